/-! Contracts, by program. -/
set_option maxRecDepth 100000 in
theorem kX4_spotBeside {Γ : Gm} {S : List (String × Nat × String)} {l : Launch} {N : Nat} {σ : St} {x1 : Int32} {x2 : Int32} {r : Int32}  (hf : fX4_spotBeside N σ x1 x2 = some r) : CT Γ S l yX4_spotBeside cX4_spotBeside 4 (some (.int)) 2 44 0 0 [.ref (ga Γ 6 0), .int x1, .int x2] (some (.int r)) σ σ := by
  unfold fX4_spotBeside at hf
  refine ct_body (lv := [(0, .ref (ga Γ 6 0)), (1, .int x1), (2, .int x2)]) (by decide +kernel) rfl (Nat.le_of_ble_eq_true rfl) ?_
  intro p e s m below meth c ls X hr hk hK hw hl
  have hx := X.1
  have hb := X.2.1
  have hown := X.2.2.2
  refine lv_iload_n hx hb dX4_spotBeside_0 rfl (lv_at hl 1 rfl) ?_
  refine lv_iload_n hx hb dX4_spotBeside_1 rfl (lv_at hl 2 rfl) ?_
  refine q_pI hf hw (fun v h => q_rS (As := [.int x1, .int x2]) (rest := []) X hK hw (kX4_cellBeside h) msX4_cellBeside lk_X4_119 ⟨Nat.le_of_ble_eq_true rfl, Nat.le_of_ble_eq_true rfl⟩ rfl hl.1 rfl (Nat.le_of_ble_eq_true rfl) dX4_spotBeside_2 ⟨Nat.le_of_ble_eq_true rfl, Nat.le_of_ble_eq_true rfl⟩) (fun v1 H locs hf hw => ?_)
  refine lv_istore_n (lv' := [(3, .int v1), (0, .ref (ga Γ 6 0)), (1, .int x1), (2, .int x2)]) hx hb dX4_spotBeside_5 rfl hl (by decide) rfl (fun ls hl => ?_)
  refine lv_aload_n hx hb dX4_spotBeside_6 rfl (lv_at hl 1 rfl) ?_
  refine q_get (v := .ref (ga Γ 127 0)) hx hb hK hw hown in_X4 ins_X4 (rfl : vwCl[6]? = some (RX4, TX4, 9)) rfl (Nat.le_of_ble_eq_true rfl : 0 < cnt (gn Γ) 6) 0 (by decide) 258 fl_X4_9 rfl rfl dX4_spotBeside_7 ?_
  refine lv_iload_n hx hb dX4_spotBeside_10 rfl (lv_at hl 0 rfl) ?_
  refine q_pI hf hw (fun v h => q_rSN (As := [.ref (ga Γ 127 0), .int v1]) (rest := []) X hK hw (kX7_isAt (fun _ _ _ => rfl) (Nat.le_of_ble_eq_true rfl : 0 < cnt (gn Γ) 127) h) msX7_isAt lk_X4_75 ⟨Nat.le_of_ble_eq_true rfl, Nat.le_of_ble_eq_true rfl⟩ rfl hl.1 rfl (Nat.le_of_ble_eq_true rfl) dX4_spotBeside_11 ⟨Nat.le_of_ble_eq_true rfl, Nat.le_of_ble_eq_true rfl⟩) (fun v2 H locs hf hw => ?_)
  refine q_if_eq (tgt := 27) hx hb hf dX4_spotBeside_14 (by decide) (fun hf => ?_) (fun hf => ?_)
  · refine lv_iconst (v := (-1)) hx hb dX4_spotBeside_27 (by decide) ?_
    exact q_iret hf hx hb hr rfl hk hw dX4_spotBeside_28 (Nat.le_of_ble_eq_true rfl) (Nat.le_of_ble_eq_true rfl)
  refine lv_iload_n hx hb dX4_spotBeside_17 rfl (lv_at hl 0 rfl) ?_
  refine lv_iconst (v := 2) hx hb dX4_spotBeside_18 (by decide) ?_
  refine lv_imul hx hb dX4_spotBeside_19 ?_
  refine lv_iload_n hx hb dX4_spotBeside_20 rfl (lv_at hl 3 rfl) ?_
  refine lv_iconst (v := 2) hx hb dX4_spotBeside_21 (by decide) ?_
  refine lv_idiv hx hb dX4_spotBeside_22 (by decide) ?_
  refine lv_iadd hx hb dX4_spotBeside_23 ?_
  refine lv_goto (tgt := 28) hx hb dX4_spotBeside_24 (by decide) ?_
  exact q_iret hf hx hb hr rfl hk hw dX4_spotBeside_28 (Nat.le_of_ble_eq_true rfl) (Nat.le_of_ble_eq_true rfl)
set_option maxRecDepth 100000 in
theorem kX4_pushLater {Γ : Gm} {S : List (String × Nat × String)} {l : Launch} {N : Nat} {σ τ : St} {x1 : Int32}  (hf : fX4_pushLater N σ x1 = some τ) : CT Γ S l yX4_pushLater cX4_pushLater 2 none 0 0 0 0 [.ref (ga Γ 6 0), .int x1] none σ τ := by
  unfold fX4_pushLater at hf
  refine ct_body (lv := [(0, .ref (ga Γ 6 0)), (1, .int x1)]) (by decide +kernel) rfl (Nat.le_of_ble_eq_true rfl) ?_
  intro p e s m below meth c ls X hr hk hK hw hl
  have hx := X.1
  have hb := X.2.1
  have hown := X.2.2.2
  refine lv_aload_n hx hb dX4_pushLater_0 rfl (lv_at hl 0 rfl) ?_
  refine q_get (v := .int (gI σ 6 0 6)) hx hb hK hw hown in_X4 ins_X4 (rfl : vwCl[6]? = some (RX4, TX4, 9)) rfl (Nat.le_of_ble_eq_true rfl : 0 < cnt (gn Γ) 6) 6 (by decide) 264 fl_X4_85 rfl rfl dX4_pushLater_1 ?_
  refine q_if_lt (tgt := 39) hx hb hf dX4_pushLater_4 (by decide) (fun hf => ?_) (fun hf => ?_)
  · exact q_vret hx hb hr hk hw dX4_pushLater_39 hf (Nat.le_of_ble_eq_true rfl) (Nat.le_of_ble_eq_true rfl)
  refine lv_aload_n hx hb dX4_pushLater_7 rfl (lv_at hl 0 rfl) ?_
  refine q_get (v := .int (gI σ 6 0 6)) hx hb hK hw hown in_X4 ins_X4 (rfl : vwCl[6]? = some (RX4, TX4, 9)) rfl (Nat.le_of_ble_eq_true rfl : 0 < cnt (gn Γ) 6) 6 (by decide) 264 fl_X4_85 rfl rfl dX4_pushLater_8 ?_
  refine lv_aload_n hx hb dX4_pushLater_11 rfl (lv_at hl 0 rfl) ?_
  have ho_h1 := of_decide_eq_true (ck_t hf).1
  replace hf := (ck_t hf).2
  refine q_get (v := .ref (ga Γ 131 ((gR σ 1)))) hx hb hK hw hown in_X4 ins_X4 (rfl : vwCl[6]? = some (RX4, TX4, 9)) rfl (Nat.le_of_ble_eq_true rfl : 0 < cnt (gn Γ) 6) 4 (by decide) 262 fl_X4_25 rfl rfl dX4_pushLater_12 ?_
  refine q_alenI (v := (768 : Int32)) hx hb hK hw (k := 131) (o := (gR σ 1)) (fun _ _ _ => rfl) ho_h1 rfl dX4_pushLater_15 ?_
  refine q_ic_ge (tgt := 39) hx hb hf dX4_pushLater_16 (by decide) (fun hf => ?_) (fun hf => ?_)
  · exact q_vret hx hb hr hk hw dX4_pushLater_39 hf (Nat.le_of_ble_eq_true rfl) (Nat.le_of_ble_eq_true rfl)
  refine lv_aload_n hx hb dX4_pushLater_19 rfl (lv_at hl 0 rfl) ?_
  have ho_h2 := of_decide_eq_true (ck_t hf).1
  replace hf := (ck_t hf).2
  refine q_get (v := .ref (ga Γ 131 ((gR σ 1)))) hx hb hK hw hown in_X4 ins_X4 (rfl : vwCl[6]? = some (RX4, TX4, 9)) rfl (Nat.le_of_ble_eq_true rfl : 0 < cnt (gn Γ) 6) 4 (by decide) 262 fl_X4_25 rfl rfl dX4_pushLater_20 ?_
  refine lv_aload_n hx hb dX4_pushLater_23 rfl (lv_at hl 0 rfl) ?_
  refine q_get (v := .int (gI σ 6 0 6)) hx hb hK hw hown in_X4 ins_X4 (rfl : vwCl[6]? = some (RX4, TX4, 9)) rfl (Nat.le_of_ble_eq_true rfl : 0 < cnt (gn Γ) 6) 6 (by decide) 264 fl_X4_85 rfl rfl dX4_pushLater_24 ?_
  refine lv_iload_n hx hb dX4_pushLater_27 rfl (lv_at hl 1 rfl) ?_
  refine q_iast hx hb hK hw (k := 131) (o := (gR σ 1)) (fun _ _ _ => rfl) ho_h2 hf dX4_pushLater_28 (fun σ3 H locs hf hw => ?_)
  refine lv_aload_n hx hb dX4_pushLater_29 rfl (lv_at hl 0 rfl) ?_
  refine lv_dup hx hb dX4_pushLater_30 rfl ?_
  refine q_get (v := .int (gI σ3 6 0 6)) hx hb hK hw hown in_X4 ins_X4 (rfl : vwCl[6]? = some (RX4, TX4, 9)) rfl (Nat.le_of_ble_eq_true rfl : 0 < cnt (gn Γ) 6) 6 (by decide) 264 fl_X4_85 rfl rfl dX4_pushLater_31 ?_
  refine lv_iconst (v := 1) hx hb dX4_pushLater_34 (by decide) ?_
  refine lv_iadd hx hb dX4_pushLater_35 ?_
  refine q_puti (v := ((gI σ3 6 0 6) + (1 : Int32))) hx hb hK hw hown in_X4 ins_X4 tyX4 tyX4_ok nmX4 (rfl : vwCl[6]? = some (RX4, TX4, 9)) (fun _ _ _ => rfl) (Nat.le_of_ble_eq_true rfl : 0 < cnt (gn Γ) 6) 6 (by decide) 264 fl_X4_85 rfl rfl rfl (fun _ _ _ => Nat.le_of_ble_eq_true rfl) (fun _ _ _ => rfl) hf dX4_pushLater_36 (fun σ4 H locs hf hw => ?_)
  exact q_vret hx hb hr hk hw dX4_pushLater_39 hf (Nat.le_of_ble_eq_true rfl) (Nat.le_of_ble_eq_true rfl)
set_option maxRecDepth 100000 in
theorem kX4_goOn {Γ : Gm} {S : List (String × Nat × String)} {l : Launch} {N : Nat} {σ τ : St} {x1 : Int32} {x2 : Int32}  (hf : fX4_goOn N σ x1 x2 = some τ) : CT Γ S l yX4_goOn cX4_goOn 6 none 3 67 0 0 [.ref (ga Γ 6 0), .int x1, .int x2] none σ τ := by
  unfold fX4_goOn at hf
  refine ct_body (lv := [(0, .ref (ga Γ 6 0)), (1, .int x1), (2, .int x2)]) (by decide +kernel) rfl (Nat.le_of_ble_eq_true rfl) ?_
  intro p e s m below meth c ls X hr hk hK hw hl
  have hx := X.1
  have hb := X.2.1
  have hown := X.2.2.2
  refine lv_aload_n hx hb dX4_goOn_0 rfl (lv_at hl 0 rfl) ?_
  refine q_get (v := .ref (ga Γ 128 0)) hx hb hK hw hown in_X4 ins_X4 (rfl : vwCl[6]? = some (RX4, TX4, 9)) rfl (Nat.le_of_ble_eq_true rfl : 0 < cnt (gn Γ) 6) 1 (by decide) 259 fl_X4_15 rfl rfl dX4_goOn_1 ?_
  refine lv_iload_n hx hb dX4_goOn_4 rfl (lv_at hl 1 rfl) ?_
  refine lv_ldc (v := 1000000) hx hb hown (kw_at hK.2.2.2.2.1 1107 (by decide +kernel) rfl) dX4_goOn_5 ?_
  refine q_pI hf hw (fun v h => q_rSN (As := [.ref (ga Γ 128 0), .int x1, .int (1000000 : Int32)]) (rest := []) X hK hw (kX7_intAt (fun _ _ _ => rfl) (Nat.le_of_ble_eq_true rfl : 0 < cnt (gn Γ) 128) h) msX7_intAt lk_X4_104 ⟨Nat.le_of_ble_eq_true rfl, Nat.le_of_ble_eq_true rfl⟩ rfl hl.1 rfl (Nat.le_of_ble_eq_true rfl) dX4_goOn_7 ⟨Nat.le_of_ble_eq_true rfl, Nat.le_of_ble_eq_true rfl⟩) (fun v1 H locs hf hw => ?_)
  refine lv_iload_n hx hb dX4_goOn_10 rfl (lv_at hl 2 rfl) ?_
  refine q_ic_eq (tgt := 15) hx hb hf dX4_goOn_11 (by decide) (fun hf => ?_) (fun hf => ?_)
  · refine lv_iconst (v := 0) hx hb dX4_goOn_15 (by decide) ?_
    refine lv_istore_n (lv' := [(3, .int (0 : Int32)), (0, .ref (ga Γ 6 0)), (1, .int x1), (2, .int x2)]) hx hb dX4_goOn_16 rfl hl (by decide) rfl (fun ls hl => ?_)
    have L17 : ∀ (K : Int32 → St → Option (St)) (hkk : ∀ (y3 : Int32) (σq : St) (H : Heap) (locs : List Loc) (ls : Array Slot), K y3 σq = some τ → Sit Γ σq s H locs → lv_has ls 6 [] → W p l e { frames := 3, cells := 0, slots := 0, locals := 67 } s m [.ref (ga Γ 6 0), .int x1, .int x2].toArray below meth c H locs 0 0 (MQ below (Qg Γ (none) τ (AA Γ s.heap.size)) [.ref (ga Γ 6 0), .int x1, .int x2].toArray s 0 0 (AA Γ s.heap.size)) (F0 m 112 ls [])) (n : Nat) (v2 : Int32) (σ3 : St) (H : Heap) (locs : List Loc) (ls : Array Slot), fX4_goOn_L17 K N x1 x2 n v2 σ3 = some τ → Sit Γ σ3 s H locs → lv_has ls 6 [(0, .ref (ga Γ 6 0)), (1, .int x1), (2, .int x2), (3, .int v2)] → W p l e { frames := 3, cells := 0, slots := 0, locals := 67 } s m [.ref (ga Γ 6 0), .int x1, .int x2].toArray below meth c H locs 0 0 (MQ below (Qg Γ (none) τ (AA Γ s.heap.size)) [.ref (ga Γ 6 0), .int x1, .int x2].toArray s 0 0 (AA Γ s.heap.size)) (F0 m 17 ls []) := by
      intro K hkk n
      induction n with
      | zero =>
        intro _ _ _ _ _ hf
        exact nomatch hf
      | succ n ih =>
        intro v2 σ3 H locs ls hf hw hl
        refine lv_iload_n hx hb dX4_goOn_17 rfl (lv_at hl 3 rfl) ?_
        refine lv_iconst (v := 4) hx hb dX4_goOn_18 (by decide) ?_
        refine q_ic_ge (tgt := 112) hx hb hf dX4_goOn_19 (by decide) (fun hf => ?_) (fun hf => ?_)
        · exact hkk _ _ _ _ _ hf hw (lv_sub hl [] rfl)
        refine lv_aload_n hx hb dX4_goOn_22 rfl (lv_at hl 0 rfl) ?_
        refine lv_iload_n hx hb dX4_goOn_23 rfl (lv_at hl 1 rfl) ?_
        refine lv_iconst (v := 2) hx hb dX4_goOn_24 (by decide) ?_
        refine lv_idiv hx hb dX4_goOn_25 (by decide) ?_
        refine lv_iload_n hx hb dX4_goOn_26 rfl (lv_at hl 3 rfl) ?_
        refine q_pI hf hw (fun v h => q_rV (As := [.int (x1 / (2 : Int32)), .int v2]) (rest := []) (q := (RX4, TX4, 9)) X hK hw rfl (Nat.le_of_ble_eq_true rfl : 0 < cnt (gn Γ) 6) (rfl : vwCl[6]? = _) (kX4_spotBeside h) mvX4_spotBeside lk_X4_113 ⟨Nat.le_of_ble_eq_true rfl, Nat.le_of_ble_eq_true rfl⟩ rfl hl.1 rfl (Nat.le_of_ble_eq_true rfl) dX4_goOn_27 ⟨Nat.le_of_ble_eq_true rfl, Nat.le_of_ble_eq_true rfl⟩) (fun v4 H locs hf hw => ?_)
        refine lv_istore (lv' := [(4, .int v4), (0, .ref (ga Γ 6 0)), (1, .int x1), (2, .int x2), (3, .int v2)]) hx hb dX4_goOn_30 hl (by decide) rfl (fun ls hl => ?_)
        refine lv_iload hx hb dX4_goOn_32 (lv_at hl 0 rfl) ?_
        refine lv_iconst (v := 2) hx hb dX4_goOn_34 (by decide) ?_
        refine lv_irem hx hb dX4_goOn_35 (by decide) ?_
        refine lv_iload_n hx hb dX4_goOn_36 rfl (lv_at hl 2 rfl) ?_
        refine lv_iconst (v := 2) hx hb dX4_goOn_37 (by decide) ?_
        refine lv_irem hx hb dX4_goOn_38 (by decide) ?_
        refine q_ic_ne (tgt := 46) hx hb hf dX4_goOn_39 (by decide) (fun hf => ?_) (fun hf => ?_)
        · refine lv_iload_n hx hb dX4_goOn_46 rfl (lv_at hl 3 rfl) ?_
          refine lv_iconst (v := 1) hx hb dX4_goOn_47 (by decide) ?_
          refine lv_iadd hx hb dX4_goOn_48 ?_
          refine q_istore (lv1 := [(4, .int v4), (0, .ref (ga Γ 6 0)), (1, .int x1), (2, .int x2), (3, .int v2)]) hx hb hf dX4_goOn_49 hl (by decide) rfl (fun v5 ls hf hl => ?_)
          refine lv_iload hx hb dX4_goOn_51 (lv_at hl 1 rfl) ?_
          refine q_if_lt (tgt := 106) hx hb hf dX4_goOn_53 (by decide) (fun hf => ?_) (fun hf => ?_)
          · refine q_iinc (lv1 := [(5, .int v5), (4, .int v4), (0, .ref (ga Γ 6 0)), (1, .int x1), (2, .int x2)]) (d := 1) hx hb hf dX4_goOn_106 hl (k := 5) rfl (by decide) (by decide) rfl (fun v6 ls hf hl => ?_)
            refine lv_goto (tgt := 17) hx hb dX4_goOn_109 (by decide) ?_
            exact ih _ _ _ _ _ hf hw (lv_sub hl [3, 4, 5, 0] rfl)
          refine lv_iload hx hb dX4_goOn_56 (lv_at hl 1 rfl) ?_
          refine lv_sipush (v := 768) hx hb dX4_goOn_58 (by decide) ?_
          refine q_ic_ge (tgt := 106) hx hb hf dX4_goOn_61 (by decide) (fun hf => ?_) (fun hf => ?_)
          · refine q_iinc (lv1 := [(5, .int v5), (4, .int v4), (0, .ref (ga Γ 6 0)), (1, .int x1), (2, .int x2)]) (d := 1) hx hb hf dX4_goOn_106 hl (k := 5) rfl (by decide) (by decide) rfl (fun v7 ls hf hl => ?_)
            refine lv_goto (tgt := 17) hx hb dX4_goOn_109 (by decide) ?_
            exact ih _ _ _ _ _ hf hw (lv_sub hl [3, 4, 5, 0] rfl)
          refine lv_iload hx hb dX4_goOn_64 (lv_at hl 0 rfl) ?_
          refine lv_aload_n hx hb dX4_goOn_66 rfl (lv_at hl 2 rfl) ?_
          refine q_get (v := .ref (ga Γ 128 0)) hx hb hK hw hown in_X4 ins_X4 (rfl : vwCl[6]? = some (RX4, TX4, 9)) rfl (Nat.le_of_ble_eq_true rfl : 0 < cnt (gn Γ) 6) 1 (by decide) 259 fl_X4_15 rfl rfl dX4_goOn_67 ?_
          refine lv_iload hx hb dX4_goOn_70 (lv_at hl 1 rfl) ?_
          refine q_iald hx hb hK hw (k := 128) (o := 0) (fun _ _ _ => rfl) (Nat.le_of_ble_eq_true rfl : 0 < cnt (gn Γ) 128) hf dX4_goOn_72 (fun hf => ?_)
          refine q_ic_ge (tgt := 106) hx hb hf dX4_goOn_73 (by decide) (fun hf => ?_) (fun hf => ?_)
          · refine q_iinc (lv1 := [(5, .int v5), (4, .int v4), (0, .ref (ga Γ 6 0)), (1, .int x1), (2, .int x2)]) (d := 1) hx hb hf dX4_goOn_106 hl (k := 5) rfl (by decide) (by decide) rfl (fun v8 ls hf hl => ?_)
            refine lv_goto (tgt := 17) hx hb dX4_goOn_109 (by decide) ?_
            exact ih _ _ _ _ _ hf hw (lv_sub hl [3, 4, 5, 0] rfl)
          refine lv_aload_n hx hb dX4_goOn_76 rfl (lv_at hl 2 rfl) ?_
          refine q_get (v := .ref (ga Γ 128 0)) hx hb hK hw hown in_X4 ins_X4 (rfl : vwCl[6]? = some (RX4, TX4, 9)) rfl (Nat.le_of_ble_eq_true rfl : 0 < cnt (gn Γ) 6) 1 (by decide) 259 fl_X4_15 rfl rfl dX4_goOn_77 ?_
          refine lv_iload hx hb dX4_goOn_80 (lv_at hl 1 rfl) ?_
          refine lv_iload hx hb dX4_goOn_82 (lv_at hl 0 rfl) ?_
          refine q_iast hx hb hK hw (k := 128) (o := 0) (fun _ _ _ => rfl) (Nat.le_of_ble_eq_true rfl : 0 < cnt (gn Γ) 128) hf dX4_goOn_84 (fun σ9 H locs hf hw => ?_)
          refine lv_iload hx hb dX4_goOn_85 (lv_at hl 0 rfl) ?_
          refine lv_iload_n hx hb dX4_goOn_87 rfl (lv_at hl 4 rfl) ?_
          refine q_ic_ne (tgt := 100) hx hb hf dX4_goOn_88 (by decide) (fun hf => ?_) (fun hf => ?_)
          · refine lv_aload_n hx hb dX4_goOn_100 rfl (lv_at hl 2 rfl) ?_
            refine lv_iload hx hb dX4_goOn_101 (lv_at hl 1 rfl) ?_
            refine q_eV hf hw (fun τ h => q_rV (As := [.int v4]) (rest := []) (q := (RX4, TX4, 9)) X hK hw rfl (Nat.le_of_ble_eq_true rfl : 0 < cnt (gn Γ) 6) (rfl : vwCl[6]? = _) (kX4_pushLater h) mvX4_pushLater lk_X4_116 ⟨Nat.le_of_ble_eq_true rfl, Nat.le_of_ble_eq_true rfl⟩ rfl hl.1 rfl (Nat.le_of_ble_eq_true rfl) dX4_goOn_103 ⟨Nat.le_of_ble_eq_true rfl, Nat.le_of_ble_eq_true rfl⟩) (fun σ10 H locs hf hw => ?_)
            refine q_iinc (lv1 := [(5, .int v5), (4, .int v4), (0, .ref (ga Γ 6 0)), (1, .int x1), (2, .int x2)]) (d := 1) hx hb hf dX4_goOn_106 hl (k := 5) rfl (by decide) (by decide) rfl (fun v11 ls hf hl => ?_)
            refine lv_goto (tgt := 17) hx hb dX4_goOn_109 (by decide) ?_
            exact ih _ _ _ _ _ hf hw (lv_sub hl [3, 4, 5, 0] rfl)
          refine lv_aload_n hx hb dX4_goOn_91 rfl (lv_at hl 2 rfl) ?_
          refine lv_iload hx hb dX4_goOn_92 (lv_at hl 1 rfl) ?_
          refine q_eV hf hw (fun τ h => q_rV (As := [.int v4]) (rest := []) (q := (RX4, TX4, 9)) X hK hw rfl (Nat.le_of_ble_eq_true rfl : 0 < cnt (gn Γ) 6) (rfl : vwCl[6]? = _) (kX4_pushHere h) mvX4_pushHere lk_X4_88 ⟨Nat.le_of_ble_eq_true rfl, Nat.le_of_ble_eq_true rfl⟩ rfl hl.1 rfl (Nat.le_of_ble_eq_true rfl) dX4_goOn_94 ⟨Nat.le_of_ble_eq_true rfl, Nat.le_of_ble_eq_true rfl⟩) (fun σ12 H locs hf hw => ?_)
          refine lv_goto (tgt := 106) hx hb dX4_goOn_97 (by decide) ?_
          refine q_iinc (lv1 := [(5, .int v5), (4, .int v4), (0, .ref (ga Γ 6 0)), (1, .int x1), (2, .int x2)]) (d := 1) hx hb hf dX4_goOn_106 hl (k := 5) rfl (by decide) (by decide) rfl (fun v13 ls hf hl => ?_)
          refine lv_goto (tgt := 17) hx hb dX4_goOn_109 (by decide) ?_
          exact ih _ _ _ _ _ hf hw (lv_sub hl [3, 4, 5, 0] rfl)
        refine lv_iload_n hx hb dX4_goOn_42 rfl (lv_at hl 3 rfl) ?_
        refine lv_goto (tgt := 49) hx hb dX4_goOn_43 (by decide) ?_
        refine lv_istore (lv' := [(5, .int x2), (4, .int v4), (0, .ref (ga Γ 6 0)), (1, .int x1), (2, .int x2), (3, .int v2)]) hx hb dX4_goOn_49 hl (by decide) rfl (fun ls hl => ?_)
        refine lv_iload hx hb dX4_goOn_51 (lv_at hl 1 rfl) ?_
        refine q_if_lt (tgt := 106) hx hb hf dX4_goOn_53 (by decide) (fun hf => ?_) (fun hf => ?_)
        · refine q_iinc (lv1 := [(5, .int x2), (4, .int v4), (0, .ref (ga Γ 6 0)), (1, .int x1), (2, .int x2)]) (d := 1) hx hb hf dX4_goOn_106 hl (k := 5) rfl (by decide) (by decide) rfl (fun v14 ls hf hl => ?_)
          refine lv_goto (tgt := 17) hx hb dX4_goOn_109 (by decide) ?_
          exact ih _ _ _ _ _ hf hw (lv_sub hl [3, 4, 5, 0] rfl)
        refine lv_iload hx hb dX4_goOn_56 (lv_at hl 1 rfl) ?_
        refine lv_sipush (v := 768) hx hb dX4_goOn_58 (by decide) ?_
        refine q_ic_ge (tgt := 106) hx hb hf dX4_goOn_61 (by decide) (fun hf => ?_) (fun hf => ?_)
        · refine q_iinc (lv1 := [(5, .int x2), (4, .int v4), (0, .ref (ga Γ 6 0)), (1, .int x1), (2, .int x2)]) (d := 1) hx hb hf dX4_goOn_106 hl (k := 5) rfl (by decide) (by decide) rfl (fun v15 ls hf hl => ?_)
          refine lv_goto (tgt := 17) hx hb dX4_goOn_109 (by decide) ?_
          exact ih _ _ _ _ _ hf hw (lv_sub hl [3, 4, 5, 0] rfl)
        refine lv_iload hx hb dX4_goOn_64 (lv_at hl 0 rfl) ?_
        refine lv_aload_n hx hb dX4_goOn_66 rfl (lv_at hl 2 rfl) ?_
        refine q_get (v := .ref (ga Γ 128 0)) hx hb hK hw hown in_X4 ins_X4 (rfl : vwCl[6]? = some (RX4, TX4, 9)) rfl (Nat.le_of_ble_eq_true rfl : 0 < cnt (gn Γ) 6) 1 (by decide) 259 fl_X4_15 rfl rfl dX4_goOn_67 ?_
        refine lv_iload hx hb dX4_goOn_70 (lv_at hl 1 rfl) ?_
        refine q_iald hx hb hK hw (k := 128) (o := 0) (fun _ _ _ => rfl) (Nat.le_of_ble_eq_true rfl : 0 < cnt (gn Γ) 128) hf dX4_goOn_72 (fun hf => ?_)
        refine q_ic_ge (tgt := 106) hx hb hf dX4_goOn_73 (by decide) (fun hf => ?_) (fun hf => ?_)
        · refine q_iinc (lv1 := [(5, .int x2), (4, .int v4), (0, .ref (ga Γ 6 0)), (1, .int x1), (2, .int x2)]) (d := 1) hx hb hf dX4_goOn_106 hl (k := 5) rfl (by decide) (by decide) rfl (fun v16 ls hf hl => ?_)
          refine lv_goto (tgt := 17) hx hb dX4_goOn_109 (by decide) ?_
          exact ih _ _ _ _ _ hf hw (lv_sub hl [3, 4, 5, 0] rfl)
        refine lv_aload_n hx hb dX4_goOn_76 rfl (lv_at hl 2 rfl) ?_
        refine q_get (v := .ref (ga Γ 128 0)) hx hb hK hw hown in_X4 ins_X4 (rfl : vwCl[6]? = some (RX4, TX4, 9)) rfl (Nat.le_of_ble_eq_true rfl : 0 < cnt (gn Γ) 6) 1 (by decide) 259 fl_X4_15 rfl rfl dX4_goOn_77 ?_
        refine lv_iload hx hb dX4_goOn_80 (lv_at hl 1 rfl) ?_
        refine lv_iload hx hb dX4_goOn_82 (lv_at hl 0 rfl) ?_
        refine q_iast hx hb hK hw (k := 128) (o := 0) (fun _ _ _ => rfl) (Nat.le_of_ble_eq_true rfl : 0 < cnt (gn Γ) 128) hf dX4_goOn_84 (fun σ17 H locs hf hw => ?_)
        refine lv_iload hx hb dX4_goOn_85 (lv_at hl 0 rfl) ?_
        refine lv_iload_n hx hb dX4_goOn_87 rfl (lv_at hl 4 rfl) ?_
        refine q_ic_ne (tgt := 100) hx hb hf dX4_goOn_88 (by decide) (fun hf => ?_) (fun hf => ?_)
        · refine lv_aload_n hx hb dX4_goOn_100 rfl (lv_at hl 2 rfl) ?_
          refine lv_iload hx hb dX4_goOn_101 (lv_at hl 1 rfl) ?_
          refine q_eV hf hw (fun τ h => q_rV (As := [.int v4]) (rest := []) (q := (RX4, TX4, 9)) X hK hw rfl (Nat.le_of_ble_eq_true rfl : 0 < cnt (gn Γ) 6) (rfl : vwCl[6]? = _) (kX4_pushLater h) mvX4_pushLater lk_X4_116 ⟨Nat.le_of_ble_eq_true rfl, Nat.le_of_ble_eq_true rfl⟩ rfl hl.1 rfl (Nat.le_of_ble_eq_true rfl) dX4_goOn_103 ⟨Nat.le_of_ble_eq_true rfl, Nat.le_of_ble_eq_true rfl⟩) (fun σ18 H locs hf hw => ?_)
          refine q_iinc (lv1 := [(5, .int x2), (4, .int v4), (0, .ref (ga Γ 6 0)), (1, .int x1), (2, .int x2)]) (d := 1) hx hb hf dX4_goOn_106 hl (k := 5) rfl (by decide) (by decide) rfl (fun v19 ls hf hl => ?_)
          refine lv_goto (tgt := 17) hx hb dX4_goOn_109 (by decide) ?_
          exact ih _ _ _ _ _ hf hw (lv_sub hl [3, 4, 5, 0] rfl)
        refine lv_aload_n hx hb dX4_goOn_91 rfl (lv_at hl 2 rfl) ?_
        refine lv_iload hx hb dX4_goOn_92 (lv_at hl 1 rfl) ?_
        refine q_eV hf hw (fun τ h => q_rV (As := [.int v4]) (rest := []) (q := (RX4, TX4, 9)) X hK hw rfl (Nat.le_of_ble_eq_true rfl : 0 < cnt (gn Γ) 6) (rfl : vwCl[6]? = _) (kX4_pushHere h) mvX4_pushHere lk_X4_88 ⟨Nat.le_of_ble_eq_true rfl, Nat.le_of_ble_eq_true rfl⟩ rfl hl.1 rfl (Nat.le_of_ble_eq_true rfl) dX4_goOn_94 ⟨Nat.le_of_ble_eq_true rfl, Nat.le_of_ble_eq_true rfl⟩) (fun σ20 H locs hf hw => ?_)
        refine lv_goto (tgt := 106) hx hb dX4_goOn_97 (by decide) ?_
        refine q_iinc (lv1 := [(5, .int x2), (4, .int v4), (0, .ref (ga Γ 6 0)), (1, .int x1), (2, .int x2)]) (d := 1) hx hb hf dX4_goOn_106 hl (k := 5) rfl (by decide) (by decide) rfl (fun v21 ls hf hl => ?_)
        refine lv_goto (tgt := 17) hx hb dX4_goOn_109 (by decide) ?_
        exact ih _ _ _ _ _ hf hw (lv_sub hl [3, 4, 5, 0] rfl)
    refine L17 _ (fun _ σ22 H locs ls hf hw hl => ?_) N (0 : Int32) σ _ _ _ hf hw (lv_sub hl [1, 2, 3, 0] rfl)
    exact q_vret hx hb hr hk hw dX4_goOn_112 hf (Nat.le_of_ble_eq_true rfl) (Nat.le_of_ble_eq_true rfl)
  exact q_vret hx hb hr hk hw dX4_goOn_14 hf (Nat.le_of_ble_eq_true rfl) (Nat.le_of_ble_eq_true rfl)
set_option maxRecDepth 100000 in
theorem kX4_turnsAtEnd {Γ : Gm} {S : List (String × Nat × String)} {l : Launch} {N : Nat} {σ : St} {r : Int32}  (hf : fX4_turnsAtEnd N σ = some r) : CT Γ S l yX4_turnsAtEnd cX4_turnsAtEnd 1 (some (.int)) 1 60 0 0 [.ref (ga Γ 6 0)] (some (.int r)) σ σ := by
  unfold fX4_turnsAtEnd at hf
  refine ct_body (lv := [(0, .ref (ga Γ 6 0))]) (by decide +kernel) rfl (Nat.le_of_ble_eq_true rfl) ?_
  intro p e s m below meth c ls X hr hk hK hw hl
  have hx := X.1
  have hb := X.2.1
  have hown := X.2.2.2
  refine lv_aload_n hx hb dX4_turnsAtEnd_0 rfl (lv_at hl 0 rfl) ?_
  refine q_get (v := .ref (ga Γ 128 0)) hx hb hK hw hown in_X4 ins_X4 (rfl : vwCl[6]? = some (RX4, TX4, 9)) rfl (Nat.le_of_ble_eq_true rfl : 0 < cnt (gn Γ) 6) 1 (by decide) 259 fl_X4_15 rfl rfl dX4_turnsAtEnd_1 ?_
  refine lv_aload_n hx hb dX4_turnsAtEnd_4 rfl (lv_at hl 0 rfl) ?_
  refine q_get (v := .int (gI σ 6 0 8)) hx hb hK hw hown in_X4 ins_X4 (rfl : vwCl[6]? = some (RX4, TX4, 9)) rfl (Nat.le_of_ble_eq_true rfl : 0 < cnt (gn Γ) 6) 8 (by decide) 266 fl_X4_32 rfl rfl dX4_turnsAtEnd_5 ?_
  refine lv_iconst (v := 2) hx hb dX4_turnsAtEnd_8 (by decide) ?_
  refine lv_imul hx hb dX4_turnsAtEnd_9 ?_
  refine lv_ldc (v := 1000000) hx hb hown (kw_at hK.2.2.2.2.1 1107 (by decide +kernel) rfl) dX4_turnsAtEnd_10 ?_
  refine q_pI hf hw (fun v h => q_rSN (As := [.ref (ga Γ 128 0), .int ((gI σ 6 0 8) * (2 : Int32)), .int (1000000 : Int32)]) (rest := []) X hK hw (kX7_intAt (fun _ _ _ => rfl) (Nat.le_of_ble_eq_true rfl : 0 < cnt (gn Γ) 128) h) msX7_intAt lk_X4_104 ⟨Nat.le_of_ble_eq_true rfl, Nat.le_of_ble_eq_true rfl⟩ rfl hl.1 rfl (Nat.le_of_ble_eq_true rfl) dX4_turnsAtEnd_12 ⟨Nat.le_of_ble_eq_true rfl, Nat.le_of_ble_eq_true rfl⟩) (fun v1 H locs hf hw => ?_)
  refine lv_aload_n hx hb dX4_turnsAtEnd_15 rfl (lv_at hl 0 rfl) ?_
  refine q_get (v := .ref (ga Γ 128 0)) hx hb hK hw hown in_X4 ins_X4 (rfl : vwCl[6]? = some (RX4, TX4, 9)) rfl (Nat.le_of_ble_eq_true rfl : 0 < cnt (gn Γ) 6) 1 (by decide) 259 fl_X4_15 rfl rfl dX4_turnsAtEnd_16 ?_
  refine lv_aload_n hx hb dX4_turnsAtEnd_19 rfl (lv_at hl 0 rfl) ?_
  refine q_get (v := .int (gI σ 6 0 8)) hx hb hK hw hown in_X4 ins_X4 (rfl : vwCl[6]? = some (RX4, TX4, 9)) rfl (Nat.le_of_ble_eq_true rfl : 0 < cnt (gn Γ) 6) 8 (by decide) 266 fl_X4_32 rfl rfl dX4_turnsAtEnd_20 ?_
  refine lv_iconst (v := 2) hx hb dX4_turnsAtEnd_23 (by decide) ?_
  refine lv_imul hx hb dX4_turnsAtEnd_24 ?_
  refine lv_iconst (v := 1) hx hb dX4_turnsAtEnd_25 (by decide) ?_
  refine lv_iadd hx hb dX4_turnsAtEnd_26 ?_
  refine lv_ldc (v := 1000000) hx hb hown (kw_at hK.2.2.2.2.1 1107 (by decide +kernel) rfl) dX4_turnsAtEnd_27 ?_
  refine q_pI hf hw (fun v h => q_rSN (As := [.ref (ga Γ 128 0), .int (((gI σ 6 0 8) * (2 : Int32)) + (1 : Int32)), .int (1000000 : Int32)]) (rest := [.int v1]) X hK hw (kX7_intAt (fun _ _ _ => rfl) (Nat.le_of_ble_eq_true rfl : 0 < cnt (gn Γ) 128) h) msX7_intAt lk_X4_104 ⟨Nat.le_of_ble_eq_true rfl, Nat.le_of_ble_eq_true rfl⟩ rfl hl.1 rfl (Nat.le_of_ble_eq_true rfl) dX4_turnsAtEnd_29 ⟨Nat.le_of_ble_eq_true rfl, Nat.le_of_ble_eq_true rfl⟩) (fun v2 H locs hf hw => ?_)
  refine q_mmin X hK hl.1 lk_X4_108 jm_min ⟨Nat.le_of_ble_eq_true rfl, Nat.le_of_ble_eq_true rfl⟩ ⟨Nat.le_of_ble_eq_true rfl, Nat.le_of_ble_eq_true rfl⟩ dX4_turnsAtEnd_32 ?_
  exact q_iret hf hx hb hr rfl hk hw dX4_turnsAtEnd_35 (Nat.le_of_ble_eq_true rfl) (Nat.le_of_ble_eq_true rfl)
set_option maxRecDepth 100000 in
theorem kX4_turnPage {Γ : Gm} {S : List (String × Nat × String)} {l : Launch} {N : Nat} {σ τ : St}  (hf : fX4_turnPage N σ = some τ) : CT Γ S l yX4_turnPage cX4_turnPage 2 none 0 0 0 0 [.ref (ga Γ 6 0)] none σ τ := by
  unfold fX4_turnPage at hf
  refine ct_body (lv := [(0, .ref (ga Γ 6 0))]) (by decide +kernel) rfl (Nat.le_of_ble_eq_true rfl) ?_
  intro p e s m below meth c ls X hr hk hK hw hl
  have hx := X.1
  have hb := X.2.1
  have hown := X.2.2.2
  refine lv_aload_n hx hb dX4_turnPage_0 rfl (lv_at hl 0 rfl) ?_
  have ho_h1 := of_decide_eq_true (ck_t hf).1
  replace hf := (ck_t hf).2
  refine q_get (v := .ref (ga Γ 131 ((gR σ 0)))) hx hb hK hw hown in_X4 ins_X4 (rfl : vwCl[6]? = some (RX4, TX4, 9)) rfl (Nat.le_of_ble_eq_true rfl : 0 < cnt (gn Γ) 6) 3 (by decide) 261 fl_X4_22 rfl rfl dX4_turnPage_1 ?_
  refine lv_astore_n (lv' := [(1, .ref (ga Γ 131 ((gR σ 0)))), (0, .ref (ga Γ 6 0))]) hx hb dX4_turnPage_4 rfl hl (by decide) rfl (fun ls hl => ?_)
  refine lv_aload_n hx hb dX4_turnPage_5 rfl (lv_at hl 1 rfl) ?_
  refine lv_aload_n hx hb dX4_turnPage_6 rfl (lv_at hl 1 rfl) ?_
  have ho_h2 := of_decide_eq_true (ck_t hf).1
  replace hf := (ck_t hf).2
  refine q_get (v := .ref (ga Γ 131 ((gR σ 1)))) hx hb hK hw hown in_X4 ins_X4 (rfl : vwCl[6]? = some (RX4, TX4, 9)) rfl (Nat.le_of_ble_eq_true rfl : 0 < cnt (gn Γ) 6) 4 (by decide) 262 fl_X4_25 rfl rfl dX4_turnPage_7 ?_
  refine q_putR (w := (gR σ 1)) hx hb hK hw hown in_X4 ins_X4 tyX4 tyX4_ok nmX4 3 (by decide) 261 fl_X4_22 rfl hf dX4_turnPage_10 (fun σ3 H locs hf hw => ?_)
  refine lv_aload_n hx hb dX4_turnPage_13 rfl (lv_at hl 1 rfl) ?_
  refine lv_aload_n hx hb dX4_turnPage_14 rfl (lv_at hl 1 rfl) ?_
  refine q_get (v := .int (gI σ3 6 0 6)) hx hb hK hw hown in_X4 ins_X4 (rfl : vwCl[6]? = some (RX4, TX4, 9)) rfl (Nat.le_of_ble_eq_true rfl : 0 < cnt (gn Γ) 6) 6 (by decide) 264 fl_X4_85 rfl rfl dX4_turnPage_15 ?_
  refine q_puti (v := (gI σ3 6 0 6)) hx hb hK hw hown in_X4 ins_X4 tyX4 tyX4_ok nmX4 (rfl : vwCl[6]? = some (RX4, TX4, 9)) (fun _ _ _ => rfl) (Nat.le_of_ble_eq_true rfl : 0 < cnt (gn Γ) 6) 5 (by decide) 263 fl_X4_82 rfl rfl rfl (fun _ _ _ => Nat.le_of_ble_eq_true rfl) (fun _ _ _ => rfl) hf dX4_turnPage_18 (fun σ4 H locs hf hw => ?_)
  refine lv_aload_n hx hb dX4_turnPage_21 rfl (lv_at hl 1 rfl) ?_
  refine lv_aload_n hx hb dX4_turnPage_22 rfl (lv_at hl 0 rfl) ?_
  refine q_putR (w := (gR σ 0)) hx hb hK hw hown in_X4 ins_X4 tyX4 tyX4_ok nmX4 4 (by decide) 262 fl_X4_25 rfl hf dX4_turnPage_23 (fun σ5 H locs hf hw => ?_)
  refine lv_aload_n hx hb dX4_turnPage_26 rfl (lv_at hl 1 rfl) ?_
  refine lv_iconst (v := 0) hx hb dX4_turnPage_27 (by decide) ?_
  refine q_puti (v := (0 : Int32)) hx hb hK hw hown in_X4 ins_X4 tyX4 tyX4_ok nmX4 (rfl : vwCl[6]? = some (RX4, TX4, 9)) (fun _ _ _ => rfl) (Nat.le_of_ble_eq_true rfl : 0 < cnt (gn Γ) 6) 6 (by decide) 264 fl_X4_85 rfl rfl rfl (fun _ _ _ => Nat.le_of_ble_eq_true rfl) (fun _ _ _ => rfl) hf dX4_turnPage_28 (fun σ6 H locs hf hw => ?_)
  exact q_vret hx hb hr hk hw dX4_turnPage_31 hf (Nat.le_of_ble_eq_true rfl) (Nat.le_of_ble_eq_true rfl)
set_option maxRecDepth 100000 in
theorem kX4_fewestTurns {Γ : Gm} {S : List (String × Nat × String)} {l : Launch} {N : Nat} {σ τ : St} {r : Int32}  (hf : fX4_fewestTurns N σ = some (r, τ)) : CT Γ S l yX4_fewestTurns cX4_fewestTurns 3 (some (.int)) 4 92 0 0 [.ref (ga Γ 6 0)] (some (.int r)) σ τ := by
  unfold fX4_fewestTurns at hf
  refine ct_body (lv := [(0, .ref (ga Γ 6 0))]) (by decide +kernel) rfl (Nat.le_of_ble_eq_true rfl) ?_
  intro p e s m below meth c ls X hr hk hK hw hl
  have hx := X.1
  have hb := X.2.1
  have hown := X.2.2.2
  refine lv_aload_n hx hb dX4_fewestTurns_0 rfl (lv_at hl 0 rfl) ?_
  refine q_get (v := .ref (ga Γ 127 0)) hx hb hK hw hown in_X4 ins_X4 (rfl : vwCl[6]? = some (RX4, TX4, 9)) rfl (Nat.le_of_ble_eq_true rfl : 0 < cnt (gn Γ) 6) 0 (by decide) 258 fl_X4_9 rfl rfl dX4_fewestTurns_1 ?_
  refine lv_aload_n hx hb dX4_fewestTurns_4 rfl (lv_at hl 0 rfl) ?_
  refine q_get (v := .int (gI σ 6 0 7)) hx hb hK hw hown in_X4 ins_X4 (rfl : vwCl[6]? = some (RX4, TX4, 9)) rfl (Nat.le_of_ble_eq_true rfl : 0 < cnt (gn Γ) 6) 7 (by decide) 265 fl_X4_28 rfl rfl dX4_fewestTurns_5 ?_
  refine q_pI hf hw (fun v h => q_rSN (As := [.ref (ga Γ 127 0), .int (gI σ 6 0 7)]) (rest := []) X hK hw (kX7_isAt (fun _ _ _ => rfl) (Nat.le_of_ble_eq_true rfl : 0 < cnt (gn Γ) 127) h) msX7_isAt lk_X4_75 ⟨Nat.le_of_ble_eq_true rfl, Nat.le_of_ble_eq_true rfl⟩ rfl hl.1 rfl (Nat.le_of_ble_eq_true rfl) dX4_fewestTurns_8 ⟨Nat.le_of_ble_eq_true rfl, Nat.le_of_ble_eq_true rfl⟩) (fun v1 H locs hf hw => ?_)
  refine q_if_eq (tgt := 28) hx hb hf dX4_fewestTurns_11 (by decide) (fun hf => ?_) (fun hf => ?_)
  · refine lv_iconst (v := (-1)) hx hb dX4_fewestTurns_28 (by decide) ?_
    exact q_eiret hf hx hb hr rfl hk hw dX4_fewestTurns_29 (Nat.le_of_ble_eq_true rfl) (Nat.le_of_ble_eq_true rfl)
  refine lv_aload_n hx hb dX4_fewestTurns_14 rfl (lv_at hl 0 rfl) ?_
  refine q_get (v := .ref (ga Γ 127 0)) hx hb hK hw hown in_X4 ins_X4 (rfl : vwCl[6]? = some (RX4, TX4, 9)) rfl (Nat.le_of_ble_eq_true rfl : 0 < cnt (gn Γ) 6) 0 (by decide) 258 fl_X4_9 rfl rfl dX4_fewestTurns_15 ?_
  refine lv_aload_n hx hb dX4_fewestTurns_18 rfl (lv_at hl 0 rfl) ?_
  refine q_get (v := .int (gI σ 6 0 8)) hx hb hK hw hown in_X4 ins_X4 (rfl : vwCl[6]? = some (RX4, TX4, 9)) rfl (Nat.le_of_ble_eq_true rfl : 0 < cnt (gn Γ) 6) 8 (by decide) 266 fl_X4_32 rfl rfl dX4_fewestTurns_19 ?_
  refine q_pI hf hw (fun v h => q_rSN (As := [.ref (ga Γ 127 0), .int (gI σ 6 0 8)]) (rest := []) X hK hw (kX7_isAt (fun _ _ _ => rfl) (Nat.le_of_ble_eq_true rfl : 0 < cnt (gn Γ) 127) h) msX7_isAt lk_X4_75 ⟨Nat.le_of_ble_eq_true rfl, Nat.le_of_ble_eq_true rfl⟩ rfl hl.1 rfl (Nat.le_of_ble_eq_true rfl) dX4_fewestTurns_22 ⟨Nat.le_of_ble_eq_true rfl, Nat.le_of_ble_eq_true rfl⟩) (fun v2 H locs hf hw => ?_)
  refine q_if_ne (tgt := 30) hx hb hf dX4_fewestTurns_25 (by decide) (fun hf => ?_) (fun hf => ?_)
  · refine lv_aload_n hx hb dX4_fewestTurns_30 rfl (lv_at hl 0 rfl) ?_
    refine q_eV hf hw (fun τ h => q_rV (As := []) (rest := []) (q := (RX4, TX4, 9)) X hK hw rfl (Nat.le_of_ble_eq_true rfl : 0 < cnt (gn Γ) 6) (rfl : vwCl[6]? = _) (kX4_startAnew h) mvX4_startAnew lk_X4_79 ⟨Nat.le_of_ble_eq_true rfl, Nat.le_of_ble_eq_true rfl⟩ rfl hl.1 rfl (Nat.le_of_ble_eq_true rfl) dX4_fewestTurns_31 ⟨Nat.le_of_ble_eq_true rfl, Nat.le_of_ble_eq_true rfl⟩) (fun σ3 H locs hf hw => ?_)
    refine lv_aload_n hx hb dX4_fewestTurns_34 rfl (lv_at hl 0 rfl) ?_
    refine lv_iconst (v := 0) hx hb dX4_fewestTurns_35 (by decide) ?_
    refine q_puti (v := (0 : Int32)) hx hb hK hw hown in_X4 ins_X4 tyX4 tyX4_ok nmX4 (rfl : vwCl[6]? = some (RX4, TX4, 9)) (fun _ _ _ => rfl) (Nat.le_of_ble_eq_true rfl : 0 < cnt (gn Γ) 6) 5 (by decide) 263 fl_X4_82 rfl rfl rfl (fun _ _ _ => Nat.le_of_ble_eq_true rfl) (fun _ _ _ => rfl) hf dX4_fewestTurns_36 (fun σ4 H locs hf hw => ?_)
    refine lv_aload_n hx hb dX4_fewestTurns_39 rfl (lv_at hl 0 rfl) ?_
    refine lv_iconst (v := 0) hx hb dX4_fewestTurns_40 (by decide) ?_
    refine q_puti (v := (0 : Int32)) hx hb hK hw hown in_X4 ins_X4 tyX4 tyX4_ok nmX4 (rfl : vwCl[6]? = some (RX4, TX4, 9)) (fun _ _ _ => rfl) (Nat.le_of_ble_eq_true rfl : 0 < cnt (gn Γ) 6) 6 (by decide) 264 fl_X4_85 rfl rfl rfl (fun _ _ _ => Nat.le_of_ble_eq_true rfl) (fun _ _ _ => rfl) hf dX4_fewestTurns_41 (fun σ5 H locs hf hw => ?_)
    refine lv_aload_n hx hb dX4_fewestTurns_44 rfl (lv_at hl 0 rfl) ?_
    refine lv_aload_n hx hb dX4_fewestTurns_45 rfl (lv_at hl 0 rfl) ?_
    refine q_get (v := .int (gI σ5 6 0 7)) hx hb hK hw hown in_X4 ins_X4 (rfl : vwCl[6]? = some (RX4, TX4, 9)) rfl (Nat.le_of_ble_eq_true rfl : 0 < cnt (gn Γ) 6) 7 (by decide) 265 fl_X4_28 rfl rfl dX4_fewestTurns_46 ?_
    refine lv_iconst (v := 2) hx hb dX4_fewestTurns_49 (by decide) ?_
    refine lv_imul hx hb dX4_fewestTurns_50 ?_
    refine q_eV hf hw (fun τ h => q_rV (As := [.int ((gI σ5 6 0 7) * (2 : Int32))]) (rest := []) (q := (RX4, TX4, 9)) X hK hw rfl (Nat.le_of_ble_eq_true rfl : 0 < cnt (gn Γ) 6) (rfl : vwCl[6]? = _) (kX4_pushHere h) mvX4_pushHere lk_X4_88 ⟨Nat.le_of_ble_eq_true rfl, Nat.le_of_ble_eq_true rfl⟩ rfl hl.1 rfl (Nat.le_of_ble_eq_true rfl) dX4_fewestTurns_51 ⟨Nat.le_of_ble_eq_true rfl, Nat.le_of_ble_eq_true rfl⟩) (fun σ6 H locs hf hw => ?_)
    refine lv_aload_n hx hb dX4_fewestTurns_54 rfl (lv_at hl 0 rfl) ?_
    refine lv_aload_n hx hb dX4_fewestTurns_55 rfl (lv_at hl 0 rfl) ?_
    refine q_get (v := .int (gI σ6 6 0 7)) hx hb hK hw hown in_X4 ins_X4 (rfl : vwCl[6]? = some (RX4, TX4, 9)) rfl (Nat.le_of_ble_eq_true rfl : 0 < cnt (gn Γ) 6) 7 (by decide) 265 fl_X4_28 rfl rfl dX4_fewestTurns_56 ?_
    refine lv_iconst (v := 2) hx hb dX4_fewestTurns_59 (by decide) ?_
    refine lv_imul hx hb dX4_fewestTurns_60 ?_
    refine lv_iconst (v := 1) hx hb dX4_fewestTurns_61 (by decide) ?_
    refine lv_iadd hx hb dX4_fewestTurns_62 ?_
    refine q_eV hf hw (fun τ h => q_rV (As := [.int (((gI σ6 6 0 7) * (2 : Int32)) + (1 : Int32))]) (rest := []) (q := (RX4, TX4, 9)) X hK hw rfl (Nat.le_of_ble_eq_true rfl : 0 < cnt (gn Γ) 6) (rfl : vwCl[6]? = _) (kX4_pushHere h) mvX4_pushHere lk_X4_88 ⟨Nat.le_of_ble_eq_true rfl, Nat.le_of_ble_eq_true rfl⟩ rfl hl.1 rfl (Nat.le_of_ble_eq_true rfl) dX4_fewestTurns_63 ⟨Nat.le_of_ble_eq_true rfl, Nat.le_of_ble_eq_true rfl⟩) (fun σ7 H locs hf hw => ?_)
    refine lv_iconst (v := 0) hx hb dX4_fewestTurns_66 (by decide) ?_
    refine lv_istore_n (lv' := [(1, .int (0 : Int32)), (0, .ref (ga Γ 6 0))]) hx hb dX4_fewestTurns_67 rfl hl (by decide) rfl (fun ls hl => ?_)
    have L68 : ∀ (K : Int32 → St → Option ((Int32 × St))) (hkk : ∀ (y1 : Int32) (σq : St) (H : Heap) (locs : List Loc) (ls : Array Slot), K y1 σq = some (r, τ) → Sit Γ σq s H locs → lv_has ls 3 [] → W p l e { frames := 4, cells := 0, slots := 0, locals := 92 } s m [.ref (ga Γ 6 0)].toArray below meth c H locs 0 0 (MQ below (Qg Γ (some (.int r)) τ (AA Γ s.heap.size)) [.ref (ga Γ 6 0)].toArray s 0 0 (AA Γ s.heap.size)) (F0 m 136 ls [])) (n : Nat) (v8 : Int32) (σ9 : St) (H : Heap) (locs : List Loc) (ls : Array Slot), fX4_fewestTurns_L68 K N n v8 σ9 = some (r, τ) → Sit Γ σ9 s H locs → lv_has ls 3 [(0, .ref (ga Γ 6 0)), (1, .int v8)] → W p l e { frames := 4, cells := 0, slots := 0, locals := 92 } s m [.ref (ga Γ 6 0)].toArray below meth c H locs 0 0 (MQ below (Qg Γ (some (.int r)) τ (AA Γ s.heap.size)) [.ref (ga Γ 6 0)].toArray s 0 0 (AA Γ s.heap.size)) (F0 m 68 ls []) := by
      intro K hkk n
      induction n with
      | zero =>
        intro _ _ _ _ _ hf
        exact nomatch hf
      | succ n ih =>
        intro v8 σ9 H locs ls hf hw hl
        refine lv_iload_n hx hb dX4_fewestTurns_68 rfl (lv_at hl 1 rfl) ?_
        refine lv_sipush (v := 768) hx hb dX4_fewestTurns_69 (by decide) ?_
        refine q_ic_ge (tgt := 136) hx hb hf dX4_fewestTurns_72 (by decide) (fun hf => ?_) (fun hf => ?_)
        · exact hkk _ _ _ _ _ hf hw (lv_sub hl [] rfl)
        refine lv_aload_n hx hb dX4_fewestTurns_75 rfl (lv_at hl 0 rfl) ?_
        refine q_get (v := .int (gI σ9 6 0 5)) hx hb hK hw hown in_X4 ins_X4 (rfl : vwCl[6]? = some (RX4, TX4, 9)) rfl (Nat.le_of_ble_eq_true rfl : 0 < cnt (gn Γ) 6) 5 (by decide) 263 fl_X4_82 rfl rfl dX4_fewestTurns_76 ?_
        refine q_if_le (tgt := 136) hx hb hf dX4_fewestTurns_79 (by decide) (fun hf => ?_) (fun hf => ?_)
        · exact hkk _ _ _ _ _ hf hw (lv_sub hl [] rfl)
        refine lv_iconst (v := 0) hx hb dX4_fewestTurns_82 (by decide) ?_
        refine lv_istore_n (lv' := [(2, .int (0 : Int32)), (0, .ref (ga Γ 6 0)), (1, .int v8)]) hx hb dX4_fewestTurns_83 rfl hl (by decide) rfl (fun ls hl => ?_)
        have L84 : ∀ (K : Int32 → St → Option ((Int32 × St))) (hkk : ∀ (y2 : Int32) (σq : St) (H : Heap) (locs : List Loc) (ls : Array Slot), K y2 σq = some (r, τ) → Sit Γ σq s H locs → lv_has ls 3 [(0, .ref (ga Γ 6 0)), (1, .int v8)] → W p l e { frames := 4, cells := 0, slots := 0, locals := 92 } s m [.ref (ga Γ 6 0)].toArray below meth c H locs 0 0 (MQ below (Qg Γ (some (.int r)) τ (AA Γ s.heap.size)) [.ref (ga Γ 6 0)].toArray s 0 0 (AA Γ s.heap.size)) (F0 m 116 ls [])) (n : Nat) (v10 : Int32) (σ11 : St) (H : Heap) (locs : List Loc) (ls : Array Slot), fX4_fewestTurns_L84 K N v8 n v10 σ11 = some (r, τ) → Sit Γ σ11 s H locs → lv_has ls 3 [(0, .ref (ga Γ 6 0)), (1, .int v8), (2, .int v10)] → W p l e { frames := 4, cells := 0, slots := 0, locals := 92 } s m [.ref (ga Γ 6 0)].toArray below meth c H locs 0 0 (MQ below (Qg Γ (some (.int r)) τ (AA Γ s.heap.size)) [.ref (ga Γ 6 0)].toArray s 0 0 (AA Γ s.heap.size)) (F0 m 84 ls []) := by
          intro K hkk n
          induction n with
          | zero =>
            intro _ _ _ _ _ hf
            exact nomatch hf
          | succ n ih =>
            intro v10 σ11 H locs ls hf hw hl
            refine lv_iload_n hx hb dX4_fewestTurns_84 rfl (lv_at hl 2 rfl) ?_
            refine lv_aload_n hx hb dX4_fewestTurns_85 rfl (lv_at hl 0 rfl) ?_
            refine q_get (v := .int (gI σ11 6 0 5)) hx hb hK hw hown in_X4 ins_X4 (rfl : vwCl[6]? = some (RX4, TX4, 9)) rfl (Nat.le_of_ble_eq_true rfl : 0 < cnt (gn Γ) 6) 5 (by decide) 263 fl_X4_82 rfl rfl dX4_fewestTurns_86 ?_
            refine q_ic_ge (tgt := 116) hx hb hf dX4_fewestTurns_89 (by decide) (fun hf => ?_) (fun hf => ?_)
            · exact hkk _ _ _ _ _ hf hw (lv_sub hl [0, 1] rfl)
            refine lv_iload_n hx hb dX4_fewestTurns_92 rfl (lv_at hl 2 rfl) ?_
            refine lv_sipush (v := 768) hx hb dX4_fewestTurns_93 (by decide) ?_
            refine q_ic_ge (tgt := 116) hx hb hf dX4_fewestTurns_96 (by decide) (fun hf => ?_) (fun hf => ?_)
            · exact hkk _ _ _ _ _ hf hw (lv_sub hl [0, 1] rfl)
            refine lv_aload_n hx hb dX4_fewestTurns_99 rfl (lv_at hl 0 rfl) ?_
            refine lv_aload_n hx hb dX4_fewestTurns_100 rfl (lv_at hl 0 rfl) ?_
            have ho_h12 := of_decide_eq_true (ck_t hf).1
            replace hf := (ck_t hf).2
            refine q_get (v := .ref (ga Γ 131 ((gR σ11 0)))) hx hb hK hw hown in_X4 ins_X4 (rfl : vwCl[6]? = some (RX4, TX4, 9)) rfl (Nat.le_of_ble_eq_true rfl : 0 < cnt (gn Γ) 6) 3 (by decide) 261 fl_X4_22 rfl rfl dX4_fewestTurns_101 ?_
            refine lv_iload_n hx hb dX4_fewestTurns_104 rfl (lv_at hl 2 rfl) ?_
            refine q_iald hx hb hK hw (k := 131) (o := (gR σ11 0)) (fun _ _ _ => rfl) ho_h12 hf dX4_fewestTurns_105 (fun hf => ?_)
            refine lv_iload_n hx hb dX4_fewestTurns_106 rfl (lv_at hl 1 rfl) ?_
            refine q_eV hf hw (fun τ h => q_rV (As := [.int (gI σ11 131 (gR σ11 0) (Int32.toNatClampNeg v10)), .int v8]) (rest := []) (q := (RX4, TX4, 9)) X hK hw rfl (Nat.le_of_ble_eq_true rfl : 0 < cnt (gn Γ) 6) (rfl : vwCl[6]? = _) (kX4_goOn h) mvX4_goOn lk_X4_92 ⟨Nat.le_of_ble_eq_true rfl, Nat.le_of_ble_eq_true rfl⟩ rfl hl.1 rfl (Nat.le_of_ble_eq_true rfl) dX4_fewestTurns_107 ⟨Nat.le_of_ble_eq_true rfl, Nat.le_of_ble_eq_true rfl⟩) (fun σ13 H locs hf hw => ?_)
            refine q_iinc (lv1 := [(0, .ref (ga Γ 6 0)), (1, .int v8)]) (d := 1) hx hb hf dX4_fewestTurns_110 hl (k := 2) rfl (by decide) (by decide) rfl (fun v14 ls hf hl => ?_)
            refine lv_goto (tgt := 84) hx hb dX4_fewestTurns_113 (by decide) ?_
            exact ih _ _ _ _ _ hf hw (lv_sub hl [1, 2, 0] rfl)
        refine L84 _ (fun _ σ15 H locs ls hf hw hl => ?_) N (0 : Int32) σ9 _ _ _ hf hw (lv_sub hl [1, 2, 0] rfl)
        refine lv_aload_n hx hb dX4_fewestTurns_116 rfl (lv_at hl 0 rfl) ?_
        refine q_pI hf hw (fun v h => q_rV (As := []) (rest := []) (q := (RX4, TX4, 9)) X hK hw rfl (Nat.le_of_ble_eq_true rfl : 0 < cnt (gn Γ) 6) (rfl : vwCl[6]? = _) (kX4_turnsAtEnd h) mvX4_turnsAtEnd lk_X4_96 ⟨Nat.le_of_ble_eq_true rfl, Nat.le_of_ble_eq_true rfl⟩ rfl hl.1 rfl (Nat.le_of_ble_eq_true rfl) dX4_fewestTurns_117 ⟨Nat.le_of_ble_eq_true rfl, Nat.le_of_ble_eq_true rfl⟩) (fun v16 H locs hf hw => ?_)
        refine lv_iload_n hx hb dX4_fewestTurns_120 rfl (lv_at hl 1 rfl) ?_
        refine q_ic_ne (tgt := 126) hx hb hf dX4_fewestTurns_121 (by decide) (fun hf => ?_) (fun hf => ?_)
        · refine lv_aload_n hx hb dX4_fewestTurns_126 rfl (lv_at hl 0 rfl) ?_
          refine q_eV hf hw (fun τ h => q_rV (As := []) (rest := []) (q := (RX4, TX4, 9)) X hK hw rfl (Nat.le_of_ble_eq_true rfl : 0 < cnt (gn Γ) 6) (rfl : vwCl[6]? = _) (kX4_turnPage h) mvX4_turnPage lk_X4_100 ⟨Nat.le_of_ble_eq_true rfl, Nat.le_of_ble_eq_true rfl⟩ rfl hl.1 rfl (Nat.le_of_ble_eq_true rfl) dX4_fewestTurns_127 ⟨Nat.le_of_ble_eq_true rfl, Nat.le_of_ble_eq_true rfl⟩) (fun σ17 H locs hf hw => ?_)
          refine q_iinc (lv1 := [(0, .ref (ga Γ 6 0))]) (d := 1) hx hb hf dX4_fewestTurns_130 hl (k := 1) rfl (by decide) (by decide) rfl (fun v18 ls hf hl => ?_)
          refine lv_goto (tgt := 68) hx hb dX4_fewestTurns_133 (by decide) ?_
          exact ih _ _ _ _ _ hf hw (lv_sub hl [1, 0] rfl)
        refine lv_iload_n hx hb dX4_fewestTurns_124 rfl (lv_at hl 1 rfl) ?_
        exact q_eiret hf hx hb hr rfl hk hw dX4_fewestTurns_125 (Nat.le_of_ble_eq_true rfl) (Nat.le_of_ble_eq_true rfl)
    refine L68 _ (fun _ σ19 H locs ls hf hw hl => ?_) N (0 : Int32) σ7 _ _ _ hf hw (lv_sub hl [1, 0] rfl)
    refine lv_iconst (v := (-1)) hx hb dX4_fewestTurns_136 (by decide) ?_
    exact q_eiret hf hx hb hr rfl hk hw dX4_fewestTurns_137 (Nat.le_of_ble_eq_true rfl) (Nat.le_of_ble_eq_true rfl)
  refine lv_iconst (v := (-1)) hx hb dX4_fewestTurns_28 (by decide) ?_
  exact q_eiret hf hx hb hr rfl hk hw dX4_fewestTurns_29 (Nat.le_of_ble_eq_true rfl) (Nat.le_of_ble_eq_true rfl)
set_option maxRecDepth 100000 in
theorem kX4_improve {Γ : Gm} {S : List (String × Nat × String)} {l : Launch} {N : Nat} {σ τ : St} {x1 : Int32} {r : Int32}  (hf : fX4_improve N σ x1 = some (r, τ)) : CT Γ S l yX4_improve cX4_improve 10 (some (.boolean)) 2 60 0 0 [.ref (ga Γ 6 0), .int x1] (some (.int r)) σ τ := by
  unfold fX4_improve at hf
  refine ct_body (lv := [(0, .ref (ga Γ 6 0)), (1, .int x1)]) (by decide +kernel) rfl (Nat.le_of_ble_eq_true rfl) ?_
  intro p e s m below meth c ls X hr hk hK hw hl
  have hx := X.1
  have hb := X.2.1
  have hown := X.2.2.2
  refine lv_iconst (v := 0) hx hb dX4_improve_0 (by decide) ?_
  refine lv_istore_n (lv' := [(2, .int (0 : Int32)), (0, .ref (ga Γ 6 0)), (1, .int x1)]) hx hb dX4_improve_1 rfl hl (by decide) rfl (fun ls hl => ?_)
  refine lv_iconst (v := 0) hx hb dX4_improve_2 (by decide) ?_
  refine lv_istore_n (lv' := [(3, .int (0 : Int32)), (2, .int (0 : Int32)), (0, .ref (ga Γ 6 0)), (1, .int x1)]) hx hb dX4_improve_3 rfl hl (by decide) rfl (fun ls hl => ?_)
  have L4 : ∀ (K : Int32 → Int32 → St → Option ((Int32 × St))) (hkk : ∀ (y2 : Int32) (y3 : Int32) (σq : St) (H : Heap) (locs : List Loc) (ls : Array Slot), K y2 y3 σq = some (r, τ) → Sit Γ σq s H locs → lv_has ls 10 [(2, .int y2)] → W p l e { frames := 2, cells := 0, slots := 0, locals := 60 } s m [.ref (ga Γ 6 0), .int x1].toArray below meth c H locs 0 0 (MQ below (Qg Γ (some (.int r)) τ (AA Γ s.heap.size)) [.ref (ga Γ 6 0), .int x1].toArray s 0 0 (AA Γ s.heap.size)) (F0 m 132 ls [])) (n : Nat) (v1 : Int32) (v2 : Int32) (σ3 : St) (H : Heap) (locs : List Loc) (ls : Array Slot), fX4_improve_L4 K N x1 n v1 v2 σ3 = some (r, τ) → Sit Γ σ3 s H locs → lv_has ls 10 [(0, .ref (ga Γ 6 0)), (1, .int x1), (2, .int v1), (3, .int v2)] → W p l e { frames := 2, cells := 0, slots := 0, locals := 60 } s m [.ref (ga Γ 6 0), .int x1].toArray below meth c H locs 0 0 (MQ below (Qg Γ (some (.int r)) τ (AA Γ s.heap.size)) [.ref (ga Γ 6 0), .int x1].toArray s 0 0 (AA Γ s.heap.size)) (F0 m 4 ls []) := by
    intro K hkk n
    induction n with
    | zero =>
      intro _ _ _ _ _ _ hf
      exact nomatch hf
    | succ n ih =>
      intro v1 v2 σ3 H locs ls hf hw hl
      refine lv_iload_n hx hb dX4_improve_4 rfl (lv_at hl 3 rfl) ?_
      refine lv_iconst (v := 4) hx hb dX4_improve_5 (by decide) ?_
      refine q_ic_ge (tgt := 132) hx hb hf dX4_improve_6 (by decide) (fun hf => ?_) (fun hf => ?_)
      · exact hkk _ _ _ _ _ _ hf hw (lv_sub hl [2] rfl)
      refine lv_iload_n hx hb dX4_improve_9 rfl (lv_at hl 1 rfl) ?_
      refine lv_iload_n hx hb dX4_improve_10 rfl (lv_at hl 3 rfl) ?_
      refine q_pI hf hw (fun v h => q_rS (As := [.int x1, .int v2]) (rest := []) X hK hw (kX4_cellBeside h) msX4_cellBeside lk_X4_119 ⟨Nat.le_of_ble_eq_true rfl, Nat.le_of_ble_eq_true rfl⟩ rfl hl.1 rfl (Nat.le_of_ble_eq_true rfl) dX4_improve_11 ⟨Nat.le_of_ble_eq_true rfl, Nat.le_of_ble_eq_true rfl⟩) (fun v4 H locs hf hw => ?_)
      refine lv_istore (lv' := [(4, .int v4), (0, .ref (ga Γ 6 0)), (1, .int x1), (2, .int v1), (3, .int v2)]) hx hb dX4_improve_14 hl (by decide) rfl (fun ls hl => ?_)
      refine lv_iload_n hx hb dX4_improve_16 rfl (lv_at hl 4 rfl) ?_
      refine lv_iconst (v := 2) hx hb dX4_improve_17 (by decide) ?_
      refine lv_idiv hx hb dX4_improve_18 (by decide) ?_
      refine q_istore (lv1 := [(4, .int v4), (0, .ref (ga Γ 6 0)), (1, .int x1), (2, .int v1), (3, .int v2)]) hx hb hf dX4_improve_19 hl (by decide) rfl (fun v5 ls hf hl => ?_)
      refine lv_iload_n hx hb dX4_improve_21 rfl (lv_at hl 3 rfl) ?_
      refine lv_iconst (v := 2) hx hb dX4_improve_22 (by decide) ?_
      refine lv_imul hx hb dX4_improve_23 ?_
      refine lv_iload hx hb dX4_improve_24 (lv_at hl 0 rfl) ?_
      refine lv_iadd hx hb dX4_improve_26 ?_
      refine q_istore (lv1 := [(5, .int v5), (4, .int v4), (0, .ref (ga Γ 6 0)), (1, .int x1), (2, .int v1), (3, .int v2)]) hx hb hf dX4_improve_27 hl (by decide) rfl (fun v6 ls hf hl => ?_)
      refine lv_aload_n hx hb dX4_improve_29 rfl (lv_at hl 3 rfl) ?_
      refine q_get (v := .ref (ga Γ 127 0)) hx hb hK hw hown in_X4 ins_X4 (rfl : vwCl[6]? = some (RX4, TX4, 9)) rfl (Nat.le_of_ble_eq_true rfl : 0 < cnt (gn Γ) 6) 0 (by decide) 258 fl_X4_9 rfl rfl dX4_improve_30 ?_
      refine lv_iload hx hb dX4_improve_33 (lv_at hl 2 rfl) ?_
      refine q_pI hf hw (fun v h => q_rSN (As := [.ref (ga Γ 127 0), .int v4]) (rest := []) X hK hw (kX7_isAt (fun _ _ _ => rfl) (Nat.le_of_ble_eq_true rfl : 0 < cnt (gn Γ) 127) h) msX7_isAt lk_X4_75 ⟨Nat.le_of_ble_eq_true rfl, Nat.le_of_ble_eq_true rfl⟩ rfl hl.1 rfl (Nat.le_of_ble_eq_true rfl) dX4_improve_35 ⟨Nat.le_of_ble_eq_true rfl, Nat.le_of_ble_eq_true rfl⟩) (fun v7 H locs hf hw => ?_)
      refine q_if_eq (tgt := 126) hx hb hf dX4_improve_38 (by decide) (fun hf => ?_) (fun hf => ?_)
      · refine q_iinc (lv1 := [(6, .int v6), (5, .int v5), (4, .int v4), (0, .ref (ga Γ 6 0)), (1, .int x1), (2, .int v1)]) (d := 1) hx hb hf dX4_improve_126 hl (k := 6) rfl (by decide) (by decide) rfl (fun v8 ls hf hl => ?_)
        refine lv_goto (tgt := 4) hx hb dX4_improve_129 (by decide) ?_
        exact ih _ _ _ _ _ _ hf hw (lv_sub hl [4, 5, 6, 0] rfl)
      refine lv_iload hx hb dX4_improve_41 (lv_at hl 0 rfl) ?_
      refine q_if_lt (tgt := 126) hx hb hf dX4_improve_43 (by decide) (fun hf => ?_) (fun hf => ?_)
      · refine q_iinc (lv1 := [(6, .int v6), (5, .int v5), (4, .int v4), (0, .ref (ga Γ 6 0)), (1, .int x1), (2, .int v1)]) (d := 1) hx hb hf dX4_improve_126 hl (k := 6) rfl (by decide) (by decide) rfl (fun v9 ls hf hl => ?_)
        refine lv_goto (tgt := 4) hx hb dX4_improve_129 (by decide) ?_
        exact ih _ _ _ _ _ _ hf hw (lv_sub hl [4, 5, 6, 0] rfl)
      refine lv_iload hx hb dX4_improve_46 (lv_at hl 0 rfl) ?_
      refine lv_sipush (v := 768) hx hb dX4_improve_48 (by decide) ?_
      refine q_ic_ge (tgt := 126) hx hb hf dX4_improve_51 (by decide) (fun hf => ?_) (fun hf => ?_)
      · refine q_iinc (lv1 := [(6, .int v6), (5, .int v5), (4, .int v4), (0, .ref (ga Γ 6 0)), (1, .int x1), (2, .int v1)]) (d := 1) hx hb hf dX4_improve_126 hl (k := 6) rfl (by decide) (by decide) rfl (fun v10 ls hf hl => ?_)
        refine lv_goto (tgt := 4) hx hb dX4_improve_129 (by decide) ?_
        exact ih _ _ _ _ _ _ hf hw (lv_sub hl [4, 5, 6, 0] rfl)
      refine lv_aload_n hx hb dX4_improve_54 rfl (lv_at hl 3 rfl) ?_
      refine q_get (v := .ref (ga Γ 128 0)) hx hb hK hw hown in_X4 ins_X4 (rfl : vwCl[6]? = some (RX4, TX4, 9)) rfl (Nat.le_of_ble_eq_true rfl : 0 < cnt (gn Γ) 6) 1 (by decide) 259 fl_X4_15 rfl rfl dX4_improve_55 ?_
      refine lv_iload hx hb dX4_improve_58 (lv_at hl 2 rfl) ?_
      refine lv_iconst (v := 2) hx hb dX4_improve_60 (by decide) ?_
      refine lv_imul hx hb dX4_improve_61 ?_
      refine lv_iload hx hb dX4_improve_62 (lv_at hl 1 rfl) ?_
      refine lv_iadd hx hb dX4_improve_64 ?_
      refine lv_ldc (v := 1000000) hx hb hown (kw_at hK.2.2.2.2.1 1107 (by decide +kernel) rfl) dX4_improve_65 ?_
      refine q_pI hf hw (fun v h => q_rSN (As := [.ref (ga Γ 128 0), .int ((v4 * (2 : Int32)) + v5), .int (1000000 : Int32)]) (rest := []) X hK hw (kX7_intAt (fun _ _ _ => rfl) (Nat.le_of_ble_eq_true rfl : 0 < cnt (gn Γ) 128) h) msX7_intAt lk_X4_104 ⟨Nat.le_of_ble_eq_true rfl, Nat.le_of_ble_eq_true rfl⟩ rfl hl.1 rfl (Nat.le_of_ble_eq_true rfl) dX4_improve_67 ⟨Nat.le_of_ble_eq_true rfl, Nat.le_of_ble_eq_true rfl⟩) (fun v11 H locs hf hw => ?_)
      refine lv_istore (lv' := [(7, .int v11), (6, .int v6), (5, .int v5), (4, .int v4), (0, .ref (ga Γ 6 0)), (1, .int x1), (2, .int v1), (3, .int v2)]) hx hb dX4_improve_70 hl (by decide) rfl (fun ls hl => ?_)
      refine lv_aload_n hx hb dX4_improve_72 rfl (lv_at hl 4 rfl) ?_
      refine q_get (v := .ref (ga Γ 128 0)) hx hb hK hw hown in_X4 ins_X4 (rfl : vwCl[6]? = some (RX4, TX4, 9)) rfl (Nat.le_of_ble_eq_true rfl : 0 < cnt (gn Γ) 6) 1 (by decide) 259 fl_X4_15 rfl rfl dX4_improve_73 ?_
      refine lv_iload hx hb dX4_improve_76 (lv_at hl 3 rfl) ?_
      refine lv_iconst (v := 2) hx hb dX4_improve_78 (by decide) ?_
      refine lv_imul hx hb dX4_improve_79 ?_
      refine lv_iconst (v := 1) hx hb dX4_improve_80 (by decide) ?_
      refine lv_iadd hx hb dX4_improve_81 ?_
      refine lv_iload hx hb dX4_improve_82 (lv_at hl 2 rfl) ?_
      refine lv_isub hx hb dX4_improve_84 ?_
      refine lv_ldc (v := 1000000) hx hb hown (kw_at hK.2.2.2.2.1 1107 (by decide +kernel) rfl) dX4_improve_85 ?_
      refine q_pI hf hw (fun v h => q_rSN (As := [.ref (ga Γ 128 0), .int (((v4 * (2 : Int32)) + (1 : Int32)) - v5), .int (1000000 : Int32)]) (rest := []) X hK hw (kX7_intAt (fun _ _ _ => rfl) (Nat.le_of_ble_eq_true rfl : 0 < cnt (gn Γ) 128) h) msX7_intAt lk_X4_104 ⟨Nat.le_of_ble_eq_true rfl, Nat.le_of_ble_eq_true rfl⟩ rfl hl.1 rfl (Nat.le_of_ble_eq_true rfl) dX4_improve_87 ⟨Nat.le_of_ble_eq_true rfl, Nat.le_of_ble_eq_true rfl⟩) (fun v12 H locs hf hw => ?_)
      refine lv_iconst (v := 1) hx hb dX4_improve_90 (by decide) ?_
      refine lv_iadd hx hb dX4_improve_91 ?_
      refine q_istore (lv1 := [(7, .int v11), (6, .int v6), (5, .int v5), (4, .int v4), (0, .ref (ga Γ 6 0)), (1, .int x1), (2, .int v1), (3, .int v2)]) hx hb hf dX4_improve_92 hl (by decide) rfl (fun v13 ls hf hl => ?_)
      refine lv_iload hx hb dX4_improve_94 (lv_at hl 1 rfl) ?_
      refine lv_iload hx hb dX4_improve_96 (lv_at hl 0 rfl) ?_
      refine q_mmin X hK hl.1 lk_X4_108 jm_min ⟨Nat.le_of_ble_eq_true rfl, Nat.le_of_ble_eq_true rfl⟩ ⟨Nat.le_of_ble_eq_true rfl, Nat.le_of_ble_eq_true rfl⟩ dX4_improve_98 ?_
      refine q_istore (lv1 := [(8, .int v13), (7, .int v11), (6, .int v6), (5, .int v5), (4, .int v4), (0, .ref (ga Γ 6 0)), (1, .int x1), (2, .int v1), (3, .int v2)]) hx hb hf dX4_improve_101 hl (by decide) rfl (fun v14 ls hf hl => ?_)
      refine lv_iload hx hb dX4_improve_103 (lv_at hl 0 rfl) ?_
      refine lv_aload_n hx hb dX4_improve_105 rfl (lv_at hl 6 rfl) ?_
      refine q_get (v := .ref (ga Γ 128 0)) hx hb hK hw hown in_X4 ins_X4 (rfl : vwCl[6]? = some (RX4, TX4, 9)) rfl (Nat.le_of_ble_eq_true rfl : 0 < cnt (gn Γ) 6) 1 (by decide) 259 fl_X4_15 rfl rfl dX4_improve_106 ?_
      refine lv_iload hx hb dX4_improve_109 (lv_at hl 3 rfl) ?_
      refine q_iald hx hb hK hw (k := 128) (o := 0) (fun _ _ _ => rfl) (Nat.le_of_ble_eq_true rfl : 0 < cnt (gn Γ) 128) hf dX4_improve_111 (fun hf => ?_)
      refine q_ic_ge (tgt := 126) hx hb hf dX4_improve_112 (by decide) (fun hf => ?_) (fun hf => ?_)
      · refine q_iinc (lv1 := [(9, .int v14), (8, .int v13), (7, .int v11), (6, .int v6), (5, .int v5), (4, .int v4), (0, .ref (ga Γ 6 0)), (1, .int x1), (2, .int v1)]) (d := 1) hx hb hf dX4_improve_126 hl (k := 9) rfl (by decide) (by decide) rfl (fun v15 ls hf hl => ?_)
        refine lv_goto (tgt := 4) hx hb dX4_improve_129 (by decide) ?_
        exact ih _ _ _ _ _ _ hf hw (lv_sub hl [7, 8, 9, 0] rfl)
      refine lv_aload_n hx hb dX4_improve_115 rfl (lv_at hl 6 rfl) ?_
      refine q_get (v := .ref (ga Γ 128 0)) hx hb hK hw hown in_X4 ins_X4 (rfl : vwCl[6]? = some (RX4, TX4, 9)) rfl (Nat.le_of_ble_eq_true rfl : 0 < cnt (gn Γ) 6) 1 (by decide) 259 fl_X4_15 rfl rfl dX4_improve_116 ?_
      refine lv_iload hx hb dX4_improve_119 (lv_at hl 3 rfl) ?_
      refine lv_iload hx hb dX4_improve_121 (lv_at hl 0 rfl) ?_
      refine q_iast hx hb hK hw (k := 128) (o := 0) (fun _ _ _ => rfl) (Nat.le_of_ble_eq_true rfl : 0 < cnt (gn Γ) 128) hf dX4_improve_123 (fun σ16 H locs hf hw => ?_)
      refine lv_iconst (v := 1) hx hb dX4_improve_124 (by decide) ?_
      refine lv_istore_n (lv' := [(2, .int (1 : Int32)), (9, .int v14), (8, .int v13), (7, .int v11), (6, .int v6), (5, .int v5), (4, .int v4), (0, .ref (ga Γ 6 0)), (1, .int x1), (3, .int v2)]) hx hb dX4_improve_125 rfl hl (by decide) rfl (fun ls hl => ?_)
      refine q_iinc (lv1 := [(2, .int (1 : Int32)), (9, .int v14), (8, .int v13), (7, .int v11), (6, .int v6), (5, .int v5), (4, .int v4), (0, .ref (ga Γ 6 0)), (1, .int x1)]) (d := 1) hx hb hf dX4_improve_126 hl (k := 9) rfl (by decide) (by decide) rfl (fun v17 ls hf hl => ?_)
      refine lv_goto (tgt := 4) hx hb dX4_improve_129 (by decide) ?_
      exact ih _ _ _ _ _ _ hf hw (lv_sub hl [8, 9, 1, 0] rfl)
  refine L4 _ (fun v18 _ σ19 H locs ls hf hw hl => ?_) N (0 : Int32) (0 : Int32) σ _ _ _ hf hw (lv_sub hl [2, 3, 1, 0] rfl)
  refine lv_iload_n hx hb dX4_improve_132 rfl (lv_at hl 0 rfl) ?_
  exact q_enret hf hx hb hr vn_Z hk hw dX4_improve_133 (Nat.le_of_ble_eq_true rfl) (Nat.le_of_ble_eq_true rfl)
set_option maxRecDepth 100000 in
theorem kX4_fewestTurnsByRounds {Γ : Gm} {S : List (String × Nat × String)} {l : Launch} {N : Nat} {σ τ : St} {r : Int32}  (hf : fX4_fewestTurnsByRounds N σ = some (r, τ)) : CT Γ S l yX4_fewestTurnsByRounds cX4_fewestTurnsByRounds 4 (some (.int)) 3 89 0 0 [.ref (ga Γ 6 0)] (some (.int r)) σ τ := by
  unfold fX4_fewestTurnsByRounds at hf
  refine ct_body (lv := [(0, .ref (ga Γ 6 0))]) (by decide +kernel) rfl (Nat.le_of_ble_eq_true rfl) ?_
  intro p e s m below meth c ls X hr hk hK hw hl
  have hx := X.1
  have hb := X.2.1
  have hown := X.2.2.2
  refine lv_aload_n hx hb dX4_fewestTurnsByRounds_0 rfl (lv_at hl 0 rfl) ?_
  refine q_get (v := .ref (ga Γ 127 0)) hx hb hK hw hown in_X4 ins_X4 (rfl : vwCl[6]? = some (RX4, TX4, 9)) rfl (Nat.le_of_ble_eq_true rfl : 0 < cnt (gn Γ) 6) 0 (by decide) 258 fl_X4_9 rfl rfl dX4_fewestTurnsByRounds_1 ?_
  refine lv_aload_n hx hb dX4_fewestTurnsByRounds_4 rfl (lv_at hl 0 rfl) ?_
  refine q_get (v := .int (gI σ 6 0 7)) hx hb hK hw hown in_X4 ins_X4 (rfl : vwCl[6]? = some (RX4, TX4, 9)) rfl (Nat.le_of_ble_eq_true rfl : 0 < cnt (gn Γ) 6) 7 (by decide) 265 fl_X4_28 rfl rfl dX4_fewestTurnsByRounds_5 ?_
  refine q_pI hf hw (fun v h => q_rSN (As := [.ref (ga Γ 127 0), .int (gI σ 6 0 7)]) (rest := []) X hK hw (kX7_isAt (fun _ _ _ => rfl) (Nat.le_of_ble_eq_true rfl : 0 < cnt (gn Γ) 127) h) msX7_isAt lk_X4_75 ⟨Nat.le_of_ble_eq_true rfl, Nat.le_of_ble_eq_true rfl⟩ rfl hl.1 rfl (Nat.le_of_ble_eq_true rfl) dX4_fewestTurnsByRounds_8 ⟨Nat.le_of_ble_eq_true rfl, Nat.le_of_ble_eq_true rfl⟩) (fun v1 H locs hf hw => ?_)
  refine q_if_eq (tgt := 28) hx hb hf dX4_fewestTurnsByRounds_11 (by decide) (fun hf => ?_) (fun hf => ?_)
  · refine lv_iconst (v := (-1)) hx hb dX4_fewestTurnsByRounds_28 (by decide) ?_
    exact q_eiret hf hx hb hr rfl hk hw dX4_fewestTurnsByRounds_29 (Nat.le_of_ble_eq_true rfl) (Nat.le_of_ble_eq_true rfl)
  refine lv_aload_n hx hb dX4_fewestTurnsByRounds_14 rfl (lv_at hl 0 rfl) ?_
  refine q_get (v := .ref (ga Γ 127 0)) hx hb hK hw hown in_X4 ins_X4 (rfl : vwCl[6]? = some (RX4, TX4, 9)) rfl (Nat.le_of_ble_eq_true rfl : 0 < cnt (gn Γ) 6) 0 (by decide) 258 fl_X4_9 rfl rfl dX4_fewestTurnsByRounds_15 ?_
  refine lv_aload_n hx hb dX4_fewestTurnsByRounds_18 rfl (lv_at hl 0 rfl) ?_
  refine q_get (v := .int (gI σ 6 0 8)) hx hb hK hw hown in_X4 ins_X4 (rfl : vwCl[6]? = some (RX4, TX4, 9)) rfl (Nat.le_of_ble_eq_true rfl : 0 < cnt (gn Γ) 6) 8 (by decide) 266 fl_X4_32 rfl rfl dX4_fewestTurnsByRounds_19 ?_
  refine q_pI hf hw (fun v h => q_rSN (As := [.ref (ga Γ 127 0), .int (gI σ 6 0 8)]) (rest := []) X hK hw (kX7_isAt (fun _ _ _ => rfl) (Nat.le_of_ble_eq_true rfl : 0 < cnt (gn Γ) 127) h) msX7_isAt lk_X4_75 ⟨Nat.le_of_ble_eq_true rfl, Nat.le_of_ble_eq_true rfl⟩ rfl hl.1 rfl (Nat.le_of_ble_eq_true rfl) dX4_fewestTurnsByRounds_22 ⟨Nat.le_of_ble_eq_true rfl, Nat.le_of_ble_eq_true rfl⟩) (fun v2 H locs hf hw => ?_)
  refine q_if_ne (tgt := 30) hx hb hf dX4_fewestTurnsByRounds_25 (by decide) (fun hf => ?_) (fun hf => ?_)
  · refine lv_aload_n hx hb dX4_fewestTurnsByRounds_30 rfl (lv_at hl 0 rfl) ?_
    refine q_eV hf hw (fun τ h => q_rV (As := []) (rest := []) (q := (RX4, TX4, 9)) X hK hw rfl (Nat.le_of_ble_eq_true rfl : 0 < cnt (gn Γ) 6) (rfl : vwCl[6]? = _) (kX4_startAnew h) mvX4_startAnew lk_X4_79 ⟨Nat.le_of_ble_eq_true rfl, Nat.le_of_ble_eq_true rfl⟩ rfl hl.1 rfl (Nat.le_of_ble_eq_true rfl) dX4_fewestTurnsByRounds_31 ⟨Nat.le_of_ble_eq_true rfl, Nat.le_of_ble_eq_true rfl⟩) (fun σ3 H locs hf hw => ?_)
    refine lv_iconst (v := 1) hx hb dX4_fewestTurnsByRounds_34 (by decide) ?_
    refine lv_istore_n (lv' := [(1, .int (1 : Int32)), (0, .ref (ga Γ 6 0))]) hx hb dX4_fewestTurnsByRounds_35 rfl hl (by decide) rfl (fun ls hl => ?_)
    refine lv_iconst (v := 0) hx hb dX4_fewestTurnsByRounds_36 (by decide) ?_
    refine lv_istore_n (lv' := [(2, .int (0 : Int32)), (1, .int (1 : Int32)), (0, .ref (ga Γ 6 0))]) hx hb dX4_fewestTurnsByRounds_37 rfl hl (by decide) rfl (fun ls hl => ?_)
    have L38 : ∀ (K : Int32 → Int32 → St → Option ((Int32 × St))) (hkk : ∀ (y1 : Int32) (y2 : Int32) (σq : St) (H : Heap) (locs : List Loc) (ls : Array Slot), K y1 y2 σq = some (r, τ) → Sit Γ σq s H locs → lv_has ls 4 [(0, .ref (ga Γ 6 0))] → W p l e { frames := 3, cells := 0, slots := 0, locals := 89 } s m [.ref (ga Γ 6 0)].toArray below meth c H locs 0 0 (MQ below (Qg Γ (some (.int r)) τ (AA Γ s.heap.size)) [.ref (ga Γ 6 0)].toArray s 0 0 (AA Γ s.heap.size)) (F0 m 91 ls [])) (n : Nat) (v4 : Int32) (v5 : Int32) (σ6 : St) (H : Heap) (locs : List Loc) (ls : Array Slot), fX4_fewestTurnsByRounds_L38 K N n v4 v5 σ6 = some (r, τ) → Sit Γ σ6 s H locs → lv_has ls 4 [(0, .ref (ga Γ 6 0)), (1, .int v4), (2, .int v5)] → W p l e { frames := 3, cells := 0, slots := 0, locals := 89 } s m [.ref (ga Γ 6 0)].toArray below meth c H locs 0 0 (MQ below (Qg Γ (some (.int r)) τ (AA Γ s.heap.size)) [.ref (ga Γ 6 0)].toArray s 0 0 (AA Γ s.heap.size)) (F0 m 38 ls []) := by
      intro K hkk n
      induction n with
      | zero =>
        intro _ _ _ _ _ _ hf
        exact nomatch hf
      | succ n ih =>
        intro v4 v5 σ6 H locs ls hf hw hl
        refine lv_iload_n hx hb dX4_fewestTurnsByRounds_38 rfl (lv_at hl 2 rfl) ?_
        refine lv_sipush (v := 768) hx hb dX4_fewestTurnsByRounds_39 (by decide) ?_
        refine q_ic_ge (tgt := 91) hx hb hf dX4_fewestTurnsByRounds_42 (by decide) (fun hf => ?_) (fun hf => ?_)
        · exact hkk _ _ _ _ _ _ hf hw (lv_sub hl [0] rfl)
        refine lv_iload_n hx hb dX4_fewestTurnsByRounds_45 rfl (lv_at hl 1 rfl) ?_
        refine q_if_eq (tgt := 91) hx hb hf dX4_fewestTurnsByRounds_46 (by decide) (fun hf => ?_) (fun hf => ?_)
        · exact hkk _ _ _ _ _ _ hf hw (lv_sub hl [0] rfl)
        refine lv_iconst (v := 0) hx hb dX4_fewestTurnsByRounds_49 (by decide) ?_
        refine lv_istore_n (lv' := [(1, .int (0 : Int32)), (0, .ref (ga Γ 6 0)), (2, .int v5)]) hx hb dX4_fewestTurnsByRounds_50 rfl hl (by decide) rfl (fun ls hl => ?_)
        refine lv_iconst (v := 0) hx hb dX4_fewestTurnsByRounds_51 (by decide) ?_
        refine lv_istore_n (lv' := [(3, .int (0 : Int32)), (1, .int (0 : Int32)), (0, .ref (ga Γ 6 0)), (2, .int v5)]) hx hb dX4_fewestTurnsByRounds_52 rfl hl (by decide) rfl (fun ls hl => ?_)
        have L53 : ∀ (K : Int32 → Int32 → St → Option ((Int32 × St))) (hkk : ∀ (y1 : Int32) (y3 : Int32) (σq : St) (H : Heap) (locs : List Loc) (ls : Array Slot), K y1 y3 σq = some (r, τ) → Sit Γ σq s H locs → lv_has ls 4 [(0, .ref (ga Γ 6 0)), (1, .int y1), (2, .int v5)] → W p l e { frames := 3, cells := 0, slots := 0, locals := 89 } s m [.ref (ga Γ 6 0)].toArray below meth c H locs 0 0 (MQ below (Qg Γ (some (.int r)) τ (AA Γ s.heap.size)) [.ref (ga Γ 6 0)].toArray s 0 0 (AA Γ s.heap.size)) (F0 m 85 ls [])) (n : Nat) (v7 : Int32) (v8 : Int32) (σ9 : St) (H : Heap) (locs : List Loc) (ls : Array Slot), fX4_fewestTurnsByRounds_L53 K N n v7 v8 σ9 = some (r, τ) → Sit Γ σ9 s H locs → lv_has ls 4 [(0, .ref (ga Γ 6 0)), (1, .int v7), (2, .int v5), (3, .int v8)] → W p l e { frames := 3, cells := 0, slots := 0, locals := 89 } s m [.ref (ga Γ 6 0)].toArray below meth c H locs 0 0 (MQ below (Qg Γ (some (.int r)) τ (AA Γ s.heap.size)) [.ref (ga Γ 6 0)].toArray s 0 0 (AA Γ s.heap.size)) (F0 m 53 ls []) := by
          intro K hkk n
          induction n with
          | zero =>
            intro _ _ _ _ _ _ hf
            exact nomatch hf
          | succ n ih =>
            intro v7 v8 σ9 H locs ls hf hw hl
            refine lv_iload_n hx hb dX4_fewestTurnsByRounds_53 rfl (lv_at hl 3 rfl) ?_
            refine lv_sipush (v := 384) hx hb dX4_fewestTurnsByRounds_54 (by decide) ?_
            refine q_ic_ge (tgt := 85) hx hb hf dX4_fewestTurnsByRounds_57 (by decide) (fun hf => ?_) (fun hf => ?_)
            · exact hkk _ _ _ _ _ _ hf hw (lv_sub hl [0, 1, 2] rfl)
            refine lv_aload_n hx hb dX4_fewestTurnsByRounds_60 rfl (lv_at hl 0 rfl) ?_
            refine q_get (v := .ref (ga Γ 127 0)) hx hb hK hw hown in_X4 ins_X4 (rfl : vwCl[6]? = some (RX4, TX4, 9)) rfl (Nat.le_of_ble_eq_true rfl : 0 < cnt (gn Γ) 6) 0 (by decide) 258 fl_X4_9 rfl rfl dX4_fewestTurnsByRounds_61 ?_
            refine lv_iload_n hx hb dX4_fewestTurnsByRounds_64 rfl (lv_at hl 3 rfl) ?_
            refine q_zald hx hb hK hw (k := 127) (o := 0) (fun _ _ _ => rfl) (Nat.le_of_ble_eq_true rfl : 0 < cnt (gn Γ) 127) hf dX4_fewestTurnsByRounds_65 (fun hf => ?_)
            refine q_if_eq (tgt := 79) hx hb hf dX4_fewestTurnsByRounds_66 (by decide) (fun hf => ?_) (fun hf => ?_)
            · refine q_iinc (lv1 := [(0, .ref (ga Γ 6 0)), (1, .int v7), (2, .int v5)]) (d := 1) hx hb hf dX4_fewestTurnsByRounds_79 hl (k := 3) rfl (by decide) (by decide) rfl (fun v10 ls hf hl => ?_)
              refine lv_goto (tgt := 53) hx hb dX4_fewestTurnsByRounds_82 (by decide) ?_
              exact ih _ _ _ _ _ _ hf hw (lv_sub hl [1, 2, 3, 0] rfl)
            refine lv_aload_n hx hb dX4_fewestTurnsByRounds_69 rfl (lv_at hl 0 rfl) ?_
            refine lv_iload_n hx hb dX4_fewestTurnsByRounds_70 rfl (lv_at hl 3 rfl) ?_
            refine q_eI hf hw (fun v τ h => q_rV (As := [.int v8]) (rest := []) (q := (RX4, TX4, 9)) X hK hw rfl (Nat.le_of_ble_eq_true rfl : 0 < cnt (gn Γ) 6) (rfl : vwCl[6]? = _) (kX4_improve h) mvX4_improve lk_X4_122 ⟨Nat.le_of_ble_eq_true rfl, Nat.le_of_ble_eq_true rfl⟩ rfl hl.1 rfl (Nat.le_of_ble_eq_true rfl) dX4_fewestTurnsByRounds_71 ⟨Nat.le_of_ble_eq_true rfl, Nat.le_of_ble_eq_true rfl⟩) (fun v12 σ11 H locs hf hw => ?_)
            refine q_if_eq (tgt := 79) hx hb hf dX4_fewestTurnsByRounds_74 (by decide) (fun hf => ?_) (fun hf => ?_)
            · refine q_iinc (lv1 := [(0, .ref (ga Γ 6 0)), (1, .int v7), (2, .int v5)]) (d := 1) hx hb hf dX4_fewestTurnsByRounds_79 hl (k := 3) rfl (by decide) (by decide) rfl (fun v13 ls hf hl => ?_)
              refine lv_goto (tgt := 53) hx hb dX4_fewestTurnsByRounds_82 (by decide) ?_
              exact ih _ _ _ _ _ _ hf hw (lv_sub hl [1, 2, 3, 0] rfl)
            refine lv_iconst (v := 1) hx hb dX4_fewestTurnsByRounds_77 (by decide) ?_
            refine lv_istore_n (lv' := [(1, .int (1 : Int32)), (0, .ref (ga Γ 6 0)), (2, .int v5), (3, .int v8)]) hx hb dX4_fewestTurnsByRounds_78 rfl hl (by decide) rfl (fun ls hl => ?_)
            refine q_iinc (lv1 := [(1, .int (1 : Int32)), (0, .ref (ga Γ 6 0)), (2, .int v5)]) (d := 1) hx hb hf dX4_fewestTurnsByRounds_79 hl (k := 3) rfl (by decide) (by decide) rfl (fun v14 ls hf hl => ?_)
            refine lv_goto (tgt := 53) hx hb dX4_fewestTurnsByRounds_82 (by decide) ?_
            exact ih _ _ _ _ _ _ hf hw (lv_sub hl [2, 1, 3, 0] rfl)
        refine L53 _ (fun v15 _ σ16 H locs ls hf hw hl => ?_) N (0 : Int32) (0 : Int32) σ6 _ _ _ hf hw (lv_sub hl [2, 1, 3, 0] rfl)
        refine q_iinc (lv1 := [(0, .ref (ga Γ 6 0)), (1, .int v15)]) (d := 1) hx hb hf dX4_fewestTurnsByRounds_85 hl (k := 2) rfl (by decide) (by decide) rfl (fun v17 ls hf hl => ?_)
        refine lv_goto (tgt := 38) hx hb dX4_fewestTurnsByRounds_88 (by decide) ?_
        exact ih _ _ _ _ _ _ hf hw (lv_sub hl [1, 2, 0] rfl)
    refine L38 _ (fun _ _ σ18 H locs ls hf hw hl => ?_) N (1 : Int32) (0 : Int32) σ3 _ _ _ hf hw (lv_sub hl [2, 1, 0] rfl)
    refine lv_aload_n hx hb dX4_fewestTurnsByRounds_91 rfl (lv_at hl 0 rfl) ?_
    refine q_pI hf hw (fun v h => q_rV (As := []) (rest := []) (q := (RX4, TX4, 9)) X hK hw rfl (Nat.le_of_ble_eq_true rfl : 0 < cnt (gn Γ) 6) (rfl : vwCl[6]? = _) (kX4_turnsAtEnd h) mvX4_turnsAtEnd lk_X4_96 ⟨Nat.le_of_ble_eq_true rfl, Nat.le_of_ble_eq_true rfl⟩ rfl hl.1 rfl (Nat.le_of_ble_eq_true rfl) dX4_fewestTurnsByRounds_92 ⟨Nat.le_of_ble_eq_true rfl, Nat.le_of_ble_eq_true rfl⟩) (fun v19 H locs hf hw => ?_)
    refine lv_ldc (v := 1000000) hx hb hown (kw_at hK.2.2.2.2.1 1107 (by decide +kernel) rfl) dX4_fewestTurnsByRounds_95 ?_
    refine q_ic_ge (tgt := 107) hx hb hf dX4_fewestTurnsByRounds_97 (by decide) (fun hf => ?_) (fun hf => ?_)
    · refine lv_iconst (v := (-1)) hx hb dX4_fewestTurnsByRounds_107 (by decide) ?_
      exact q_eiret hf hx hb hr rfl hk hw dX4_fewestTurnsByRounds_108 (Nat.le_of_ble_eq_true rfl) (Nat.le_of_ble_eq_true rfl)
    refine lv_aload_n hx hb dX4_fewestTurnsByRounds_100 rfl (lv_at hl 0 rfl) ?_
    refine q_pI hf hw (fun v h => q_rV (As := []) (rest := []) (q := (RX4, TX4, 9)) X hK hw rfl (Nat.le_of_ble_eq_true rfl : 0 < cnt (gn Γ) 6) (rfl : vwCl[6]? = _) (kX4_turnsAtEnd h) mvX4_turnsAtEnd lk_X4_96 ⟨Nat.le_of_ble_eq_true rfl, Nat.le_of_ble_eq_true rfl⟩ rfl hl.1 rfl (Nat.le_of_ble_eq_true rfl) dX4_fewestTurnsByRounds_101 ⟨Nat.le_of_ble_eq_true rfl, Nat.le_of_ble_eq_true rfl⟩) (fun v20 H locs hf hw => ?_)
    refine lv_goto (tgt := 108) hx hb dX4_fewestTurnsByRounds_104 (by decide) ?_
    exact q_eiret hf hx hb hr rfl hk hw dX4_fewestTurnsByRounds_108 (Nat.le_of_ble_eq_true rfl) (Nat.le_of_ble_eq_true rfl)
  refine lv_iconst (v := (-1)) hx hb dX4_fewestTurnsByRounds_28 (by decide) ?_
  exact q_eiret hf hx hb hr rfl hk hw dX4_fewestTurnsByRounds_29 (Nat.le_of_ble_eq_true rfl) (Nat.le_of_ble_eq_true rfl)
set_option maxRecDepth 100000 in
theorem kX4_count {Γ : Gm} {S : List (String × Nat × String)} {l : Launch} {N : Nat} {σ τ : St} {x1 : Int32} {x2 : Int32}  (hf : fX4_count N σ x1 x2 = some τ) : CT Γ S l yX4_count cX4_count 3 none 1 21 0 0 [.ref (ga Γ 6 0), .int x1, .int x2] none σ τ := by
  unfold fX4_count at hf
  refine ct_body (lv := [(0, .ref (ga Γ 6 0)), (1, .int x1), (2, .int x2)]) (by decide +kernel) rfl (Nat.le_of_ble_eq_true rfl) ?_
  intro p e s m below meth c ls X hr hk hK hw hl
  have hx := X.1
  have hb := X.2.1
  have hown := X.2.2.2
  refine lv_iload_n hx hb dX4_count_0 rfl (lv_at hl 1 rfl) ?_
  refine q_if_lt (tgt := 32) hx hb hf dX4_count_1 (by decide) (fun hf => ?_) (fun hf => ?_)
  · exact q_vret hx hb hr hk hw dX4_count_32 hf (Nat.le_of_ble_eq_true rfl) (Nat.le_of_ble_eq_true rfl)
  refine lv_iload_n hx hb dX4_count_4 rfl (lv_at hl 1 rfl) ?_
  refine lv_sipush (v := 768) hx hb dX4_count_5 (by decide) ?_
  refine q_ic_ge (tgt := 32) hx hb hf dX4_count_8 (by decide) (fun hf => ?_) (fun hf => ?_)
  · exact q_vret hx hb hr hk hw dX4_count_32 hf (Nat.le_of_ble_eq_true rfl) (Nat.le_of_ble_eq_true rfl)
  refine lv_aload_n hx hb dX4_count_11 rfl (lv_at hl 0 rfl) ?_
  refine q_get (v := .ref (ga Γ 129 0)) hx hb hK hw hown in_X4 ins_X4 (rfl : vwCl[6]? = some (RX4, TX4, 9)) rfl (Nat.le_of_ble_eq_true rfl : 0 < cnt (gn Γ) 6) 2 (by decide) 260 fl_X4_19 rfl rfl dX4_count_12 ?_
  refine lv_iload_n hx hb dX4_count_15 rfl (lv_at hl 1 rfl) ?_
  refine q_iald hx hb hK hw (k := 129) (o := 0) (fun _ _ _ => rfl) (Nat.le_of_ble_eq_true rfl : 0 < cnt (gn Γ) 129) hf dX4_count_16 (fun hf => ?_)
  refine q_if_ne (tgt := 32) hx hb hf dX4_count_17 (by decide) (fun hf => ?_) (fun hf => ?_)
  · exact q_vret hx hb hr hk hw dX4_count_32 hf (Nat.le_of_ble_eq_true rfl) (Nat.le_of_ble_eq_true rfl)
  refine lv_aload_n hx hb dX4_count_20 rfl (lv_at hl 0 rfl) ?_
  refine q_get (v := .ref (ga Γ 129 0)) hx hb hK hw hown in_X4 ins_X4 (rfl : vwCl[6]? = some (RX4, TX4, 9)) rfl (Nat.le_of_ble_eq_true rfl : 0 < cnt (gn Γ) 6) 2 (by decide) 260 fl_X4_19 rfl rfl dX4_count_21 ?_
  refine lv_iload_n hx hb dX4_count_24 rfl (lv_at hl 1 rfl) ?_
  refine lv_iload_n hx hb dX4_count_25 rfl (lv_at hl 2 rfl) ?_
  refine q_iast hx hb hK hw (k := 129) (o := 0) (fun _ _ _ => rfl) (Nat.le_of_ble_eq_true rfl : 0 < cnt (gn Γ) 129) hf dX4_count_26 (fun σ1 H locs hf hw => ?_)
  refine lv_aload_n hx hb dX4_count_27 rfl (lv_at hl 0 rfl) ?_
  refine lv_iload_n hx hb dX4_count_28 rfl (lv_at hl 1 rfl) ?_
  refine q_eV hf hw (fun τ h => q_rV (As := [.int x1]) (rest := []) (q := (RX4, TX4, 9)) X hK hw rfl (Nat.le_of_ble_eq_true rfl : 0 < cnt (gn Γ) 6) (rfl : vwCl[6]? = _) (kX4_pushHere h) mvX4_pushHere lk_X4_88 ⟨Nat.le_of_ble_eq_true rfl, Nat.le_of_ble_eq_true rfl⟩ rfl hl.1 rfl (Nat.le_of_ble_eq_true rfl) dX4_count_29 ⟨Nat.le_of_ble_eq_true rfl, Nat.le_of_ble_eq_true rfl⟩) (fun σ2 H locs hf hw => ?_)
  exact q_vret hx hb hr hk hw dX4_count_32 hf (Nat.le_of_ble_eq_true rfl) (Nat.le_of_ble_eq_true rfl)
set_option maxRecDepth 100000 in
theorem kX4_countOn {Γ : Gm} {S : List (String × Nat × String)} {l : Launch} {N : Nat} {σ τ : St} {x1 : Int32}  (hf : fX4_countOn N σ x1 = some τ) : CT Γ S l yX4_countOn cX4_countOn 7 none 3 67 0 0 [.ref (ga Γ 6 0), .int x1] none σ τ := by
  unfold fX4_countOn at hf
  refine ct_body (lv := [(0, .ref (ga Γ 6 0)), (1, .int x1)]) (by decide +kernel) rfl (Nat.le_of_ble_eq_true rfl) ?_
  intro p e s m below meth c ls X hr hk hK hw hl
  have hx := X.1
  have hb := X.2.1
  have hown := X.2.2.2
  refine lv_aload_n hx hb dX4_countOn_0 rfl (lv_at hl 0 rfl) ?_
  refine q_get (v := .ref (ga Γ 128 0)) hx hb hK hw hown in_X4 ins_X4 (rfl : vwCl[6]? = some (RX4, TX4, 9)) rfl (Nat.le_of_ble_eq_true rfl : 0 < cnt (gn Γ) 6) 1 (by decide) 259 fl_X4_15 rfl rfl dX4_countOn_1 ?_
  refine lv_iload_n hx hb dX4_countOn_4 rfl (lv_at hl 1 rfl) ?_
  refine lv_ldc (v := 1000000) hx hb hown (kw_at hK.2.2.2.2.1 1107 (by decide +kernel) rfl) dX4_countOn_5 ?_
  refine q_pI hf hw (fun v h => q_rSN (As := [.ref (ga Γ 128 0), .int x1, .int (1000000 : Int32)]) (rest := []) X hK hw (kX7_intAt (fun _ _ _ => rfl) (Nat.le_of_ble_eq_true rfl : 0 < cnt (gn Γ) 128) h) msX7_intAt lk_X4_104 ⟨Nat.le_of_ble_eq_true rfl, Nat.le_of_ble_eq_true rfl⟩ rfl hl.1 rfl (Nat.le_of_ble_eq_true rfl) dX4_countOn_7 ⟨Nat.le_of_ble_eq_true rfl, Nat.le_of_ble_eq_true rfl⟩) (fun v1 H locs hf hw => ?_)
  refine lv_istore_n (lv' := [(2, .int v1), (0, .ref (ga Γ 6 0)), (1, .int x1)]) hx hb dX4_countOn_10 rfl hl (by decide) rfl (fun ls hl => ?_)
  refine lv_aload_n hx hb dX4_countOn_11 rfl (lv_at hl 1 rfl) ?_
  refine q_get (v := .ref (ga Γ 129 0)) hx hb hK hw hown in_X4 ins_X4 (rfl : vwCl[6]? = some (RX4, TX4, 9)) rfl (Nat.le_of_ble_eq_true rfl : 0 < cnt (gn Γ) 6) 2 (by decide) 260 fl_X4_19 rfl rfl dX4_countOn_12 ?_
  refine lv_iload_n hx hb dX4_countOn_15 rfl (lv_at hl 2 rfl) ?_
  refine lv_iconst (v := 0) hx hb dX4_countOn_16 (by decide) ?_
  refine q_pI hf hw (fun v h => q_rSN (As := [.ref (ga Γ 129 0), .int x1, .int (0 : Int32)]) (rest := []) X hK hw (kX7_intAt (fun _ _ _ => rfl) (Nat.le_of_ble_eq_true rfl : 0 < cnt (gn Γ) 129) h) msX7_intAt lk_X4_104 ⟨Nat.le_of_ble_eq_true rfl, Nat.le_of_ble_eq_true rfl⟩ rfl hl.1 rfl (Nat.le_of_ble_eq_true rfl) dX4_countOn_17 ⟨Nat.le_of_ble_eq_true rfl, Nat.le_of_ble_eq_true rfl⟩) (fun v2 H locs hf hw => ?_)
  refine lv_istore_n (lv' := [(3, .int v2), (2, .int v1), (0, .ref (ga Γ 6 0)), (1, .int x1)]) hx hb dX4_countOn_20 rfl hl (by decide) rfl (fun ls hl => ?_)
  refine lv_iconst (v := 0) hx hb dX4_countOn_21 (by decide) ?_
  refine lv_istore (lv' := [(4, .int (0 : Int32)), (3, .int v2), (2, .int v1), (0, .ref (ga Γ 6 0)), (1, .int x1)]) hx hb dX4_countOn_22 hl (by decide) rfl (fun ls hl => ?_)
  have L24 : ∀ (K : Int32 → St → Option (St)) (hkk : ∀ (y4 : Int32) (σq : St) (H : Heap) (locs : List Loc) (ls : Array Slot), K y4 σq = some τ → Sit Γ σq s H locs → lv_has ls 7 [] → W p l e { frames := 3, cells := 0, slots := 0, locals := 67 } s m [.ref (ga Γ 6 0), .int x1].toArray below meth c H locs 0 0 (MQ below (Qg Γ (none) τ (AA Γ s.heap.size)) [.ref (ga Γ 6 0), .int x1].toArray s 0 0 (AA Γ s.heap.size)) (F0 m 91 ls [])) (n : Nat) (v3 : Int32) (σ4 : St) (H : Heap) (locs : List Loc) (ls : Array Slot), fX4_countOn_L24 K N x1 v1 v2 n v3 σ4 = some τ → Sit Γ σ4 s H locs → lv_has ls 7 [(0, .ref (ga Γ 6 0)), (1, .int x1), (2, .int v1), (3, .int v2), (4, .int v3)] → W p l e { frames := 3, cells := 0, slots := 0, locals := 67 } s m [.ref (ga Γ 6 0), .int x1].toArray below meth c H locs 0 0 (MQ below (Qg Γ (none) τ (AA Γ s.heap.size)) [.ref (ga Γ 6 0), .int x1].toArray s 0 0 (AA Γ s.heap.size)) (F0 m 24 ls []) := by
    intro K hkk n
    induction n with
    | zero =>
      intro _ _ _ _ _ hf
      exact nomatch hf
    | succ n ih =>
      intro v3 σ4 H locs ls hf hw hl
      refine lv_iload hx hb dX4_countOn_24 (lv_at hl 4 rfl) ?_
      refine lv_iconst (v := 4) hx hb dX4_countOn_26 (by decide) ?_
      refine q_ic_ge (tgt := 91) hx hb hf dX4_countOn_27 (by decide) (fun hf => ?_) (fun hf => ?_)
      · exact hkk _ _ _ _ _ hf hw (lv_sub hl [] rfl)
      refine lv_aload_n hx hb dX4_countOn_30 rfl (lv_at hl 0 rfl) ?_
      refine lv_iload_n hx hb dX4_countOn_31 rfl (lv_at hl 1 rfl) ?_
      refine lv_iconst (v := 2) hx hb dX4_countOn_32 (by decide) ?_
      refine lv_idiv hx hb dX4_countOn_33 (by decide) ?_
      refine lv_iload hx hb dX4_countOn_34 (lv_at hl 4 rfl) ?_
      refine q_pI hf hw (fun v h => q_rV (As := [.int (x1 / (2 : Int32)), .int v3]) (rest := []) (q := (RX4, TX4, 9)) X hK hw rfl (Nat.le_of_ble_eq_true rfl : 0 < cnt (gn Γ) 6) (rfl : vwCl[6]? = _) (kX4_spotBeside h) mvX4_spotBeside lk_X4_113 ⟨Nat.le_of_ble_eq_true rfl, Nat.le_of_ble_eq_true rfl⟩ rfl hl.1 rfl (Nat.le_of_ble_eq_true rfl) dX4_countOn_36 ⟨Nat.le_of_ble_eq_true rfl, Nat.le_of_ble_eq_true rfl⟩) (fun v5 H locs hf hw => ?_)
      refine lv_istore (lv' := [(5, .int v5), (0, .ref (ga Γ 6 0)), (1, .int x1), (2, .int v1), (3, .int v2), (4, .int v3)]) hx hb dX4_countOn_39 hl (by decide) rfl (fun ls hl => ?_)
      refine lv_iload hx hb dX4_countOn_41 (lv_at hl 0 rfl) ?_
      refine lv_iconst (v := 2) hx hb dX4_countOn_43 (by decide) ?_
      refine lv_irem hx hb dX4_countOn_44 (by decide) ?_
      refine lv_iload_n hx hb dX4_countOn_45 rfl (lv_at hl 2 rfl) ?_
      refine lv_iconst (v := 2) hx hb dX4_countOn_46 (by decide) ?_
      refine lv_irem hx hb dX4_countOn_47 (by decide) ?_
      refine q_ic_ne (tgt := 55) hx hb hf dX4_countOn_48 (by decide) (fun hf => ?_) (fun hf => ?_)
      · refine lv_iload_n hx hb dX4_countOn_55 rfl (lv_at hl 3 rfl) ?_
        refine lv_iconst (v := 1) hx hb dX4_countOn_56 (by decide) ?_
        refine lv_iadd hx hb dX4_countOn_57 ?_
        refine q_istore (lv1 := [(5, .int v5), (0, .ref (ga Γ 6 0)), (1, .int x1), (2, .int v1), (3, .int v2), (4, .int v3)]) hx hb hf dX4_countOn_58 hl (by decide) rfl (fun v6 ls hf hl => ?_)
        refine lv_aload_n hx hb dX4_countOn_60 rfl (lv_at hl 2 rfl) ?_
        refine q_get (v := .ref (ga Γ 128 0)) hx hb hK hw hown in_X4 ins_X4 (rfl : vwCl[6]? = some (RX4, TX4, 9)) rfl (Nat.le_of_ble_eq_true rfl : 0 < cnt (gn Γ) 6) 1 (by decide) 259 fl_X4_15 rfl rfl dX4_countOn_61 ?_
        refine lv_iload hx hb dX4_countOn_64 (lv_at hl 1 rfl) ?_
        refine lv_ldc (v := 1000000) hx hb hown (kw_at hK.2.2.2.2.1 1107 (by decide +kernel) rfl) dX4_countOn_66 ?_
        refine q_pI hf hw (fun v h => q_rSN (As := [.ref (ga Γ 128 0), .int v5, .int (1000000 : Int32)]) (rest := []) X hK hw (kX7_intAt (fun _ _ _ => rfl) (Nat.le_of_ble_eq_true rfl : 0 < cnt (gn Γ) 128) h) msX7_intAt lk_X4_104 ⟨Nat.le_of_ble_eq_true rfl, Nat.le_of_ble_eq_true rfl⟩ rfl hl.1 rfl (Nat.le_of_ble_eq_true rfl) dX4_countOn_68 ⟨Nat.le_of_ble_eq_true rfl, Nat.le_of_ble_eq_true rfl⟩) (fun v7 H locs hf hw => ?_)
        refine lv_iload hx hb dX4_countOn_71 (lv_at hl 0 rfl) ?_
        refine q_ic_ne (tgt := 85) hx hb hf dX4_countOn_73 (by decide) (fun hf => ?_) (fun hf => ?_)
        · refine q_iinc (lv1 := [(6, .int v6), (5, .int v5), (0, .ref (ga Γ 6 0)), (1, .int x1), (2, .int v1), (3, .int v2)]) (d := 1) hx hb hf dX4_countOn_85 hl (k := 6) rfl (by decide) (by decide) rfl (fun v8 ls hf hl => ?_)
          refine lv_goto (tgt := 24) hx hb dX4_countOn_88 (by decide) ?_
          exact ih _ _ _ _ _ hf hw (lv_sub hl [3, 4, 5, 6, 0] rfl)
        refine lv_aload_n hx hb dX4_countOn_76 rfl (lv_at hl 2 rfl) ?_
        refine lv_iload hx hb dX4_countOn_77 (lv_at hl 1 rfl) ?_
        refine lv_iload_n hx hb dX4_countOn_79 rfl (lv_at hl 5 rfl) ?_
        refine lv_iconst (v := 1) hx hb dX4_countOn_80 (by decide) ?_
        refine lv_iadd hx hb dX4_countOn_81 ?_
        refine q_eV hf hw (fun τ h => q_rV (As := [.int v5, .int (v2 + (1 : Int32))]) (rest := []) (q := (RX4, TX4, 9)) X hK hw rfl (Nat.le_of_ble_eq_true rfl : 0 < cnt (gn Γ) 6) (rfl : vwCl[6]? = _) (kX4_count h) mvX4_count lk_X4_128 ⟨Nat.le_of_ble_eq_true rfl, Nat.le_of_ble_eq_true rfl⟩ rfl hl.1 rfl (Nat.le_of_ble_eq_true rfl) dX4_countOn_82 ⟨Nat.le_of_ble_eq_true rfl, Nat.le_of_ble_eq_true rfl⟩) (fun σ9 H locs hf hw => ?_)
        refine q_iinc (lv1 := [(6, .int v6), (5, .int v5), (0, .ref (ga Γ 6 0)), (1, .int x1), (2, .int v1), (3, .int v2)]) (d := 1) hx hb hf dX4_countOn_85 hl (k := 6) rfl (by decide) (by decide) rfl (fun v10 ls hf hl => ?_)
        refine lv_goto (tgt := 24) hx hb dX4_countOn_88 (by decide) ?_
        exact ih _ _ _ _ _ hf hw (lv_sub hl [3, 4, 5, 6, 0] rfl)
      refine lv_iload_n hx hb dX4_countOn_51 rfl (lv_at hl 3 rfl) ?_
      refine lv_goto (tgt := 58) hx hb dX4_countOn_52 (by decide) ?_
      refine lv_istore (lv' := [(6, .int v1), (5, .int v5), (0, .ref (ga Γ 6 0)), (1, .int x1), (2, .int v1), (3, .int v2), (4, .int v3)]) hx hb dX4_countOn_58 hl (by decide) rfl (fun ls hl => ?_)
      refine lv_aload_n hx hb dX4_countOn_60 rfl (lv_at hl 2 rfl) ?_
      refine q_get (v := .ref (ga Γ 128 0)) hx hb hK hw hown in_X4 ins_X4 (rfl : vwCl[6]? = some (RX4, TX4, 9)) rfl (Nat.le_of_ble_eq_true rfl : 0 < cnt (gn Γ) 6) 1 (by decide) 259 fl_X4_15 rfl rfl dX4_countOn_61 ?_
      refine lv_iload hx hb dX4_countOn_64 (lv_at hl 1 rfl) ?_
      refine lv_ldc (v := 1000000) hx hb hown (kw_at hK.2.2.2.2.1 1107 (by decide +kernel) rfl) dX4_countOn_66 ?_
      refine q_pI hf hw (fun v h => q_rSN (As := [.ref (ga Γ 128 0), .int v5, .int (1000000 : Int32)]) (rest := []) X hK hw (kX7_intAt (fun _ _ _ => rfl) (Nat.le_of_ble_eq_true rfl : 0 < cnt (gn Γ) 128) h) msX7_intAt lk_X4_104 ⟨Nat.le_of_ble_eq_true rfl, Nat.le_of_ble_eq_true rfl⟩ rfl hl.1 rfl (Nat.le_of_ble_eq_true rfl) dX4_countOn_68 ⟨Nat.le_of_ble_eq_true rfl, Nat.le_of_ble_eq_true rfl⟩) (fun v11 H locs hf hw => ?_)
      refine lv_iload hx hb dX4_countOn_71 (lv_at hl 0 rfl) ?_
      refine q_ic_ne (tgt := 85) hx hb hf dX4_countOn_73 (by decide) (fun hf => ?_) (fun hf => ?_)
      · refine q_iinc (lv1 := [(6, .int v1), (5, .int v5), (0, .ref (ga Γ 6 0)), (1, .int x1), (2, .int v1), (3, .int v2)]) (d := 1) hx hb hf dX4_countOn_85 hl (k := 6) rfl (by decide) (by decide) rfl (fun v12 ls hf hl => ?_)
        refine lv_goto (tgt := 24) hx hb dX4_countOn_88 (by decide) ?_
        exact ih _ _ _ _ _ hf hw (lv_sub hl [3, 4, 5, 6, 0] rfl)
      refine lv_aload_n hx hb dX4_countOn_76 rfl (lv_at hl 2 rfl) ?_
      refine lv_iload hx hb dX4_countOn_77 (lv_at hl 1 rfl) ?_
      refine lv_iload_n hx hb dX4_countOn_79 rfl (lv_at hl 5 rfl) ?_
      refine lv_iconst (v := 1) hx hb dX4_countOn_80 (by decide) ?_
      refine lv_iadd hx hb dX4_countOn_81 ?_
      refine q_eV hf hw (fun τ h => q_rV (As := [.int v5, .int (v2 + (1 : Int32))]) (rest := []) (q := (RX4, TX4, 9)) X hK hw rfl (Nat.le_of_ble_eq_true rfl : 0 < cnt (gn Γ) 6) (rfl : vwCl[6]? = _) (kX4_count h) mvX4_count lk_X4_128 ⟨Nat.le_of_ble_eq_true rfl, Nat.le_of_ble_eq_true rfl⟩ rfl hl.1 rfl (Nat.le_of_ble_eq_true rfl) dX4_countOn_82 ⟨Nat.le_of_ble_eq_true rfl, Nat.le_of_ble_eq_true rfl⟩) (fun σ13 H locs hf hw => ?_)
      refine q_iinc (lv1 := [(6, .int v1), (5, .int v5), (0, .ref (ga Γ 6 0)), (1, .int x1), (2, .int v1), (3, .int v2)]) (d := 1) hx hb hf dX4_countOn_85 hl (k := 6) rfl (by decide) (by decide) rfl (fun v14 ls hf hl => ?_)
      refine lv_goto (tgt := 24) hx hb dX4_countOn_88 (by decide) ?_
      exact ih _ _ _ _ _ hf hw (lv_sub hl [3, 4, 5, 6, 0] rfl)
  refine L24 _ (fun _ σ15 H locs ls hf hw hl => ?_) N (0 : Int32) σ _ _ _ hf hw (lv_sub hl [3, 4, 2, 1, 0] rfl)
  exact q_vret hx hb hr hk hw dX4_countOn_91 hf (Nat.le_of_ble_eq_true rfl) (Nat.le_of_ble_eq_true rfl)
set_option maxRecDepth 100000 in
theorem kX4_fewestCells {Γ : Gm} {S : List (String × Nat × String)} {l : Launch} {N : Nat} {σ τ : St} {r : Int32}  (hf : fX4_fewestCells N σ = some (r, τ)) : CT Γ S l yX4_fewestCells cX4_fewestCells 4 (some (.int)) 5 114 0 0 [.ref (ga Γ 6 0)] (some (.int r)) σ τ := by
  unfold fX4_fewestCells at hf
  refine ct_body (lv := [(0, .ref (ga Γ 6 0))]) (by decide +kernel) rfl (Nat.le_of_ble_eq_true rfl) ?_
  intro p e s m below meth c ls X hr hk hK hw hl
  have hx := X.1
  have hb := X.2.1
  have hown := X.2.2.2
  refine lv_aload_n hx hb dX4_fewestCells_0 rfl (lv_at hl 0 rfl) ?_
  refine q_eI hf hw (fun v τ h => q_rV (As := []) (rest := []) (q := (RX4, TX4, 9)) X hK hw rfl (Nat.le_of_ble_eq_true rfl : 0 < cnt (gn Γ) 6) (rfl : vwCl[6]? = _) (kX4_fewestTurns h) mvX4_fewestTurns lk_X4_125 ⟨Nat.le_of_ble_eq_true rfl, Nat.le_of_ble_eq_true rfl⟩ rfl hl.1 rfl (Nat.le_of_ble_eq_true rfl) dX4_fewestCells_1 ⟨Nat.le_of_ble_eq_true rfl, Nat.le_of_ble_eq_true rfl⟩) (fun v2 σ1 H locs hf hw => ?_)
  refine lv_istore_n (lv' := [(1, .int v2), (0, .ref (ga Γ 6 0))]) hx hb dX4_fewestCells_4 rfl hl (by decide) rfl (fun ls hl => ?_)
  refine lv_iload_n hx hb dX4_fewestCells_5 rfl (lv_at hl 0 rfl) ?_
  refine lv_iconst (v := (-1)) hx hb dX4_fewestCells_6 (by decide) ?_
  refine q_ic_ne (tgt := 12) hx hb hf dX4_fewestCells_7 (by decide) (fun hf => ?_) (fun hf => ?_)
  · refine lv_iconst (v := 0) hx hb dX4_fewestCells_12 (by decide) ?_
    refine lv_istore_n (lv' := [(2, .int (0 : Int32)), (1, .int v2), (0, .ref (ga Γ 6 0))]) hx hb dX4_fewestCells_13 rfl hl (by decide) rfl (fun ls hl => ?_)
    have L14 : ∀ (K : Int32 → St → Option ((Int32 × St))) (hkk : ∀ (y2 : Int32) (σq : St) (H : Heap) (locs : List Loc) (ls : Array Slot), K y2 σq = some (r, τ) → Sit Γ σq s H locs → lv_has ls 4 [(0, .ref (ga Γ 6 0)), (1, .int v2)] → W p l e { frames := 5, cells := 0, slots := 0, locals := 114 } s m [.ref (ga Γ 6 0)].toArray below meth c H locs 0 0 (MQ below (Qg Γ (some (.int r)) τ (AA Γ s.heap.size)) [.ref (ga Γ 6 0)].toArray s 0 0 (AA Γ s.heap.size)) (F0 m 34 ls [])) (n : Nat) (v3 : Int32) (σ4 : St) (H : Heap) (locs : List Loc) (ls : Array Slot), fX4_fewestCells_L14 K N n v3 σ4 = some (r, τ) → Sit Γ σ4 s H locs → lv_has ls 4 [(0, .ref (ga Γ 6 0)), (1, .int v2), (2, .int v3)] → W p l e { frames := 5, cells := 0, slots := 0, locals := 114 } s m [.ref (ga Γ 6 0)].toArray below meth c H locs 0 0 (MQ below (Qg Γ (some (.int r)) τ (AA Γ s.heap.size)) [.ref (ga Γ 6 0)].toArray s 0 0 (AA Γ s.heap.size)) (F0 m 14 ls []) := by
      intro K hkk n
      induction n with
      | zero =>
        intro _ _ _ _ _ hf
        exact nomatch hf
      | succ n ih =>
        intro v3 σ4 H locs ls hf hw hl
        refine lv_iload_n hx hb dX4_fewestCells_14 rfl (lv_at hl 2 rfl) ?_
        refine lv_sipush (v := 768) hx hb dX4_fewestCells_15 (by decide) ?_
        refine q_ic_ge (tgt := 34) hx hb hf dX4_fewestCells_18 (by decide) (fun hf => ?_) (fun hf => ?_)
        · exact hkk _ _ _ _ _ hf hw (lv_sub hl [0, 1] rfl)
        refine lv_aload_n hx hb dX4_fewestCells_21 rfl (lv_at hl 0 rfl) ?_
        refine q_get (v := .ref (ga Γ 129 0)) hx hb hK hw hown in_X4 ins_X4 (rfl : vwCl[6]? = some (RX4, TX4, 9)) rfl (Nat.le_of_ble_eq_true rfl : 0 < cnt (gn Γ) 6) 2 (by decide) 260 fl_X4_19 rfl rfl dX4_fewestCells_22 ?_
        refine lv_iload_n hx hb dX4_fewestCells_25 rfl (lv_at hl 2 rfl) ?_
        refine lv_iconst (v := 0) hx hb dX4_fewestCells_26 (by decide) ?_
        refine q_iast hx hb hK hw (k := 129) (o := 0) (fun _ _ _ => rfl) (Nat.le_of_ble_eq_true rfl : 0 < cnt (gn Γ) 129) hf dX4_fewestCells_27 (fun σ5 H locs hf hw => ?_)
        refine q_iinc (lv1 := [(0, .ref (ga Γ 6 0)), (1, .int v2)]) (d := 1) hx hb hf dX4_fewestCells_28 hl (k := 2) rfl (by decide) (by decide) rfl (fun v6 ls hf hl => ?_)
        refine lv_goto (tgt := 14) hx hb dX4_fewestCells_31 (by decide) ?_
        exact ih _ _ _ _ _ hf hw (lv_sub hl [1, 2, 0] rfl)
    refine L14 _ (fun _ σ7 H locs ls hf hw hl => ?_) N (0 : Int32) σ1 _ _ _ hf hw (lv_sub hl [2, 1, 0] rfl)
    refine lv_aload_n hx hb dX4_fewestCells_34 rfl (lv_at hl 0 rfl) ?_
    refine lv_iconst (v := 0) hx hb dX4_fewestCells_35 (by decide) ?_
    refine q_puti (v := (0 : Int32)) hx hb hK hw hown in_X4 ins_X4 tyX4 tyX4_ok nmX4 (rfl : vwCl[6]? = some (RX4, TX4, 9)) (fun _ _ _ => rfl) (Nat.le_of_ble_eq_true rfl : 0 < cnt (gn Γ) 6) 5 (by decide) 263 fl_X4_82 rfl rfl rfl (fun _ _ _ => Nat.le_of_ble_eq_true rfl) (fun _ _ _ => rfl) hf dX4_fewestCells_36 (fun σ8 H locs hf hw => ?_)
    refine lv_aload_n hx hb dX4_fewestCells_39 rfl (lv_at hl 0 rfl) ?_
    refine lv_aload_n hx hb dX4_fewestCells_40 rfl (lv_at hl 0 rfl) ?_
    refine q_get (v := .int (gI σ8 6 0 7)) hx hb hK hw hown in_X4 ins_X4 (rfl : vwCl[6]? = some (RX4, TX4, 9)) rfl (Nat.le_of_ble_eq_true rfl : 0 < cnt (gn Γ) 6) 7 (by decide) 265 fl_X4_28 rfl rfl dX4_fewestCells_41 ?_
    refine lv_iconst (v := 2) hx hb dX4_fewestCells_44 (by decide) ?_
    refine lv_imul hx hb dX4_fewestCells_45 ?_
    refine lv_iconst (v := 1) hx hb dX4_fewestCells_46 (by decide) ?_
    refine q_eV hf hw (fun τ h => q_rV (As := [.int ((gI σ8 6 0 7) * (2 : Int32)), .int (1 : Int32)]) (rest := []) (q := (RX4, TX4, 9)) X hK hw rfl (Nat.le_of_ble_eq_true rfl : 0 < cnt (gn Γ) 6) (rfl : vwCl[6]? = _) (kX4_count h) mvX4_count lk_X4_128 ⟨Nat.le_of_ble_eq_true rfl, Nat.le_of_ble_eq_true rfl⟩ rfl hl.1 rfl (Nat.le_of_ble_eq_true rfl) dX4_fewestCells_47 ⟨Nat.le_of_ble_eq_true rfl, Nat.le_of_ble_eq_true rfl⟩) (fun σ9 H locs hf hw => ?_)
    refine lv_aload_n hx hb dX4_fewestCells_50 rfl (lv_at hl 0 rfl) ?_
    refine lv_aload_n hx hb dX4_fewestCells_51 rfl (lv_at hl 0 rfl) ?_
    refine q_get (v := .int (gI σ9 6 0 7)) hx hb hK hw hown in_X4 ins_X4 (rfl : vwCl[6]? = some (RX4, TX4, 9)) rfl (Nat.le_of_ble_eq_true rfl : 0 < cnt (gn Γ) 6) 7 (by decide) 265 fl_X4_28 rfl rfl dX4_fewestCells_52 ?_
    refine lv_iconst (v := 2) hx hb dX4_fewestCells_55 (by decide) ?_
    refine lv_imul hx hb dX4_fewestCells_56 ?_
    refine lv_iconst (v := 1) hx hb dX4_fewestCells_57 (by decide) ?_
    refine lv_iadd hx hb dX4_fewestCells_58 ?_
    refine lv_iconst (v := 1) hx hb dX4_fewestCells_59 (by decide) ?_
    refine q_eV hf hw (fun τ h => q_rV (As := [.int (((gI σ9 6 0 7) * (2 : Int32)) + (1 : Int32)), .int (1 : Int32)]) (rest := []) (q := (RX4, TX4, 9)) X hK hw rfl (Nat.le_of_ble_eq_true rfl : 0 < cnt (gn Γ) 6) (rfl : vwCl[6]? = _) (kX4_count h) mvX4_count lk_X4_128 ⟨Nat.le_of_ble_eq_true rfl, Nat.le_of_ble_eq_true rfl⟩ rfl hl.1 rfl (Nat.le_of_ble_eq_true rfl) dX4_fewestCells_60 ⟨Nat.le_of_ble_eq_true rfl, Nat.le_of_ble_eq_true rfl⟩) (fun σ10 H locs hf hw => ?_)
    refine lv_iconst (v := 0) hx hb dX4_fewestCells_63 (by decide) ?_
    refine lv_istore_n (lv' := [(2, .int (0 : Int32)), (0, .ref (ga Γ 6 0)), (1, .int v2)]) hx hb dX4_fewestCells_64 rfl hl (by decide) rfl (fun ls hl => ?_)
    have L65 : ∀ (K : Int32 → St → Option ((Int32 × St))) (hkk : ∀ (y2 : Int32) (σq : St) (H : Heap) (locs : List Loc) (ls : Array Slot), K y2 σq = some (r, τ) → Sit Γ σq s H locs → lv_has ls 4 [] → W p l e { frames := 5, cells := 0, slots := 0, locals := 114 } s m [.ref (ga Γ 6 0)].toArray below meth c H locs 0 0 (MQ below (Qg Γ (some (.int r)) τ (AA Γ s.heap.size)) [.ref (ga Γ 6 0)].toArray s 0 0 (AA Γ s.heap.size)) (F0 m 132 ls [])) (n : Nat) (v11 : Int32) (σ12 : St) (H : Heap) (locs : List Loc) (ls : Array Slot), fX4_fewestCells_L65 K N v2 n v11 σ12 = some (r, τ) → Sit Γ σ12 s H locs → lv_has ls 4 [(0, .ref (ga Γ 6 0)), (1, .int v2), (2, .int v11)] → W p l e { frames := 5, cells := 0, slots := 0, locals := 114 } s m [.ref (ga Γ 6 0)].toArray below meth c H locs 0 0 (MQ below (Qg Γ (some (.int r)) τ (AA Γ s.heap.size)) [.ref (ga Γ 6 0)].toArray s 0 0 (AA Γ s.heap.size)) (F0 m 65 ls []) := by
      intro K hkk n
      induction n with
      | zero =>
        intro _ _ _ _ _ hf
        exact nomatch hf
      | succ n ih =>
        intro v11 σ12 H locs ls hf hw hl
        refine lv_iload_n hx hb dX4_fewestCells_65 rfl (lv_at hl 2 rfl) ?_
        refine lv_aload_n hx hb dX4_fewestCells_66 rfl (lv_at hl 0 rfl) ?_
        refine q_get (v := .int (gI σ12 6 0 5)) hx hb hK hw hown in_X4 ins_X4 (rfl : vwCl[6]? = some (RX4, TX4, 9)) rfl (Nat.le_of_ble_eq_true rfl : 0 < cnt (gn Γ) 6) 5 (by decide) 263 fl_X4_82 rfl rfl dX4_fewestCells_67 ?_
        refine q_ic_ge (tgt := 132) hx hb hf dX4_fewestCells_70 (by decide) (fun hf => ?_) (fun hf => ?_)
        · exact hkk _ _ _ _ _ hf hw (lv_sub hl [] rfl)
        refine lv_iload_n hx hb dX4_fewestCells_73 rfl (lv_at hl 2 rfl) ?_
        refine lv_sipush (v := 768) hx hb dX4_fewestCells_74 (by decide) ?_
        refine q_ic_ge (tgt := 132) hx hb hf dX4_fewestCells_77 (by decide) (fun hf => ?_) (fun hf => ?_)
        · exact hkk _ _ _ _ _ hf hw (lv_sub hl [] rfl)
        refine lv_aload_n hx hb dX4_fewestCells_80 rfl (lv_at hl 0 rfl) ?_
        have ho_h13 := of_decide_eq_true (ck_t hf).1
        replace hf := (ck_t hf).2
        refine q_get (v := .ref (ga Γ 131 ((gR σ12 0)))) hx hb hK hw hown in_X4 ins_X4 (rfl : vwCl[6]? = some (RX4, TX4, 9)) rfl (Nat.le_of_ble_eq_true rfl : 0 < cnt (gn Γ) 6) 3 (by decide) 261 fl_X4_22 rfl rfl dX4_fewestCells_81 ?_
        refine lv_iload_n hx hb dX4_fewestCells_84 rfl (lv_at hl 2 rfl) ?_
        refine q_iald hx hb hK hw (k := 131) (o := (gR σ12 0)) (fun _ _ _ => rfl) ho_h13 hf dX4_fewestCells_85 (fun hf => ?_)
        refine q_istore_n (lv1 := [(0, .ref (ga Γ 6 0)), (1, .int v2), (2, .int v11)]) hx hb hf dX4_fewestCells_86 rfl hl (by decide) rfl (fun v14 ls hf hl => ?_)
        refine lv_iload_n hx hb dX4_fewestCells_87 rfl (lv_at hl 0 rfl) ?_
        refine lv_iconst (v := 2) hx hb dX4_fewestCells_88 (by decide) ?_
        refine lv_idiv hx hb dX4_fewestCells_89 (by decide) ?_
        refine lv_aload_n hx hb dX4_fewestCells_90 rfl (lv_at hl 1 rfl) ?_
        refine q_get (v := .int (gI σ12 6 0 8)) hx hb hK hw hown in_X4 ins_X4 (rfl : vwCl[6]? = some (RX4, TX4, 9)) rfl (Nat.le_of_ble_eq_true rfl : 0 < cnt (gn Γ) 6) 8 (by decide) 266 fl_X4_32 rfl rfl dX4_fewestCells_91 ?_
        refine q_ic_ne (tgt := 121) hx hb hf dX4_fewestCells_94 (by decide) (fun hf => ?_) (fun hf => ?_)
        · refine lv_aload_n hx hb dX4_fewestCells_121 rfl (lv_at hl 1 rfl) ?_
          refine lv_iload_n hx hb dX4_fewestCells_122 rfl (lv_at hl 0 rfl) ?_
          refine q_eV hf hw (fun τ h => q_rV (As := [.int v14]) (rest := []) (q := (RX4, TX4, 9)) X hK hw rfl (Nat.le_of_ble_eq_true rfl : 0 < cnt (gn Γ) 6) (rfl : vwCl[6]? = _) (kX4_countOn h) mvX4_countOn lk_X4_131 ⟨Nat.le_of_ble_eq_true rfl, Nat.le_of_ble_eq_true rfl⟩ rfl hl.1 rfl (Nat.le_of_ble_eq_true rfl) dX4_fewestCells_123 ⟨Nat.le_of_ble_eq_true rfl, Nat.le_of_ble_eq_true rfl⟩) (fun σ15 H locs hf hw => ?_)
          refine q_iinc (lv1 := [(3, .int v14), (0, .ref (ga Γ 6 0)), (1, .int v2)]) (d := 1) hx hb hf dX4_fewestCells_126 hl (k := 3) rfl (by decide) (by decide) rfl (fun v16 ls hf hl => ?_)
          refine lv_goto (tgt := 65) hx hb dX4_fewestCells_129 (by decide) ?_
          exact ih _ _ _ _ _ hf hw (lv_sub hl [2, 3, 0] rfl)
        refine lv_aload_n hx hb dX4_fewestCells_97 rfl (lv_at hl 1 rfl) ?_
        refine q_get (v := .ref (ga Γ 128 0)) hx hb hK hw hown in_X4 ins_X4 (rfl : vwCl[6]? = some (RX4, TX4, 9)) rfl (Nat.le_of_ble_eq_true rfl : 0 < cnt (gn Γ) 6) 1 (by decide) 259 fl_X4_15 rfl rfl dX4_fewestCells_98 ?_
        refine lv_iload_n hx hb dX4_fewestCells_101 rfl (lv_at hl 0 rfl) ?_
        refine lv_ldc (v := 1000000) hx hb hown (kw_at hK.2.2.2.2.1 1107 (by decide +kernel) rfl) dX4_fewestCells_102 ?_
        refine q_pI hf hw (fun v h => q_rSN (As := [.ref (ga Γ 128 0), .int v14, .int (1000000 : Int32)]) (rest := []) X hK hw (kX7_intAt (fun _ _ _ => rfl) (Nat.le_of_ble_eq_true rfl : 0 < cnt (gn Γ) 128) h) msX7_intAt lk_X4_104 ⟨Nat.le_of_ble_eq_true rfl, Nat.le_of_ble_eq_true rfl⟩ rfl hl.1 rfl (Nat.le_of_ble_eq_true rfl) dX4_fewestCells_104 ⟨Nat.le_of_ble_eq_true rfl, Nat.le_of_ble_eq_true rfl⟩) (fun v17 H locs hf hw => ?_)
        refine lv_iload_n hx hb dX4_fewestCells_107 rfl (lv_at hl 2 rfl) ?_
        refine q_ic_ne (tgt := 121) hx hb hf dX4_fewestCells_108 (by decide) (fun hf => ?_) (fun hf => ?_)
        · refine lv_aload_n hx hb dX4_fewestCells_121 rfl (lv_at hl 1 rfl) ?_
          refine lv_iload_n hx hb dX4_fewestCells_122 rfl (lv_at hl 0 rfl) ?_
          refine q_eV hf hw (fun τ h => q_rV (As := [.int v14]) (rest := []) (q := (RX4, TX4, 9)) X hK hw rfl (Nat.le_of_ble_eq_true rfl : 0 < cnt (gn Γ) 6) (rfl : vwCl[6]? = _) (kX4_countOn h) mvX4_countOn lk_X4_131 ⟨Nat.le_of_ble_eq_true rfl, Nat.le_of_ble_eq_true rfl⟩ rfl hl.1 rfl (Nat.le_of_ble_eq_true rfl) dX4_fewestCells_123 ⟨Nat.le_of_ble_eq_true rfl, Nat.le_of_ble_eq_true rfl⟩) (fun σ18 H locs hf hw => ?_)
          refine q_iinc (lv1 := [(3, .int v14), (0, .ref (ga Γ 6 0)), (1, .int v2)]) (d := 1) hx hb hf dX4_fewestCells_126 hl (k := 3) rfl (by decide) (by decide) rfl (fun v19 ls hf hl => ?_)
          refine lv_goto (tgt := 65) hx hb dX4_fewestCells_129 (by decide) ?_
          exact ih _ _ _ _ _ hf hw (lv_sub hl [2, 3, 0] rfl)
        refine lv_aload_n hx hb dX4_fewestCells_111 rfl (lv_at hl 1 rfl) ?_
        refine q_get (v := .ref (ga Γ 129 0)) hx hb hK hw hown in_X4 ins_X4 (rfl : vwCl[6]? = some (RX4, TX4, 9)) rfl (Nat.le_of_ble_eq_true rfl : 0 < cnt (gn Γ) 6) 2 (by decide) 260 fl_X4_19 rfl rfl dX4_fewestCells_112 ?_
        refine lv_iload_n hx hb dX4_fewestCells_115 rfl (lv_at hl 0 rfl) ?_
        refine lv_iconst (v := (-1)) hx hb dX4_fewestCells_116 (by decide) ?_
        refine q_pI hf hw (fun v h => q_rSN (As := [.ref (ga Γ 129 0), .int v14, .int ((-1) : Int32)]) (rest := []) X hK hw (kX7_intAt (fun _ _ _ => rfl) (Nat.le_of_ble_eq_true rfl : 0 < cnt (gn Γ) 129) h) msX7_intAt lk_X4_104 ⟨Nat.le_of_ble_eq_true rfl, Nat.le_of_ble_eq_true rfl⟩ rfl hl.1 rfl (Nat.le_of_ble_eq_true rfl) dX4_fewestCells_117 ⟨Nat.le_of_ble_eq_true rfl, Nat.le_of_ble_eq_true rfl⟩) (fun v20 H locs hf hw => ?_)
        exact q_eiret hf hx hb hr rfl hk hw dX4_fewestCells_120 (Nat.le_of_ble_eq_true rfl) (Nat.le_of_ble_eq_true rfl)
    refine L65 _ (fun _ σ21 H locs ls hf hw hl => ?_) N (0 : Int32) σ10 _ _ _ hf hw (lv_sub hl [1, 2, 0] rfl)
    refine lv_iconst (v := (-1)) hx hb dX4_fewestCells_132 (by decide) ?_
    exact q_eiret hf hx hb hr rfl hk hw dX4_fewestCells_133 (Nat.le_of_ble_eq_true rfl) (Nat.le_of_ble_eq_true rfl)
  refine lv_iconst (v := (-1)) hx hb dX4_fewestCells_10 (by decide) ?_
  exact q_eiret hf hx hb hr rfl hk hw dX4_fewestCells_11 (Nat.le_of_ble_eq_true rfl) (Nat.le_of_ble_eq_true rfl)
set_option maxRecDepth 100000 in
theorem kX6_allVotesFor {Γ : Gm} {S : List (String × Nat × String)} {l : Launch} {N : Nat} {σ : St} {o : Nat} {x1 : Int32} {r : Int32} (ho : o < 4) (hf : fX6_allVotesFor N σ o x1 = some r) : CT Γ S l yX6_allVotesFor cX6_allVotesFor 4 (some (.int)) 2 43 0 0 [.ref (ga Γ 7 o), .int x1] (some (.int r)) σ σ := by
  unfold fX6_allVotesFor at hf
  refine ct_body (lv := [(0, .ref (ga Γ 7 o)), (1, .int x1)]) (by decide +kernel) rfl (Nat.le_of_ble_eq_true rfl) ?_
  intro p e s m below meth c ls X hr hk hK hw hl
  have hx := X.1
  have hb := X.2.1
  have hown := X.2.2.2
  refine lv_iconst (v := 0) hx hb dX6_allVotesFor_0 (by decide) ?_
  refine lv_istore_n (lv' := [(2, .int (0 : Int32)), (0, .ref (ga Γ 7 o)), (1, .int x1)]) hx hb dX6_allVotesFor_1 rfl hl (by decide) rfl (fun ls hl => ?_)
  refine lv_iconst (v := 0) hx hb dX6_allVotesFor_2 (by decide) ?_
  refine lv_istore_n (lv' := [(3, .int (0 : Int32)), (2, .int (0 : Int32)), (0, .ref (ga Γ 7 o)), (1, .int x1)]) hx hb dX6_allVotesFor_3 rfl hl (by decide) rfl (fun ls hl => ?_)
  have L4 : ∀ (K : Int32 → Int32 → Option (Int32)) (hkk : ∀ (y2 : Int32) (y3 : Int32) (H : Heap) (locs : List Loc) (ls : Array Slot), K y2 y3 = some r → Sit Γ σ s H locs → lv_has ls 4 [(2, .int y2)] → W p l e { frames := 2, cells := 0, slots := 0, locals := 43 } s m [.ref (ga Γ 7 o), .int x1].toArray below meth c H locs 0 0 (MQ below (Qg Γ (some (.int r)) σ (AA Γ s.heap.size)) [.ref (ga Γ 7 o), .int x1].toArray s 0 0 (AA Γ s.heap.size)) (F0 m 24 ls [])) (n : Nat) (v1 : Int32) (v2 : Int32) (H : Heap) (locs : List Loc) (ls : Array Slot), fX6_allVotesFor_L4 K N σ o x1 n v1 v2 = some r → Sit Γ σ s H locs → lv_has ls 4 [(0, .ref (ga Γ 7 o)), (1, .int x1), (2, .int v1), (3, .int v2)] → W p l e { frames := 2, cells := 0, slots := 0, locals := 43 } s m [.ref (ga Γ 7 o), .int x1].toArray below meth c H locs 0 0 (MQ below (Qg Γ (some (.int r)) σ (AA Γ s.heap.size)) [.ref (ga Γ 7 o), .int x1].toArray s 0 0 (AA Γ s.heap.size)) (F0 m 4 ls []) := by
    intro K hkk n
    induction n with
    | zero =>
      intro _ _ _ _ _ hf
      exact nomatch hf
    | succ n ih =>
      intro v1 v2 H locs ls hf hw hl
      refine lv_iload_n hx hb dX6_allVotesFor_4 rfl (lv_at hl 3 rfl) ?_
      refine lv_iconst (v := 3) hx hb dX6_allVotesFor_5 (by decide) ?_
      refine q_ic_ge (tgt := 24) hx hb hf dX6_allVotesFor_6 (by decide) (fun hf => ?_) (fun hf => ?_)
      · exact hkk _ _ _ _ _ hf hw (lv_sub hl [2] rfl)
      refine lv_iload_n hx hb dX6_allVotesFor_9 rfl (lv_at hl 2 rfl) ?_
      refine lv_aload_n hx hb dX6_allVotesFor_10 rfl (lv_at hl 0 rfl) ?_
      refine lv_iload_n hx hb dX6_allVotesFor_11 rfl (lv_at hl 3 rfl) ?_
      refine lv_iload_n hx hb dX6_allVotesFor_12 rfl (lv_at hl 1 rfl) ?_
      refine q_pI hf hw (fun v h => q_rV (As := [.int v2, .int x1]) (rest := [.int v1]) (q := (RX6, TX6, 2)) X hK hw rfl ho (rfl : vwCl[8]? = _) (kX6_votesBy ho h) mvX6_votesBy lk_X6_101 ⟨Nat.le_of_ble_eq_true rfl, Nat.le_of_ble_eq_true rfl⟩ rfl hl.1 rfl (Nat.le_of_ble_eq_true rfl) dX6_allVotesFor_13 ⟨Nat.le_of_ble_eq_true rfl, Nat.le_of_ble_eq_true rfl⟩) (fun v3 H locs hf hw => ?_)
      refine lv_iadd hx hb dX6_allVotesFor_16 ?_
      refine q_istore_n (lv1 := [(0, .ref (ga Γ 7 o)), (1, .int x1), (3, .int v2)]) hx hb hf dX6_allVotesFor_17 rfl hl (by decide) rfl (fun v4 ls hf hl => ?_)
      refine q_iinc (lv1 := [(2, .int v4), (0, .ref (ga Γ 7 o)), (1, .int x1)]) (d := 1) hx hb hf dX6_allVotesFor_18 hl (k := 3) rfl (by decide) (by decide) rfl (fun v5 ls hf hl => ?_)
      refine lv_goto (tgt := 4) hx hb dX6_allVotesFor_21 (by decide) ?_
      exact ih _ _ _ _ _ hf hw (lv_sub hl [2, 3, 1, 0] rfl)
  refine L4 _ (fun v6 _ H locs ls hf hw hl => ?_) N (0 : Int32) (0 : Int32) _ _ _ hf hw (lv_sub hl [2, 3, 1, 0] rfl)
  refine lv_iload_n hx hb dX6_allVotesFor_24 rfl (lv_at hl 0 rfl) ?_
  exact q_iret hf hx hb hr rfl hk hw dX6_allVotesFor_25 (Nat.le_of_ble_eq_true rfl) (Nat.le_of_ble_eq_true rfl)
set_option maxRecDepth 100000 in
theorem kX6_mostVoted {Γ : Gm} {S : List (String × Nat × String)} {l : Launch} {N : Nat} {σ : St} {o : Nat} {r : Int32} (ho : o < 4) (hf : fX6_mostVoted N σ o = some r) : CT Γ S l yX6_mostVoted cX6_mostVoted 4 (some (.int)) 3 66 0 0 [.ref (ga Γ 7 o)] (some (.int r)) σ σ := by
  unfold fX6_mostVoted at hf
  refine ct_body (lv := [(0, .ref (ga Γ 7 o))]) (by decide +kernel) rfl (Nat.le_of_ble_eq_true rfl) ?_
  intro p e s m below meth c ls X hr hk hK hw hl
  have hx := X.1
  have hb := X.2.1
  have hown := X.2.2.2
  refine lv_iconst (v := (-1)) hx hb dX6_mostVoted_0 (by decide) ?_
  refine q_istore_n (lv1 := [(0, .ref (ga Γ 7 o))]) hx hb hf dX6_mostVoted_1 rfl hl (by decide) rfl (fun v1 ls hf hl => ?_)
  refine lv_iconst (v := 0) hx hb dX6_mostVoted_2 (by decide) ?_
  refine lv_istore_n (lv' := [(2, .int (0 : Int32)), (1, .int v1), (0, .ref (ga Γ 7 o))]) hx hb dX6_mostVoted_3 rfl hl (by decide) rfl (fun ls hl => ?_)
  refine lv_iconst (v := 0) hx hb dX6_mostVoted_4 (by decide) ?_
  refine lv_istore_n (lv' := [(3, .int (0 : Int32)), (2, .int (0 : Int32)), (1, .int v1), (0, .ref (ga Γ 7 o))]) hx hb dX6_mostVoted_5 rfl hl (by decide) rfl (fun ls hl => ?_)
  have L6 : ∀ (K : Int32 → Int32 → Int32 → Option (Int32)) (hkk : ∀ (y1 : Int32) (y2 : Int32) (y3 : Int32) (H : Heap) (locs : List Loc) (ls : Array Slot), K y1 y2 y3 = some r → Sit Γ σ s H locs → lv_has ls 4 [(1, .int y1)] → W p l e { frames := 3, cells := 0, slots := 0, locals := 66 } s m [.ref (ga Γ 7 o)].toArray below meth c H locs 0 0 (MQ below (Qg Γ (some (.int r)) σ (AA Γ s.heap.size)) [.ref (ga Γ 7 o)].toArray s 0 0 (AA Γ s.heap.size)) (F0 m 43 ls [])) (n : Nat) (v2 : Int32) (v3 : Int32) (v4 : Int32) (H : Heap) (locs : List Loc) (ls : Array Slot), fX6_mostVoted_L6 K N σ o n v2 v3 v4 = some r → Sit Γ σ s H locs → lv_has ls 4 [(0, .ref (ga Γ 7 o)), (1, .int v2), (2, .int v3), (3, .int v4)] → W p l e { frames := 3, cells := 0, slots := 0, locals := 66 } s m [.ref (ga Γ 7 o)].toArray below meth c H locs 0 0 (MQ below (Qg Γ (some (.int r)) σ (AA Γ s.heap.size)) [.ref (ga Γ 7 o)].toArray s 0 0 (AA Γ s.heap.size)) (F0 m 6 ls []) := by
    intro K hkk n
    induction n with
    | zero =>
      intro _ _ _ _ _ _ hf
      exact nomatch hf
    | succ n ih =>
      intro v2 v3 v4 H locs ls hf hw hl
      refine lv_iload_n hx hb dX6_mostVoted_6 rfl (lv_at hl 3 rfl) ?_
      refine lv_bipush (v := 12) hx hb dX6_mostVoted_7 (by decide) ?_
      refine q_ic_ge (tgt := 43) hx hb hf dX6_mostVoted_9 (by decide) (fun hf => ?_) (fun hf => ?_)
      · exact hkk _ _ _ _ _ _ hf hw (lv_sub hl [1] rfl)
      refine lv_aload_n hx hb dX6_mostVoted_12 rfl (lv_at hl 0 rfl) ?_
      refine lv_iload_n hx hb dX6_mostVoted_13 rfl (lv_at hl 3 rfl) ?_
      refine q_pI hf hw (fun v h => q_rV (As := [.int v4]) (rest := []) (q := (RX6, TX6, 2)) X hK hw rfl ho (rfl : vwCl[8]? = _) (kX6_isSeen ho h) mvX6_isSeen lk_X6_31 ⟨Nat.le_of_ble_eq_true rfl, Nat.le_of_ble_eq_true rfl⟩ rfl hl.1 rfl (Nat.le_of_ble_eq_true rfl) dX6_mostVoted_14 ⟨Nat.le_of_ble_eq_true rfl, Nat.le_of_ble_eq_true rfl⟩) (fun v5 H locs hf hw => ?_)
      refine q_if_eq (tgt := 37) hx hb hf dX6_mostVoted_17 (by decide) (fun hf => ?_) (fun hf => ?_)
      · refine q_iinc (lv1 := [(0, .ref (ga Γ 7 o)), (1, .int v2), (2, .int v3)]) (d := 1) hx hb hf dX6_mostVoted_37 hl (k := 3) rfl (by decide) (by decide) rfl (fun v6 ls hf hl => ?_)
        refine lv_goto (tgt := 6) hx hb dX6_mostVoted_40 (by decide) ?_
        exact ih _ _ _ _ _ _ hf hw (lv_sub hl [1, 2, 3, 0] rfl)
      refine lv_aload_n hx hb dX6_mostVoted_20 rfl (lv_at hl 0 rfl) ?_
      refine lv_iload_n hx hb dX6_mostVoted_21 rfl (lv_at hl 3 rfl) ?_
      refine q_pI hf hw (fun v h => q_rV (As := [.int v4]) (rest := []) (q := (RX6, TX6, 2)) X hK hw rfl ho (rfl : vwCl[8]? = _) (kX6_allVotesFor ho h) mvX6_allVotesFor lk_X6_104 ⟨Nat.le_of_ble_eq_true rfl, Nat.le_of_ble_eq_true rfl⟩ rfl hl.1 rfl (Nat.le_of_ble_eq_true rfl) dX6_mostVoted_22 ⟨Nat.le_of_ble_eq_true rfl, Nat.le_of_ble_eq_true rfl⟩) (fun v7 H locs hf hw => ?_)
      refine lv_iload_n hx hb dX6_mostVoted_25 rfl (lv_at hl 2 rfl) ?_
      refine q_ic_le (tgt := 37) hx hb hf dX6_mostVoted_26 (by decide) (fun hf => ?_) (fun hf => ?_)
      · refine q_iinc (lv1 := [(0, .ref (ga Γ 7 o)), (1, .int v2), (2, .int v3)]) (d := 1) hx hb hf dX6_mostVoted_37 hl (k := 3) rfl (by decide) (by decide) rfl (fun v8 ls hf hl => ?_)
        refine lv_goto (tgt := 6) hx hb dX6_mostVoted_40 (by decide) ?_
        exact ih _ _ _ _ _ _ hf hw (lv_sub hl [1, 2, 3, 0] rfl)
      refine lv_iload_n hx hb dX6_mostVoted_29 rfl (lv_at hl 3 rfl) ?_
      refine lv_istore_n (lv' := [(1, .int v4), (0, .ref (ga Γ 7 o)), (2, .int v3), (3, .int v4)]) hx hb dX6_mostVoted_30 rfl hl (by decide) rfl (fun ls hl => ?_)
      refine lv_aload_n hx hb dX6_mostVoted_31 rfl (lv_at hl 1 rfl) ?_
      refine lv_iload_n hx hb dX6_mostVoted_32 rfl (lv_at hl 3 rfl) ?_
      refine q_pI hf hw (fun v h => q_rV (As := [.int v4]) (rest := []) (q := (RX6, TX6, 2)) X hK hw rfl ho (rfl : vwCl[8]? = _) (kX6_allVotesFor ho h) mvX6_allVotesFor lk_X6_104 ⟨Nat.le_of_ble_eq_true rfl, Nat.le_of_ble_eq_true rfl⟩ rfl hl.1 rfl (Nat.le_of_ble_eq_true rfl) dX6_mostVoted_33 ⟨Nat.le_of_ble_eq_true rfl, Nat.le_of_ble_eq_true rfl⟩) (fun v9 H locs hf hw => ?_)
      refine lv_istore_n (lv' := [(2, .int v9), (1, .int v4), (0, .ref (ga Γ 7 o)), (3, .int v4)]) hx hb dX6_mostVoted_36 rfl hl (by decide) rfl (fun ls hl => ?_)
      refine q_iinc (lv1 := [(2, .int v9), (1, .int v4), (0, .ref (ga Γ 7 o))]) (d := 1) hx hb hf dX6_mostVoted_37 hl (k := 3) rfl (by decide) (by decide) rfl (fun v10 ls hf hl => ?_)
      refine lv_goto (tgt := 6) hx hb dX6_mostVoted_40 (by decide) ?_
      exact ih _ _ _ _ _ _ hf hw (lv_sub hl [3, 2, 1, 0] rfl)
  refine L6 _ (fun v11 _ _ H locs ls hf hw hl => ?_) N v1 (0 : Int32) (0 : Int32) _ _ _ hf hw (lv_sub hl [3, 2, 1, 0] rfl)
  refine lv_iload_n hx hb dX6_mostVoted_43 rfl (lv_at hl 0 rfl) ?_
  exact q_iret hf hx hb hr rfl hk hw dX6_mostVoted_44 (Nat.le_of_ble_eq_true rfl) (Nat.le_of_ble_eq_true rfl)
set_option maxRecDepth 100000 in
theorem kX6_join {Γ : Gm} {S : List (String × Nat × String)} {l : Launch} {N : Nat} {σ : St} {x1 : Int32} {x2 : Int32} {r : Int32}  (hf : fX6_join N σ x1 x2 = some r) : CT Γ S l yX6_join cX6_join 2 (some (.int)) 0 0 0 0 [.int x1, .int x2] (some (.int r)) σ σ := by
  unfold fX6_join at hf
  refine ct_body (lv := [(0, .int x1), (1, .int x2)]) (by decide +kernel) rfl (Nat.le_of_ble_eq_true rfl) ?_
  intro p e s m below meth c ls X hr hk hK hw hl
  have hx := X.1
  have hb := X.2.1
  have hown := X.2.2.2
  refine lv_iload_n hx hb dX6_join_0 rfl (lv_at hl 0 rfl) ?_
  refine lv_bipush (v := 31) hx hb dX6_join_1 (by decide) ?_
  refine lv_imul hx hb dX6_join_3 ?_
  refine lv_iload_n hx hb dX6_join_4 rfl (lv_at hl 1 rfl) ?_
  refine lv_iadd hx hb dX6_join_5 ?_
  refine lv_iconst (v := 1) hx hb dX6_join_6 (by decide) ?_
  refine lv_iadd hx hb dX6_join_7 ?_
  refine lv_ldc (v := 1000003) hx hb hown (kw_at hK.2.2.2.2.1 1227 (by decide +kernel) rfl) dX6_join_8 ?_
  refine lv_irem hx hb dX6_join_10 (by decide) ?_
  exact q_iret hf hx hb hr rfl hk hw dX6_join_11 (Nat.le_of_ble_eq_true rfl) (Nat.le_of_ble_eq_true rfl)
set_option maxRecDepth 100000 in
theorem kX6_sumUp {Γ : Gm} {S : List (String × Nat × String)} {l : Launch} {N : Nat} {σ : St} {o : Nat} {r : Int32} (ho : o < 4) (hf : fX6_sumUp N σ o = some r) : CT Γ S l yX6_sumUp cX6_sumUp 3 (some (.int)) 4 89 0 0 [.ref (ga Γ 7 o)] (some (.int r)) σ σ := by
  unfold fX6_sumUp at hf
  refine ct_body (lv := [(0, .ref (ga Γ 7 o))]) (by decide +kernel) rfl (Nat.le_of_ble_eq_true rfl) ?_
  intro p e s m below meth c ls X hr hk hK hw hl
  have hx := X.1
  have hb := X.2.1
  have hown := X.2.2.2
  refine lv_iconst (v := 0) hx hb dX6_sumUp_0 (by decide) ?_
  refine lv_istore_n (lv' := [(1, .int (0 : Int32)), (0, .ref (ga Γ 7 o))]) hx hb dX6_sumUp_1 rfl hl (by decide) rfl (fun ls hl => ?_)
  refine lv_iconst (v := 0) hx hb dX6_sumUp_2 (by decide) ?_
  refine lv_istore_n (lv' := [(2, .int (0 : Int32)), (1, .int (0 : Int32)), (0, .ref (ga Γ 7 o))]) hx hb dX6_sumUp_3 rfl hl (by decide) rfl (fun ls hl => ?_)
  have L4 : ∀ (K : Int32 → Int32 → Option (Int32)) (hkk : ∀ (y1 : Int32) (y2 : Int32) (H : Heap) (locs : List Loc) (ls : Array Slot), K y1 y2 = some r → Sit Γ σ s H locs → lv_has ls 3 [(1, .int y1)] → W p l e { frames := 4, cells := 0, slots := 0, locals := 89 } s m [.ref (ga Γ 7 o)].toArray below meth c H locs 0 0 (MQ below (Qg Γ (some (.int r)) σ (AA Γ s.heap.size)) [.ref (ga Γ 7 o)].toArray s 0 0 (AA Γ s.heap.size)) (F0 m 60 ls [])) (n : Nat) (v1 : Int32) (v2 : Int32) (H : Heap) (locs : List Loc) (ls : Array Slot), fX6_sumUp_L4 K N σ o n v1 v2 = some r → Sit Γ σ s H locs → lv_has ls 3 [(0, .ref (ga Γ 7 o)), (1, .int v1), (2, .int v2)] → W p l e { frames := 4, cells := 0, slots := 0, locals := 89 } s m [.ref (ga Γ 7 o)].toArray below meth c H locs 0 0 (MQ below (Qg Γ (some (.int r)) σ (AA Γ s.heap.size)) [.ref (ga Γ 7 o)].toArray s 0 0 (AA Γ s.heap.size)) (F0 m 4 ls []) := by
    intro K hkk n
    induction n with
    | zero =>
      intro _ _ _ _ _ hf
      exact nomatch hf
    | succ n ih =>
      intro v1 v2 H locs ls hf hw hl
      refine lv_iload_n hx hb dX6_sumUp_4 rfl (lv_at hl 2 rfl) ?_
      refine lv_bipush (v := 12) hx hb dX6_sumUp_5 (by decide) ?_
      refine q_ic_ge (tgt := 60) hx hb hf dX6_sumUp_7 (by decide) (fun hf => ?_) (fun hf => ?_)
      · exact hkk _ _ _ _ _ hf hw (lv_sub hl [1] rfl)
      refine lv_aload_n hx hb dX6_sumUp_10 rfl (lv_at hl 0 rfl) ?_
      refine lv_iload_n hx hb dX6_sumUp_11 rfl (lv_at hl 2 rfl) ?_
      refine q_pI hf hw (fun v h => q_rV (As := [.int v2]) (rest := []) (q := (RX6, TX6, 2)) X hK hw rfl ho (rfl : vwCl[8]? = _) (kX6_isSeen ho h) mvX6_isSeen lk_X6_31 ⟨Nat.le_of_ble_eq_true rfl, Nat.le_of_ble_eq_true rfl⟩ rfl hl.1 rfl (Nat.le_of_ble_eq_true rfl) dX6_sumUp_12 ⟨Nat.le_of_ble_eq_true rfl, Nat.le_of_ble_eq_true rfl⟩) (fun v3 H locs hf hw => ?_)
      refine q_if_eq (tgt := 54) hx hb hf dX6_sumUp_15 (by decide) (fun hf => ?_) (fun hf => ?_)
      · refine q_iinc (lv1 := [(0, .ref (ga Γ 7 o)), (1, .int v1)]) (d := 1) hx hb hf dX6_sumUp_54 hl (k := 2) rfl (by decide) (by decide) rfl (fun v4 ls hf hl => ?_)
        refine lv_goto (tgt := 4) hx hb dX6_sumUp_57 (by decide) ?_
        exact ih _ _ _ _ _ hf hw (lv_sub hl [1, 2, 0] rfl)
      refine lv_iload_n hx hb dX6_sumUp_18 rfl (lv_at hl 1 rfl) ?_
      refine lv_iload_n hx hb dX6_sumUp_19 rfl (lv_at hl 2 rfl) ?_
      refine q_pI hf hw (fun v h => q_rS (As := [.int v1, .int v2]) (rest := []) X hK hw (kX6_join h) msX6_join lk_X6_107 ⟨Nat.le_of_ble_eq_true rfl, Nat.le_of_ble_eq_true rfl⟩ rfl hl.1 rfl (Nat.le_of_ble_eq_true rfl) dX6_sumUp_20 ⟨Nat.le_of_ble_eq_true rfl, Nat.le_of_ble_eq_true rfl⟩) (fun v5 H locs hf hw => ?_)
      refine lv_istore_n (lv' := [(1, .int v5), (0, .ref (ga Γ 7 o)), (2, .int v2)]) hx hb dX6_sumUp_23 rfl hl (by decide) rfl (fun ls hl => ?_)
      refine lv_iload_n hx hb dX6_sumUp_24 rfl (lv_at hl 0 rfl) ?_
      refine lv_aload_n hx hb dX6_sumUp_25 rfl (lv_at hl 1 rfl) ?_
      refine lv_iload_n hx hb dX6_sumUp_26 rfl (lv_at hl 2 rfl) ?_
      refine q_pI hf hw (fun v h => q_rV (As := [.int v2]) (rest := [.int v5]) (q := (RX6, TX6, 2)) X hK hw rfl ho (rfl : vwCl[8]? = _) (kX6_columnAt ho h) mvX6_columnAt lk_X6_61 ⟨Nat.le_of_ble_eq_true rfl, Nat.le_of_ble_eq_true rfl⟩ rfl hl.1 rfl (Nat.le_of_ble_eq_true rfl) dX6_sumUp_27 ⟨Nat.le_of_ble_eq_true rfl, Nat.le_of_ble_eq_true rfl⟩) (fun v6 H locs hf hw => ?_)
      refine q_pI hf hw (fun v h => q_rS (As := [.int v5, .int v6]) (rest := []) X hK hw (kX6_join h) msX6_join lk_X6_107 ⟨Nat.le_of_ble_eq_true rfl, Nat.le_of_ble_eq_true rfl⟩ rfl hl.1 rfl (Nat.le_of_ble_eq_true rfl) dX6_sumUp_30 ⟨Nat.le_of_ble_eq_true rfl, Nat.le_of_ble_eq_true rfl⟩) (fun v7 H locs hf hw => ?_)
      refine lv_istore_n (lv' := [(1, .int v7), (0, .ref (ga Γ 7 o)), (2, .int v2)]) hx hb dX6_sumUp_33 rfl hl (by decide) rfl (fun ls hl => ?_)
      refine lv_iload_n hx hb dX6_sumUp_34 rfl (lv_at hl 0 rfl) ?_
      refine lv_aload_n hx hb dX6_sumUp_35 rfl (lv_at hl 1 rfl) ?_
      refine lv_iload_n hx hb dX6_sumUp_36 rfl (lv_at hl 2 rfl) ?_
      refine q_pI hf hw (fun v h => q_rV (As := [.int v2]) (rest := [.int v7]) (q := (RX6, TX6, 2)) X hK hw rfl ho (rfl : vwCl[8]? = _) (kX6_rowAt ho h) mvX6_rowAt lk_X6_64 ⟨Nat.le_of_ble_eq_true rfl, Nat.le_of_ble_eq_true rfl⟩ rfl hl.1 rfl (Nat.le_of_ble_eq_true rfl) dX6_sumUp_37 ⟨Nat.le_of_ble_eq_true rfl, Nat.le_of_ble_eq_true rfl⟩) (fun v8 H locs hf hw => ?_)
      refine q_pI hf hw (fun v h => q_rS (As := [.int v7, .int v8]) (rest := []) X hK hw (kX6_join h) msX6_join lk_X6_107 ⟨Nat.le_of_ble_eq_true rfl, Nat.le_of_ble_eq_true rfl⟩ rfl hl.1 rfl (Nat.le_of_ble_eq_true rfl) dX6_sumUp_40 ⟨Nat.le_of_ble_eq_true rfl, Nat.le_of_ble_eq_true rfl⟩) (fun v9 H locs hf hw => ?_)
      refine lv_istore_n (lv' := [(1, .int v9), (0, .ref (ga Γ 7 o)), (2, .int v2)]) hx hb dX6_sumUp_43 rfl hl (by decide) rfl (fun ls hl => ?_)
      refine lv_iload_n hx hb dX6_sumUp_44 rfl (lv_at hl 0 rfl) ?_
      refine lv_aload_n hx hb dX6_sumUp_45 rfl (lv_at hl 1 rfl) ?_
      refine lv_iload_n hx hb dX6_sumUp_46 rfl (lv_at hl 2 rfl) ?_
      refine q_pI hf hw (fun v h => q_rV (As := [.int v2]) (rest := [.int v9]) (q := (RX6, TX6, 2)) X hK hw rfl ho (rfl : vwCl[8]? = _) (kX6_rankAt ho h) mvX6_rankAt lk_X6_58 ⟨Nat.le_of_ble_eq_true rfl, Nat.le_of_ble_eq_true rfl⟩ rfl hl.1 rfl (Nat.le_of_ble_eq_true rfl) dX6_sumUp_47 ⟨Nat.le_of_ble_eq_true rfl, Nat.le_of_ble_eq_true rfl⟩) (fun v10 H locs hf hw => ?_)
      refine q_pI hf hw (fun v h => q_rS (As := [.int v9, .int v10]) (rest := []) X hK hw (kX6_join h) msX6_join lk_X6_107 ⟨Nat.le_of_ble_eq_true rfl, Nat.le_of_ble_eq_true rfl⟩ rfl hl.1 rfl (Nat.le_of_ble_eq_true rfl) dX6_sumUp_50 ⟨Nat.le_of_ble_eq_true rfl, Nat.le_of_ble_eq_true rfl⟩) (fun v11 H locs hf hw => ?_)
      refine lv_istore_n (lv' := [(1, .int v11), (0, .ref (ga Γ 7 o)), (2, .int v2)]) hx hb dX6_sumUp_53 rfl hl (by decide) rfl (fun ls hl => ?_)
      refine q_iinc (lv1 := [(1, .int v11), (0, .ref (ga Γ 7 o))]) (d := 1) hx hb hf dX6_sumUp_54 hl (k := 2) rfl (by decide) (by decide) rfl (fun v12 ls hf hl => ?_)
      refine lv_goto (tgt := 4) hx hb dX6_sumUp_57 (by decide) ?_
      exact ih _ _ _ _ _ hf hw (lv_sub hl [2, 1, 0] rfl)
  refine L4 _ (fun v13 _ H locs ls hf hw hl => ?_) N (0 : Int32) (0 : Int32) _ _ _ hf hw (lv_sub hl [2, 1, 0] rfl)
  refine lv_iload_n hx hb dX6_sumUp_60 rfl (lv_at hl 0 rfl) ?_
  exact q_iret hf hx hb hr rfl hk hw dX6_sumUp_61 (Nat.le_of_ble_eq_true rfl) (Nat.le_of_ble_eq_true rfl)
set_option maxRecDepth 100000 in
theorem kX1_operationAtTime {Γ : Gm} {S : List (String × Nat × String)} {l : Launch} {N : Nat} {σ : St} {x1 : Int32} {r : Int32}  (hf : fX1_operationAtTime N σ x1 = some r) : CT Γ S l yX1_operationAtTime cX1_operationAtTime 2 (some (.int)) 1 22 0 0 [.ref (ga Γ 1 0), .int x1] (some (.int r)) σ σ := by
  unfold fX1_operationAtTime at hf
  refine ct_body (lv := [(0, .ref (ga Γ 1 0)), (1, .int x1)]) (by decide +kernel) rfl (Nat.le_of_ble_eq_true rfl) ?_
  intro p e s m below meth c ls X hr hk hK hw hl
  have hx := X.1
  have hb := X.2.1
  have hown := X.2.2.2
  refine lv_aload_n hx hb dX1_operationAtTime_0 rfl (lv_at hl 0 rfl) ?_
  refine q_get (v := .ref (ga Γ 105 0)) hx hb hK hw hown in_X1 ins_X1 (rfl : vwCl[3]? = some (RX1, TX1, 13)) rfl (Nat.le_of_ble_eq_true rfl : 0 < cnt (gn Γ) 1) 5 (by decide) 103 fl_X1_28 rfl rfl dX1_operationAtTime_1 ?_
  refine lv_iload_n hx hb dX1_operationAtTime_4 rfl (lv_at hl 1 rfl) ?_
  refine lv_iconst (v := (-1)) hx hb dX1_operationAtTime_5 (by decide) ?_
  refine q_pI hf hw (fun v h => q_rSN (As := [.ref (ga Γ 105 0), .int x1, .int ((-1) : Int32)]) (rest := []) X hK hw (kX7_intAt (fun _ _ _ => rfl) (Nat.le_of_ble_eq_true rfl : 0 < cnt (gn Γ) 105) h) msX7_intAt lk_X1_70 ⟨Nat.le_of_ble_eq_true rfl, Nat.le_of_ble_eq_true rfl⟩ rfl hl.1 rfl (Nat.le_of_ble_eq_true rfl) dX1_operationAtTime_6 ⟨Nat.le_of_ble_eq_true rfl, Nat.le_of_ble_eq_true rfl⟩) (fun v1 H locs hf hw => ?_)
  exact q_iret hf hx hb hr rfl hk hw dX1_operationAtTime_9 (Nat.le_of_ble_eq_true rfl) (Nat.le_of_ble_eq_true rfl)
set_option maxRecDepth 100000 in
theorem kX3_listKnown {Γ : Gm} {S : List (String × Nat × String)} {l : Launch} {N : Nat} {σ τ : St} {o1 : Nat} (ho1 : o1 < 3) (hf : fX3_listKnown N σ o1 = some τ) : CT Γ S l yX3_listKnown cX3_listKnown 4 none 2 43 0 0 [.ref (ga Γ 5 0), .ref (ga Γ 4 o1)] none σ τ := by
  unfold fX3_listKnown at hf
  refine ct_body (lv := [(0, .ref (ga Γ 5 0)), (1, .ref (ga Γ 4 o1))]) (by decide +kernel) rfl (Nat.le_of_ble_eq_true rfl) ?_
  intro p e s m below meth c ls X hr hk hK hw hl
  have hx := X.1
  have hb := X.2.1
  have hown := X.2.2.2
  refine lv_aload_n hx hb dX3_listKnown_0 rfl (lv_at hl 0 rfl) ?_
  refine lv_iconst (v := 0) hx hb dX3_listKnown_1 (by decide) ?_
  refine q_puti (v := (0 : Int32)) hx hb hK hw hown in_X3 ins_X3 tyX3 tyX3_ok nmX3 (rfl : vwCl[5]? = some (RX3, TX3, 8)) (fun _ _ _ => rfl) (Nat.le_of_ble_eq_true rfl : 0 < cnt (gn Γ) 5) 7 (by decide) 234 fl_X3_53 rfl rfl rfl (fun _ _ _ => Nat.le_of_ble_eq_true rfl) (fun _ _ _ => rfl) hf dX3_listKnown_2 (fun σ1 H locs hf hw => ?_)
  refine lv_iconst (v := 0) hx hb dX3_listKnown_5 (by decide) ?_
  refine lv_istore_n (lv' := [(2, .int (0 : Int32)), (0, .ref (ga Γ 5 0)), (1, .ref (ga Γ 4 o1))]) hx hb dX3_listKnown_6 rfl hl (by decide) rfl (fun ls hl => ?_)
  have L7 : ∀ (K : Int32 → St → Option (St)) (hkk : ∀ (y2 : Int32) (σq : St) (H : Heap) (locs : List Loc) (ls : Array Slot), K y2 σq = some τ → Sit Γ σq s H locs → lv_has ls 4 [] → W p l e { frames := 2, cells := 0, slots := 0, locals := 43 } s m [.ref (ga Γ 5 0), .ref (ga Γ 4 o1)].toArray below meth c H locs 0 0 (MQ below (Qg Γ (none) τ (AA Γ s.heap.size)) [.ref (ga Γ 5 0), .ref (ga Γ 4 o1)].toArray s 0 0 (AA Γ s.heap.size)) (F0 m 71 ls [])) (n : Nat) (v2 : Int32) (σ3 : St) (H : Heap) (locs : List Loc) (ls : Array Slot), fX3_listKnown_L7 K N o1 n v2 σ3 = some τ → Sit Γ σ3 s H locs → lv_has ls 4 [(0, .ref (ga Γ 5 0)), (1, .ref (ga Γ 4 o1)), (2, .int v2)] → W p l e { frames := 2, cells := 0, slots := 0, locals := 43 } s m [.ref (ga Γ 5 0), .ref (ga Γ 4 o1)].toArray below meth c H locs 0 0 (MQ below (Qg Γ (none) τ (AA Γ s.heap.size)) [.ref (ga Γ 5 0), .ref (ga Γ 4 o1)].toArray s 0 0 (AA Γ s.heap.size)) (F0 m 7 ls []) := by
    intro K hkk n
    induction n with
    | zero =>
      intro _ _ _ _ _ hf
      exact nomatch hf
    | succ n ih =>
      intro v2 σ3 H locs ls hf hw hl
      refine lv_iload_n hx hb dX3_listKnown_7 rfl (lv_at hl 2 rfl) ?_
      refine lv_aload_n hx hb dX3_listKnown_8 rfl (lv_at hl 0 rfl) ?_
      refine q_get (v := .ref (ga Γ 1 0)) hx hb hK hw hown in_X3 ins_X3 (rfl : vwCl[5]? = some (RX3, TX3, 8)) rfl (Nat.le_of_ble_eq_true rfl : 0 < cnt (gn Γ) 5) 0 (by decide) 227 fl_X3_21 rfl rfl dX3_listKnown_9 ?_
      refine q_get (v := .int (gI σ3 1 0 11)) hx hb hK hw hown in_X1 ins_X1 (rfl : vwCl[3]? = some (RX1, TX1, 13)) rfl (Nat.le_of_ble_eq_true rfl : 0 < cnt (gn Γ) 1) 11 (by decide) 116 fl_X3_86 rfl rfl dX3_listKnown_12 ?_
      refine q_ic_ge (tgt := 71) hx hb hf dX3_listKnown_15 (by decide) (fun hf => ?_) (fun hf => ?_)
      · exact hkk _ _ _ _ _ hf hw (lv_sub hl [] rfl)
      refine lv_aload_n hx hb dX3_listKnown_18 rfl (lv_at hl 0 rfl) ?_
      refine q_get (v := .ref (ga Γ 1 0)) hx hb hK hw hown in_X3 ins_X3 (rfl : vwCl[5]? = some (RX3, TX3, 8)) rfl (Nat.le_of_ble_eq_true rfl : 0 < cnt (gn Γ) 5) 0 (by decide) 227 fl_X3_21 rfl rfl dX3_listKnown_19 ?_
      refine lv_iload_n hx hb dX3_listKnown_22 rfl (lv_at hl 2 rfl) ?_
      refine q_pI hf hw (fun v h => q_rV (As := [.int v2]) (rest := []) (q := (RX1, TX1, 13)) X hK hw rfl (Nat.le_of_ble_eq_true rfl : 0 < cnt (gn Γ) 1) (rfl : vwCl[3]? = _) (kX1_operationAtTime h) mvX1_operationAtTime lk_X3_91 ⟨Nat.le_of_ble_eq_true rfl, Nat.le_of_ble_eq_true rfl⟩ rfl hl.1 rfl (Nat.le_of_ble_eq_true rfl) dX3_listKnown_23 ⟨Nat.le_of_ble_eq_true rfl, Nat.le_of_ble_eq_true rfl⟩) (fun v4 H locs hf hw => ?_)
      refine lv_istore_n (lv' := [(3, .int v4), (0, .ref (ga Γ 5 0)), (1, .ref (ga Γ 4 o1)), (2, .int v2)]) hx hb dX3_listKnown_26 rfl hl (by decide) rfl (fun ls hl => ?_)
      refine lv_aload_n hx hb dX3_listKnown_27 rfl (lv_at hl 2 rfl) ?_
      refine lv_iload_n hx hb dX3_listKnown_28 rfl (lv_at hl 0 rfl) ?_
      refine q_pI hf hw (fun v h => q_rV (As := [.int v4]) (rest := []) (q := (RX5, TX5, 8)) X hK hw rfl ho1 (rfl : vwCl[7]? = _) (kX5_isKnown ho1 h) mvX5_isKnown lk_X3_95 ⟨Nat.le_of_ble_eq_true rfl, Nat.le_of_ble_eq_true rfl⟩ rfl hl.1 rfl (Nat.le_of_ble_eq_true rfl) dX3_listKnown_29 ⟨Nat.le_of_ble_eq_true rfl, Nat.le_of_ble_eq_true rfl⟩) (fun v5 H locs hf hw => ?_)
      refine q_if_eq (tgt := 65) hx hb hf dX3_listKnown_32 (by decide) (fun hf => ?_) (fun hf => ?_)
      · refine q_iinc (lv1 := [(3, .int v4), (0, .ref (ga Γ 5 0)), (1, .ref (ga Γ 4 o1))]) (d := 1) hx hb hf dX3_listKnown_65 hl (k := 3) rfl (by decide) (by decide) rfl (fun v6 ls hf hl => ?_)
        refine lv_goto (tgt := 7) hx hb dX3_listKnown_68 (by decide) ?_
        exact ih _ _ _ _ _ hf hw (lv_sub hl [2, 3, 0] rfl)
      refine lv_aload_n hx hb dX3_listKnown_35 rfl (lv_at hl 1 rfl) ?_
      refine q_get (v := .int (gI σ3 5 0 7)) hx hb hK hw hown in_X3 ins_X3 (rfl : vwCl[5]? = some (RX3, TX3, 8)) rfl (Nat.le_of_ble_eq_true rfl : 0 < cnt (gn Γ) 5) 7 (by decide) 234 fl_X3_53 rfl rfl dX3_listKnown_36 ?_
      refine lv_sipush (v := 250) hx hb dX3_listKnown_39 (by decide) ?_
      refine q_ic_ge (tgt := 65) hx hb hf dX3_listKnown_42 (by decide) (fun hf => ?_) (fun hf => ?_)
      · refine q_iinc (lv1 := [(3, .int v4), (0, .ref (ga Γ 5 0)), (1, .ref (ga Γ 4 o1))]) (d := 1) hx hb hf dX3_listKnown_65 hl (k := 3) rfl (by decide) (by decide) rfl (fun v7 ls hf hl => ?_)
        refine lv_goto (tgt := 7) hx hb dX3_listKnown_68 (by decide) ?_
        exact ih _ _ _ _ _ hf hw (lv_sub hl [2, 3, 0] rfl)
      refine lv_aload_n hx hb dX3_listKnown_45 rfl (lv_at hl 1 rfl) ?_
      refine q_get (v := .ref (ga Γ 124 0)) hx hb hK hw hown in_X3 ins_X3 (rfl : vwCl[5]? = some (RX3, TX3, 8)) rfl (Nat.le_of_ble_eq_true rfl : 0 < cnt (gn Γ) 5) 4 (by decide) 231 fl_X3_9 rfl rfl dX3_listKnown_46 ?_
      refine lv_aload_n hx hb dX3_listKnown_49 rfl (lv_at hl 1 rfl) ?_
      refine q_get (v := .int (gI σ3 5 0 7)) hx hb hK hw hown in_X3 ins_X3 (rfl : vwCl[5]? = some (RX3, TX3, 8)) rfl (Nat.le_of_ble_eq_true rfl : 0 < cnt (gn Γ) 5) 7 (by decide) 234 fl_X3_53 rfl rfl dX3_listKnown_50 ?_
      refine lv_iload_n hx hb dX3_listKnown_53 rfl (lv_at hl 0 rfl) ?_
      refine q_iast hx hb hK hw (k := 124) (o := 0) (fun _ _ _ => rfl) (Nat.le_of_ble_eq_true rfl : 0 < cnt (gn Γ) 124) hf dX3_listKnown_54 (fun σ8 H locs hf hw => ?_)
      refine lv_aload_n hx hb dX3_listKnown_55 rfl (lv_at hl 1 rfl) ?_
      refine lv_dup hx hb dX3_listKnown_56 rfl ?_
      refine q_get (v := .int (gI σ8 5 0 7)) hx hb hK hw hown in_X3 ins_X3 (rfl : vwCl[5]? = some (RX3, TX3, 8)) rfl (Nat.le_of_ble_eq_true rfl : 0 < cnt (gn Γ) 5) 7 (by decide) 234 fl_X3_53 rfl rfl dX3_listKnown_57 ?_
      refine lv_iconst (v := 1) hx hb dX3_listKnown_60 (by decide) ?_
      refine lv_iadd hx hb dX3_listKnown_61 ?_
      refine q_puti (v := ((gI σ8 5 0 7) + (1 : Int32))) hx hb hK hw hown in_X3 ins_X3 tyX3 tyX3_ok nmX3 (rfl : vwCl[5]? = some (RX3, TX3, 8)) (fun _ _ _ => rfl) (Nat.le_of_ble_eq_true rfl : 0 < cnt (gn Γ) 5) 7 (by decide) 234 fl_X3_53 rfl rfl rfl (fun _ _ _ => Nat.le_of_ble_eq_true rfl) (fun _ _ _ => rfl) hf dX3_listKnown_62 (fun σ9 H locs hf hw => ?_)
      refine q_iinc (lv1 := [(3, .int v4), (0, .ref (ga Γ 5 0)), (1, .ref (ga Γ 4 o1))]) (d := 1) hx hb hf dX3_listKnown_65 hl (k := 3) rfl (by decide) (by decide) rfl (fun v10 ls hf hl => ?_)
      refine lv_goto (tgt := 7) hx hb dX3_listKnown_68 (by decide) ?_
      exact ih _ _ _ _ _ hf hw (lv_sub hl [2, 3, 0] rfl)
  refine L7 _ (fun _ σ11 H locs ls hf hw hl => ?_) N (0 : Int32) σ1 _ _ _ hf hw (lv_sub hl [1, 2, 0] rfl)
  exact q_vret hx hb hr hk hw dX3_listKnown_71 hf (Nat.le_of_ble_eq_true rfl) (Nat.le_of_ble_eq_true rfl)
set_option maxRecDepth 100000 in
theorem kX0_empty {Γ : Gm} {S : List (String × Nat × String)} {l : Launch} {N : Nat} {σ τ : St} {o : Nat} (ho : o < 5) (hf : fX0_empty N σ o = some τ) : CT Γ S l yX0_empty cX0_empty 2 none 0 0 0 0 [.ref (ga Γ 3 o)] none σ τ := by
  unfold fX0_empty at hf
  refine ct_body (lv := [(0, .ref (ga Γ 3 o))]) (by decide +kernel) rfl (Nat.le_of_ble_eq_true rfl) ?_
  intro p e s m below meth c ls X hr hk hK hw hl
  have hx := X.1
  have hb := X.2.1
  have hown := X.2.2.2
  refine lv_iconst (v := 0) hx hb dX0_empty_0 (by decide) ?_
  refine lv_istore_n (lv' := [(1, .int (0 : Int32)), (0, .ref (ga Γ 3 o))]) hx hb dX0_empty_1 rfl hl (by decide) rfl (fun ls hl => ?_)
  have L2 : ∀ (K : Int32 → St → Option (St)) (hkk : ∀ (y1 : Int32) (σq : St) (H : Heap) (locs : List Loc) (ls : Array Slot), K y1 σq = some τ → Sit Γ σq s H locs → lv_has ls 2 [] → W p l e { frames := 0, cells := 0, slots := 0, locals := 0 } s m [.ref (ga Γ 3 o)].toArray below meth c H locs 0 0 (MQ below (Qg Γ (none) τ (AA Γ s.heap.size)) [.ref (ga Γ 3 o)].toArray s 0 0 (AA Γ s.heap.size)) (F0 m 35 ls [])) (n : Nat) (v1 : Int32) (σ2 : St) (H : Heap) (locs : List Loc) (ls : Array Slot), fX0_empty_L2 K N o n v1 σ2 = some τ → Sit Γ σ2 s H locs → lv_has ls 2 [(0, .ref (ga Γ 3 o)), (1, .int v1)] → W p l e { frames := 0, cells := 0, slots := 0, locals := 0 } s m [.ref (ga Γ 3 o)].toArray below meth c H locs 0 0 (MQ below (Qg Γ (none) τ (AA Γ s.heap.size)) [.ref (ga Γ 3 o)].toArray s 0 0 (AA Γ s.heap.size)) (F0 m 2 ls []) := by
    intro K hkk n
    induction n with
    | zero =>
      intro _ _ _ _ _ hf
      exact nomatch hf
    | succ n ih =>
      intro v1 σ2 H locs ls hf hw hl
      refine lv_iload_n hx hb dX0_empty_2 rfl (lv_at hl 1 rfl) ?_
      refine lv_bipush (v := 93) hx hb dX0_empty_3 (by decide) ?_
      refine q_ic_ge (tgt := 35) hx hb hf dX0_empty_5 (by decide) (fun hf => ?_) (fun hf => ?_)
      · exact hkk _ _ _ _ _ hf hw (lv_sub hl [] rfl)
      refine lv_aload_n hx hb dX0_empty_8 rfl (lv_at hl 0 rfl) ?_
      refine q_get (v := .ref (ga Γ 120 o)) hx hb hK hw hown in_X0 ins_X0 (rfl : vwCl[2]? = some (RX0, TX0, 4)) rfl ho 1 (by decide) 201 fl_X0_9 rfl rfl dX0_empty_9 ?_
      refine lv_iload_n hx hb dX0_empty_12 rfl (lv_at hl 1 rfl) ?_
      refine lv_fconst0 hx hb dX0_empty_13 ?_
      refine q_fast hx hb hK hw (k := 120) (o := o) (fun _ _ _ => rfl) ho hf dX0_empty_14 (fun σ3 H locs hf hw => ?_)
      refine lv_aload_n hx hb dX0_empty_15 rfl (lv_at hl 0 rfl) ?_
      refine q_get (v := .ref (ga Γ 121 o)) hx hb hK hw hown in_X0 ins_X0 (rfl : vwCl[2]? = some (RX0, TX0, 4)) rfl ho 2 (by decide) 202 fl_X0_15 rfl rfl dX0_empty_16 ?_
      refine lv_iload_n hx hb dX0_empty_19 rfl (lv_at hl 1 rfl) ?_
      refine lv_iconst (v := (-1)) hx hb dX0_empty_20 (by decide) ?_
      refine q_iast hx hb hK hw (k := 121) (o := o) (fun _ _ _ => rfl) ho hf dX0_empty_21 (fun σ4 H locs hf hw => ?_)
      refine lv_aload_n hx hb dX0_empty_22 rfl (lv_at hl 0 rfl) ?_
      refine q_get (v := .ref (ga Γ 122 o)) hx hb hK hw hown in_X0 ins_X0 (rfl : vwCl[2]? = some (RX0, TX0, 4)) rfl ho 3 (by decide) 203 fl_X0_19 rfl rfl dX0_empty_23 ?_
      refine lv_iload_n hx hb dX0_empty_26 rfl (lv_at hl 1 rfl) ?_
      refine lv_iconst (v := (-1)) hx hb dX0_empty_27 (by decide) ?_
      refine q_iast hx hb hK hw (k := 122) (o := o) (fun _ _ _ => rfl) ho hf dX0_empty_28 (fun σ5 H locs hf hw => ?_)
      refine q_iinc (lv1 := [(0, .ref (ga Γ 3 o))]) (d := 1) hx hb hf dX0_empty_29 hl (k := 1) rfl (by decide) (by decide) rfl (fun v6 ls hf hl => ?_)
      refine lv_goto (tgt := 2) hx hb dX0_empty_32 (by decide) ?_
      exact ih _ _ _ _ _ hf hw (lv_sub hl [1, 0] rfl)
  refine L2 _ (fun _ σ7 H locs ls hf hw hl => ?_) N (0 : Int32) σ _ _ _ hf hw (lv_sub hl [1, 0] rfl)
  exact q_vret hx hb hr hk hw dX0_empty_35 hf (Nat.le_of_ble_eq_true rfl) (Nat.le_of_ble_eq_true rfl)
set_option maxRecDepth 100000 in
theorem kX3_sumUpAnew {Γ : Gm} {S : List (String × Nat × String)} {l : Launch} {N : Nat} {σ τ : St} {o1 : Nat} {r : Int32} (ho1 : o1 < 3) (hf : fX3_sumUpAnew N σ o1 = some (r, τ)) : CT Γ S l yX3_sumUpAnew cX3_sumUpAnew 3 (some (.int)) 5 111 0 0 [.ref (ga Γ 5 0), .ref (ga Γ 4 o1)] (some (.int r)) σ τ := by
  unfold fX3_sumUpAnew at hf
  refine ct_body (lv := [(0, .ref (ga Γ 5 0)), (1, .ref (ga Γ 4 o1))]) (by decide +kernel) rfl (Nat.le_of_ble_eq_true rfl) ?_
  intro p e s m below meth c ls X hr hk hK hw hl
  have hx := X.1
  have hb := X.2.1
  have hown := X.2.2.2
  refine lv_aload_n hx hb dX3_sumUpAnew_0 rfl (lv_at hl 0 rfl) ?_
  refine lv_aload_n hx hb dX3_sumUpAnew_1 rfl (lv_at hl 1 rfl) ?_
  refine q_eV hf hw (fun τ h => q_rV (As := [.ref (ga Γ 4 o1)]) (rest := []) (q := (RX3, TX3, 8)) X hK hw rfl (Nat.le_of_ble_eq_true rfl : 0 < cnt (gn Γ) 5) (rfl : vwCl[5]? = _) (kX3_listKnown ho1 h) mvX3_listKnown lk_X3_46 ⟨Nat.le_of_ble_eq_true rfl, Nat.le_of_ble_eq_true rfl⟩ rfl hl.1 rfl (Nat.le_of_ble_eq_true rfl) dX3_sumUpAnew_2 ⟨Nat.le_of_ble_eq_true rfl, Nat.le_of_ble_eq_true rfl⟩) (fun σ1 H locs hf hw => ?_)
  refine lv_aload_n hx hb dX3_sumUpAnew_5 rfl (lv_at hl 0 rfl) ?_
  refine q_get (v := .ref (ga Γ 3 3)) hx hb hK hw hown in_X3 ins_X3 (rfl : vwCl[5]? = some (RX3, TX3, 8)) rfl (Nat.le_of_ble_eq_true rfl : 0 < cnt (gn Γ) 5) 2 (by decide) 229 fl_X3_34 rfl rfl dX3_sumUpAnew_6 ?_
  refine q_eV hf hw (fun τ h => q_rV (As := []) (rest := []) (q := (RX0, TX0, 4)) X hK hw rfl (Nat.le_of_ble_eq_true rfl : 3 < cnt (gn Γ) 3) (rfl : vwCl[2]? = _) (kX0_empty (Nat.le_of_ble_eq_true rfl : 3 < cnt (gn Γ) 3) h) mvX0_empty lk_X3_50 ⟨Nat.le_of_ble_eq_true rfl, Nat.le_of_ble_eq_true rfl⟩ rfl hl.1 rfl (Nat.le_of_ble_eq_true rfl) dX3_sumUpAnew_9 ⟨Nat.le_of_ble_eq_true rfl, Nat.le_of_ble_eq_true rfl⟩) (fun σ2 H locs hf hw => ?_)
  refine lv_iconst (v := 0) hx hb dX3_sumUpAnew_12 (by decide) ?_
  refine lv_istore_n (lv' := [(2, .int (0 : Int32)), (0, .ref (ga Γ 5 0)), (1, .ref (ga Γ 4 o1))]) hx hb dX3_sumUpAnew_13 rfl hl (by decide) rfl (fun ls hl => ?_)
  have L14 : ∀ (K : Int32 → St → Option ((Int32 × St))) (hkk : ∀ (y2 : Int32) (σq : St) (H : Heap) (locs : List Loc) (ls : Array Slot), K y2 σq = some (r, τ) → Sit Γ σq s H locs → lv_has ls 3 [(0, .ref (ga Γ 5 0))] → W p l e { frames := 5, cells := 0, slots := 0, locals := 111 } s m [.ref (ga Γ 5 0), .ref (ga Γ 4 o1)].toArray below meth c H locs 0 0 (MQ below (Qg Γ (some (.int r)) τ (AA Γ s.heap.size)) [.ref (ga Γ 5 0), .ref (ga Γ 4 o1)].toArray s 0 0 (AA Γ s.heap.size)) (F0 m 44 ls [])) (n : Nat) (v3 : Int32) (σ4 : St) (H : Heap) (locs : List Loc) (ls : Array Slot), fX3_sumUpAnew_L14 K N n v3 σ4 = some (r, τ) → Sit Γ σ4 s H locs → lv_has ls 3 [(0, .ref (ga Γ 5 0)), (2, .int v3)] → W p l e { frames := 5, cells := 0, slots := 0, locals := 111 } s m [.ref (ga Γ 5 0), .ref (ga Γ 4 o1)].toArray below meth c H locs 0 0 (MQ below (Qg Γ (some (.int r)) τ (AA Γ s.heap.size)) [.ref (ga Γ 5 0), .ref (ga Γ 4 o1)].toArray s 0 0 (AA Γ s.heap.size)) (F0 m 14 ls []) := by
    intro K hkk n
    induction n with
    | zero =>
      intro _ _ _ _ _ hf
      exact nomatch hf
    | succ n ih =>
      intro v3 σ4 H locs ls hf hw hl
      refine lv_iload_n hx hb dX3_sumUpAnew_14 rfl (lv_at hl 1 rfl) ?_
      refine lv_aload_n hx hb dX3_sumUpAnew_15 rfl (lv_at hl 0 rfl) ?_
      refine q_get (v := .int (gI σ4 5 0 7)) hx hb hK hw hown in_X3 ins_X3 (rfl : vwCl[5]? = some (RX3, TX3, 8)) rfl (Nat.le_of_ble_eq_true rfl : 0 < cnt (gn Γ) 5) 7 (by decide) 234 fl_X3_53 rfl rfl dX3_sumUpAnew_16 ?_
      refine q_ic_ge (tgt := 44) hx hb hf dX3_sumUpAnew_19 (by decide) (fun hf => ?_) (fun hf => ?_)
      · exact hkk _ _ _ _ _ hf hw (lv_sub hl [0] rfl)
      refine lv_aload_n hx hb dX3_sumUpAnew_22 rfl (lv_at hl 0 rfl) ?_
      refine q_get (v := .ref (ga Γ 3 3)) hx hb hK hw hown in_X3 ins_X3 (rfl : vwCl[5]? = some (RX3, TX3, 8)) rfl (Nat.le_of_ble_eq_true rfl : 0 < cnt (gn Γ) 5) 2 (by decide) 229 fl_X3_34 rfl rfl dX3_sumUpAnew_23 ?_
      refine lv_aload_n hx hb dX3_sumUpAnew_26 rfl (lv_at hl 0 rfl) ?_
      refine q_get (v := .ref (ga Γ 124 0)) hx hb hK hw hown in_X3 ins_X3 (rfl : vwCl[5]? = some (RX3, TX3, 8)) rfl (Nat.le_of_ble_eq_true rfl : 0 < cnt (gn Γ) 5) 4 (by decide) 231 fl_X3_9 rfl rfl dX3_sumUpAnew_27 ?_
      refine lv_iload_n hx hb dX3_sumUpAnew_30 rfl (lv_at hl 1 rfl) ?_
      refine lv_iconst (v := (-1)) hx hb dX3_sumUpAnew_31 (by decide) ?_
      refine q_pI hf hw (fun v h => q_rSN (As := [.ref (ga Γ 124 0), .int v3, .int ((-1) : Int32)]) (rest := [.ref (ga Γ 3 3)]) X hK hw (kX7_intAt (fun _ _ _ => rfl) (Nat.le_of_ble_eq_true rfl : 0 < cnt (gn Γ) 124) h) msX7_intAt lk_X3_57 ⟨Nat.le_of_ble_eq_true rfl, Nat.le_of_ble_eq_true rfl⟩ rfl hl.1 rfl (Nat.le_of_ble_eq_true rfl) dX3_sumUpAnew_32 ⟨Nat.le_of_ble_eq_true rfl, Nat.le_of_ble_eq_true rfl⟩) (fun v5 H locs hf hw => ?_)
      refine q_eV hf hw (fun τ h => q_rV (As := [.int v5]) (rest := []) (q := (RX0, TX0, 4)) X hK hw rfl (Nat.le_of_ble_eq_true rfl : 3 < cnt (gn Γ) 3) (rfl : vwCl[2]? = _) (kX0_take (Nat.le_of_ble_eq_true rfl : 3 < cnt (gn Γ) 3) h) mvX0_take lk_X3_61 ⟨Nat.le_of_ble_eq_true rfl, Nat.le_of_ble_eq_true rfl⟩ rfl hl.1 rfl (Nat.le_of_ble_eq_true rfl) dX3_sumUpAnew_35 ⟨Nat.le_of_ble_eq_true rfl, Nat.le_of_ble_eq_true rfl⟩) (fun σ6 H locs hf hw => ?_)
      refine q_iinc (lv1 := [(0, .ref (ga Γ 5 0))]) (d := 1) hx hb hf dX3_sumUpAnew_38 hl (k := 1) rfl (by decide) (by decide) rfl (fun v7 ls hf hl => ?_)
      refine lv_goto (tgt := 14) hx hb dX3_sumUpAnew_41 (by decide) ?_
      exact ih _ _ _ _ _ hf hw (lv_sub hl [1, 0] rfl)
  refine L14 _ (fun _ σ8 H locs ls hf hw hl => ?_) N (0 : Int32) σ2 _ _ _ hf hw (lv_sub hl [1, 0] rfl)
  refine lv_aload_n hx hb dX3_sumUpAnew_44 rfl (lv_at hl 0 rfl) ?_
  refine q_get (v := .ref (ga Γ 7 3)) hx hb hK hw hown in_X3 ins_X3 (rfl : vwCl[5]? = some (RX3, TX3, 8)) rfl (Nat.le_of_ble_eq_true rfl : 0 < cnt (gn Γ) 5) 3 (by decide) 230 fl_X3_42 rfl rfl dX3_sumUpAnew_45 ?_
  refine q_pI hf hw (fun v h => q_rV (As := []) (rest := []) (q := (RX6, TX6, 2)) X hK hw rfl (Nat.le_of_ble_eq_true rfl : 3 < cnt (gn Γ) 7) (rfl : vwCl[8]? = _) (kX6_sumUp (Nat.le_of_ble_eq_true rfl : 3 < cnt (gn Γ) 7) h) mvX6_sumUp lk_X3_65 ⟨Nat.le_of_ble_eq_true rfl, Nat.le_of_ble_eq_true rfl⟩ rfl hl.1 rfl (Nat.le_of_ble_eq_true rfl) dX3_sumUpAnew_48 ⟨Nat.le_of_ble_eq_true rfl, Nat.le_of_ble_eq_true rfl⟩) (fun v9 H locs hf hw => ?_)
  exact q_eiret hf hx hb hr rfl hk hw dX3_sumUpAnew_51 (Nat.le_of_ble_eq_true rfl) (Nat.le_of_ble_eq_true rfl)
set_option maxRecDepth 100000 in
theorem kX0_copy {Γ : Gm} {S : List (String × Nat × String)} {l : Launch} {N : Nat} {σ τ : St} {o : Nat} {o1 : Nat} (ho : o < 5) (ho1 : o1 < 5) (hf : fX0_copy N σ o o1 = some τ) : CT Γ S l yX0_copy cX0_copy 3 none 0 0 0 0 [.ref (ga Γ 3 o), .ref (ga Γ 3 o1)] none σ τ := by
  unfold fX0_copy at hf
  refine ct_body (lv := [(0, .ref (ga Γ 3 o)), (1, .ref (ga Γ 3 o1))]) (by decide +kernel) rfl (Nat.le_of_ble_eq_true rfl) ?_
  intro p e s m below meth c ls X hr hk hK hw hl
  have hx := X.1
  have hb := X.2.1
  have hown := X.2.2.2
  refine lv_iconst (v := 0) hx hb dX0_copy_0 (by decide) ?_
  refine lv_istore_n (lv' := [(2, .int (0 : Int32)), (0, .ref (ga Γ 3 o)), (1, .ref (ga Γ 3 o1))]) hx hb dX0_copy_1 rfl hl (by decide) rfl (fun ls hl => ?_)
  have L2 : ∀ (K : Int32 → St → Option (St)) (hkk : ∀ (y2 : Int32) (σq : St) (H : Heap) (locs : List Loc) (ls : Array Slot), K y2 σq = some τ → Sit Γ σq s H locs → lv_has ls 3 [] → W p l e { frames := 0, cells := 0, slots := 0, locals := 0 } s m [.ref (ga Γ 3 o), .ref (ga Γ 3 o1)].toArray below meth c H locs 0 0 (MQ below (Qg Γ (none) τ (AA Γ s.heap.size)) [.ref (ga Γ 3 o), .ref (ga Γ 3 o1)].toArray s 0 0 (AA Γ s.heap.size)) (F0 m 50 ls [])) (n : Nat) (v1 : Int32) (σ2 : St) (H : Heap) (locs : List Loc) (ls : Array Slot), fX0_copy_L2 K N o o1 n v1 σ2 = some τ → Sit Γ σ2 s H locs → lv_has ls 3 [(0, .ref (ga Γ 3 o)), (1, .ref (ga Γ 3 o1)), (2, .int v1)] → W p l e { frames := 0, cells := 0, slots := 0, locals := 0 } s m [.ref (ga Γ 3 o), .ref (ga Γ 3 o1)].toArray below meth c H locs 0 0 (MQ below (Qg Γ (none) τ (AA Γ s.heap.size)) [.ref (ga Γ 3 o), .ref (ga Γ 3 o1)].toArray s 0 0 (AA Γ s.heap.size)) (F0 m 2 ls []) := by
    intro K hkk n
    induction n with
    | zero =>
      intro _ _ _ _ _ hf
      exact nomatch hf
    | succ n ih =>
      intro v1 σ2 H locs ls hf hw hl
      refine lv_iload_n hx hb dX0_copy_2 rfl (lv_at hl 2 rfl) ?_
      refine lv_bipush (v := 93) hx hb dX0_copy_3 (by decide) ?_
      refine q_ic_ge (tgt := 50) hx hb hf dX0_copy_5 (by decide) (fun hf => ?_) (fun hf => ?_)
      · exact hkk _ _ _ _ _ hf hw (lv_sub hl [] rfl)
      refine lv_aload_n hx hb dX0_copy_8 rfl (lv_at hl 0 rfl) ?_
      refine q_get (v := .ref (ga Γ 120 o)) hx hb hK hw hown in_X0 ins_X0 (rfl : vwCl[2]? = some (RX0, TX0, 4)) rfl ho 1 (by decide) 201 fl_X0_9 rfl rfl dX0_copy_9 ?_
      refine lv_iload_n hx hb dX0_copy_12 rfl (lv_at hl 2 rfl) ?_
      refine lv_aload_n hx hb dX0_copy_13 rfl (lv_at hl 1 rfl) ?_
      refine q_get (v := .ref (ga Γ 120 o1)) hx hb hK hw hown in_X0 ins_X0 (rfl : vwCl[2]? = some (RX0, TX0, 4)) rfl ho1 1 (by decide) 201 fl_X0_9 rfl rfl dX0_copy_14 ?_
      refine lv_iload_n hx hb dX0_copy_17 rfl (lv_at hl 2 rfl) ?_
      refine q_fald hx hb hK hw (k := 120) (o := o1) (fun _ _ _ => rfl) ho1 hf dX0_copy_18 (fun hf => ?_)
      refine q_fast hx hb hK hw (k := 120) (o := o) (fun _ _ _ => rfl) ho hf dX0_copy_19 (fun σ3 H locs hf hw => ?_)
      refine lv_aload_n hx hb dX0_copy_20 rfl (lv_at hl 0 rfl) ?_
      refine q_get (v := .ref (ga Γ 121 o)) hx hb hK hw hown in_X0 ins_X0 (rfl : vwCl[2]? = some (RX0, TX0, 4)) rfl ho 2 (by decide) 202 fl_X0_15 rfl rfl dX0_copy_21 ?_
      refine lv_iload_n hx hb dX0_copy_24 rfl (lv_at hl 2 rfl) ?_
      refine lv_aload_n hx hb dX0_copy_25 rfl (lv_at hl 1 rfl) ?_
      refine q_get (v := .ref (ga Γ 121 o1)) hx hb hK hw hown in_X0 ins_X0 (rfl : vwCl[2]? = some (RX0, TX0, 4)) rfl ho1 2 (by decide) 202 fl_X0_15 rfl rfl dX0_copy_26 ?_
      refine lv_iload_n hx hb dX0_copy_29 rfl (lv_at hl 2 rfl) ?_
      refine q_iald hx hb hK hw (k := 121) (o := o1) (fun _ _ _ => rfl) ho1 hf dX0_copy_30 (fun hf => ?_)
      refine q_iast hx hb hK hw (k := 121) (o := o) (fun _ _ _ => rfl) ho hf dX0_copy_31 (fun σ4 H locs hf hw => ?_)
      refine lv_aload_n hx hb dX0_copy_32 rfl (lv_at hl 0 rfl) ?_
      refine q_get (v := .ref (ga Γ 122 o)) hx hb hK hw hown in_X0 ins_X0 (rfl : vwCl[2]? = some (RX0, TX0, 4)) rfl ho 3 (by decide) 203 fl_X0_19 rfl rfl dX0_copy_33 ?_
      refine lv_iload_n hx hb dX0_copy_36 rfl (lv_at hl 2 rfl) ?_
      refine lv_aload_n hx hb dX0_copy_37 rfl (lv_at hl 1 rfl) ?_
      refine q_get (v := .ref (ga Γ 122 o1)) hx hb hK hw hown in_X0 ins_X0 (rfl : vwCl[2]? = some (RX0, TX0, 4)) rfl ho1 3 (by decide) 203 fl_X0_19 rfl rfl dX0_copy_38 ?_
      refine lv_iload_n hx hb dX0_copy_41 rfl (lv_at hl 2 rfl) ?_
      refine q_iald hx hb hK hw (k := 122) (o := o1) (fun _ _ _ => rfl) ho1 hf dX0_copy_42 (fun hf => ?_)
      refine q_iast hx hb hK hw (k := 122) (o := o) (fun _ _ _ => rfl) ho hf dX0_copy_43 (fun σ5 H locs hf hw => ?_)
      refine q_iinc (lv1 := [(0, .ref (ga Γ 3 o)), (1, .ref (ga Γ 3 o1))]) (d := 1) hx hb hf dX0_copy_44 hl (k := 2) rfl (by decide) (by decide) rfl (fun v6 ls hf hl => ?_)
      refine lv_goto (tgt := 2) hx hb dX0_copy_47 (by decide) ?_
      exact ih _ _ _ _ _ hf hw (lv_sub hl [1, 2, 0] rfl)
  refine L2 _ (fun _ σ7 H locs ls hf hw hl => ?_) N (0 : Int32) σ _ _ _ hf hw (lv_sub hl [1, 2, 0] rfl)
  exact q_vret hx hb hr hk hw dX0_copy_50 hf (Nat.le_of_ble_eq_true rfl) (Nat.le_of_ble_eq_true rfl)
set_option maxRecDepth 100000 in
theorem kJ9_floorMod_7cf53 {Γ : Gm} {S : List (String × Nat × String)} {l : Launch} {N : Nat} {σ : St} {x1 : Int32} {x2 : Int32} {r : Int32}  (hf : fJ9_floorMod_7cf53 N σ x1 x2 = some r) : CT Γ S l yJ9_floorMod_7cf53 cJ9_floorMod_7cf53 3 (some (.int)) 0 0 0 0 [.int x1, .int x2] (some (.int r)) σ σ := by
  unfold fJ9_floorMod_7cf53 at hf
  refine ct_bodyF (lv := [(0, .int x1), (1, .int x2)]) (by decide +kernel) rfl (Nat.le_of_ble_eq_true rfl) ?_
  intro p e s m below meth c ls X hr hk hK hw hl
  have hx := X.1
  have hb := X.2.1
  have hown := X.2.2.2
  refine lv_iload_n hx hb dJ9_floorMod_7cf53_0 rfl (lv_at hl 0 rfl) ?_
  refine lv_iload_n hx hb dJ9_floorMod_7cf53_1 rfl (lv_at hl 1 rfl) ?_
  refine q_irem hx hb hf dJ9_floorMod_7cf53_2 (fun hf => ?_)
  refine q_istore_n (lv1 := [(0, .int x1), (1, .int x2)]) hx hb hf dJ9_floorMod_7cf53_3 rfl hl (by decide) rfl (fun v1 ls hf hl => ?_)
  refine lv_iload_n hx hb dJ9_floorMod_7cf53_4 rfl (lv_at hl 1 rfl) ?_
  refine lv_iload_n hx hb dJ9_floorMod_7cf53_5 rfl (lv_at hl 2 rfl) ?_
  refine lv_ixor hx hb dJ9_floorMod_7cf53_6 ?_
  refine q_if_ge (tgt := 18) hx hb hf dJ9_floorMod_7cf53_7 (by decide) (fun hf => ?_) (fun hf => ?_)
  · refine lv_iload_n hx hb dJ9_floorMod_7cf53_18 rfl (lv_at hl 0 rfl) ?_
    exact q_iret hf hx hb hr rfl hk hw dJ9_floorMod_7cf53_19 (Nat.le_of_ble_eq_true rfl) (Nat.le_of_ble_eq_true rfl)
  refine lv_iload_n hx hb dJ9_floorMod_7cf53_10 rfl (lv_at hl 0 rfl) ?_
  refine q_if_eq (tgt := 18) hx hb hf dJ9_floorMod_7cf53_11 (by decide) (fun hf => ?_) (fun hf => ?_)
  · refine lv_iload_n hx hb dJ9_floorMod_7cf53_18 rfl (lv_at hl 0 rfl) ?_
    exact q_iret hf hx hb hr rfl hk hw dJ9_floorMod_7cf53_19 (Nat.le_of_ble_eq_true rfl) (Nat.le_of_ble_eq_true rfl)
  refine lv_iload_n hx hb dJ9_floorMod_7cf53_14 rfl (lv_at hl 0 rfl) ?_
  refine lv_iload_n hx hb dJ9_floorMod_7cf53_15 rfl (lv_at hl 2 rfl) ?_
  refine lv_iadd hx hb dJ9_floorMod_7cf53_16 ?_
  exact q_iret hf hx hb hr rfl hk hw dJ9_floorMod_7cf53_17 (Nat.le_of_ble_eq_true rfl) (Nat.le_of_ble_eq_true rfl)
set_option maxRecDepth 100000 in
theorem kX3_mix {Γ : Gm} {S : List (String × Nat × String)} {l : Launch} {N : Nat} {σ τ : St} {x1 : Int32} {x2 : Int32}  (hf : fX3_mix N σ x1 x2 = some τ) : CT Γ S l yX3_mix cX3_mix 6 none 2 60 0 0 [.ref (ga Γ 5 0), .int x1, .int x2] none σ τ := by
  unfold fX3_mix at hf
  refine ct_body (lv := [(0, .ref (ga Γ 5 0)), (1, .int x1), (2, .int x2)]) (by decide +kernel) rfl (Nat.le_of_ble_eq_true rfl) ?_
  intro p e s m below meth c ls X hr hk hK hw hl
  have hx := X.1
  have hb := X.2.1
  have hown := X.2.2.2
  refine lv_iconst (v := 0) hx hb dX3_mix_0 (by decide) ?_
  refine lv_istore_n (lv' := [(3, .int (0 : Int32)), (0, .ref (ga Γ 5 0)), (1, .int x1), (2, .int x2)]) hx hb dX3_mix_1 rfl hl (by decide) rfl (fun ls hl => ?_)
  have L2 : ∀ (K : Int32 → St → Option (St)) (hkk : ∀ (y3 : Int32) (σq : St) (H : Heap) (locs : List Loc) (ls : Array Slot), K y3 σq = some τ → Sit Γ σq s H locs → lv_has ls 6 [(0, .ref (ga Γ 5 0)), (1, .int x1), (2, .int x2)] → W p l e { frames := 2, cells := 0, slots := 0, locals := 60 } s m [.ref (ga Γ 5 0), .int x1, .int x2].toArray below meth c H locs 0 0 (MQ below (Qg Γ (none) τ (AA Γ s.heap.size)) [.ref (ga Γ 5 0), .int x1, .int x2].toArray s 0 0 (AA Γ s.heap.size)) (F0 m 40 ls [])) (n : Nat) (v1 : Int32) (σ2 : St) (H : Heap) (locs : List Loc) (ls : Array Slot), fX3_mix_L2 K N x2 n v1 σ2 = some τ → Sit Γ σ2 s H locs → lv_has ls 6 [(0, .ref (ga Γ 5 0)), (1, .int x1), (2, .int x2), (3, .int v1)] → W p l e { frames := 2, cells := 0, slots := 0, locals := 60 } s m [.ref (ga Γ 5 0), .int x1, .int x2].toArray below meth c H locs 0 0 (MQ below (Qg Γ (none) τ (AA Γ s.heap.size)) [.ref (ga Γ 5 0), .int x1, .int x2].toArray s 0 0 (AA Γ s.heap.size)) (F0 m 2 ls []) := by
    intro K hkk n
    induction n with
    | zero =>
      intro _ _ _ _ _ hf
      exact nomatch hf
    | succ n ih =>
      intro v1 σ2 H locs ls hf hw hl
      refine lv_iload_n hx hb dX3_mix_2 rfl (lv_at hl 3 rfl) ?_
      refine lv_iload_n hx hb dX3_mix_3 rfl (lv_at hl 2 rfl) ?_
      refine q_ic_ge (tgt := 40) hx hb hf dX3_mix_4 (by decide) (fun hf => ?_) (fun hf => ?_)
      · exact hkk _ _ _ _ _ hf hw (lv_sub hl [0, 1, 2] rfl)
      refine lv_iload_n hx hb dX3_mix_7 rfl (lv_at hl 3 rfl) ?_
      refine lv_iconst (v := 4) hx hb dX3_mix_8 (by decide) ?_
      refine q_ic_ge (tgt := 40) hx hb hf dX3_mix_9 (by decide) (fun hf => ?_) (fun hf => ?_)
      · exact hkk _ _ _ _ _ hf hw (lv_sub hl [0, 1, 2] rfl)
      refine lv_aload_n hx hb dX3_mix_12 rfl (lv_at hl 0 rfl) ?_
      refine q_get (v := .ref (ga Γ 125 0)) hx hb hK hw hown in_X3 ins_X3 (rfl : vwCl[5]? = some (RX3, TX3, 8)) rfl (Nat.le_of_ble_eq_true rfl : 0 < cnt (gn Γ) 5) 5 (by decide) 232 fl_X3_15 rfl rfl dX3_mix_13 ?_
      refine lv_iload_n hx hb dX3_mix_16 rfl (lv_at hl 3 rfl) ?_
      refine lv_aload_n hx hb dX3_mix_17 rfl (lv_at hl 0 rfl) ?_
      refine q_get (v := .ref (ga Γ 124 0)) hx hb hK hw hown in_X3 ins_X3 (rfl : vwCl[5]? = some (RX3, TX3, 8)) rfl (Nat.le_of_ble_eq_true rfl : 0 < cnt (gn Γ) 5) 4 (by decide) 231 fl_X3_9 rfl rfl dX3_mix_18 ?_
      refine lv_aload_n hx hb dX3_mix_21 rfl (lv_at hl 0 rfl) ?_
      refine q_get (v := .int (gI σ2 5 0 7)) hx hb hK hw hown in_X3 ins_X3 (rfl : vwCl[5]? = some (RX3, TX3, 8)) rfl (Nat.le_of_ble_eq_true rfl : 0 < cnt (gn Γ) 5) 7 (by decide) 234 fl_X3_53 rfl rfl dX3_mix_22 ?_
      refine lv_iload_n hx hb dX3_mix_25 rfl (lv_at hl 2 rfl) ?_
      refine lv_isub hx hb dX3_mix_26 ?_
      refine lv_iload_n hx hb dX3_mix_27 rfl (lv_at hl 3 rfl) ?_
      refine lv_iadd hx hb dX3_mix_28 ?_
      refine lv_iconst (v := (-1)) hx hb dX3_mix_29 (by decide) ?_
      refine q_pI hf hw (fun v h => q_rSN (As := [.ref (ga Γ 124 0), .int (((gI σ2 5 0 7) - x2) + v1), .int ((-1) : Int32)]) (rest := [.int v1, .ref (ga Γ 125 0)]) X hK hw (kX7_intAt (fun _ _ _ => rfl) (Nat.le_of_ble_eq_true rfl : 0 < cnt (gn Γ) 124) h) msX7_intAt lk_X3_57 ⟨Nat.le_of_ble_eq_true rfl, Nat.le_of_ble_eq_true rfl⟩ rfl hl.1 rfl (Nat.le_of_ble_eq_true rfl) dX3_mix_30 ⟨Nat.le_of_ble_eq_true rfl, Nat.le_of_ble_eq_true rfl⟩) (fun v3 H locs hf hw => ?_)
      refine q_iast hx hb hK hw (k := 125) (o := 0) (fun _ _ _ => rfl) (Nat.le_of_ble_eq_true rfl : 0 < cnt (gn Γ) 125) hf dX3_mix_33 (fun σ4 H locs hf hw => ?_)
      refine q_iinc (lv1 := [(0, .ref (ga Γ 5 0)), (1, .int x1), (2, .int x2)]) (d := 1) hx hb hf dX3_mix_34 hl (k := 3) rfl (by decide) (by decide) rfl (fun v5 ls hf hl => ?_)
      refine lv_goto (tgt := 2) hx hb dX3_mix_37 (by decide) ?_
      exact ih _ _ _ _ _ hf hw (lv_sub hl [1, 2, 3, 0] rfl)
  refine L2 _ (fun _ σ6 H locs ls hf hw hl => ?_) N (0 : Int32) σ _ _ _ hf hw (lv_sub hl [1, 2, 3, 0] rfl)
  refine lv_iload_n hx hb dX3_mix_40 rfl (lv_at hl 1 rfl) ?_
  refine lv_istore_n (lv' := [(3, .int x1), (0, .ref (ga Γ 5 0)), (1, .int x1), (2, .int x2)]) hx hb dX3_mix_41 rfl hl (by decide) rfl (fun ls hl => ?_)
  refine lv_iload_n hx hb dX3_mix_42 rfl (lv_at hl 3 rfl) ?_
  refine lv_iconst (v := 4) hx hb dX3_mix_43 (by decide) ?_
  refine q_mmin X hK hl.1 lk_X3_69 jm_min ⟨Nat.le_of_ble_eq_true rfl, Nat.le_of_ble_eq_true rfl⟩ ⟨Nat.le_of_ble_eq_true rfl, Nat.le_of_ble_eq_true rfl⟩ dX3_mix_44 ?_
  refine q_istore (lv1 := [(3, .int x1), (0, .ref (ga Γ 5 0)), (1, .int x1), (2, .int x2)]) hx hb hf dX3_mix_47 hl (by decide) rfl (fun v7 ls hf hl => ?_)
  have L49 : ∀ (K : Int32 → Int32 → St → Option (St)) (hkk : ∀ (y3 : Int32) (y4 : Int32) (σq : St) (H : Heap) (locs : List Loc) (ls : Array Slot), K y3 y4 σq = some τ → Sit Γ σq s H locs → lv_has ls 6 [] → W p l e { frames := 2, cells := 0, slots := 0, locals := 60 } s m [.ref (ga Γ 5 0), .int x1, .int x2].toArray below meth c H locs 0 0 (MQ below (Qg Γ (none) τ (AA Γ s.heap.size)) [.ref (ga Γ 5 0), .int x1, .int x2].toArray s 0 0 (AA Γ s.heap.size)) (F0 m 121 ls [])) (n : Nat) (v8 : Int32) (v9 : Int32) (σ10 : St) (H : Heap) (locs : List Loc) (ls : Array Slot), fX3_mix_L49 K N n v8 v9 σ10 = some τ → Sit Γ σ10 s H locs → lv_has ls 6 [(0, .ref (ga Γ 5 0)), (3, .int v8), (4, .int v9)] → W p l e { frames := 2, cells := 0, slots := 0, locals := 60 } s m [.ref (ga Γ 5 0), .int x1, .int x2].toArray below meth c H locs 0 0 (MQ below (Qg Γ (none) τ (AA Γ s.heap.size)) [.ref (ga Γ 5 0), .int x1, .int x2].toArray s 0 0 (AA Γ s.heap.size)) (F0 m 49 ls []) := by
    intro K hkk n
    induction n with
    | zero =>
      intro _ _ _ _ _ _ hf
      exact nomatch hf
    | succ n ih =>
      intro v8 v9 σ10 H locs ls hf hw hl
      refine lv_iload hx hb dX3_mix_49 (lv_at hl 2 rfl) ?_
      refine lv_iconst (v := 1) hx hb dX3_mix_51 (by decide) ?_
      refine q_ic_lt (tgt := 121) hx hb hf dX3_mix_52 (by decide) (fun hf => ?_) (fun hf => ?_)
      · exact hkk _ _ _ _ _ _ hf hw (lv_sub hl [] rfl)
      refine lv_iload_n hx hb dX3_mix_55 rfl (lv_at hl 1 rfl) ?_
      refine lv_iload hx hb dX3_mix_56 (lv_at hl 2 rfl) ?_
      refine q_pI hf hw (fun v h => q_rS (As := [.int v8, .int v9]) (rest := []) X hK hw (kJ9_floorMod_7cf53 h) msJ9_floorMod_7cf53 lk_X3_101 ⟨Nat.le_of_ble_eq_true rfl, Nat.le_of_ble_eq_true rfl⟩ rfl hl.1 rfl (Nat.le_of_ble_eq_true rfl) dX3_mix_58 ⟨Nat.le_of_ble_eq_true rfl, Nat.le_of_ble_eq_true rfl⟩) (fun v11 H locs hf hw => ?_)
      refine lv_istore (lv' := [(5, .int v11), (0, .ref (ga Γ 5 0)), (3, .int v8), (4, .int v9)]) hx hb dX3_mix_61 hl (by decide) rfl (fun ls hl => ?_)
      refine lv_iload_n hx hb dX3_mix_63 rfl (lv_at hl 2 rfl) ?_
      refine lv_iload hx hb dX3_mix_64 (lv_at hl 3 rfl) ?_
      refine q_idiv hx hb hf dX3_mix_66 (fun hf => ?_)
      refine q_istore_n (lv1 := [(5, .int v11), (0, .ref (ga Γ 5 0)), (4, .int v9)]) hx hb hf dX3_mix_67 rfl hl (by decide) rfl (fun v12 ls hf hl => ?_)
      refine lv_iload hx hb dX3_mix_68 (lv_at hl 1 rfl) ?_
      refine q_if_lt (tgt := 115) hx hb hf dX3_mix_70 (by decide) (fun hf => ?_) (fun hf => ?_)
      · refine q_iinc (lv1 := [(3, .int v12), (5, .int v11), (0, .ref (ga Γ 5 0))]) (d := (-1)) hx hb hf dX3_mix_115 hl (k := 3) rfl (by decide) (by decide) rfl (fun v13 ls hf hl => ?_)
        refine lv_goto (tgt := 49) hx hb dX3_mix_118 (by decide) ?_
        exact ih _ _ _ _ _ _ hf hw (lv_sub hl [3, 1, 0] rfl)
      refine lv_iload hx hb dX3_mix_73 (lv_at hl 1 rfl) ?_
      refine lv_iconst (v := 4) hx hb dX3_mix_75 (by decide) ?_
      refine q_ic_ge (tgt := 115) hx hb hf dX3_mix_76 (by decide) (fun hf => ?_) (fun hf => ?_)
      · refine q_iinc (lv1 := [(3, .int v12), (5, .int v11), (0, .ref (ga Γ 5 0))]) (d := (-1)) hx hb hf dX3_mix_115 hl (k := 3) rfl (by decide) (by decide) rfl (fun v14 ls hf hl => ?_)
        refine lv_goto (tgt := 49) hx hb dX3_mix_118 (by decide) ?_
        exact ih _ _ _ _ _ _ hf hw (lv_sub hl [3, 1, 0] rfl)
      refine lv_iload hx hb dX3_mix_79 (lv_at hl 3 rfl) ?_
      refine lv_iconst (v := 4) hx hb dX3_mix_81 (by decide) ?_
      refine q_ic_gt (tgt := 115) hx hb hf dX3_mix_82 (by decide) (fun hf => ?_) (fun hf => ?_)
      · refine q_iinc (lv1 := [(3, .int v12), (5, .int v11), (0, .ref (ga Γ 5 0))]) (d := (-1)) hx hb hf dX3_mix_115 hl (k := 3) rfl (by decide) (by decide) rfl (fun v15 ls hf hl => ?_)
        refine lv_goto (tgt := 49) hx hb dX3_mix_118 (by decide) ?_
        exact ih _ _ _ _ _ _ hf hw (lv_sub hl [3, 1, 0] rfl)
      refine lv_aload_n hx hb dX3_mix_85 rfl (lv_at hl 2 rfl) ?_
      refine q_get (v := .ref (ga Γ 3 3)) hx hb hK hw hown in_X3 ins_X3 (rfl : vwCl[5]? = some (RX3, TX3, 8)) rfl (Nat.le_of_ble_eq_true rfl : 0 < cnt (gn Γ) 5) 2 (by decide) 229 fl_X3_34 rfl rfl dX3_mix_86 ?_
      refine lv_aload_n hx hb dX3_mix_89 rfl (lv_at hl 2 rfl) ?_
      refine q_get (v := .ref (ga Γ 125 0)) hx hb hK hw hown in_X3 ins_X3 (rfl : vwCl[5]? = some (RX3, TX3, 8)) rfl (Nat.le_of_ble_eq_true rfl : 0 < cnt (gn Γ) 5) 5 (by decide) 232 fl_X3_15 rfl rfl dX3_mix_90 ?_
      refine lv_iload hx hb dX3_mix_93 (lv_at hl 1 rfl) ?_
      refine q_iald hx hb hK hw (k := 125) (o := 0) (fun _ _ _ => rfl) (Nat.le_of_ble_eq_true rfl : 0 < cnt (gn Γ) 125) hf dX3_mix_95 (fun hf => ?_)
      refine q_eV hf hw (fun τ h => q_rV (As := [.int (gI σ10 125 0 (Int32.toNatClampNeg v11))]) (rest := []) (q := (RX0, TX0, 4)) X hK hw rfl (Nat.le_of_ble_eq_true rfl : 3 < cnt (gn Γ) 3) (rfl : vwCl[2]? = _) (kX0_take (Nat.le_of_ble_eq_true rfl : 3 < cnt (gn Γ) 3) h) mvX0_take lk_X3_61 ⟨Nat.le_of_ble_eq_true rfl, Nat.le_of_ble_eq_true rfl⟩ rfl hl.1 rfl (Nat.le_of_ble_eq_true rfl) dX3_mix_96 ⟨Nat.le_of_ble_eq_true rfl, Nat.le_of_ble_eq_true rfl⟩) (fun σ16 H locs hf hw => ?_)
      refine lv_aload_n hx hb dX3_mix_99 rfl (lv_at hl 2 rfl) ?_
      refine q_get (v := .ref (ga Γ 125 0)) hx hb hK hw hown in_X3 ins_X3 (rfl : vwCl[5]? = some (RX3, TX3, 8)) rfl (Nat.le_of_ble_eq_true rfl : 0 < cnt (gn Γ) 5) 5 (by decide) 232 fl_X3_15 rfl rfl dX3_mix_100 ?_
      refine lv_iload hx hb dX3_mix_103 (lv_at hl 1 rfl) ?_
      refine lv_aload_n hx hb dX3_mix_105 rfl (lv_at hl 2 rfl) ?_
      refine q_get (v := .ref (ga Γ 125 0)) hx hb hK hw hown in_X3 ins_X3 (rfl : vwCl[5]? = some (RX3, TX3, 8)) rfl (Nat.le_of_ble_eq_true rfl : 0 < cnt (gn Γ) 5) 5 (by decide) 232 fl_X3_15 rfl rfl dX3_mix_106 ?_
      refine lv_iload hx hb dX3_mix_109 (lv_at hl 3 rfl) ?_
      refine lv_iconst (v := 1) hx hb dX3_mix_111 (by decide) ?_
      refine lv_isub hx hb dX3_mix_112 ?_
      refine q_iald hx hb hK hw (k := 125) (o := 0) (fun _ _ _ => rfl) (Nat.le_of_ble_eq_true rfl : 0 < cnt (gn Γ) 125) hf dX3_mix_113 (fun hf => ?_)
      refine q_iast hx hb hK hw (k := 125) (o := 0) (fun _ _ _ => rfl) (Nat.le_of_ble_eq_true rfl : 0 < cnt (gn Γ) 125) hf dX3_mix_114 (fun σ17 H locs hf hw => ?_)
      refine q_iinc (lv1 := [(3, .int v12), (5, .int v11), (0, .ref (ga Γ 5 0))]) (d := (-1)) hx hb hf dX3_mix_115 hl (k := 3) rfl (by decide) (by decide) rfl (fun v18 ls hf hl => ?_)
      refine lv_goto (tgt := 49) hx hb dX3_mix_118 (by decide) ?_
      exact ih _ _ _ _ _ _ hf hw (lv_sub hl [3, 1, 0] rfl)
  refine L49 _ (fun _ _ σ19 H locs ls hf hw hl => ?_) N x1 v7 σ6 _ _ _ hf hw (lv_sub hl [2, 1, 0] rfl)
  exact q_vret hx hb hr hk hw dX3_mix_121 hf (Nat.le_of_ble_eq_true rfl) (Nat.le_of_ble_eq_true rfl)
set_option maxRecDepth 100000 in
theorem kX3_collect {Γ : Gm} {S : List (String × Nat × String)} {l : Launch} {N : Nat} {σ τ : St} {x1 : Int32} {x2 : Int32} {r : Int32}  (hf : fX3_collect N σ x1 x2 = some (r, τ)) : CT Γ S l yX3_collect cX3_collect 4 (some (.int)) 0 0 0 0 [.ref (ga Γ 5 0), .int x1, .int x2] (some (.int r)) σ τ := by
  unfold fX3_collect at hf
  refine ct_body (lv := [(0, .ref (ga Γ 5 0)), (1, .int x1), (2, .int x2)]) (by decide +kernel) rfl (Nat.le_of_ble_eq_true rfl) ?_
  intro p e s m below meth c ls X hr hk hK hw hl
  have hx := X.1
  have hb := X.2.1
  have hown := X.2.2.2
  refine lv_iconst (v := 0) hx hb dX3_collect_0 (by decide) ?_
  refine lv_istore_n (lv' := [(3, .int (0 : Int32)), (0, .ref (ga Γ 5 0)), (1, .int x1), (2, .int x2)]) hx hb dX3_collect_1 rfl hl (by decide) rfl (fun ls hl => ?_)
  have L2 : ∀ (K : Int32 → Option ((Int32 × St))) (hkk : ∀ (y3 : Int32) (H : Heap) (locs : List Loc) (ls : Array Slot), K y3 = some (r, τ) → Sit Γ σ s H locs → lv_has ls 4 [(0, .ref (ga Γ 5 0)), (1, .int x1), (2, .int x2)] → W p l e { frames := 0, cells := 0, slots := 0, locals := 0 } s m [.ref (ga Γ 5 0), .int x1, .int x2].toArray below meth c H locs 0 0 (MQ below (Qg Γ (some (.int r)) τ (AA Γ s.heap.size)) [.ref (ga Γ 5 0), .int x1, .int x2].toArray s 0 0 (AA Γ s.heap.size)) (F0 m 31 ls [])) (n : Nat) (v1 : Int32) (H : Heap) (locs : List Loc) (ls : Array Slot), fX3_collect_L2 K N σ x1 x2 n v1 = some (r, τ) → Sit Γ σ s H locs → lv_has ls 4 [(0, .ref (ga Γ 5 0)), (1, .int x1), (2, .int x2), (3, .int v1)] → W p l e { frames := 0, cells := 0, slots := 0, locals := 0 } s m [.ref (ga Γ 5 0), .int x1, .int x2].toArray below meth c H locs 0 0 (MQ below (Qg Γ (some (.int r)) τ (AA Γ s.heap.size)) [.ref (ga Γ 5 0), .int x1, .int x2].toArray s 0 0 (AA Γ s.heap.size)) (F0 m 2 ls []) := by
    intro K hkk n
    induction n with
    | zero =>
      intro _ _ _ _ hf
      exact nomatch hf
    | succ n ih =>
      intro v1 H locs ls hf hw hl
      refine lv_iload_n hx hb dX3_collect_2 rfl (lv_at hl 3 rfl) ?_
      refine lv_iload_n hx hb dX3_collect_3 rfl (lv_at hl 1 rfl) ?_
      refine q_ic_ge (tgt := 31) hx hb hf dX3_collect_4 (by decide) (fun hf => ?_) (fun hf => ?_)
      · exact hkk _ _ _ _ hf hw (lv_sub hl [0, 1, 2] rfl)
      refine lv_iload_n hx hb dX3_collect_7 rfl (lv_at hl 3 rfl) ?_
      refine lv_bipush (v := 24) hx hb dX3_collect_8 (by decide) ?_
      refine q_ic_ge (tgt := 31) hx hb hf dX3_collect_10 (by decide) (fun hf => ?_) (fun hf => ?_)
      · exact hkk _ _ _ _ hf hw (lv_sub hl [0, 1, 2] rfl)
      refine lv_aload_n hx hb dX3_collect_13 rfl (lv_at hl 0 rfl) ?_
      refine q_get (v := .ref (ga Γ 126 0)) hx hb hK hw hown in_X3 ins_X3 (rfl : vwCl[5]? = some (RX3, TX3, 8)) rfl (Nat.le_of_ble_eq_true rfl : 0 < cnt (gn Γ) 5) 6 (by decide) 233 fl_X3_18 rfl rfl dX3_collect_14 ?_
      refine lv_iload_n hx hb dX3_collect_17 rfl (lv_at hl 3 rfl) ?_
      refine q_iald hx hb hK hw (k := 126) (o := 0) (fun _ _ _ => rfl) (Nat.le_of_ble_eq_true rfl : 0 < cnt (gn Γ) 126) hf dX3_collect_18 (fun hf => ?_)
      refine lv_iload_n hx hb dX3_collect_19 rfl (lv_at hl 2 rfl) ?_
      refine q_ic_ne (tgt := 25) hx hb hf dX3_collect_20 (by decide) (fun hf => ?_) (fun hf => ?_)
      · refine q_iinc (lv1 := [(0, .ref (ga Γ 5 0)), (1, .int x1), (2, .int x2)]) (d := 1) hx hb hf dX3_collect_25 hl (k := 3) rfl (by decide) (by decide) rfl (fun v2 ls hf hl => ?_)
        refine lv_goto (tgt := 2) hx hb dX3_collect_28 (by decide) ?_
        exact ih _ _ _ _ hf hw (lv_sub hl [1, 2, 3, 0] rfl)
      refine lv_iload_n hx hb dX3_collect_23 rfl (lv_at hl 1 rfl) ?_
      exact q_eiret hf hx hb hr rfl hk hw dX3_collect_24 (Nat.le_of_ble_eq_true rfl) (Nat.le_of_ble_eq_true rfl)
  refine L2 _ (fun _ H locs ls hf hw hl => ?_) N (0 : Int32) _ _ _ hf hw (lv_sub hl [1, 2, 3, 0] rfl)
  refine lv_iload_n hx hb dX3_collect_31 rfl (lv_at hl 1 rfl) ?_
  refine q_if_lt (tgt := 48) hx hb hf dX3_collect_32 (by decide) (fun hf => ?_) (fun hf => ?_)
  · refine lv_iload_n hx hb dX3_collect_48 rfl (lv_at hl 1 rfl) ?_
    refine lv_iconst (v := 1) hx hb dX3_collect_49 (by decide) ?_
    refine lv_iadd hx hb dX3_collect_50 ?_
    exact q_eiret hf hx hb hr rfl hk hw dX3_collect_51 (Nat.le_of_ble_eq_true rfl) (Nat.le_of_ble_eq_true rfl)
  refine lv_iload_n hx hb dX3_collect_35 rfl (lv_at hl 1 rfl) ?_
  refine lv_bipush (v := 24) hx hb dX3_collect_36 (by decide) ?_
  refine q_ic_ge (tgt := 48) hx hb hf dX3_collect_38 (by decide) (fun hf => ?_) (fun hf => ?_)
  · refine lv_iload_n hx hb dX3_collect_48 rfl (lv_at hl 1 rfl) ?_
    refine lv_iconst (v := 1) hx hb dX3_collect_49 (by decide) ?_
    refine lv_iadd hx hb dX3_collect_50 ?_
    exact q_eiret hf hx hb hr rfl hk hw dX3_collect_51 (Nat.le_of_ble_eq_true rfl) (Nat.le_of_ble_eq_true rfl)
  refine lv_aload_n hx hb dX3_collect_41 rfl (lv_at hl 0 rfl) ?_
  refine q_get (v := .ref (ga Γ 126 0)) hx hb hK hw hown in_X3 ins_X3 (rfl : vwCl[5]? = some (RX3, TX3, 8)) rfl (Nat.le_of_ble_eq_true rfl : 0 < cnt (gn Γ) 5) 6 (by decide) 233 fl_X3_18 rfl rfl dX3_collect_42 ?_
  refine lv_iload_n hx hb dX3_collect_45 rfl (lv_at hl 1 rfl) ?_
  refine lv_iload_n hx hb dX3_collect_46 rfl (lv_at hl 2 rfl) ?_
  refine q_iast hx hb hK hw (k := 126) (o := 0) (fun _ _ _ => rfl) (Nat.le_of_ble_eq_true rfl : 0 < cnt (gn Γ) 126) hf dX3_collect_47 (fun σ3 H locs hf hw => ?_)
  refine lv_iload_n hx hb dX3_collect_48 rfl (lv_at hl 1 rfl) ?_
  refine lv_iconst (v := 1) hx hb dX3_collect_49 (by decide) ?_
  refine lv_iadd hx hb dX3_collect_50 ?_
  exact q_eiret hf hx hb hr rfl hk hw dX3_collect_51 (Nat.le_of_ble_eq_true rfl) (Nat.le_of_ble_eq_true rfl)
set_option maxRecDepth 100000 in
theorem kX3_countDifferent {Γ : Gm} {S : List (String × Nat × String)} {l : Launch} {N : Nat} {σ τ : St} {o1 : Nat} {x2 : Int32} {r : Int32} (ho1 : o1 < 3) (hf : fX3_countDifferent N σ o1 x2 = some (r, τ)) : CT Γ S l yX3_countDifferent cX3_countDifferent 7 (some (.int)) 5 111 0 0 [.ref (ga Γ 5 0), .ref (ga Γ 4 o1), .int x2] (some (.int r)) σ τ := by
  unfold fX3_countDifferent at hf
  refine ct_body (lv := [(0, .ref (ga Γ 5 0)), (1, .ref (ga Γ 4 o1)), (2, .int x2)]) (by decide +kernel) rfl (Nat.le_of_ble_eq_true rfl) ?_
  intro p e s m below meth c ls X hr hk hK hw hl
  have hx := X.1
  have hb := X.2.1
  have hown := X.2.2.2
  refine lv_aload_n hx hb dX3_countDifferent_0 rfl (lv_at hl 0 rfl) ?_
  refine lv_aload_n hx hb dX3_countDifferent_1 rfl (lv_at hl 1 rfl) ?_
  refine q_eV hf hw (fun τ h => q_rV (As := [.ref (ga Γ 4 o1)]) (rest := []) (q := (RX3, TX3, 8)) X hK hw rfl (Nat.le_of_ble_eq_true rfl : 0 < cnt (gn Γ) 5) (rfl : vwCl[5]? = _) (kX3_listKnown ho1 h) mvX3_listKnown lk_X3_46 ⟨Nat.le_of_ble_eq_true rfl, Nat.le_of_ble_eq_true rfl⟩ rfl hl.1 rfl (Nat.le_of_ble_eq_true rfl) dX3_countDifferent_2 ⟨Nat.le_of_ble_eq_true rfl, Nat.le_of_ble_eq_true rfl⟩) (fun σ1 H locs hf hw => ?_)
  refine lv_iload_n hx hb dX3_countDifferent_5 rfl (lv_at hl 2 rfl) ?_
  refine lv_aload_n hx hb dX3_countDifferent_6 rfl (lv_at hl 0 rfl) ?_
  refine q_get (v := .int (gI σ1 5 0 7)) hx hb hK hw hown in_X3 ins_X3 (rfl : vwCl[5]? = some (RX3, TX3, 8)) rfl (Nat.le_of_ble_eq_true rfl : 0 < cnt (gn Γ) 5) 7 (by decide) 234 fl_X3_53 rfl rfl dX3_countDifferent_7 ?_
  refine q_mmin X hK hl.1 lk_X3_69 jm_min ⟨Nat.le_of_ble_eq_true rfl, Nat.le_of_ble_eq_true rfl⟩ ⟨Nat.le_of_ble_eq_true rfl, Nat.le_of_ble_eq_true rfl⟩ dX3_countDifferent_10 ?_
  refine q_istore_n (lv1 := [(0, .ref (ga Γ 5 0)), (1, .ref (ga Γ 4 o1)), (2, .int x2)]) hx hb hf dX3_countDifferent_13 rfl hl (by decide) rfl (fun v2 ls hf hl => ?_)
  refine lv_aload_n hx hb dX3_countDifferent_14 rfl (lv_at hl 1 rfl) ?_
  refine q_get (v := .ref (ga Γ 3 4)) hx hb hK hw hown in_X3 ins_X3 (rfl : vwCl[5]? = some (RX3, TX3, 8)) rfl (Nat.le_of_ble_eq_true rfl : 0 < cnt (gn Γ) 5) 1 (by decide) 228 fl_X3_30 rfl rfl dX3_countDifferent_15 ?_
  refine q_eV hf hw (fun τ h => q_rV (As := []) (rest := []) (q := (RX0, TX0, 4)) X hK hw rfl (Nat.le_of_ble_eq_true rfl : 4 < cnt (gn Γ) 3) (rfl : vwCl[2]? = _) (kX0_empty (Nat.le_of_ble_eq_true rfl : 4 < cnt (gn Γ) 3) h) mvX0_empty lk_X3_50 ⟨Nat.le_of_ble_eq_true rfl, Nat.le_of_ble_eq_true rfl⟩ rfl hl.1 rfl (Nat.le_of_ble_eq_true rfl) dX3_countDifferent_18 ⟨Nat.le_of_ble_eq_true rfl, Nat.le_of_ble_eq_true rfl⟩) (fun σ3 H locs hf hw => ?_)
  refine lv_iconst (v := 0) hx hb dX3_countDifferent_21 (by decide) ?_
  refine lv_istore (lv' := [(4, .int (0 : Int32)), (3, .int v2), (0, .ref (ga Γ 5 0)), (1, .ref (ga Γ 4 o1)), (2, .int x2)]) hx hb dX3_countDifferent_22 hl (by decide) rfl (fun ls hl => ?_)
  have L24 : ∀ (K : Int32 → St → Option ((Int32 × St))) (hkk : ∀ (y4 : Int32) (σq : St) (H : Heap) (locs : List Loc) (ls : Array Slot), K y4 σq = some (r, τ) → Sit Γ σq s H locs → lv_has ls 7 [(0, .ref (ga Γ 5 0)), (3, .int v2)] → W p l e { frames := 5, cells := 0, slots := 0, locals := 111 } s m [.ref (ga Γ 5 0), .ref (ga Γ 4 o1), .int x2].toArray below meth c H locs 0 0 (MQ below (Qg Γ (some (.int r)) τ (AA Γ s.heap.size)) [.ref (ga Γ 5 0), .ref (ga Γ 4 o1), .int x2].toArray s 0 0 (AA Γ s.heap.size)) (F0 m 58 ls [])) (n : Nat) (v4 : Int32) (σ5 : St) (H : Heap) (locs : List Loc) (ls : Array Slot), fX3_countDifferent_L24 K N v2 n v4 σ5 = some (r, τ) → Sit Γ σ5 s H locs → lv_has ls 7 [(0, .ref (ga Γ 5 0)), (3, .int v2), (4, .int v4)] → W p l e { frames := 5, cells := 0, slots := 0, locals := 111 } s m [.ref (ga Γ 5 0), .ref (ga Γ 4 o1), .int x2].toArray below meth c H locs 0 0 (MQ below (Qg Γ (some (.int r)) τ (AA Γ s.heap.size)) [.ref (ga Γ 5 0), .ref (ga Γ 4 o1), .int x2].toArray s 0 0 (AA Γ s.heap.size)) (F0 m 24 ls []) := by
    intro K hkk n
    induction n with
    | zero =>
      intro _ _ _ _ _ hf
      exact nomatch hf
    | succ n ih =>
      intro v4 σ5 H locs ls hf hw hl
      refine lv_iload hx hb dX3_countDifferent_24 (lv_at hl 2 rfl) ?_
      refine lv_aload_n hx hb dX3_countDifferent_26 rfl (lv_at hl 0 rfl) ?_
      refine q_get (v := .int (gI σ5 5 0 7)) hx hb hK hw hown in_X3 ins_X3 (rfl : vwCl[5]? = some (RX3, TX3, 8)) rfl (Nat.le_of_ble_eq_true rfl : 0 < cnt (gn Γ) 5) 7 (by decide) 234 fl_X3_53 rfl rfl dX3_countDifferent_27 ?_
      refine lv_iload_n hx hb dX3_countDifferent_30 rfl (lv_at hl 1 rfl) ?_
      refine lv_isub hx hb dX3_countDifferent_31 ?_
      refine q_ic_ge (tgt := 58) hx hb hf dX3_countDifferent_32 (by decide) (fun hf => ?_) (fun hf => ?_)
      · exact hkk _ _ _ _ _ hf hw (lv_sub hl [0, 1] rfl)
      refine lv_aload_n hx hb dX3_countDifferent_35 rfl (lv_at hl 0 rfl) ?_
      refine q_get (v := .ref (ga Γ 3 4)) hx hb hK hw hown in_X3 ins_X3 (rfl : vwCl[5]? = some (RX3, TX3, 8)) rfl (Nat.le_of_ble_eq_true rfl : 0 < cnt (gn Γ) 5) 1 (by decide) 228 fl_X3_30 rfl rfl dX3_countDifferent_36 ?_
      refine lv_aload_n hx hb dX3_countDifferent_39 rfl (lv_at hl 0 rfl) ?_
      refine q_get (v := .ref (ga Γ 124 0)) hx hb hK hw hown in_X3 ins_X3 (rfl : vwCl[5]? = some (RX3, TX3, 8)) rfl (Nat.le_of_ble_eq_true rfl : 0 < cnt (gn Γ) 5) 4 (by decide) 231 fl_X3_9 rfl rfl dX3_countDifferent_40 ?_
      refine lv_iload hx hb dX3_countDifferent_43 (lv_at hl 2 rfl) ?_
      refine lv_iconst (v := (-1)) hx hb dX3_countDifferent_45 (by decide) ?_
      refine q_pI hf hw (fun v h => q_rSN (As := [.ref (ga Γ 124 0), .int v4, .int ((-1) : Int32)]) (rest := [.ref (ga Γ 3 4)]) X hK hw (kX7_intAt (fun _ _ _ => rfl) (Nat.le_of_ble_eq_true rfl : 0 < cnt (gn Γ) 124) h) msX7_intAt lk_X3_57 ⟨Nat.le_of_ble_eq_true rfl, Nat.le_of_ble_eq_true rfl⟩ rfl hl.1 rfl (Nat.le_of_ble_eq_true rfl) dX3_countDifferent_46 ⟨Nat.le_of_ble_eq_true rfl, Nat.le_of_ble_eq_true rfl⟩) (fun v6 H locs hf hw => ?_)
      refine q_eV hf hw (fun τ h => q_rV (As := [.int v6]) (rest := []) (q := (RX0, TX0, 4)) X hK hw rfl (Nat.le_of_ble_eq_true rfl : 4 < cnt (gn Γ) 3) (rfl : vwCl[2]? = _) (kX0_take (Nat.le_of_ble_eq_true rfl : 4 < cnt (gn Γ) 3) h) mvX0_take lk_X3_61 ⟨Nat.le_of_ble_eq_true rfl, Nat.le_of_ble_eq_true rfl⟩ rfl hl.1 rfl (Nat.le_of_ble_eq_true rfl) dX3_countDifferent_49 ⟨Nat.le_of_ble_eq_true rfl, Nat.le_of_ble_eq_true rfl⟩) (fun σ7 H locs hf hw => ?_)
      refine q_iinc (lv1 := [(0, .ref (ga Γ 5 0)), (3, .int v2)]) (d := 1) hx hb hf dX3_countDifferent_52 hl (k := 2) rfl (by decide) (by decide) rfl (fun v8 ls hf hl => ?_)
      refine lv_goto (tgt := 24) hx hb dX3_countDifferent_55 (by decide) ?_
      exact ih _ _ _ _ _ hf hw (lv_sub hl [1, 2, 0] rfl)
  refine L24 _ (fun _ σ9 H locs ls hf hw hl => ?_) N (0 : Int32) σ3 _ _ _ hf hw (lv_sub hl [2, 1, 0] rfl)
  refine lv_iconst (v := 1) hx hb dX3_countDifferent_58 (by decide) ?_
  refine lv_istore (lv' := [(4, .int (1 : Int32)), (0, .ref (ga Γ 5 0)), (3, .int v2)]) hx hb dX3_countDifferent_59 hl (by decide) rfl (fun ls hl => ?_)
  refine lv_iconst (v := 2) hx hb dX3_countDifferent_61 (by decide) ?_
  refine lv_istore (lv' := [(5, .int (2 : Int32)), (4, .int (1 : Int32)), (0, .ref (ga Γ 5 0)), (3, .int v2)]) hx hb dX3_countDifferent_62 hl (by decide) rfl (fun ls hl => ?_)
  have L64 : ∀ (K : Int32 → Int32 → Option ((Int32 × St))) (hkk : ∀ (y4 : Int32) (y5 : Int32) (H : Heap) (locs : List Loc) (ls : Array Slot), K y4 y5 = some (r, τ) → Sit Γ σ9 s H locs → lv_has ls 7 [(0, .ref (ga Γ 5 0)), (3, .int v2), (4, .int y4)] → W p l e { frames := 5, cells := 0, slots := 0, locals := 111 } s m [.ref (ga Γ 5 0), .ref (ga Γ 4 o1), .int x2].toArray below meth c H locs 0 0 (MQ below (Qg Γ (some (.int r)) τ (AA Γ s.heap.size)) [.ref (ga Γ 5 0), .ref (ga Γ 4 o1), .int x2].toArray s 0 0 (AA Γ s.heap.size)) (F0 m 83 ls [])) (n : Nat) (v10 : Int32) (v11 : Int32) (H : Heap) (locs : List Loc) (ls : Array Slot), fX3_countDifferent_L64 K N v2 n v10 v11 = some (r, τ) → Sit Γ σ9 s H locs → lv_has ls 7 [(0, .ref (ga Γ 5 0)), (3, .int v2), (4, .int v10), (5, .int v11)] → W p l e { frames := 5, cells := 0, slots := 0, locals := 111 } s m [.ref (ga Γ 5 0), .ref (ga Γ 4 o1), .int x2].toArray below meth c H locs 0 0 (MQ below (Qg Γ (some (.int r)) τ (AA Γ s.heap.size)) [.ref (ga Γ 5 0), .ref (ga Γ 4 o1), .int x2].toArray s 0 0 (AA Γ s.heap.size)) (F0 m 64 ls []) := by
    intro K hkk n
    induction n with
    | zero =>
      intro _ _ _ _ _ hf
      exact nomatch hf
    | succ n ih =>
      intro v10 v11 H locs ls hf hw hl
      refine lv_iload hx hb dX3_countDifferent_64 (lv_at hl 3 rfl) ?_
      refine lv_iload_n hx hb dX3_countDifferent_66 rfl (lv_at hl 1 rfl) ?_
      refine q_ic_gt (tgt := 83) hx hb hf dX3_countDifferent_67 (by decide) (fun hf => ?_) (fun hf => ?_)
      · exact hkk _ _ _ _ _ hf hw (lv_sub hl [0, 1, 2] rfl)
      refine lv_iload hx hb dX3_countDifferent_70 (lv_at hl 2 rfl) ?_
      refine lv_iload hx hb dX3_countDifferent_72 (lv_at hl 3 rfl) ?_
      refine lv_imul hx hb dX3_countDifferent_74 ?_
      refine q_istore (lv1 := [(0, .ref (ga Γ 5 0)), (3, .int v2), (5, .int v11)]) hx hb hf dX3_countDifferent_75 hl (by decide) rfl (fun v12 ls hf hl => ?_)
      refine q_iinc (lv1 := [(4, .int v12), (0, .ref (ga Γ 5 0)), (3, .int v2)]) (d := 1) hx hb hf dX3_countDifferent_77 hl (k := 3) rfl (by decide) (by decide) rfl (fun v13 ls hf hl => ?_)
      refine lv_goto (tgt := 64) hx hb dX3_countDifferent_80 (by decide) ?_
      exact ih _ _ _ _ _ hf hw (lv_sub hl [2, 3, 1, 0] rfl)
  refine L64 _ (fun v14 _ H locs ls hf hw hl => ?_) N (1 : Int32) (2 : Int32) _ _ _ hf hw (lv_sub hl [2, 3, 1, 0] rfl)
  refine lv_iconst (v := 0) hx hb dX3_countDifferent_83 (by decide) ?_
  refine lv_istore (lv' := [(5, .int (0 : Int32)), (0, .ref (ga Γ 5 0)), (3, .int v2), (4, .int v14)]) hx hb dX3_countDifferent_84 hl (by decide) rfl (fun ls hl => ?_)
  refine lv_iconst (v := 0) hx hb dX3_countDifferent_86 (by decide) ?_
  refine lv_istore (lv' := [(6, .int (0 : Int32)), (5, .int (0 : Int32)), (0, .ref (ga Γ 5 0)), (3, .int v2), (4, .int v14)]) hx hb dX3_countDifferent_87 hl (by decide) rfl (fun ls hl => ?_)
  have L89 : ∀ (K : Int32 → Int32 → St → Option ((Int32 × St))) (hkk : ∀ (y5 : Int32) (y6 : Int32) (σq : St) (H : Heap) (locs : List Loc) (ls : Array Slot), K y5 y6 σq = some (r, τ) → Sit Γ σq s H locs → lv_has ls 7 [(5, .int y5)] → W p l e { frames := 5, cells := 0, slots := 0, locals := 111 } s m [.ref (ga Γ 5 0), .ref (ga Γ 4 o1), .int x2].toArray below meth c H locs 0 0 (MQ below (Qg Γ (some (.int r)) τ (AA Γ s.heap.size)) [.ref (ga Γ 5 0), .ref (ga Γ 4 o1), .int x2].toArray s 0 0 (AA Γ s.heap.size)) (F0 m 135 ls [])) (n : Nat) (v15 : Int32) (v16 : Int32) (σ17 : St) (H : Heap) (locs : List Loc) (ls : Array Slot), fX3_countDifferent_L89 K N v2 v14 n v15 v16 σ17 = some (r, τ) → Sit Γ σ17 s H locs → lv_has ls 7 [(0, .ref (ga Γ 5 0)), (3, .int v2), (4, .int v14), (5, .int v15), (6, .int v16)] → W p l e { frames := 5, cells := 0, slots := 0, locals := 111 } s m [.ref (ga Γ 5 0), .ref (ga Γ 4 o1), .int x2].toArray below meth c H locs 0 0 (MQ below (Qg Γ (some (.int r)) τ (AA Γ s.heap.size)) [.ref (ga Γ 5 0), .ref (ga Γ 4 o1), .int x2].toArray s 0 0 (AA Γ s.heap.size)) (F0 m 89 ls []) := by
    intro K hkk n
    induction n with
    | zero =>
      intro _ _ _ _ _ _ hf
      exact nomatch hf
    | succ n ih =>
      intro v15 v16 σ17 H locs ls hf hw hl
      refine lv_iload hx hb dX3_countDifferent_89 (lv_at hl 4 rfl) ?_
      refine lv_iload hx hb dX3_countDifferent_91 (lv_at hl 2 rfl) ?_
      refine q_ic_ge (tgt := 135) hx hb hf dX3_countDifferent_93 (by decide) (fun hf => ?_) (fun hf => ?_)
      · exact hkk _ _ _ _ _ _ hf hw (lv_sub hl [3] rfl)
      refine lv_aload_n hx hb dX3_countDifferent_96 rfl (lv_at hl 0 rfl) ?_
      refine q_get (v := .ref (ga Γ 3 3)) hx hb hK hw hown in_X3 ins_X3 (rfl : vwCl[5]? = some (RX3, TX3, 8)) rfl (Nat.le_of_ble_eq_true rfl : 0 < cnt (gn Γ) 5) 2 (by decide) 229 fl_X3_34 rfl rfl dX3_countDifferent_97 ?_
      refine lv_aload_n hx hb dX3_countDifferent_100 rfl (lv_at hl 0 rfl) ?_
      refine q_get (v := .ref (ga Γ 3 4)) hx hb hK hw hown in_X3 ins_X3 (rfl : vwCl[5]? = some (RX3, TX3, 8)) rfl (Nat.le_of_ble_eq_true rfl : 0 < cnt (gn Γ) 5) 1 (by decide) 228 fl_X3_30 rfl rfl dX3_countDifferent_101 ?_
      refine q_eV hf hw (fun τ h => q_rV (As := [.ref (ga Γ 3 4)]) (rest := []) (q := (RX0, TX0, 4)) X hK hw rfl (Nat.le_of_ble_eq_true rfl : 3 < cnt (gn Γ) 3) (rfl : vwCl[2]? = _) (kX0_copy (Nat.le_of_ble_eq_true rfl : 3 < cnt (gn Γ) 3) (Nat.le_of_ble_eq_true rfl : 4 < cnt (gn Γ) 3) h) mvX0_copy lk_X3_75 ⟨Nat.le_of_ble_eq_true rfl, Nat.le_of_ble_eq_true rfl⟩ rfl hl.1 rfl (Nat.le_of_ble_eq_true rfl) dX3_countDifferent_104 ⟨Nat.le_of_ble_eq_true rfl, Nat.le_of_ble_eq_true rfl⟩) (fun σ18 H locs hf hw => ?_)
      refine lv_aload_n hx hb dX3_countDifferent_107 rfl (lv_at hl 0 rfl) ?_
      refine lv_iload hx hb dX3_countDifferent_108 (lv_at hl 4 rfl) ?_
      refine lv_iload_n hx hb dX3_countDifferent_110 rfl (lv_at hl 1 rfl) ?_
      refine q_eV hf hw (fun τ h => q_rV (As := [.int v16, .int v2]) (rest := []) (q := (RX3, TX3, 8)) X hK hw rfl (Nat.le_of_ble_eq_true rfl : 0 < cnt (gn Γ) 5) (rfl : vwCl[5]? = _) (kX3_mix h) mvX3_mix lk_X3_79 ⟨Nat.le_of_ble_eq_true rfl, Nat.le_of_ble_eq_true rfl⟩ rfl hl.1 rfl (Nat.le_of_ble_eq_true rfl) dX3_countDifferent_111 ⟨Nat.le_of_ble_eq_true rfl, Nat.le_of_ble_eq_true rfl⟩) (fun σ19 H locs hf hw => ?_)
      refine lv_aload_n hx hb dX3_countDifferent_114 rfl (lv_at hl 0 rfl) ?_
      refine lv_iload hx hb dX3_countDifferent_115 (lv_at hl 3 rfl) ?_
      refine lv_aload_n hx hb dX3_countDifferent_117 rfl (lv_at hl 0 rfl) ?_
      refine q_get (v := .ref (ga Γ 7 3)) hx hb hK hw hown in_X3 ins_X3 (rfl : vwCl[5]? = some (RX3, TX3, 8)) rfl (Nat.le_of_ble_eq_true rfl : 0 < cnt (gn Γ) 5) 3 (by decide) 230 fl_X3_42 rfl rfl dX3_countDifferent_118 ?_
      refine q_pI hf hw (fun v h => q_rV (As := []) (rest := [.int v15, .ref (ga Γ 5 0)]) (q := (RX6, TX6, 2)) X hK hw rfl (Nat.le_of_ble_eq_true rfl : 3 < cnt (gn Γ) 7) (rfl : vwCl[8]? = _) (kX6_sumUp (Nat.le_of_ble_eq_true rfl : 3 < cnt (gn Γ) 7) h) mvX6_sumUp lk_X3_65 ⟨Nat.le_of_ble_eq_true rfl, Nat.le_of_ble_eq_true rfl⟩ rfl hl.1 rfl (Nat.le_of_ble_eq_true rfl) dX3_countDifferent_121 ⟨Nat.le_of_ble_eq_true rfl, Nat.le_of_ble_eq_true rfl⟩) (fun v20 H locs hf hw => ?_)
      refine q_eI hf hw (fun v τ h => q_rV (As := [.int v15, .int v20]) (rest := []) (q := (RX3, TX3, 8)) X hK hw rfl (Nat.le_of_ble_eq_true rfl : 0 < cnt (gn Γ) 5) (rfl : vwCl[5]? = _) (kX3_collect h) mvX3_collect lk_X3_83 ⟨Nat.le_of_ble_eq_true rfl, Nat.le_of_ble_eq_true rfl⟩ rfl hl.1 rfl (Nat.le_of_ble_eq_true rfl) dX3_countDifferent_124 ⟨Nat.le_of_ble_eq_true rfl, Nat.le_of_ble_eq_true rfl⟩) (fun v22 σ21 H locs hf hw => ?_)
      refine lv_istore (lv' := [(5, .int v22), (0, .ref (ga Γ 5 0)), (3, .int v2), (4, .int v14), (6, .int v16)]) hx hb dX3_countDifferent_127 hl (by decide) rfl (fun ls hl => ?_)
      refine q_iinc (lv1 := [(5, .int v22), (0, .ref (ga Γ 5 0)), (3, .int v2), (4, .int v14)]) (d := 1) hx hb hf dX3_countDifferent_129 hl (k := 4) rfl (by decide) (by decide) rfl (fun v23 ls hf hl => ?_)
      refine lv_goto (tgt := 89) hx hb dX3_countDifferent_132 (by decide) ?_
      exact ih _ _ _ _ _ _ hf hw (lv_sub hl [2, 3, 4, 1, 0] rfl)
  refine L89 _ (fun v24 _ σ25 H locs ls hf hw hl => ?_) N (0 : Int32) (0 : Int32) σ9 _ _ _ hf hw (lv_sub hl [2, 3, 4, 1, 0] rfl)
  refine lv_iload hx hb dX3_countDifferent_135 (lv_at hl 0 rfl) ?_
  exact q_eiret hf hx hb hr rfl hk hw dX3_countDifferent_137 (Nat.le_of_ble_eq_true rfl) (Nat.le_of_ble_eq_true rfl)
set_option maxRecDepth 100000 in
theorem kX7_isSameValue {Γ : Gm} {S : List (String × Nat × String)} {l : Launch} {N : Nat} {σ : St} {x1 : UInt32} {x2 : UInt32} {r : Int32}  (hf : fX7_isSameValue N σ x1 x2 = some r) : CT Γ S l yX7_isSameValue cX7_isSameValue 2 (some (.boolean)) 1 20 0 0 [.float x1, .float x2] (some (.int r)) σ σ := by
  unfold fX7_isSameValue at hf
  refine ct_body (lv := [(0, .float x1), (1, .float x2)]) (by decide +kernel) rfl (Nat.le_of_ble_eq_true rfl) ?_
  intro p e s m below meth c ls X hr hk hK hw hl
  have hx := X.1
  have hb := X.2.1
  have hown := X.2.2.2
  refine lv_fload_n hx hb dX7_isSameValue_0 rfl (lv_at hl 0 rfl) ?_
  refine lv_fload_n hx hb dX7_isSameValue_1 rfl (lv_at hl 1 rfl) ?_
  refine lv_fcmp hx hb dX7_isSameValue_2 ?_
  refine q_if_ne (tgt := 21) hx hb hf dX7_isSameValue_3 (by decide) (fun hf => ?_) (fun hf => ?_)
  · refine lv_iconst (v := 0) hx hb dX7_isSameValue_21 (by decide) ?_
    exact q_iret hf hx hb hr rfl hk hw dX7_isSameValue_22 (Nat.le_of_ble_eq_true rfl) (Nat.le_of_ble_eq_true rfl)
  refine lv_fload_n hx hb dX7_isSameValue_6 rfl (lv_at hl 0 rfl) ?_
  refine q_pI hf hw (fun v h => q_rS (As := [.float x1]) (rest := []) X hK hw (kX7_isNegativeZero h) msX7_isNegativeZero lk_X7_393 ⟨Nat.le_of_ble_eq_true rfl, Nat.le_of_ble_eq_true rfl⟩ rfl hl.1 rfl (Nat.le_of_ble_eq_true rfl) dX7_isSameValue_7 ⟨Nat.le_of_ble_eq_true rfl, Nat.le_of_ble_eq_true rfl⟩) (fun v1 H locs hf hw => ?_)
  refine lv_fload_n hx hb dX7_isSameValue_10 rfl (lv_at hl 1 rfl) ?_
  refine q_pI hf hw (fun v h => q_rS (As := [.float x2]) (rest := [.int v1]) X hK hw (kX7_isNegativeZero h) msX7_isNegativeZero lk_X7_393 ⟨Nat.le_of_ble_eq_true rfl, Nat.le_of_ble_eq_true rfl⟩ rfl hl.1 rfl (Nat.le_of_ble_eq_true rfl) dX7_isSameValue_11 ⟨Nat.le_of_ble_eq_true rfl, Nat.le_of_ble_eq_true rfl⟩) (fun v2 H locs hf hw => ?_)
  refine q_ic_ne (tgt := 21) hx hb hf dX7_isSameValue_14 (by decide) (fun hf => ?_) (fun hf => ?_)
  · refine lv_iconst (v := 0) hx hb dX7_isSameValue_21 (by decide) ?_
    exact q_iret hf hx hb hr rfl hk hw dX7_isSameValue_22 (Nat.le_of_ble_eq_true rfl) (Nat.le_of_ble_eq_true rfl)
  refine lv_iconst (v := 1) hx hb dX7_isSameValue_17 (by decide) ?_
  refine lv_goto (tgt := 22) hx hb dX7_isSameValue_18 (by decide) ?_
  exact q_iret hf hx hb hr rfl hk hw dX7_isSameValue_22 (Nat.le_of_ble_eq_true rfl) (Nat.le_of_ble_eq_true rfl)
