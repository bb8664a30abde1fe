/-! The law's cases, by program. -/
set_option maxRecDepth 100000 in
theorem cs_15 {p : Program} {l : Launch} {e : Env} {s : State} {m : MethodId} {args : Array Value} {below : List Frame} {meth : Method} {c : Code} {H : Heap} {locs : List Loc} {Q : State → Prop} {ls : Array Slot} {Γ : Gm} {b L N cc ss : Nat} {xs : Nat → Int32} {σ τ : St} {i : Int32} (hfl : l.stackTraces = false) (X : Fx p c cL_law 9 s m RL) (hK : KK Γ STR s.heap.size s) (hL : LX Γ s b L xs) (hC : cc + 16 ≤ 603072) (hS : ss + 256 ≤ 7223402) (hf : g_15 N xs L σ i = some (true, τ)) (hw : Sit Γ σ s H locs) (hl : lv_has ls 9 [(0, .ref b), (1, .ref (ga Γ 0 0)), (2, .ref (ga Γ 8 0)), (3, .ref (ga Γ 180 0)), (4, .ref (ga Γ 181 0)), (5, .int i)])
    (kk : ∀ (τ2 : St) (H : Heap) (locs : List Loc) (ls : Array Slot), some (true, τ2) = some (true, τ) → Sit Γ τ2 s H locs → lv_has ls 9 [(0, .ref b), (1, .ref (ga Γ 0 0)), (2, .ref (ga Γ 8 0)), (3, .ref (ga Γ 180 0)), (4, .ref (ga Γ 181 0)), (5, .int i)] → W p l e room_1 s m args below meth c H locs (cc + 16) (ss + 256) Q (F0 m 3387 ls [])) : W p l e room_1 s m args below meth c H locs cc ss Q (F0 m 1425 ls []) := by
  unfold g_15 at hf
  have hx := X.1
  have hb := X.2.1
  refine lv_aload_n hx hb dL_law_1425 rfl (lv_at hl 1 rfl) ?_
  refine q_pI hf hw (fun v h => q_rV (As := []) (rest := []) (q := (RX7, TX7, 5)) X hK hw rfl (Nat.le_of_ble_eq_true rfl : 0 < cnt (gn Γ) 0) (rfl : vwCl[9]? = _) (kX7_operations h) mvX7_operations lk_L_227 ⟨Nat.le_of_ble_eq_true rfl, Nat.le_of_ble_eq_true rfl⟩ rfl hl.1 rfl (Nat.le_of_ble_eq_true rfl) dL_law_1426 ⟨rmC (cc := cc) (a := 0) hC (Nat.le_of_ble_eq_true rfl), rmS (ss := ss) (a := 0) hS (Nat.le_of_ble_eq_true rfl)⟩) (fun v1 H locs hf hw => ?_)
  refine lv_aload_n hx hb dL_law_1429 rfl (lv_at hl 2 rfl) ?_
  refine q_eI hf hw (fun v τ h => q_rV (As := []) (rest := [.int v1]) (q := (RX8, TX8, 32)) X hK hw rfl (Nat.le_of_ble_eq_true rfl : 0 < cnt (gn Γ) 8) (rfl : vwCl[10]? = _) (kX8_operations h) mvX8_operations lk_L_230 ⟨Nat.le_of_ble_eq_true rfl, Nat.le_of_ble_eq_true rfl⟩ rfl hl.1 rfl (Nat.le_of_ble_eq_true rfl) dL_law_1430 ⟨rmC (cc := cc) (a := 0) hC (Nat.le_of_ble_eq_true rfl), rmS (ss := ss) (a := 0) hS (Nat.le_of_ble_eq_true rfl)⟩) (fun v3 σ2 H locs hf hw => ?_)
  refine q_ic_eq (tgt := 3387) hx hb hf dL_law_1433 (by decide) (fun hf => ?_) (fun hf => ?_)
  · exact W.widen (k := cc + 16) (n := ss + 256) (Nat.add_le_add_left (Nat.le_of_ble_eq_true rfl : 0 ≤ 16) cc) (Nat.add_le_add_left (Nat.le_of_ble_eq_true rfl : 0 ≤ 256) ss) (kk _ _ _ _ hf hw (lv_sub hl [0, 1, 2, 3, 4, 5] rfl))
  refine lv_iconst (v := 0) hx hb dL_law_1436 (by decide) ?_
  exact nomatch hf
set_option maxRecDepth 100000 in
theorem cs_16 {p : Program} {l : Launch} {e : Env} {s : State} {m : MethodId} {args : Array Value} {below : List Frame} {meth : Method} {c : Code} {H : Heap} {locs : List Loc} {Q : State → Prop} {ls : Array Slot} {Γ : Gm} {b L N cc ss : Nat} {xs : Nat → Int32} {σ τ : St} {i : Int32} (hfl : l.stackTraces = false) (X : Fx p c cL_law 9 s m RL) (hK : KK Γ STR s.heap.size s) (hL : LX Γ s b L xs) (hC : cc + 16 ≤ 603072) (hS : ss + 256 ≤ 7223402) (hf : g_16 N xs L σ i = some (true, τ)) (hw : Sit Γ σ s H locs) (hl : lv_has ls 9 [(0, .ref b), (1, .ref (ga Γ 0 0)), (2, .ref (ga Γ 8 0)), (3, .ref (ga Γ 180 0)), (4, .ref (ga Γ 181 0)), (5, .int i)])
    (kk : ∀ (τ2 : St) (H : Heap) (locs : List Loc) (ls : Array Slot), some (true, τ2) = some (true, τ) → Sit Γ τ2 s H locs → lv_has ls 9 [(0, .ref b), (1, .ref (ga Γ 0 0)), (2, .ref (ga Γ 8 0)), (3, .ref (ga Γ 180 0)), (4, .ref (ga Γ 181 0)), (5, .int i)] → W p l e room_1 s m args below meth c H locs (cc + 16) (ss + 256) Q (F0 m 3387 ls [])) : W p l e room_1 s m args below meth c H locs cc ss Q (F0 m 1438 ls []) := by
  unfold g_16 at hf
  have hx := X.1
  have hb := X.2.1
  refine lv_aload_n hx hb dL_law_1438 rfl (lv_at hl 1 rfl) ?_
  refine lv_aload_n hx hb dL_law_1439 rfl (lv_at hl 0 rfl) ?_
  refine lv_iload hx hb dL_law_1440 (lv_at hl 5 rfl) ?_
  refine lv_iconst (v := 1) hx hb dL_law_1442 (by decide) ?_
  refine lv_iadd hx hb dL_law_1443 ?_
  refine q_sld hx hb hL hw hf dL_law_1444 (fun hf => ?_)
  refine lv_aload_n hx hb dL_law_1445 rfl (lv_at hl 3 rfl) ?_
  refine q_eI hf hw (fun v τ h => q_rW (As := [.ref (ga Γ 0 0), .int (xs (Int32.toNatClampNeg (i + (1 : Int32)))), .ref (ga Γ 180 0)]) (rest := []) X hK hw (kL_userOf hfl h) mwL_userOf lk_L_231 ⟨Nat.le_of_ble_eq_true rfl, Nat.le_of_ble_eq_true rfl⟩ rfl hl.1 rfl (Nat.le_of_ble_eq_true rfl) dL_law_1446 ⟨rmC (cc := cc) (a := 1) hC (Nat.le_of_ble_eq_true rfl), rmS (ss := ss) (a := 6) hS (Nat.le_of_ble_eq_true rfl)⟩) (fun v2 σ1 H locs hf hw => ?_)
  refine lv_istore (lv' := [(6, .int v2), (0, .ref b), (1, .ref (ga Γ 0 0)), (2, .ref (ga Γ 8 0)), (3, .ref (ga Γ 180 0)), (4, .ref (ga Γ 181 0)), (5, .int i)]) hx hb dL_law_1449 hl (by decide) rfl (fun ls hl => ?_)
  refine lv_aload_n hx hb dL_law_1451 rfl (lv_at hl 3 rfl) ?_
  refine lv_aload_n hx hb dL_law_1452 rfl (lv_at hl 1 rfl) ?_
  refine lv_iload hx hb dL_law_1453 (lv_at hl 6 rfl) ?_
  refine lv_iconst (v := 1) hx hb dL_law_1455 (by decide) ?_
  refine lv_iadd hx hb dL_law_1456 ?_
  refine q_sld hx hb hL hw hf dL_law_1457 (fun hf => ?_)
  refine q_eI hf hw (fun v τ h => q_rV (As := [.int (xs (Int32.toNatClampNeg (i + (1 : Int32))))]) (rest := []) (q := (RX8, TX8, 32)) X hK hw rfl (Nat.le_of_ble_eq_true rfl : 0 < cnt (gn Γ) 8) (rfl : vwCl[10]? = _) (kX8_userOf h) mvX8_userOf lk_L_233 ⟨Nat.le_of_ble_eq_true rfl, Nat.le_of_ble_eq_true rfl⟩ rfl hl.1 rfl (Nat.le_of_ble_eq_true rfl) dL_law_1458 ⟨rmC (cc := cc) (a := 1) hC (Nat.le_of_ble_eq_true rfl), rmS (ss := ss) (a := 6) hS (Nat.le_of_ble_eq_true rfl)⟩) (fun v4 σ3 H locs hf hw => ?_)
  refine lv_istore (lv' := [(7, .int v4), (6, .int v2), (0, .ref b), (1, .ref (ga Γ 0 0)), (2, .ref (ga Γ 8 0)), (3, .ref (ga Γ 180 0)), (4, .ref (ga Γ 181 0)), (5, .int i)]) hx hb dL_law_1461 hl (by decide) rfl (fun ls hl => ?_)
  refine lv_aload_n hx hb dL_law_1463 rfl (lv_at hl 4 rfl) ?_
  refine q_pI hf hw (fun v h => q_rV (As := []) (rest := []) (q := (RX8, TX8, 32)) X hK hw rfl (Nat.le_of_ble_eq_true rfl : 0 < cnt (gn Γ) 8) (rfl : vwCl[10]? = _) (kX8_thrown h) mvX8_thrown lk_L_175 ⟨Nat.le_of_ble_eq_true rfl, Nat.le_of_ble_eq_true rfl⟩ rfl hl.1 rfl (Nat.le_of_ble_eq_true rfl) dL_law_1464 ⟨rmC (cc := cc) (a := 1) hC (Nat.le_of_ble_eq_true rfl), rmS (ss := ss) (a := 6) hS (Nat.le_of_ble_eq_true rfl)⟩) (fun v5 H locs hf hw => ?_)
  refine lv_iload hx hb dL_law_1467 (lv_at hl 1 rfl) ?_
  refine q_ic_eq (tgt := 1474) hx hb hf dL_law_1469 (by decide) (fun hf => ?_) (fun hf => ?_)
  · refine lv_iload hx hb dL_law_1474 (lv_at hl 1 rfl) ?_
    refine q_if_ne (tgt := 1491) hx hb hf dL_law_1476 (by decide) (fun hf => ?_) (fun hf => ?_)
    · refine lv_goto (tgt := 3387) hx hb dL_law_1491 (by decide) ?_
      exact W.widen (k := cc + 16) (n := ss + 256) (Nat.add_le_add_left (Nat.le_of_ble_eq_true rfl : 1 ≤ 16) cc) (Nat.add_le_add_left (Nat.le_of_ble_eq_true rfl : 6 ≤ 256) ss) (kk _ _ _ _ hf hw (lv_sub hl [2, 3, 4, 5, 6, 7] rfl))
    refine lv_aload_n hx hb dL_law_1479 rfl (lv_at hl 5 rfl) ?_
    refine lv_iconst (v := 0) hx hb dL_law_1480 (by decide) ?_
    refine q_lalo0 hx hb hK hw dL_law_1481 ?_
    refine lv_iload hx hb dL_law_1482 (lv_at hl 0 rfl) ?_
    refine lv_i2l hx hb dL_law_1484 rfl ?_
    refine W.lcmp hx hb dL_law_1485 ?_
    refine q_if_eq (tgt := 1491) hx hb hf dL_law_1486 (by decide) (fun hf => ?_) (fun hf => ?_)
    · refine lv_goto (tgt := 3387) hx hb dL_law_1491 (by decide) ?_
      exact W.widen (k := cc + 16) (n := ss + 256) (Nat.add_le_add_left (Nat.le_of_ble_eq_true rfl : 1 ≤ 16) cc) (Nat.add_le_add_left (Nat.le_of_ble_eq_true rfl : 6 ≤ 256) ss) (kk _ _ _ _ hf hw (lv_sub hl [2, 3, 4, 5, 6, 7] rfl))
    refine lv_iconst (v := 0) hx hb dL_law_1489 (by decide) ?_
    exact nomatch hf
  refine lv_iconst (v := 0) hx hb dL_law_1472 (by decide) ?_
  exact nomatch hf
set_option maxRecDepth 100000 in
theorem cs_17 {p : Program} {l : Launch} {e : Env} {s : State} {m : MethodId} {args : Array Value} {below : List Frame} {meth : Method} {c : Code} {H : Heap} {locs : List Loc} {Q : State → Prop} {ls : Array Slot} {Γ : Gm} {b L N cc ss : Nat} {xs : Nat → Int32} {σ τ : St} {i : Int32} (hfl : l.stackTraces = false) (X : Fx p c cL_law 9 s m RL) (hK : KK Γ STR s.heap.size s) (hL : LX Γ s b L xs) (hC : cc + 16 ≤ 603072) (hS : ss + 256 ≤ 7223402) (hf : g_17 N xs L σ i = some (true, τ)) (hw : Sit Γ σ s H locs) (hl : lv_has ls 9 [(0, .ref b), (1, .ref (ga Γ 0 0)), (2, .ref (ga Γ 8 0)), (3, .ref (ga Γ 180 0)), (4, .ref (ga Γ 181 0)), (5, .int i)])
    (kk : ∀ (τ2 : St) (H : Heap) (locs : List Loc) (ls : Array Slot), some (true, τ2) = some (true, τ) → Sit Γ τ2 s H locs → lv_has ls 9 [(0, .ref b), (1, .ref (ga Γ 0 0)), (2, .ref (ga Γ 8 0)), (3, .ref (ga Γ 180 0)), (4, .ref (ga Γ 181 0)), (5, .int i)] → W p l e room_1 s m args below meth c H locs (cc + 16) (ss + 256) Q (F0 m 3387 ls [])) : W p l e room_1 s m args below meth c H locs cc ss Q (F0 m 1494 ls []) := by
  unfold g_17 at hf
  have hx := X.1
  have hb := X.2.1
  refine lv_aload_n hx hb dL_law_1494 rfl (lv_at hl 1 rfl) ?_
  refine lv_aload_n hx hb dL_law_1495 rfl (lv_at hl 0 rfl) ?_
  refine lv_iload hx hb dL_law_1496 (lv_at hl 5 rfl) ?_
  refine lv_iconst (v := 1) hx hb dL_law_1498 (by decide) ?_
  refine lv_iadd hx hb dL_law_1499 ?_
  refine q_sld hx hb hL hw hf dL_law_1500 (fun hf => ?_)
  refine lv_aload_n hx hb dL_law_1501 rfl (lv_at hl 3 rfl) ?_
  refine q_eI hf hw (fun v τ h => q_rW (As := [.ref (ga Γ 0 0), .int (xs (Int32.toNatClampNeg (i + (1 : Int32)))), .ref (ga Γ 180 0)]) (rest := []) X hK hw (kL_clockOf hfl h) mwL_clockOf lk_L_234 ⟨Nat.le_of_ble_eq_true rfl, Nat.le_of_ble_eq_true rfl⟩ rfl hl.1 rfl (Nat.le_of_ble_eq_true rfl) dL_law_1502 ⟨rmC (cc := cc) (a := 1) hC (Nat.le_of_ble_eq_true rfl), rmS (ss := ss) (a := 6) hS (Nat.le_of_ble_eq_true rfl)⟩) (fun v2 σ1 H locs hf hw => ?_)
  refine lv_istore (lv' := [(6, .int v2), (0, .ref b), (1, .ref (ga Γ 0 0)), (2, .ref (ga Γ 8 0)), (3, .ref (ga Γ 180 0)), (4, .ref (ga Γ 181 0)), (5, .int i)]) hx hb dL_law_1505 hl (by decide) rfl (fun ls hl => ?_)
  refine lv_aload_n hx hb dL_law_1507 rfl (lv_at hl 3 rfl) ?_
  refine lv_aload_n hx hb dL_law_1508 rfl (lv_at hl 1 rfl) ?_
  refine lv_iload hx hb dL_law_1509 (lv_at hl 6 rfl) ?_
  refine lv_iconst (v := 1) hx hb dL_law_1511 (by decide) ?_
  refine lv_iadd hx hb dL_law_1512 ?_
  refine q_sld hx hb hL hw hf dL_law_1513 (fun hf => ?_)
  refine q_eI hf hw (fun v τ h => q_rV (As := [.int (xs (Int32.toNatClampNeg (i + (1 : Int32))))]) (rest := []) (q := (RX8, TX8, 32)) X hK hw rfl (Nat.le_of_ble_eq_true rfl : 0 < cnt (gn Γ) 8) (rfl : vwCl[10]? = _) (kX8_clockOf h) mvX8_clockOf lk_L_236 ⟨Nat.le_of_ble_eq_true rfl, Nat.le_of_ble_eq_true rfl⟩ rfl hl.1 rfl (Nat.le_of_ble_eq_true rfl) dL_law_1514 ⟨rmC (cc := cc) (a := 1) hC (Nat.le_of_ble_eq_true rfl), rmS (ss := ss) (a := 6) hS (Nat.le_of_ble_eq_true rfl)⟩) (fun v4 σ3 H locs hf hw => ?_)
  refine lv_istore (lv' := [(7, .int v4), (6, .int v2), (0, .ref b), (1, .ref (ga Γ 0 0)), (2, .ref (ga Γ 8 0)), (3, .ref (ga Γ 180 0)), (4, .ref (ga Γ 181 0)), (5, .int i)]) hx hb dL_law_1517 hl (by decide) rfl (fun ls hl => ?_)
  refine lv_aload_n hx hb dL_law_1519 rfl (lv_at hl 4 rfl) ?_
  refine q_pI hf hw (fun v h => q_rV (As := []) (rest := []) (q := (RX8, TX8, 32)) X hK hw rfl (Nat.le_of_ble_eq_true rfl : 0 < cnt (gn Γ) 8) (rfl : vwCl[10]? = _) (kX8_thrown h) mvX8_thrown lk_L_175 ⟨Nat.le_of_ble_eq_true rfl, Nat.le_of_ble_eq_true rfl⟩ rfl hl.1 rfl (Nat.le_of_ble_eq_true rfl) dL_law_1520 ⟨rmC (cc := cc) (a := 1) hC (Nat.le_of_ble_eq_true rfl), rmS (ss := ss) (a := 6) hS (Nat.le_of_ble_eq_true rfl)⟩) (fun v5 H locs hf hw => ?_)
  refine lv_iload hx hb dL_law_1523 (lv_at hl 1 rfl) ?_
  refine q_ic_eq (tgt := 1530) hx hb hf dL_law_1525 (by decide) (fun hf => ?_) (fun hf => ?_)
  · refine lv_iload hx hb dL_law_1530 (lv_at hl 1 rfl) ?_
    refine q_if_ne (tgt := 1547) hx hb hf dL_law_1532 (by decide) (fun hf => ?_) (fun hf => ?_)
    · refine lv_goto (tgt := 3387) hx hb dL_law_1547 (by decide) ?_
      exact W.widen (k := cc + 16) (n := ss + 256) (Nat.add_le_add_left (Nat.le_of_ble_eq_true rfl : 1 ≤ 16) cc) (Nat.add_le_add_left (Nat.le_of_ble_eq_true rfl : 6 ≤ 256) ss) (kk _ _ _ _ hf hw (lv_sub hl [2, 3, 4, 5, 6, 7] rfl))
    refine lv_aload_n hx hb dL_law_1535 rfl (lv_at hl 5 rfl) ?_
    refine lv_iconst (v := 0) hx hb dL_law_1536 (by decide) ?_
    refine q_lalo0 hx hb hK hw dL_law_1537 ?_
    refine lv_iload hx hb dL_law_1538 (lv_at hl 0 rfl) ?_
    refine lv_i2l hx hb dL_law_1540 rfl ?_
    refine W.lcmp hx hb dL_law_1541 ?_
    refine q_if_eq (tgt := 1547) hx hb hf dL_law_1542 (by decide) (fun hf => ?_) (fun hf => ?_)
    · refine lv_goto (tgt := 3387) hx hb dL_law_1547 (by decide) ?_
      exact W.widen (k := cc + 16) (n := ss + 256) (Nat.add_le_add_left (Nat.le_of_ble_eq_true rfl : 1 ≤ 16) cc) (Nat.add_le_add_left (Nat.le_of_ble_eq_true rfl : 6 ≤ 256) ss) (kk _ _ _ _ hf hw (lv_sub hl [2, 3, 4, 5, 6, 7] rfl))
    refine lv_iconst (v := 0) hx hb dL_law_1545 (by decide) ?_
    exact nomatch hf
  refine lv_iconst (v := 0) hx hb dL_law_1528 (by decide) ?_
  exact nomatch hf
set_option maxRecDepth 100000 in
theorem cs_18 {p : Program} {l : Launch} {e : Env} {s : State} {m : MethodId} {args : Array Value} {below : List Frame} {meth : Method} {c : Code} {H : Heap} {locs : List Loc} {Q : State → Prop} {ls : Array Slot} {Γ : Gm} {b L N cc ss : Nat} {xs : Nat → Int32} {σ τ : St} {i : Int32} (hfl : l.stackTraces = false) (X : Fx p c cL_law 9 s m RL) (hK : KK Γ STR s.heap.size s) (hL : LX Γ s b L xs) (hC : cc + 16 ≤ 603072) (hS : ss + 256 ≤ 7223402) (hf : g_18 N xs L σ i = some (true, τ)) (hw : Sit Γ σ s H locs) (hl : lv_has ls 9 [(0, .ref b), (1, .ref (ga Γ 0 0)), (2, .ref (ga Γ 8 0)), (3, .ref (ga Γ 180 0)), (4, .ref (ga Γ 181 0)), (5, .int i)])
    (kk : ∀ (τ2 : St) (H : Heap) (locs : List Loc) (ls : Array Slot), some (true, τ2) = some (true, τ) → Sit Γ τ2 s H locs → lv_has ls 9 [(0, .ref b), (1, .ref (ga Γ 0 0)), (2, .ref (ga Γ 8 0)), (3, .ref (ga Γ 180 0)), (4, .ref (ga Γ 181 0)), (5, .int i)] → W p l e room_1 s m args below meth c H locs (cc + 16) (ss + 256) Q (F0 m 3387 ls [])) : W p l e room_1 s m args below meth c H locs cc ss Q (F0 m 1550 ls []) := by
  unfold g_18 at hf
  have hx := X.1
  have hb := X.2.1
  refine lv_aload_n hx hb dL_law_1550 rfl (lv_at hl 1 rfl) ?_
  refine lv_aload_n hx hb dL_law_1551 rfl (lv_at hl 0 rfl) ?_
  refine lv_iload hx hb dL_law_1552 (lv_at hl 5 rfl) ?_
  refine lv_iconst (v := 1) hx hb dL_law_1554 (by decide) ?_
  refine lv_iadd hx hb dL_law_1555 ?_
  refine q_sld hx hb hL hw hf dL_law_1556 (fun hf => ?_)
  refine lv_aload_n hx hb dL_law_1557 rfl (lv_at hl 0 rfl) ?_
  refine lv_iload hx hb dL_law_1558 (lv_at hl 5 rfl) ?_
  refine lv_iconst (v := 2) hx hb dL_law_1560 (by decide) ?_
  refine lv_iadd hx hb dL_law_1561 ?_
  refine q_sld hx hb hL hw hf dL_law_1562 (fun hf => ?_)
  refine lv_aload_n hx hb dL_law_1563 rfl (lv_at hl 3 rfl) ?_
  refine q_eI hf hw (fun v τ h => q_rW (As := [.ref (ga Γ 0 0), .int (xs (Int32.toNatClampNeg (i + (1 : Int32)))), .int (xs (Int32.toNatClampNeg (i + (2 : Int32)))), .ref (ga Γ 180 0)]) (rest := []) X hK hw (kL_knows hfl h) mwL_knows lk_L_237 ⟨Nat.le_of_ble_eq_true rfl, Nat.le_of_ble_eq_true rfl⟩ rfl hl.1 rfl (Nat.le_of_ble_eq_true rfl) dL_law_1564 ⟨rmC (cc := cc) (a := 2) hC (Nat.le_of_ble_eq_true rfl), rmS (ss := ss) (a := 12) hS (Nat.le_of_ble_eq_true rfl)⟩) (fun v2 σ1 H locs hf hw => ?_)
  refine lv_istore (lv' := [(6, .int v2), (0, .ref b), (1, .ref (ga Γ 0 0)), (2, .ref (ga Γ 8 0)), (3, .ref (ga Γ 180 0)), (4, .ref (ga Γ 181 0)), (5, .int i)]) hx hb dL_law_1567 hl (by decide) rfl (fun ls hl => ?_)
  refine lv_aload_n hx hb dL_law_1569 rfl (lv_at hl 3 rfl) ?_
  refine lv_aload_n hx hb dL_law_1570 rfl (lv_at hl 1 rfl) ?_
  refine lv_iload hx hb dL_law_1571 (lv_at hl 6 rfl) ?_
  refine lv_iconst (v := 1) hx hb dL_law_1573 (by decide) ?_
  refine lv_iadd hx hb dL_law_1574 ?_
  refine q_sld hx hb hL hw hf dL_law_1575 (fun hf => ?_)
  refine lv_aload_n hx hb dL_law_1576 rfl (lv_at hl 1 rfl) ?_
  refine lv_iload hx hb dL_law_1577 (lv_at hl 6 rfl) ?_
  refine lv_iconst (v := 2) hx hb dL_law_1579 (by decide) ?_
  refine lv_iadd hx hb dL_law_1580 ?_
  refine q_sld hx hb hL hw hf dL_law_1581 (fun hf => ?_)
  refine q_eI hf hw (fun v τ h => q_rV (As := [.int (xs (Int32.toNatClampNeg (i + (1 : Int32)))), .int (xs (Int32.toNatClampNeg (i + (2 : Int32))))]) (rest := []) (q := (RX8, TX8, 32)) X hK hw rfl (Nat.le_of_ble_eq_true rfl : 0 < cnt (gn Γ) 8) (rfl : vwCl[10]? = _) (kX8_knows h) mvX8_knows lk_L_239 ⟨Nat.le_of_ble_eq_true rfl, Nat.le_of_ble_eq_true rfl⟩ rfl hl.1 rfl (Nat.le_of_ble_eq_true rfl) dL_law_1582 ⟨rmC (cc := cc) (a := 2) hC (Nat.le_of_ble_eq_true rfl), rmS (ss := ss) (a := 12) hS (Nat.le_of_ble_eq_true rfl)⟩) (fun v4 σ3 H locs hf hw => ?_)
  refine lv_istore (lv' := [(7, .int v4), (6, .int v2), (0, .ref b), (1, .ref (ga Γ 0 0)), (2, .ref (ga Γ 8 0)), (3, .ref (ga Γ 180 0)), (4, .ref (ga Γ 181 0)), (5, .int i)]) hx hb dL_law_1585 hl (by decide) rfl (fun ls hl => ?_)
  refine lv_aload_n hx hb dL_law_1587 rfl (lv_at hl 4 rfl) ?_
  refine q_pI hf hw (fun v h => q_rV (As := []) (rest := []) (q := (RX8, TX8, 32)) X hK hw rfl (Nat.le_of_ble_eq_true rfl : 0 < cnt (gn Γ) 8) (rfl : vwCl[10]? = _) (kX8_thrown h) mvX8_thrown lk_L_175 ⟨Nat.le_of_ble_eq_true rfl, Nat.le_of_ble_eq_true rfl⟩ rfl hl.1 rfl (Nat.le_of_ble_eq_true rfl) dL_law_1588 ⟨rmC (cc := cc) (a := 2) hC (Nat.le_of_ble_eq_true rfl), rmS (ss := ss) (a := 12) hS (Nat.le_of_ble_eq_true rfl)⟩) (fun v5 H locs hf hw => ?_)
  refine lv_iload hx hb dL_law_1591 (lv_at hl 1 rfl) ?_
  refine q_ic_eq (tgt := 1598) hx hb hf dL_law_1593 (by decide) (fun hf => ?_) (fun hf => ?_)
  · refine lv_iload hx hb dL_law_1598 (lv_at hl 1 rfl) ?_
    refine q_if_ne (tgt := 1622) hx hb hf dL_law_1600 (by decide) (fun hf => ?_) (fun hf => ?_)
    · refine lv_goto (tgt := 3387) hx hb dL_law_1622 (by decide) ?_
      exact W.widen (k := cc + 16) (n := ss + 256) (Nat.add_le_add_left (Nat.le_of_ble_eq_true rfl : 2 ≤ 16) cc) (Nat.add_le_add_left (Nat.le_of_ble_eq_true rfl : 12 ≤ 256) ss) (kk _ _ _ _ hf hw (lv_sub hl [2, 3, 4, 5, 6, 7] rfl))
    refine lv_aload_n hx hb dL_law_1603 rfl (lv_at hl 5 rfl) ?_
    refine lv_iconst (v := 0) hx hb dL_law_1604 (by decide) ?_
    refine q_lalo0 hx hb hK hw dL_law_1605 ?_
    refine lv_iload hx hb dL_law_1606 (lv_at hl 0 rfl) ?_
    refine q_if_eq (tgt := 1615) hx hb hf dL_law_1608 (by decide) (fun hf => ?_) (fun hf => ?_)
    · refine lv_lconst (v := 0) hx hb dL_law_1615 rfl ?_
      refine W.lcmp hx hb dL_law_1616 ?_
      refine q_if_eq (tgt := 1622) hx hb hf dL_law_1617 (by decide) (fun hf => ?_) (fun hf => ?_)
      · refine lv_goto (tgt := 3387) hx hb dL_law_1622 (by decide) ?_
        exact W.widen (k := cc + 16) (n := ss + 256) (Nat.add_le_add_left (Nat.le_of_ble_eq_true rfl : 2 ≤ 16) cc) (Nat.add_le_add_left (Nat.le_of_ble_eq_true rfl : 12 ≤ 256) ss) (kk _ _ _ _ hf hw (lv_sub hl [2, 3, 4, 5, 6, 7] rfl))
      refine lv_iconst (v := 0) hx hb dL_law_1620 (by decide) ?_
      exact nomatch hf
    refine lv_lconst (v := 1) hx hb dL_law_1611 rfl ?_
    refine lv_goto (tgt := 1616) hx hb dL_law_1612 (by decide) ?_
    refine W.lcmp hx hb dL_law_1616 ?_
    refine q_if_eq (tgt := 1622) hx hb hf dL_law_1617 (by decide) (fun hf => ?_) (fun hf => ?_)
    · refine lv_goto (tgt := 3387) hx hb dL_law_1622 (by decide) ?_
      exact W.widen (k := cc + 16) (n := ss + 256) (Nat.add_le_add_left (Nat.le_of_ble_eq_true rfl : 2 ≤ 16) cc) (Nat.add_le_add_left (Nat.le_of_ble_eq_true rfl : 12 ≤ 256) ss) (kk _ _ _ _ hf hw (lv_sub hl [2, 3, 4, 5, 6, 7] rfl))
    refine lv_iconst (v := 0) hx hb dL_law_1620 (by decide) ?_
    exact nomatch hf
  refine lv_iconst (v := 0) hx hb dL_law_1596 (by decide) ?_
  exact nomatch hf
set_option maxRecDepth 100000 in
theorem cs_19 {p : Program} {l : Launch} {e : Env} {s : State} {m : MethodId} {args : Array Value} {below : List Frame} {meth : Method} {c : Code} {H : Heap} {locs : List Loc} {Q : State → Prop} {ls : Array Slot} {Γ : Gm} {b L N cc ss : Nat} {xs : Nat → Int32} {σ τ : St} {i : Int32} (hfl : l.stackTraces = false) (X : Fx p c cL_law 9 s m RL) (hK : KK Γ STR s.heap.size s) (hL : LX Γ s b L xs) (hC : cc + 16 ≤ 603072) (hS : ss + 256 ≤ 7223402) (hf : g_19 N xs L σ i = some (true, τ)) (hw : Sit Γ σ s H locs) (hl : lv_has ls 9 [(0, .ref b), (1, .ref (ga Γ 0 0)), (2, .ref (ga Γ 8 0)), (3, .ref (ga Γ 180 0)), (4, .ref (ga Γ 181 0)), (5, .int i)])
    (kk : ∀ (τ2 : St) (H : Heap) (locs : List Loc) (ls : Array Slot), some (true, τ2) = some (true, τ) → Sit Γ τ2 s H locs → lv_has ls 9 [(0, .ref b), (1, .ref (ga Γ 0 0)), (2, .ref (ga Γ 8 0)), (3, .ref (ga Γ 180 0)), (4, .ref (ga Γ 181 0)), (5, .int i)] → W p l e room_1 s m args below meth c H locs (cc + 16) (ss + 256) Q (F0 m 3387 ls [])) : W p l e room_1 s m args below meth c H locs cc ss Q (F0 m 1625 ls []) := by
  unfold g_19 at hf
  have hx := X.1
  have hb := X.2.1
  refine lv_aload_n hx hb dL_law_1625 rfl (lv_at hl 1 rfl) ?_
  refine lv_aload_n hx hb dL_law_1626 rfl (lv_at hl 0 rfl) ?_
  refine lv_iload hx hb dL_law_1627 (lv_at hl 5 rfl) ?_
  refine lv_iconst (v := 1) hx hb dL_law_1629 (by decide) ?_
  refine lv_iadd hx hb dL_law_1630 ?_
  refine q_sld hx hb hL hw hf dL_law_1631 (fun hf => ?_)
  refine lv_aload_n hx hb dL_law_1632 rfl (lv_at hl 3 rfl) ?_
  refine q_eI hf hw (fun v τ h => q_rW (As := [.ref (ga Γ 0 0), .int (xs (Int32.toNatClampNeg (i + (1 : Int32)))), .ref (ga Γ 180 0)]) (rest := []) X hK hw (kL_shapes hfl h) mwL_shapes lk_L_240 ⟨Nat.le_of_ble_eq_true rfl, Nat.le_of_ble_eq_true rfl⟩ rfl hl.1 rfl (Nat.le_of_ble_eq_true rfl) dL_law_1633 ⟨rmC (cc := cc) (a := 1) hC (Nat.le_of_ble_eq_true rfl), rmS (ss := ss) (a := 6) hS (Nat.le_of_ble_eq_true rfl)⟩) (fun v2 σ1 H locs hf hw => ?_)
  refine lv_istore (lv' := [(6, .int v2), (0, .ref b), (1, .ref (ga Γ 0 0)), (2, .ref (ga Γ 8 0)), (3, .ref (ga Γ 180 0)), (4, .ref (ga Γ 181 0)), (5, .int i)]) hx hb dL_law_1636 hl (by decide) rfl (fun ls hl => ?_)
  refine lv_aload_n hx hb dL_law_1638 rfl (lv_at hl 3 rfl) ?_
  refine lv_aload_n hx hb dL_law_1639 rfl (lv_at hl 1 rfl) ?_
  refine lv_iload hx hb dL_law_1640 (lv_at hl 6 rfl) ?_
  refine lv_iconst (v := 1) hx hb dL_law_1642 (by decide) ?_
  refine lv_iadd hx hb dL_law_1643 ?_
  refine q_sld hx hb hL hw hf dL_law_1644 (fun hf => ?_)
  refine q_eI hf hw (fun v τ h => q_rV (As := [.int (xs (Int32.toNatClampNeg (i + (1 : Int32))))]) (rest := []) (q := (RX8, TX8, 32)) X hK hw rfl (Nat.le_of_ble_eq_true rfl : 0 < cnt (gn Γ) 8) (rfl : vwCl[10]? = _) (kX8_shapes h) mvX8_shapes lk_L_242 ⟨Nat.le_of_ble_eq_true rfl, Nat.le_of_ble_eq_true rfl⟩ rfl hl.1 rfl (Nat.le_of_ble_eq_true rfl) dL_law_1645 ⟨rmC (cc := cc) (a := 1) hC (Nat.le_of_ble_eq_true rfl), rmS (ss := ss) (a := 6) hS (Nat.le_of_ble_eq_true rfl)⟩) (fun v4 σ3 H locs hf hw => ?_)
  refine lv_istore (lv' := [(7, .int v4), (6, .int v2), (0, .ref b), (1, .ref (ga Γ 0 0)), (2, .ref (ga Γ 8 0)), (3, .ref (ga Γ 180 0)), (4, .ref (ga Γ 181 0)), (5, .int i)]) hx hb dL_law_1648 hl (by decide) rfl (fun ls hl => ?_)
  refine lv_aload_n hx hb dL_law_1650 rfl (lv_at hl 4 rfl) ?_
  refine q_pI hf hw (fun v h => q_rV (As := []) (rest := []) (q := (RX8, TX8, 32)) X hK hw rfl (Nat.le_of_ble_eq_true rfl : 0 < cnt (gn Γ) 8) (rfl : vwCl[10]? = _) (kX8_thrown h) mvX8_thrown lk_L_175 ⟨Nat.le_of_ble_eq_true rfl, Nat.le_of_ble_eq_true rfl⟩ rfl hl.1 rfl (Nat.le_of_ble_eq_true rfl) dL_law_1651 ⟨rmC (cc := cc) (a := 1) hC (Nat.le_of_ble_eq_true rfl), rmS (ss := ss) (a := 6) hS (Nat.le_of_ble_eq_true rfl)⟩) (fun v5 H locs hf hw => ?_)
  refine lv_iload hx hb dL_law_1654 (lv_at hl 1 rfl) ?_
  refine q_ic_eq (tgt := 1661) hx hb hf dL_law_1656 (by decide) (fun hf => ?_) (fun hf => ?_)
  · refine lv_iload hx hb dL_law_1661 (lv_at hl 1 rfl) ?_
    refine q_if_ne (tgt := 1678) hx hb hf dL_law_1663 (by decide) (fun hf => ?_) (fun hf => ?_)
    · refine lv_goto (tgt := 3387) hx hb dL_law_1678 (by decide) ?_
      exact W.widen (k := cc + 16) (n := ss + 256) (Nat.add_le_add_left (Nat.le_of_ble_eq_true rfl : 1 ≤ 16) cc) (Nat.add_le_add_left (Nat.le_of_ble_eq_true rfl : 6 ≤ 256) ss) (kk _ _ _ _ hf hw (lv_sub hl [2, 3, 4, 5, 6, 7] rfl))
    refine lv_aload_n hx hb dL_law_1666 rfl (lv_at hl 5 rfl) ?_
    refine lv_iconst (v := 0) hx hb dL_law_1667 (by decide) ?_
    refine q_lalo0 hx hb hK hw dL_law_1668 ?_
    refine lv_iload hx hb dL_law_1669 (lv_at hl 0 rfl) ?_
    refine lv_i2l hx hb dL_law_1671 rfl ?_
    refine W.lcmp hx hb dL_law_1672 ?_
    refine q_if_eq (tgt := 1678) hx hb hf dL_law_1673 (by decide) (fun hf => ?_) (fun hf => ?_)
    · refine lv_goto (tgt := 3387) hx hb dL_law_1678 (by decide) ?_
      exact W.widen (k := cc + 16) (n := ss + 256) (Nat.add_le_add_left (Nat.le_of_ble_eq_true rfl : 1 ≤ 16) cc) (Nat.add_le_add_left (Nat.le_of_ble_eq_true rfl : 6 ≤ 256) ss) (kk _ _ _ _ hf hw (lv_sub hl [2, 3, 4, 5, 6, 7] rfl))
    refine lv_iconst (v := 0) hx hb dL_law_1676 (by decide) ?_
    exact nomatch hf
  refine lv_iconst (v := 0) hx hb dL_law_1659 (by decide) ?_
  exact nomatch hf
set_option maxRecDepth 100000 in
theorem cs_20 {p : Program} {l : Launch} {e : Env} {s : State} {m : MethodId} {args : Array Value} {below : List Frame} {meth : Method} {c : Code} {H : Heap} {locs : List Loc} {Q : State → Prop} {ls : Array Slot} {Γ : Gm} {b L N cc ss : Nat} {xs : Nat → Int32} {σ τ : St} {i : Int32} (hfl : l.stackTraces = false) (X : Fx p c cL_law 9 s m RL) (hK : KK Γ STR s.heap.size s) (hL : LX Γ s b L xs) (hC : cc + 16 ≤ 603072) (hS : ss + 256 ≤ 7223402) (hf : g_20 N xs L σ i = some (true, τ)) (hw : Sit Γ σ s H locs) (hl : lv_has ls 9 [(0, .ref b), (1, .ref (ga Γ 0 0)), (2, .ref (ga Γ 8 0)), (3, .ref (ga Γ 180 0)), (4, .ref (ga Γ 181 0)), (5, .int i)])
    (kk : ∀ (τ2 : St) (H : Heap) (locs : List Loc) (ls : Array Slot), some (true, τ2) = some (true, τ) → Sit Γ τ2 s H locs → lv_has ls 9 [(0, .ref b), (1, .ref (ga Γ 0 0)), (2, .ref (ga Γ 8 0)), (3, .ref (ga Γ 180 0)), (4, .ref (ga Γ 181 0)), (5, .int i)] → W p l e room_1 s m args below meth c H locs (cc + 16) (ss + 256) Q (F0 m 3387 ls [])) : W p l e room_1 s m args below meth c H locs cc ss Q (F0 m 1681 ls []) := by
  unfold g_20 at hf
  have hx := X.1
  have hb := X.2.1
  refine lv_aload_n hx hb dL_law_1681 rfl (lv_at hl 1 rfl) ?_
  refine lv_aload_n hx hb dL_law_1682 rfl (lv_at hl 0 rfl) ?_
  refine lv_iload hx hb dL_law_1683 (lv_at hl 5 rfl) ?_
  refine lv_iconst (v := 1) hx hb dL_law_1685 (by decide) ?_
  refine lv_iadd hx hb dL_law_1686 ?_
  refine q_sld hx hb hL hw hf dL_law_1687 (fun hf => ?_)
  refine lv_aload_n hx hb dL_law_1688 rfl (lv_at hl 0 rfl) ?_
  refine lv_iload hx hb dL_law_1689 (lv_at hl 5 rfl) ?_
  refine lv_iconst (v := 2) hx hb dL_law_1691 (by decide) ?_
  refine lv_iadd hx hb dL_law_1692 ?_
  refine q_sld hx hb hL hw hf dL_law_1693 (fun hf => ?_)
  refine lv_aload_n hx hb dL_law_1694 rfl (lv_at hl 3 rfl) ?_
  refine q_eI hf hw (fun v τ h => q_rW (As := [.ref (ga Γ 0 0), .int (xs (Int32.toNatClampNeg (i + (1 : Int32)))), .int (xs (Int32.toNatClampNeg (i + (2 : Int32)))), .ref (ga Γ 180 0)]) (rest := []) X hK hw (kL_sees hfl h) mwL_sees lk_L_243 ⟨Nat.le_of_ble_eq_true rfl, Nat.le_of_ble_eq_true rfl⟩ rfl hl.1 rfl (Nat.le_of_ble_eq_true rfl) dL_law_1695 ⟨rmC (cc := cc) (a := 1) hC (Nat.le_of_ble_eq_true rfl), rmS (ss := ss) (a := 6) hS (Nat.le_of_ble_eq_true rfl)⟩) (fun v2 σ1 H locs hf hw => ?_)
  refine lv_istore (lv' := [(6, .int v2), (0, .ref b), (1, .ref (ga Γ 0 0)), (2, .ref (ga Γ 8 0)), (3, .ref (ga Γ 180 0)), (4, .ref (ga Γ 181 0)), (5, .int i)]) hx hb dL_law_1698 hl (by decide) rfl (fun ls hl => ?_)
  refine lv_aload_n hx hb dL_law_1700 rfl (lv_at hl 3 rfl) ?_
  refine lv_aload_n hx hb dL_law_1701 rfl (lv_at hl 1 rfl) ?_
  refine lv_iload hx hb dL_law_1702 (lv_at hl 6 rfl) ?_
  refine lv_iconst (v := 1) hx hb dL_law_1704 (by decide) ?_
  refine lv_iadd hx hb dL_law_1705 ?_
  refine q_sld hx hb hL hw hf dL_law_1706 (fun hf => ?_)
  refine lv_aload_n hx hb dL_law_1707 rfl (lv_at hl 1 rfl) ?_
  refine lv_iload hx hb dL_law_1708 (lv_at hl 6 rfl) ?_
  refine lv_iconst (v := 2) hx hb dL_law_1710 (by decide) ?_
  refine lv_iadd hx hb dL_law_1711 ?_
  refine q_sld hx hb hL hw hf dL_law_1712 (fun hf => ?_)
  refine q_eI hf hw (fun v τ h => q_rV (As := [.int (xs (Int32.toNatClampNeg (i + (1 : Int32)))), .int (xs (Int32.toNatClampNeg (i + (2 : Int32))))]) (rest := []) (q := (RX8, TX8, 32)) X hK hw rfl (Nat.le_of_ble_eq_true rfl : 0 < cnt (gn Γ) 8) (rfl : vwCl[10]? = _) (kX8_sees h) mvX8_sees lk_L_245 ⟨Nat.le_of_ble_eq_true rfl, Nat.le_of_ble_eq_true rfl⟩ rfl hl.1 rfl (Nat.le_of_ble_eq_true rfl) dL_law_1713 ⟨rmC (cc := cc) (a := 1) hC (Nat.le_of_ble_eq_true rfl), rmS (ss := ss) (a := 6) hS (Nat.le_of_ble_eq_true rfl)⟩) (fun v4 σ3 H locs hf hw => ?_)
  refine lv_istore (lv' := [(7, .int v4), (6, .int v2), (0, .ref b), (1, .ref (ga Γ 0 0)), (2, .ref (ga Γ 8 0)), (3, .ref (ga Γ 180 0)), (4, .ref (ga Γ 181 0)), (5, .int i)]) hx hb dL_law_1716 hl (by decide) rfl (fun ls hl => ?_)
  refine lv_aload_n hx hb dL_law_1718 rfl (lv_at hl 4 rfl) ?_
  refine q_pI hf hw (fun v h => q_rV (As := []) (rest := []) (q := (RX8, TX8, 32)) X hK hw rfl (Nat.le_of_ble_eq_true rfl : 0 < cnt (gn Γ) 8) (rfl : vwCl[10]? = _) (kX8_thrown h) mvX8_thrown lk_L_175 ⟨Nat.le_of_ble_eq_true rfl, Nat.le_of_ble_eq_true rfl⟩ rfl hl.1 rfl (Nat.le_of_ble_eq_true rfl) dL_law_1719 ⟨rmC (cc := cc) (a := 1) hC (Nat.le_of_ble_eq_true rfl), rmS (ss := ss) (a := 6) hS (Nat.le_of_ble_eq_true rfl)⟩) (fun v5 H locs hf hw => ?_)
  refine lv_iload hx hb dL_law_1722 (lv_at hl 1 rfl) ?_
  refine q_ic_eq (tgt := 1729) hx hb hf dL_law_1724 (by decide) (fun hf => ?_) (fun hf => ?_)
  · refine lv_iload hx hb dL_law_1729 (lv_at hl 1 rfl) ?_
    refine q_if_ne (tgt := 1753) hx hb hf dL_law_1731 (by decide) (fun hf => ?_) (fun hf => ?_)
    · refine lv_goto (tgt := 3387) hx hb dL_law_1753 (by decide) ?_
      exact W.widen (k := cc + 16) (n := ss + 256) (Nat.add_le_add_left (Nat.le_of_ble_eq_true rfl : 1 ≤ 16) cc) (Nat.add_le_add_left (Nat.le_of_ble_eq_true rfl : 6 ≤ 256) ss) (kk _ _ _ _ hf hw (lv_sub hl [2, 3, 4, 5, 6, 7] rfl))
    refine lv_aload_n hx hb dL_law_1734 rfl (lv_at hl 5 rfl) ?_
    refine lv_iconst (v := 0) hx hb dL_law_1735 (by decide) ?_
    refine q_lalo0 hx hb hK hw dL_law_1736 ?_
    refine lv_iload hx hb dL_law_1737 (lv_at hl 0 rfl) ?_
    refine q_if_eq (tgt := 1746) hx hb hf dL_law_1739 (by decide) (fun hf => ?_) (fun hf => ?_)
    · refine lv_lconst (v := 0) hx hb dL_law_1746 rfl ?_
      refine W.lcmp hx hb dL_law_1747 ?_
      refine q_if_eq (tgt := 1753) hx hb hf dL_law_1748 (by decide) (fun hf => ?_) (fun hf => ?_)
      · refine lv_goto (tgt := 3387) hx hb dL_law_1753 (by decide) ?_
        exact W.widen (k := cc + 16) (n := ss + 256) (Nat.add_le_add_left (Nat.le_of_ble_eq_true rfl : 1 ≤ 16) cc) (Nat.add_le_add_left (Nat.le_of_ble_eq_true rfl : 6 ≤ 256) ss) (kk _ _ _ _ hf hw (lv_sub hl [2, 3, 4, 5, 6, 7] rfl))
      refine lv_iconst (v := 0) hx hb dL_law_1751 (by decide) ?_
      exact nomatch hf
    refine lv_lconst (v := 1) hx hb dL_law_1742 rfl ?_
    refine lv_goto (tgt := 1747) hx hb dL_law_1743 (by decide) ?_
    refine W.lcmp hx hb dL_law_1747 ?_
    refine q_if_eq (tgt := 1753) hx hb hf dL_law_1748 (by decide) (fun hf => ?_) (fun hf => ?_)
    · refine lv_goto (tgt := 3387) hx hb dL_law_1753 (by decide) ?_
      exact W.widen (k := cc + 16) (n := ss + 256) (Nat.add_le_add_left (Nat.le_of_ble_eq_true rfl : 1 ≤ 16) cc) (Nat.add_le_add_left (Nat.le_of_ble_eq_true rfl : 6 ≤ 256) ss) (kk _ _ _ _ hf hw (lv_sub hl [2, 3, 4, 5, 6, 7] rfl))
    refine lv_iconst (v := 0) hx hb dL_law_1751 (by decide) ?_
    exact nomatch hf
  refine lv_iconst (v := 0) hx hb dL_law_1727 (by decide) ?_
  exact nomatch hf
set_option maxRecDepth 100000 in
theorem cs_21 {p : Program} {l : Launch} {e : Env} {s : State} {m : MethodId} {args : Array Value} {below : List Frame} {meth : Method} {c : Code} {H : Heap} {locs : List Loc} {Q : State → Prop} {ls : Array Slot} {Γ : Gm} {b L N cc ss : Nat} {xs : Nat → Int32} {σ τ : St} {i : Int32} (hfl : l.stackTraces = false) (X : Fx p c cL_law 9 s m RL) (hK : KK Γ STR s.heap.size s) (hL : LX Γ s b L xs) (hC : cc + 16 ≤ 603072) (hS : ss + 256 ≤ 7223402) (hf : g_21 N xs L σ i = some (true, τ)) (hw : Sit Γ σ s H locs) (hl : lv_has ls 9 [(0, .ref b), (1, .ref (ga Γ 0 0)), (2, .ref (ga Γ 8 0)), (3, .ref (ga Γ 180 0)), (4, .ref (ga Γ 181 0)), (5, .int i)])
    (kk : ∀ (τ2 : St) (H : Heap) (locs : List Loc) (ls : Array Slot), some (true, τ2) = some (true, τ) → Sit Γ τ2 s H locs → lv_has ls 9 [(0, .ref b), (1, .ref (ga Γ 0 0)), (2, .ref (ga Γ 8 0)), (3, .ref (ga Γ 180 0)), (4, .ref (ga Γ 181 0)), (5, .int i)] → W p l e room_1 s m args below meth c H locs (cc + 16) (ss + 256) Q (F0 m 3387 ls [])) : W p l e room_1 s m args below meth c H locs cc ss Q (F0 m 1756 ls []) := by
  unfold g_21 at hf
  have hx := X.1
  have hb := X.2.1
  refine lv_aload_n hx hb dL_law_1756 rfl (lv_at hl 1 rfl) ?_
  refine lv_aload_n hx hb dL_law_1757 rfl (lv_at hl 0 rfl) ?_
  refine lv_iload hx hb dL_law_1758 (lv_at hl 5 rfl) ?_
  refine lv_iconst (v := 1) hx hb dL_law_1760 (by decide) ?_
  refine lv_iadd hx hb dL_law_1761 ?_
  refine q_sld hx hb hL hw hf dL_law_1762 (fun hf => ?_)
  refine lv_aload_n hx hb dL_law_1763 rfl (lv_at hl 0 rfl) ?_
  refine lv_iload hx hb dL_law_1764 (lv_at hl 5 rfl) ?_
  refine lv_iconst (v := 2) hx hb dL_law_1766 (by decide) ?_
  refine lv_iadd hx hb dL_law_1767 ?_
  refine q_sld hx hb hL hw hf dL_law_1768 (fun hf => ?_)
  refine lv_aload_n hx hb dL_law_1769 rfl (lv_at hl 3 rfl) ?_
  refine q_eI hf hw (fun v τ h => q_rW (As := [.ref (ga Γ 0 0), .int (xs (Int32.toNatClampNeg (i + (1 : Int32)))), .int (xs (Int32.toNatClampNeg (i + (2 : Int32)))), .ref (ga Γ 180 0)]) (rest := []) X hK hw (kL_columnOf hfl h) mwL_columnOf lk_L_246 ⟨Nat.le_of_ble_eq_true rfl, Nat.le_of_ble_eq_true rfl⟩ rfl hl.1 rfl (Nat.le_of_ble_eq_true rfl) dL_law_1770 ⟨rmC (cc := cc) (a := 2) hC (Nat.le_of_ble_eq_true rfl), rmS (ss := ss) (a := 12) hS (Nat.le_of_ble_eq_true rfl)⟩) (fun v2 σ1 H locs hf hw => ?_)
  refine lv_istore (lv' := [(6, .int v2), (0, .ref b), (1, .ref (ga Γ 0 0)), (2, .ref (ga Γ 8 0)), (3, .ref (ga Γ 180 0)), (4, .ref (ga Γ 181 0)), (5, .int i)]) hx hb dL_law_1773 hl (by decide) rfl (fun ls hl => ?_)
  refine lv_aload_n hx hb dL_law_1775 rfl (lv_at hl 3 rfl) ?_
  refine lv_aload_n hx hb dL_law_1776 rfl (lv_at hl 1 rfl) ?_
  refine lv_iload hx hb dL_law_1777 (lv_at hl 6 rfl) ?_
  refine lv_iconst (v := 1) hx hb dL_law_1779 (by decide) ?_
  refine lv_iadd hx hb dL_law_1780 ?_
  refine q_sld hx hb hL hw hf dL_law_1781 (fun hf => ?_)
  refine lv_aload_n hx hb dL_law_1782 rfl (lv_at hl 1 rfl) ?_
  refine lv_iload hx hb dL_law_1783 (lv_at hl 6 rfl) ?_
  refine lv_iconst (v := 2) hx hb dL_law_1785 (by decide) ?_
  refine lv_iadd hx hb dL_law_1786 ?_
  refine q_sld hx hb hL hw hf dL_law_1787 (fun hf => ?_)
  refine q_eI hf hw (fun v τ h => q_rV (As := [.int (xs (Int32.toNatClampNeg (i + (1 : Int32)))), .int (xs (Int32.toNatClampNeg (i + (2 : Int32))))]) (rest := []) (q := (RX8, TX8, 32)) X hK hw rfl (Nat.le_of_ble_eq_true rfl : 0 < cnt (gn Γ) 8) (rfl : vwCl[10]? = _) (kX8_columnOf h) mvX8_columnOf lk_L_248 ⟨Nat.le_of_ble_eq_true rfl, Nat.le_of_ble_eq_true rfl⟩ rfl hl.1 rfl (Nat.le_of_ble_eq_true rfl) dL_law_1788 ⟨rmC (cc := cc) (a := 2) hC (Nat.le_of_ble_eq_true rfl), rmS (ss := ss) (a := 12) hS (Nat.le_of_ble_eq_true rfl)⟩) (fun v4 σ3 H locs hf hw => ?_)
  refine lv_istore (lv' := [(7, .int v4), (6, .int v2), (0, .ref b), (1, .ref (ga Γ 0 0)), (2, .ref (ga Γ 8 0)), (3, .ref (ga Γ 180 0)), (4, .ref (ga Γ 181 0)), (5, .int i)]) hx hb dL_law_1791 hl (by decide) rfl (fun ls hl => ?_)
  refine lv_aload_n hx hb dL_law_1793 rfl (lv_at hl 4 rfl) ?_
  refine q_pI hf hw (fun v h => q_rV (As := []) (rest := []) (q := (RX8, TX8, 32)) X hK hw rfl (Nat.le_of_ble_eq_true rfl : 0 < cnt (gn Γ) 8) (rfl : vwCl[10]? = _) (kX8_thrown h) mvX8_thrown lk_L_175 ⟨Nat.le_of_ble_eq_true rfl, Nat.le_of_ble_eq_true rfl⟩ rfl hl.1 rfl (Nat.le_of_ble_eq_true rfl) dL_law_1794 ⟨rmC (cc := cc) (a := 2) hC (Nat.le_of_ble_eq_true rfl), rmS (ss := ss) (a := 12) hS (Nat.le_of_ble_eq_true rfl)⟩) (fun v5 H locs hf hw => ?_)
  refine lv_iload hx hb dL_law_1797 (lv_at hl 1 rfl) ?_
  refine q_ic_eq (tgt := 1804) hx hb hf dL_law_1799 (by decide) (fun hf => ?_) (fun hf => ?_)
  · refine lv_iload hx hb dL_law_1804 (lv_at hl 1 rfl) ?_
    refine q_if_ne (tgt := 1821) hx hb hf dL_law_1806 (by decide) (fun hf => ?_) (fun hf => ?_)
    · refine lv_goto (tgt := 3387) hx hb dL_law_1821 (by decide) ?_
      exact W.widen (k := cc + 16) (n := ss + 256) (Nat.add_le_add_left (Nat.le_of_ble_eq_true rfl : 2 ≤ 16) cc) (Nat.add_le_add_left (Nat.le_of_ble_eq_true rfl : 12 ≤ 256) ss) (kk _ _ _ _ hf hw (lv_sub hl [2, 3, 4, 5, 6, 7] rfl))
    refine lv_aload_n hx hb dL_law_1809 rfl (lv_at hl 5 rfl) ?_
    refine lv_iconst (v := 0) hx hb dL_law_1810 (by decide) ?_
    refine q_lalo0 hx hb hK hw dL_law_1811 ?_
    refine lv_iload hx hb dL_law_1812 (lv_at hl 0 rfl) ?_
    refine lv_i2l hx hb dL_law_1814 rfl ?_
    refine W.lcmp hx hb dL_law_1815 ?_
    refine q_if_eq (tgt := 1821) hx hb hf dL_law_1816 (by decide) (fun hf => ?_) (fun hf => ?_)
    · refine lv_goto (tgt := 3387) hx hb dL_law_1821 (by decide) ?_
      exact W.widen (k := cc + 16) (n := ss + 256) (Nat.add_le_add_left (Nat.le_of_ble_eq_true rfl : 2 ≤ 16) cc) (Nat.add_le_add_left (Nat.le_of_ble_eq_true rfl : 12 ≤ 256) ss) (kk _ _ _ _ hf hw (lv_sub hl [2, 3, 4, 5, 6, 7] rfl))
    refine lv_iconst (v := 0) hx hb dL_law_1819 (by decide) ?_
    exact nomatch hf
  refine lv_iconst (v := 0) hx hb dL_law_1802 (by decide) ?_
  exact nomatch hf
set_option maxRecDepth 100000 in
theorem cs_22 {p : Program} {l : Launch} {e : Env} {s : State} {m : MethodId} {args : Array Value} {below : List Frame} {meth : Method} {c : Code} {H : Heap} {locs : List Loc} {Q : State → Prop} {ls : Array Slot} {Γ : Gm} {b L N cc ss : Nat} {xs : Nat → Int32} {σ τ : St} {i : Int32} (hfl : l.stackTraces = false) (X : Fx p c cL_law 9 s m RL) (hK : KK Γ STR s.heap.size s) (hL : LX Γ s b L xs) (hC : cc + 16 ≤ 603072) (hS : ss + 256 ≤ 7223402) (hf : g_22 N xs L σ i = some (true, τ)) (hw : Sit Γ σ s H locs) (hl : lv_has ls 9 [(0, .ref b), (1, .ref (ga Γ 0 0)), (2, .ref (ga Γ 8 0)), (3, .ref (ga Γ 180 0)), (4, .ref (ga Γ 181 0)), (5, .int i)])
    (kk : ∀ (τ2 : St) (H : Heap) (locs : List Loc) (ls : Array Slot), some (true, τ2) = some (true, τ) → Sit Γ τ2 s H locs → lv_has ls 9 [(0, .ref b), (1, .ref (ga Γ 0 0)), (2, .ref (ga Γ 8 0)), (3, .ref (ga Γ 180 0)), (4, .ref (ga Γ 181 0)), (5, .int i)] → W p l e room_1 s m args below meth c H locs (cc + 16) (ss + 256) Q (F0 m 3387 ls [])) : W p l e room_1 s m args below meth c H locs cc ss Q (F0 m 1824 ls []) := by
  unfold g_22 at hf
  have hx := X.1
  have hb := X.2.1
  refine lv_aload_n hx hb dL_law_1824 rfl (lv_at hl 1 rfl) ?_
  refine lv_aload_n hx hb dL_law_1825 rfl (lv_at hl 0 rfl) ?_
  refine lv_iload hx hb dL_law_1826 (lv_at hl 5 rfl) ?_
  refine lv_iconst (v := 1) hx hb dL_law_1828 (by decide) ?_
  refine lv_iadd hx hb dL_law_1829 ?_
  refine q_sld hx hb hL hw hf dL_law_1830 (fun hf => ?_)
  refine lv_aload_n hx hb dL_law_1831 rfl (lv_at hl 0 rfl) ?_
  refine lv_iload hx hb dL_law_1832 (lv_at hl 5 rfl) ?_
  refine lv_iconst (v := 2) hx hb dL_law_1834 (by decide) ?_
  refine lv_iadd hx hb dL_law_1835 ?_
  refine q_sld hx hb hL hw hf dL_law_1836 (fun hf => ?_)
  refine lv_aload_n hx hb dL_law_1837 rfl (lv_at hl 3 rfl) ?_
  refine q_eI hf hw (fun v τ h => q_rW (As := [.ref (ga Γ 0 0), .int (xs (Int32.toNatClampNeg (i + (1 : Int32)))), .int (xs (Int32.toNatClampNeg (i + (2 : Int32)))), .ref (ga Γ 180 0)]) (rest := []) X hK hw (kL_rowOf hfl h) mwL_rowOf lk_L_249 ⟨Nat.le_of_ble_eq_true rfl, Nat.le_of_ble_eq_true rfl⟩ rfl hl.1 rfl (Nat.le_of_ble_eq_true rfl) dL_law_1838 ⟨rmC (cc := cc) (a := 2) hC (Nat.le_of_ble_eq_true rfl), rmS (ss := ss) (a := 12) hS (Nat.le_of_ble_eq_true rfl)⟩) (fun v2 σ1 H locs hf hw => ?_)
  refine lv_istore (lv' := [(6, .int v2), (0, .ref b), (1, .ref (ga Γ 0 0)), (2, .ref (ga Γ 8 0)), (3, .ref (ga Γ 180 0)), (4, .ref (ga Γ 181 0)), (5, .int i)]) hx hb dL_law_1841 hl (by decide) rfl (fun ls hl => ?_)
  refine lv_aload_n hx hb dL_law_1843 rfl (lv_at hl 3 rfl) ?_
  refine lv_aload_n hx hb dL_law_1844 rfl (lv_at hl 1 rfl) ?_
  refine lv_iload hx hb dL_law_1845 (lv_at hl 6 rfl) ?_
  refine lv_iconst (v := 1) hx hb dL_law_1847 (by decide) ?_
  refine lv_iadd hx hb dL_law_1848 ?_
  refine q_sld hx hb hL hw hf dL_law_1849 (fun hf => ?_)
  refine lv_aload_n hx hb dL_law_1850 rfl (lv_at hl 1 rfl) ?_
  refine lv_iload hx hb dL_law_1851 (lv_at hl 6 rfl) ?_
  refine lv_iconst (v := 2) hx hb dL_law_1853 (by decide) ?_
  refine lv_iadd hx hb dL_law_1854 ?_
  refine q_sld hx hb hL hw hf dL_law_1855 (fun hf => ?_)
  refine q_eI hf hw (fun v τ h => q_rV (As := [.int (xs (Int32.toNatClampNeg (i + (1 : Int32)))), .int (xs (Int32.toNatClampNeg (i + (2 : Int32))))]) (rest := []) (q := (RX8, TX8, 32)) X hK hw rfl (Nat.le_of_ble_eq_true rfl : 0 < cnt (gn Γ) 8) (rfl : vwCl[10]? = _) (kX8_rowOf h) mvX8_rowOf lk_L_251 ⟨Nat.le_of_ble_eq_true rfl, Nat.le_of_ble_eq_true rfl⟩ rfl hl.1 rfl (Nat.le_of_ble_eq_true rfl) dL_law_1856 ⟨rmC (cc := cc) (a := 2) hC (Nat.le_of_ble_eq_true rfl), rmS (ss := ss) (a := 12) hS (Nat.le_of_ble_eq_true rfl)⟩) (fun v4 σ3 H locs hf hw => ?_)
  refine lv_istore (lv' := [(7, .int v4), (6, .int v2), (0, .ref b), (1, .ref (ga Γ 0 0)), (2, .ref (ga Γ 8 0)), (3, .ref (ga Γ 180 0)), (4, .ref (ga Γ 181 0)), (5, .int i)]) hx hb dL_law_1859 hl (by decide) rfl (fun ls hl => ?_)
  refine lv_aload_n hx hb dL_law_1861 rfl (lv_at hl 4 rfl) ?_
  refine q_pI hf hw (fun v h => q_rV (As := []) (rest := []) (q := (RX8, TX8, 32)) X hK hw rfl (Nat.le_of_ble_eq_true rfl : 0 < cnt (gn Γ) 8) (rfl : vwCl[10]? = _) (kX8_thrown h) mvX8_thrown lk_L_175 ⟨Nat.le_of_ble_eq_true rfl, Nat.le_of_ble_eq_true rfl⟩ rfl hl.1 rfl (Nat.le_of_ble_eq_true rfl) dL_law_1862 ⟨rmC (cc := cc) (a := 2) hC (Nat.le_of_ble_eq_true rfl), rmS (ss := ss) (a := 12) hS (Nat.le_of_ble_eq_true rfl)⟩) (fun v5 H locs hf hw => ?_)
  refine lv_iload hx hb dL_law_1865 (lv_at hl 1 rfl) ?_
  refine q_ic_eq (tgt := 1872) hx hb hf dL_law_1867 (by decide) (fun hf => ?_) (fun hf => ?_)
  · refine lv_iload hx hb dL_law_1872 (lv_at hl 1 rfl) ?_
    refine q_if_ne (tgt := 1889) hx hb hf dL_law_1874 (by decide) (fun hf => ?_) (fun hf => ?_)
    · refine lv_goto (tgt := 3387) hx hb dL_law_1889 (by decide) ?_
      exact W.widen (k := cc + 16) (n := ss + 256) (Nat.add_le_add_left (Nat.le_of_ble_eq_true rfl : 2 ≤ 16) cc) (Nat.add_le_add_left (Nat.le_of_ble_eq_true rfl : 12 ≤ 256) ss) (kk _ _ _ _ hf hw (lv_sub hl [2, 3, 4, 5, 6, 7] rfl))
    refine lv_aload_n hx hb dL_law_1877 rfl (lv_at hl 5 rfl) ?_
    refine lv_iconst (v := 0) hx hb dL_law_1878 (by decide) ?_
    refine q_lalo0 hx hb hK hw dL_law_1879 ?_
    refine lv_iload hx hb dL_law_1880 (lv_at hl 0 rfl) ?_
    refine lv_i2l hx hb dL_law_1882 rfl ?_
    refine W.lcmp hx hb dL_law_1883 ?_
    refine q_if_eq (tgt := 1889) hx hb hf dL_law_1884 (by decide) (fun hf => ?_) (fun hf => ?_)
    · refine lv_goto (tgt := 3387) hx hb dL_law_1889 (by decide) ?_
      exact W.widen (k := cc + 16) (n := ss + 256) (Nat.add_le_add_left (Nat.le_of_ble_eq_true rfl : 2 ≤ 16) cc) (Nat.add_le_add_left (Nat.le_of_ble_eq_true rfl : 12 ≤ 256) ss) (kk _ _ _ _ hf hw (lv_sub hl [2, 3, 4, 5, 6, 7] rfl))
    refine lv_iconst (v := 0) hx hb dL_law_1887 (by decide) ?_
    exact nomatch hf
  refine lv_iconst (v := 0) hx hb dL_law_1870 (by decide) ?_
  exact nomatch hf
set_option maxRecDepth 100000 in
theorem cs_23 {p : Program} {l : Launch} {e : Env} {s : State} {m : MethodId} {args : Array Value} {below : List Frame} {meth : Method} {c : Code} {H : Heap} {locs : List Loc} {Q : State → Prop} {ls : Array Slot} {Γ : Gm} {b L N cc ss : Nat} {xs : Nat → Int32} {σ τ : St} {i : Int32} (hfl : l.stackTraces = false) (X : Fx p c cL_law 9 s m RL) (hK : KK Γ STR s.heap.size s) (hL : LX Γ s b L xs) (hC : cc + 16 ≤ 603072) (hS : ss + 256 ≤ 7223402) (hf : g_23 N xs L σ i = some (true, τ)) (hw : Sit Γ σ s H locs) (hl : lv_has ls 9 [(0, .ref b), (1, .ref (ga Γ 0 0)), (2, .ref (ga Γ 8 0)), (3, .ref (ga Γ 180 0)), (4, .ref (ga Γ 181 0)), (5, .int i)])
    (kk : ∀ (τ2 : St) (H : Heap) (locs : List Loc) (ls : Array Slot), some (true, τ2) = some (true, τ) → Sit Γ τ2 s H locs → lv_has ls 9 [(0, .ref b), (1, .ref (ga Γ 0 0)), (2, .ref (ga Γ 8 0)), (3, .ref (ga Γ 180 0)), (4, .ref (ga Γ 181 0)), (5, .int i)] → W p l e room_1 s m args below meth c H locs (cc + 16) (ss + 256) Q (F0 m 3387 ls [])) : W p l e room_1 s m args below meth c H locs cc ss Q (F0 m 1892 ls []) := by
  unfold g_23 at hf
  have hx := X.1
  have hb := X.2.1
  refine lv_aload_n hx hb dL_law_1892 rfl (lv_at hl 1 rfl) ?_
  refine lv_aload_n hx hb dL_law_1893 rfl (lv_at hl 0 rfl) ?_
  refine lv_iload hx hb dL_law_1894 (lv_at hl 5 rfl) ?_
  refine lv_iconst (v := 1) hx hb dL_law_1896 (by decide) ?_
  refine lv_iadd hx hb dL_law_1897 ?_
  refine q_sld hx hb hL hw hf dL_law_1898 (fun hf => ?_)
  refine lv_aload_n hx hb dL_law_1899 rfl (lv_at hl 0 rfl) ?_
  refine lv_iload hx hb dL_law_1900 (lv_at hl 5 rfl) ?_
  refine lv_iconst (v := 2) hx hb dL_law_1902 (by decide) ?_
  refine lv_iadd hx hb dL_law_1903 ?_
  refine q_sld hx hb hL hw hf dL_law_1904 (fun hf => ?_)
  refine lv_aload_n hx hb dL_law_1905 rfl (lv_at hl 3 rfl) ?_
  refine q_eI hf hw (fun v τ h => q_rW (As := [.ref (ga Γ 0 0), .int (xs (Int32.toNatClampNeg (i + (1 : Int32)))), .int (xs (Int32.toNatClampNeg (i + (2 : Int32)))), .ref (ga Γ 180 0)]) (rest := []) X hK hw (kL_rankOf hfl h) mwL_rankOf lk_L_252 ⟨Nat.le_of_ble_eq_true rfl, Nat.le_of_ble_eq_true rfl⟩ rfl hl.1 rfl (Nat.le_of_ble_eq_true rfl) dL_law_1906 ⟨rmC (cc := cc) (a := 2) hC (Nat.le_of_ble_eq_true rfl), rmS (ss := ss) (a := 12) hS (Nat.le_of_ble_eq_true rfl)⟩) (fun v2 σ1 H locs hf hw => ?_)
  refine lv_istore (lv' := [(6, .int v2), (0, .ref b), (1, .ref (ga Γ 0 0)), (2, .ref (ga Γ 8 0)), (3, .ref (ga Γ 180 0)), (4, .ref (ga Γ 181 0)), (5, .int i)]) hx hb dL_law_1909 hl (by decide) rfl (fun ls hl => ?_)
  refine lv_aload_n hx hb dL_law_1911 rfl (lv_at hl 3 rfl) ?_
  refine lv_aload_n hx hb dL_law_1912 rfl (lv_at hl 1 rfl) ?_
  refine lv_iload hx hb dL_law_1913 (lv_at hl 6 rfl) ?_
  refine lv_iconst (v := 1) hx hb dL_law_1915 (by decide) ?_
  refine lv_iadd hx hb dL_law_1916 ?_
  refine q_sld hx hb hL hw hf dL_law_1917 (fun hf => ?_)
  refine lv_aload_n hx hb dL_law_1918 rfl (lv_at hl 1 rfl) ?_
  refine lv_iload hx hb dL_law_1919 (lv_at hl 6 rfl) ?_
  refine lv_iconst (v := 2) hx hb dL_law_1921 (by decide) ?_
  refine lv_iadd hx hb dL_law_1922 ?_
  refine q_sld hx hb hL hw hf dL_law_1923 (fun hf => ?_)
  refine q_eI hf hw (fun v τ h => q_rV (As := [.int (xs (Int32.toNatClampNeg (i + (1 : Int32)))), .int (xs (Int32.toNatClampNeg (i + (2 : Int32))))]) (rest := []) (q := (RX8, TX8, 32)) X hK hw rfl (Nat.le_of_ble_eq_true rfl : 0 < cnt (gn Γ) 8) (rfl : vwCl[10]? = _) (kX8_rankOf h) mvX8_rankOf lk_L_254 ⟨Nat.le_of_ble_eq_true rfl, Nat.le_of_ble_eq_true rfl⟩ rfl hl.1 rfl (Nat.le_of_ble_eq_true rfl) dL_law_1924 ⟨rmC (cc := cc) (a := 2) hC (Nat.le_of_ble_eq_true rfl), rmS (ss := ss) (a := 12) hS (Nat.le_of_ble_eq_true rfl)⟩) (fun v4 σ3 H locs hf hw => ?_)
  refine lv_istore (lv' := [(7, .int v4), (6, .int v2), (0, .ref b), (1, .ref (ga Γ 0 0)), (2, .ref (ga Γ 8 0)), (3, .ref (ga Γ 180 0)), (4, .ref (ga Γ 181 0)), (5, .int i)]) hx hb dL_law_1927 hl (by decide) rfl (fun ls hl => ?_)
  refine lv_aload_n hx hb dL_law_1929 rfl (lv_at hl 4 rfl) ?_
  refine q_pI hf hw (fun v h => q_rV (As := []) (rest := []) (q := (RX8, TX8, 32)) X hK hw rfl (Nat.le_of_ble_eq_true rfl : 0 < cnt (gn Γ) 8) (rfl : vwCl[10]? = _) (kX8_thrown h) mvX8_thrown lk_L_175 ⟨Nat.le_of_ble_eq_true rfl, Nat.le_of_ble_eq_true rfl⟩ rfl hl.1 rfl (Nat.le_of_ble_eq_true rfl) dL_law_1930 ⟨rmC (cc := cc) (a := 2) hC (Nat.le_of_ble_eq_true rfl), rmS (ss := ss) (a := 12) hS (Nat.le_of_ble_eq_true rfl)⟩) (fun v5 H locs hf hw => ?_)
  refine lv_iload hx hb dL_law_1933 (lv_at hl 1 rfl) ?_
  refine q_ic_eq (tgt := 1940) hx hb hf dL_law_1935 (by decide) (fun hf => ?_) (fun hf => ?_)
  · refine lv_iload hx hb dL_law_1940 (lv_at hl 1 rfl) ?_
    refine q_if_ne (tgt := 1957) hx hb hf dL_law_1942 (by decide) (fun hf => ?_) (fun hf => ?_)
    · refine lv_goto (tgt := 3387) hx hb dL_law_1957 (by decide) ?_
      exact W.widen (k := cc + 16) (n := ss + 256) (Nat.add_le_add_left (Nat.le_of_ble_eq_true rfl : 2 ≤ 16) cc) (Nat.add_le_add_left (Nat.le_of_ble_eq_true rfl : 12 ≤ 256) ss) (kk _ _ _ _ hf hw (lv_sub hl [2, 3, 4, 5, 6, 7] rfl))
    refine lv_aload_n hx hb dL_law_1945 rfl (lv_at hl 5 rfl) ?_
    refine lv_iconst (v := 0) hx hb dL_law_1946 (by decide) ?_
    refine q_lalo0 hx hb hK hw dL_law_1947 ?_
    refine lv_iload hx hb dL_law_1948 (lv_at hl 0 rfl) ?_
    refine lv_i2l hx hb dL_law_1950 rfl ?_
    refine W.lcmp hx hb dL_law_1951 ?_
    refine q_if_eq (tgt := 1957) hx hb hf dL_law_1952 (by decide) (fun hf => ?_) (fun hf => ?_)
    · refine lv_goto (tgt := 3387) hx hb dL_law_1957 (by decide) ?_
      exact W.widen (k := cc + 16) (n := ss + 256) (Nat.add_le_add_left (Nat.le_of_ble_eq_true rfl : 2 ≤ 16) cc) (Nat.add_le_add_left (Nat.le_of_ble_eq_true rfl : 12 ≤ 256) ss) (kk _ _ _ _ hf hw (lv_sub hl [2, 3, 4, 5, 6, 7] rfl))
    refine lv_iconst (v := 0) hx hb dL_law_1955 (by decide) ?_
    exact nomatch hf
  refine lv_iconst (v := 0) hx hb dL_law_1938 (by decide) ?_
  exact nomatch hf
set_option maxRecDepth 100000 in
theorem cs_24 {p : Program} {l : Launch} {e : Env} {s : State} {m : MethodId} {args : Array Value} {below : List Frame} {meth : Method} {c : Code} {H : Heap} {locs : List Loc} {Q : State → Prop} {ls : Array Slot} {Γ : Gm} {b L N cc ss : Nat} {xs : Nat → Int32} {σ τ : St} {i : Int32} (hfl : l.stackTraces = false) (X : Fx p c cL_law 9 s m RL) (hK : KK Γ STR s.heap.size s) (hL : LX Γ s b L xs) (hC : cc + 16 ≤ 603072) (hS : ss + 256 ≤ 7223402) (hf : g_24 N xs L σ i = some (true, τ)) (hw : Sit Γ σ s H locs) (hl : lv_has ls 9 [(0, .ref b), (1, .ref (ga Γ 0 0)), (2, .ref (ga Γ 8 0)), (3, .ref (ga Γ 180 0)), (4, .ref (ga Γ 181 0)), (5, .int i)])
    (kk : ∀ (τ2 : St) (H : Heap) (locs : List Loc) (ls : Array Slot), some (true, τ2) = some (true, τ) → Sit Γ τ2 s H locs → lv_has ls 9 [(0, .ref b), (1, .ref (ga Γ 0 0)), (2, .ref (ga Γ 8 0)), (3, .ref (ga Γ 180 0)), (4, .ref (ga Γ 181 0)), (5, .int i)] → W p l e room_1 s m args below meth c H locs (cc + 16) (ss + 256) Q (F0 m 3387 ls [])) : W p l e room_1 s m args below meth c H locs cc ss Q (F0 m 1960 ls []) := by
  unfold g_24 at hf
  have hx := X.1
  have hb := X.2.1
  refine lv_aload_n hx hb dL_law_1960 rfl (lv_at hl 1 rfl) ?_
  refine lv_aload_n hx hb dL_law_1961 rfl (lv_at hl 0 rfl) ?_
  refine lv_iload hx hb dL_law_1962 (lv_at hl 5 rfl) ?_
  refine lv_iconst (v := 1) hx hb dL_law_1964 (by decide) ?_
  refine lv_iadd hx hb dL_law_1965 ?_
  refine q_sld hx hb hL hw hf dL_law_1966 (fun hf => ?_)
  refine lv_aload_n hx hb dL_law_1967 rfl (lv_at hl 0 rfl) ?_
  refine lv_iload hx hb dL_law_1968 (lv_at hl 5 rfl) ?_
  refine lv_iconst (v := 2) hx hb dL_law_1970 (by decide) ?_
  refine lv_iadd hx hb dL_law_1971 ?_
  refine q_sld hx hb hL hw hf dL_law_1972 (fun hf => ?_)
  refine lv_aload_n hx hb dL_law_1973 rfl (lv_at hl 3 rfl) ?_
  refine q_eI hf hw (fun v τ h => q_rW (As := [.ref (ga Γ 0 0), .int (xs (Int32.toNatClampNeg (i + (1 : Int32)))), .int (xs (Int32.toNatClampNeg (i + (2 : Int32)))), .ref (ga Γ 180 0)]) (rest := []) X hK hw (kL_shapeAt hfl h) mwL_shapeAt lk_L_255 ⟨Nat.le_of_ble_eq_true rfl, Nat.le_of_ble_eq_true rfl⟩ rfl hl.1 rfl (Nat.le_of_ble_eq_true rfl) dL_law_1974 ⟨rmC (cc := cc) (a := 2) hC (Nat.le_of_ble_eq_true rfl), rmS (ss := ss) (a := 12) hS (Nat.le_of_ble_eq_true rfl)⟩) (fun v2 σ1 H locs hf hw => ?_)
  refine lv_istore (lv' := [(6, .int v2), (0, .ref b), (1, .ref (ga Γ 0 0)), (2, .ref (ga Γ 8 0)), (3, .ref (ga Γ 180 0)), (4, .ref (ga Γ 181 0)), (5, .int i)]) hx hb dL_law_1977 hl (by decide) rfl (fun ls hl => ?_)
  refine lv_aload_n hx hb dL_law_1979 rfl (lv_at hl 3 rfl) ?_
  refine lv_aload_n hx hb dL_law_1980 rfl (lv_at hl 1 rfl) ?_
  refine lv_iload hx hb dL_law_1981 (lv_at hl 6 rfl) ?_
  refine lv_iconst (v := 1) hx hb dL_law_1983 (by decide) ?_
  refine lv_iadd hx hb dL_law_1984 ?_
  refine q_sld hx hb hL hw hf dL_law_1985 (fun hf => ?_)
  refine lv_aload_n hx hb dL_law_1986 rfl (lv_at hl 1 rfl) ?_
  refine lv_iload hx hb dL_law_1987 (lv_at hl 6 rfl) ?_
  refine lv_iconst (v := 2) hx hb dL_law_1989 (by decide) ?_
  refine lv_iadd hx hb dL_law_1990 ?_
  refine q_sld hx hb hL hw hf dL_law_1991 (fun hf => ?_)
  refine q_eI hf hw (fun v τ h => q_rV (As := [.int (xs (Int32.toNatClampNeg (i + (1 : Int32)))), .int (xs (Int32.toNatClampNeg (i + (2 : Int32))))]) (rest := []) (q := (RX8, TX8, 32)) X hK hw rfl (Nat.le_of_ble_eq_true rfl : 0 < cnt (gn Γ) 8) (rfl : vwCl[10]? = _) (kX8_shapeAt h) mvX8_shapeAt lk_L_257 ⟨Nat.le_of_ble_eq_true rfl, Nat.le_of_ble_eq_true rfl⟩ rfl hl.1 rfl (Nat.le_of_ble_eq_true rfl) dL_law_1992 ⟨rmC (cc := cc) (a := 2) hC (Nat.le_of_ble_eq_true rfl), rmS (ss := ss) (a := 12) hS (Nat.le_of_ble_eq_true rfl)⟩) (fun v4 σ3 H locs hf hw => ?_)
  refine lv_istore (lv' := [(7, .int v4), (6, .int v2), (0, .ref b), (1, .ref (ga Γ 0 0)), (2, .ref (ga Γ 8 0)), (3, .ref (ga Γ 180 0)), (4, .ref (ga Γ 181 0)), (5, .int i)]) hx hb dL_law_1995 hl (by decide) rfl (fun ls hl => ?_)
  refine lv_aload_n hx hb dL_law_1997 rfl (lv_at hl 4 rfl) ?_
  refine q_pI hf hw (fun v h => q_rV (As := []) (rest := []) (q := (RX8, TX8, 32)) X hK hw rfl (Nat.le_of_ble_eq_true rfl : 0 < cnt (gn Γ) 8) (rfl : vwCl[10]? = _) (kX8_thrown h) mvX8_thrown lk_L_175 ⟨Nat.le_of_ble_eq_true rfl, Nat.le_of_ble_eq_true rfl⟩ rfl hl.1 rfl (Nat.le_of_ble_eq_true rfl) dL_law_1998 ⟨rmC (cc := cc) (a := 2) hC (Nat.le_of_ble_eq_true rfl), rmS (ss := ss) (a := 12) hS (Nat.le_of_ble_eq_true rfl)⟩) (fun v5 H locs hf hw => ?_)
  refine lv_iload hx hb dL_law_2001 (lv_at hl 1 rfl) ?_
  refine q_ic_eq (tgt := 2008) hx hb hf dL_law_2003 (by decide) (fun hf => ?_) (fun hf => ?_)
  · refine lv_iload hx hb dL_law_2008 (lv_at hl 1 rfl) ?_
    refine q_if_ne (tgt := 2025) hx hb hf dL_law_2010 (by decide) (fun hf => ?_) (fun hf => ?_)
    · refine lv_goto (tgt := 3387) hx hb dL_law_2025 (by decide) ?_
      exact W.widen (k := cc + 16) (n := ss + 256) (Nat.add_le_add_left (Nat.le_of_ble_eq_true rfl : 2 ≤ 16) cc) (Nat.add_le_add_left (Nat.le_of_ble_eq_true rfl : 12 ≤ 256) ss) (kk _ _ _ _ hf hw (lv_sub hl [2, 3, 4, 5, 6, 7] rfl))
    refine lv_aload_n hx hb dL_law_2013 rfl (lv_at hl 5 rfl) ?_
    refine lv_iconst (v := 0) hx hb dL_law_2014 (by decide) ?_
    refine q_lalo0 hx hb hK hw dL_law_2015 ?_
    refine lv_iload hx hb dL_law_2016 (lv_at hl 0 rfl) ?_
    refine lv_i2l hx hb dL_law_2018 rfl ?_
    refine W.lcmp hx hb dL_law_2019 ?_
    refine q_if_eq (tgt := 2025) hx hb hf dL_law_2020 (by decide) (fun hf => ?_) (fun hf => ?_)
    · refine lv_goto (tgt := 3387) hx hb dL_law_2025 (by decide) ?_
      exact W.widen (k := cc + 16) (n := ss + 256) (Nat.add_le_add_left (Nat.le_of_ble_eq_true rfl : 2 ≤ 16) cc) (Nat.add_le_add_left (Nat.le_of_ble_eq_true rfl : 12 ≤ 256) ss) (kk _ _ _ _ hf hw (lv_sub hl [2, 3, 4, 5, 6, 7] rfl))
    refine lv_iconst (v := 0) hx hb dL_law_2023 (by decide) ?_
    exact nomatch hf
  refine lv_iconst (v := 0) hx hb dL_law_2006 (by decide) ?_
  exact nomatch hf
set_option maxRecDepth 100000 in
theorem cs_25 {p : Program} {l : Launch} {e : Env} {s : State} {m : MethodId} {args : Array Value} {below : List Frame} {meth : Method} {c : Code} {H : Heap} {locs : List Loc} {Q : State → Prop} {ls : Array Slot} {Γ : Gm} {b L N cc ss : Nat} {xs : Nat → Int32} {σ τ : St} {i : Int32} (hfl : l.stackTraces = false) (X : Fx p c cL_law 9 s m RL) (hK : KK Γ STR s.heap.size s) (hL : LX Γ s b L xs) (hC : cc + 16 ≤ 603072) (hS : ss + 256 ≤ 7223402) (hf : g_25 N xs L σ i = some (true, τ)) (hw : Sit Γ σ s H locs) (hl : lv_has ls 9 [(0, .ref b), (1, .ref (ga Γ 0 0)), (2, .ref (ga Γ 8 0)), (3, .ref (ga Γ 180 0)), (4, .ref (ga Γ 181 0)), (5, .int i)])
    (kk : ∀ (τ2 : St) (H : Heap) (locs : List Loc) (ls : Array Slot), some (true, τ2) = some (true, τ) → Sit Γ τ2 s H locs → lv_has ls 9 [(0, .ref b), (1, .ref (ga Γ 0 0)), (2, .ref (ga Γ 8 0)), (3, .ref (ga Γ 180 0)), (4, .ref (ga Γ 181 0)), (5, .int i)] → W p l e room_1 s m args below meth c H locs (cc + 16) (ss + 256) Q (F0 m 3387 ls [])) : W p l e room_1 s m args below meth c H locs cc ss Q (F0 m 2028 ls []) := by
  unfold g_25 at hf
  have hx := X.1
  have hb := X.2.1
  refine lv_aload_n hx hb dL_law_2028 rfl (lv_at hl 1 rfl) ?_
  refine lv_aload_n hx hb dL_law_2029 rfl (lv_at hl 0 rfl) ?_
  refine lv_iload hx hb dL_law_2030 (lv_at hl 5 rfl) ?_
  refine lv_iconst (v := 1) hx hb dL_law_2032 (by decide) ?_
  refine lv_iadd hx hb dL_law_2033 ?_
  refine q_sld hx hb hL hw hf dL_law_2034 (fun hf => ?_)
  refine lv_aload_n hx hb dL_law_2035 rfl (lv_at hl 0 rfl) ?_
  refine lv_iload hx hb dL_law_2036 (lv_at hl 5 rfl) ?_
  refine lv_iconst (v := 2) hx hb dL_law_2038 (by decide) ?_
  refine lv_iadd hx hb dL_law_2039 ?_
  refine q_sld hx hb hL hw hf dL_law_2040 (fun hf => ?_)
  refine lv_aload hx hb dL_law_2041 (lv_at hl 4 rfl) ?_
  refine q_eI hf hw (fun v τ h => q_rW (As := [.ref (ga Γ 0 0), .int (xs (Int32.toNatClampNeg (i + (1 : Int32)))), .int (xs (Int32.toNatClampNeg (i + (2 : Int32)))), .ref (ga Γ 181 0)]) (rest := []) X hK hw (kL_keyOf hfl h) mwL_keyOf lk_L_258 ⟨Nat.le_of_ble_eq_true rfl, Nat.le_of_ble_eq_true rfl⟩ rfl hl.1 rfl (Nat.le_of_ble_eq_true rfl) dL_law_2043 ⟨rmC (cc := cc) (a := 2) hC (Nat.le_of_ble_eq_true rfl), rmS (ss := ss) (a := 12) hS (Nat.le_of_ble_eq_true rfl)⟩) (fun v2 σ1 H locs hf hw => ?_)
  refine lv_istore (lv' := [(6, .int v2), (0, .ref b), (1, .ref (ga Γ 0 0)), (2, .ref (ga Γ 8 0)), (3, .ref (ga Γ 180 0)), (4, .ref (ga Γ 181 0)), (5, .int i)]) hx hb dL_law_2046 hl (by decide) rfl (fun ls hl => ?_)
  refine lv_aload_n hx hb dL_law_2048 rfl (lv_at hl 3 rfl) ?_
  refine lv_aload_n hx hb dL_law_2049 rfl (lv_at hl 1 rfl) ?_
  refine lv_iload hx hb dL_law_2050 (lv_at hl 6 rfl) ?_
  refine lv_iconst (v := 1) hx hb dL_law_2052 (by decide) ?_
  refine lv_iadd hx hb dL_law_2053 ?_
  refine q_sld hx hb hL hw hf dL_law_2054 (fun hf => ?_)
  refine lv_aload_n hx hb dL_law_2055 rfl (lv_at hl 1 rfl) ?_
  refine lv_iload hx hb dL_law_2056 (lv_at hl 6 rfl) ?_
  refine lv_iconst (v := 2) hx hb dL_law_2058 (by decide) ?_
  refine lv_iadd hx hb dL_law_2059 ?_
  refine q_sld hx hb hL hw hf dL_law_2060 (fun hf => ?_)
  refine q_eF hf hw (fun v τ h => q_rV (As := [.int (xs (Int32.toNatClampNeg (i + (1 : Int32)))), .int (xs (Int32.toNatClampNeg (i + (2 : Int32))))]) (rest := []) (q := (RX8, TX8, 32)) X hK hw rfl (Nat.le_of_ble_eq_true rfl : 0 < cnt (gn Γ) 8) (rfl : vwCl[10]? = _) (kX8_keyOf h) mvX8_keyOf lk_L_261 ⟨Nat.le_of_ble_eq_true rfl, Nat.le_of_ble_eq_true rfl⟩ rfl hl.1 rfl (Nat.le_of_ble_eq_true rfl) dL_law_2061 ⟨rmC (cc := cc) (a := 2) hC (Nat.le_of_ble_eq_true rfl), rmS (ss := ss) (a := 12) hS (Nat.le_of_ble_eq_true rfl)⟩) (fun v4 σ3 H locs hf hw => ?_)
  refine lv_fstore (lv' := [(7, .float v4), (6, .int v2), (0, .ref b), (1, .ref (ga Γ 0 0)), (2, .ref (ga Γ 8 0)), (3, .ref (ga Γ 180 0)), (4, .ref (ga Γ 181 0)), (5, .int i)]) hx hb dL_law_2064 hl (by decide) rfl (fun ls hl => ?_)
  refine lv_aload_n hx hb dL_law_2066 rfl (lv_at hl 4 rfl) ?_
  refine q_pI hf hw (fun v h => q_rV (As := []) (rest := []) (q := (RX8, TX8, 32)) X hK hw rfl (Nat.le_of_ble_eq_true rfl : 0 < cnt (gn Γ) 8) (rfl : vwCl[10]? = _) (kX8_thrown h) mvX8_thrown lk_L_175 ⟨Nat.le_of_ble_eq_true rfl, Nat.le_of_ble_eq_true rfl⟩ rfl hl.1 rfl (Nat.le_of_ble_eq_true rfl) dL_law_2067 ⟨rmC (cc := cc) (a := 2) hC (Nat.le_of_ble_eq_true rfl), rmS (ss := ss) (a := 12) hS (Nat.le_of_ble_eq_true rfl)⟩) (fun v5 H locs hf hw => ?_)
  refine lv_iload hx hb dL_law_2070 (lv_at hl 1 rfl) ?_
  refine q_ic_eq (tgt := 2077) hx hb hf dL_law_2072 (by decide) (fun hf => ?_) (fun hf => ?_)
  · refine lv_iload hx hb dL_law_2077 (lv_at hl 1 rfl) ?_
    refine q_if_ne (tgt := 2115) hx hb hf dL_law_2079 (by decide) (fun hf => ?_) (fun hf => ?_)
    · refine lv_goto (tgt := 3387) hx hb dL_law_2115 (by decide) ?_
      exact W.widen (k := cc + 16) (n := ss + 256) (Nat.add_le_add_left (Nat.le_of_ble_eq_true rfl : 2 ≤ 16) cc) (Nat.add_le_add_left (Nat.le_of_ble_eq_true rfl : 12 ≤ 256) ss) (kk _ _ _ _ hf hw (lv_sub hl [2, 3, 4, 5, 6, 7] rfl))
    refine lv_aload hx hb dL_law_2082 (lv_at hl 6 rfl) ?_
    refine lv_iconst (v := 0) hx hb dL_law_2084 (by decide) ?_
    refine q_dalo0 hx hb hK hw dL_law_2085 ?_
    refine lv_fload hx hb dL_law_2086 (lv_at hl 0 rfl) ?_
    refine q_f2d hx hb hf dL_law_2088 (fun hf => ?_)
    refine lv_dcmp hx hb dL_law_2089 ?_
    refine q_if_eq (tgt := 2115) hx hb hf dL_law_2090 (by decide) (fun hf => ?_) (fun hf => ?_)
    · refine lv_goto (tgt := 3387) hx hb dL_law_2115 (by decide) ?_
      exact W.widen (k := cc + 16) (n := ss + 256) (Nat.add_le_add_left (Nat.le_of_ble_eq_true rfl : 2 ≤ 16) cc) (Nat.add_le_add_left (Nat.le_of_ble_eq_true rfl : 12 ≤ 256) ss) (kk _ _ _ _ hf hw (lv_sub hl [2, 3, 4, 5, 6, 7] rfl))
    refine lv_aload hx hb dL_law_2093 (lv_at hl 6 rfl) ?_
    refine lv_iconst (v := 0) hx hb dL_law_2095 (by decide) ?_
    refine q_dalo0 hx hb hK hw dL_law_2096 ?_
    refine lv_aload hx hb dL_law_2097 (lv_at hl 6 rfl) ?_
    refine lv_iconst (v := 0) hx hb dL_law_2099 (by decide) ?_
    refine q_dalo0 hx hb hK hw dL_law_2100 ?_
    refine lv_dcmp hx hb dL_law_2101 ?_
    refine q_if_eq (tgt := 2113) hx hb hf dL_law_2102 (by decide) (fun hf => ?_) (fun hf => ?_)
    · refine lv_iconst (v := 0) hx hb dL_law_2113 (by decide) ?_
      exact nomatch hf
    refine lv_fload hx hb dL_law_2105 (lv_at hl 0 rfl) ?_
    refine lv_fload hx hb dL_law_2107 (lv_at hl 0 rfl) ?_
    refine lv_fcmp hx hb dL_law_2109 ?_
    refine q_if_ne (tgt := 2115) hx hb hf dL_law_2110 (by decide) (fun hf => ?_) (fun hf => ?_)
    · refine lv_goto (tgt := 3387) hx hb dL_law_2115 (by decide) ?_
      exact W.widen (k := cc + 16) (n := ss + 256) (Nat.add_le_add_left (Nat.le_of_ble_eq_true rfl : 2 ≤ 16) cc) (Nat.add_le_add_left (Nat.le_of_ble_eq_true rfl : 12 ≤ 256) ss) (kk _ _ _ _ hf hw (lv_sub hl [2, 3, 4, 5, 6, 7] rfl))
    refine lv_iconst (v := 0) hx hb dL_law_2113 (by decide) ?_
    exact nomatch hf
  refine lv_iconst (v := 0) hx hb dL_law_2075 (by decide) ?_
  exact nomatch hf
set_option maxRecDepth 100000 in
theorem cs_26 {p : Program} {l : Launch} {e : Env} {s : State} {m : MethodId} {args : Array Value} {below : List Frame} {meth : Method} {c : Code} {H : Heap} {locs : List Loc} {Q : State → Prop} {ls : Array Slot} {Γ : Gm} {b L N cc ss : Nat} {xs : Nat → Int32} {σ τ : St} {i : Int32} (hfl : l.stackTraces = false) (X : Fx p c cL_law 9 s m RL) (hK : KK Γ STR s.heap.size s) (hL : LX Γ s b L xs) (hC : cc + 16 ≤ 603072) (hS : ss + 256 ≤ 7223402) (hf : g_26 N xs L σ i = some (true, τ)) (hw : Sit Γ σ s H locs) (hl : lv_has ls 9 [(0, .ref b), (1, .ref (ga Γ 0 0)), (2, .ref (ga Γ 8 0)), (3, .ref (ga Γ 180 0)), (4, .ref (ga Γ 181 0)), (5, .int i)])
    (kk : ∀ (τ2 : St) (H : Heap) (locs : List Loc) (ls : Array Slot), some (true, τ2) = some (true, τ) → Sit Γ τ2 s H locs → lv_has ls 9 [(0, .ref b), (1, .ref (ga Γ 0 0)), (2, .ref (ga Γ 8 0)), (3, .ref (ga Γ 180 0)), (4, .ref (ga Γ 181 0)), (5, .int i)] → W p l e room_1 s m args below meth c H locs (cc + 16) (ss + 256) Q (F0 m 3387 ls [])) : W p l e room_1 s m args below meth c H locs cc ss Q (F0 m 2118 ls []) := by
  unfold g_26 at hf
  have hx := X.1
  have hb := X.2.1
  refine lv_aload_n hx hb dL_law_2118 rfl (lv_at hl 1 rfl) ?_
  refine lv_aload_n hx hb dL_law_2119 rfl (lv_at hl 0 rfl) ?_
  refine lv_iload hx hb dL_law_2120 (lv_at hl 5 rfl) ?_
  refine lv_iconst (v := 1) hx hb dL_law_2122 (by decide) ?_
  refine lv_iadd hx hb dL_law_2123 ?_
  refine q_sld hx hb hL hw hf dL_law_2124 (fun hf => ?_)
  refine lv_aload_n hx hb dL_law_2125 rfl (lv_at hl 0 rfl) ?_
  refine lv_iload hx hb dL_law_2126 (lv_at hl 5 rfl) ?_
  refine lv_iconst (v := 2) hx hb dL_law_2128 (by decide) ?_
  refine lv_iadd hx hb dL_law_2129 ?_
  refine q_sld hx hb hL hw hf dL_law_2130 (fun hf => ?_)
  refine lv_aload_n hx hb dL_law_2131 rfl (lv_at hl 3 rfl) ?_
  refine q_eI hf hw (fun v τ h => q_rW (As := [.ref (ga Γ 0 0), .int (xs (Int32.toNatClampNeg (i + (1 : Int32)))), .int (xs (Int32.toNatClampNeg (i + (2 : Int32)))), .ref (ga Γ 180 0)]) (rest := []) X hK hw (kL_keyBits hfl h) mwL_keyBits lk_L_262 ⟨Nat.le_of_ble_eq_true rfl, Nat.le_of_ble_eq_true rfl⟩ rfl hl.1 rfl (Nat.le_of_ble_eq_true rfl) dL_law_2132 ⟨rmC (cc := cc) (a := 2) hC (Nat.le_of_ble_eq_true rfl), rmS (ss := ss) (a := 12) hS (Nat.le_of_ble_eq_true rfl)⟩) (fun v2 σ1 H locs hf hw => ?_)
  refine lv_istore (lv' := [(6, .int v2), (0, .ref b), (1, .ref (ga Γ 0 0)), (2, .ref (ga Γ 8 0)), (3, .ref (ga Γ 180 0)), (4, .ref (ga Γ 181 0)), (5, .int i)]) hx hb dL_law_2135 hl (by decide) rfl (fun ls hl => ?_)
  refine lv_aload_n hx hb dL_law_2137 rfl (lv_at hl 3 rfl) ?_
  refine lv_aload_n hx hb dL_law_2138 rfl (lv_at hl 1 rfl) ?_
  refine lv_iload hx hb dL_law_2139 (lv_at hl 6 rfl) ?_
  refine lv_iconst (v := 1) hx hb dL_law_2141 (by decide) ?_
  refine lv_iadd hx hb dL_law_2142 ?_
  refine q_sld hx hb hL hw hf dL_law_2143 (fun hf => ?_)
  refine lv_aload_n hx hb dL_law_2144 rfl (lv_at hl 1 rfl) ?_
  refine lv_iload hx hb dL_law_2145 (lv_at hl 6 rfl) ?_
  refine lv_iconst (v := 2) hx hb dL_law_2147 (by decide) ?_
  refine lv_iadd hx hb dL_law_2148 ?_
  refine q_sld hx hb hL hw hf dL_law_2149 (fun hf => ?_)
  refine q_eI hf hw (fun v τ h => q_rV (As := [.int (xs (Int32.toNatClampNeg (i + (1 : Int32)))), .int (xs (Int32.toNatClampNeg (i + (2 : Int32))))]) (rest := []) (q := (RX8, TX8, 32)) X hK hw rfl (Nat.le_of_ble_eq_true rfl : 0 < cnt (gn Γ) 8) (rfl : vwCl[10]? = _) (kX8_keyBits h) mvX8_keyBits lk_L_264 ⟨Nat.le_of_ble_eq_true rfl, Nat.le_of_ble_eq_true rfl⟩ rfl hl.1 rfl (Nat.le_of_ble_eq_true rfl) dL_law_2150 ⟨rmC (cc := cc) (a := 2) hC (Nat.le_of_ble_eq_true rfl), rmS (ss := ss) (a := 12) hS (Nat.le_of_ble_eq_true rfl)⟩) (fun v4 σ3 H locs hf hw => ?_)
  refine lv_istore (lv' := [(7, .int v4), (6, .int v2), (0, .ref b), (1, .ref (ga Γ 0 0)), (2, .ref (ga Γ 8 0)), (3, .ref (ga Γ 180 0)), (4, .ref (ga Γ 181 0)), (5, .int i)]) hx hb dL_law_2153 hl (by decide) rfl (fun ls hl => ?_)
  refine lv_aload_n hx hb dL_law_2155 rfl (lv_at hl 4 rfl) ?_
  refine q_pI hf hw (fun v h => q_rV (As := []) (rest := []) (q := (RX8, TX8, 32)) X hK hw rfl (Nat.le_of_ble_eq_true rfl : 0 < cnt (gn Γ) 8) (rfl : vwCl[10]? = _) (kX8_thrown h) mvX8_thrown lk_L_175 ⟨Nat.le_of_ble_eq_true rfl, Nat.le_of_ble_eq_true rfl⟩ rfl hl.1 rfl (Nat.le_of_ble_eq_true rfl) dL_law_2156 ⟨rmC (cc := cc) (a := 2) hC (Nat.le_of_ble_eq_true rfl), rmS (ss := ss) (a := 12) hS (Nat.le_of_ble_eq_true rfl)⟩) (fun v5 H locs hf hw => ?_)
  refine lv_iload hx hb dL_law_2159 (lv_at hl 1 rfl) ?_
  refine q_ic_eq (tgt := 2166) hx hb hf dL_law_2161 (by decide) (fun hf => ?_) (fun hf => ?_)
  · refine lv_iload hx hb dL_law_2166 (lv_at hl 1 rfl) ?_
    refine q_if_ne (tgt := 2183) hx hb hf dL_law_2168 (by decide) (fun hf => ?_) (fun hf => ?_)
    · refine lv_goto (tgt := 3387) hx hb dL_law_2183 (by decide) ?_
      exact W.widen (k := cc + 16) (n := ss + 256) (Nat.add_le_add_left (Nat.le_of_ble_eq_true rfl : 2 ≤ 16) cc) (Nat.add_le_add_left (Nat.le_of_ble_eq_true rfl : 12 ≤ 256) ss) (kk _ _ _ _ hf hw (lv_sub hl [2, 3, 4, 5, 6, 7] rfl))
    refine lv_aload_n hx hb dL_law_2171 rfl (lv_at hl 5 rfl) ?_
    refine lv_iconst (v := 0) hx hb dL_law_2172 (by decide) ?_
    refine q_lalo0 hx hb hK hw dL_law_2173 ?_
    refine lv_iload hx hb dL_law_2174 (lv_at hl 0 rfl) ?_
    refine lv_i2l hx hb dL_law_2176 rfl ?_
    refine W.lcmp hx hb dL_law_2177 ?_
    refine q_if_eq (tgt := 2183) hx hb hf dL_law_2178 (by decide) (fun hf => ?_) (fun hf => ?_)
    · refine lv_goto (tgt := 3387) hx hb dL_law_2183 (by decide) ?_
      exact W.widen (k := cc + 16) (n := ss + 256) (Nat.add_le_add_left (Nat.le_of_ble_eq_true rfl : 2 ≤ 16) cc) (Nat.add_le_add_left (Nat.le_of_ble_eq_true rfl : 12 ≤ 256) ss) (kk _ _ _ _ hf hw (lv_sub hl [2, 3, 4, 5, 6, 7] rfl))
    refine lv_iconst (v := 0) hx hb dL_law_2181 (by decide) ?_
    exact nomatch hf
  refine lv_iconst (v := 0) hx hb dL_law_2164 (by decide) ?_
  exact nomatch hf
set_option maxRecDepth 100000 in
theorem cs_27 {p : Program} {l : Launch} {e : Env} {s : State} {m : MethodId} {args : Array Value} {below : List Frame} {meth : Method} {c : Code} {H : Heap} {locs : List Loc} {Q : State → Prop} {ls : Array Slot} {Γ : Gm} {b L N cc ss : Nat} {xs : Nat → Int32} {σ τ : St} {i : Int32} (hfl : l.stackTraces = false) (X : Fx p c cL_law 9 s m RL) (hK : KK Γ STR s.heap.size s) (hL : LX Γ s b L xs) (hC : cc + 16 ≤ 603072) (hS : ss + 256 ≤ 7223402) (hf : g_27 N xs L σ i = some (true, τ)) (hw : Sit Γ σ s H locs) (hl : lv_has ls 9 [(0, .ref b), (1, .ref (ga Γ 0 0)), (2, .ref (ga Γ 8 0)), (3, .ref (ga Γ 180 0)), (4, .ref (ga Γ 181 0)), (5, .int i)])
    (kk : ∀ (τ2 : St) (H : Heap) (locs : List Loc) (ls : Array Slot), some (true, τ2) = some (true, τ) → Sit Γ τ2 s H locs → lv_has ls 9 [(0, .ref b), (1, .ref (ga Γ 0 0)), (2, .ref (ga Γ 8 0)), (3, .ref (ga Γ 180 0)), (4, .ref (ga Γ 181 0)), (5, .int i)] → W p l e room_1 s m args below meth c H locs (cc + 16) (ss + 256) Q (F0 m 3387 ls [])) : W p l e room_1 s m args below meth c H locs cc ss Q (F0 m 2186 ls []) := by
  unfold g_27 at hf
  have hx := X.1
  have hb := X.2.1
  refine lv_aload_n hx hb dL_law_2186 rfl (lv_at hl 1 rfl) ?_
  refine lv_aload_n hx hb dL_law_2187 rfl (lv_at hl 0 rfl) ?_
  refine lv_iload hx hb dL_law_2188 (lv_at hl 5 rfl) ?_
  refine lv_iconst (v := 1) hx hb dL_law_2190 (by decide) ?_
  refine lv_iadd hx hb dL_law_2191 ?_
  refine q_sld hx hb hL hw hf dL_law_2192 (fun hf => ?_)
  refine lv_aload_n hx hb dL_law_2193 rfl (lv_at hl 0 rfl) ?_
  refine lv_iload hx hb dL_law_2194 (lv_at hl 5 rfl) ?_
  refine lv_iconst (v := 2) hx hb dL_law_2196 (by decide) ?_
  refine lv_iadd hx hb dL_law_2197 ?_
  refine q_sld hx hb hL hw hf dL_law_2198 (fun hf => ?_)
  refine lv_aload_n hx hb dL_law_2199 rfl (lv_at hl 3 rfl) ?_
  refine q_eI hf hw (fun v τ h => q_rW (As := [.ref (ga Γ 0 0), .int (xs (Int32.toNatClampNeg (i + (1 : Int32)))), .int (xs (Int32.toNatClampNeg (i + (2 : Int32)))), .ref (ga Γ 180 0)]) (rest := []) X hK hw (kL_keyCut hfl h) mwL_keyCut lk_L_265 ⟨Nat.le_of_ble_eq_true rfl, Nat.le_of_ble_eq_true rfl⟩ rfl hl.1 rfl (Nat.le_of_ble_eq_true rfl) dL_law_2200 ⟨rmC (cc := cc) (a := 2) hC (Nat.le_of_ble_eq_true rfl), rmS (ss := ss) (a := 12) hS (Nat.le_of_ble_eq_true rfl)⟩) (fun v2 σ1 H locs hf hw => ?_)
  refine lv_istore (lv' := [(6, .int v2), (0, .ref b), (1, .ref (ga Γ 0 0)), (2, .ref (ga Γ 8 0)), (3, .ref (ga Γ 180 0)), (4, .ref (ga Γ 181 0)), (5, .int i)]) hx hb dL_law_2203 hl (by decide) rfl (fun ls hl => ?_)
  refine lv_aload_n hx hb dL_law_2205 rfl (lv_at hl 3 rfl) ?_
  refine lv_aload_n hx hb dL_law_2206 rfl (lv_at hl 1 rfl) ?_
  refine lv_iload hx hb dL_law_2207 (lv_at hl 6 rfl) ?_
  refine lv_iconst (v := 1) hx hb dL_law_2209 (by decide) ?_
  refine lv_iadd hx hb dL_law_2210 ?_
  refine q_sld hx hb hL hw hf dL_law_2211 (fun hf => ?_)
  refine lv_aload_n hx hb dL_law_2212 rfl (lv_at hl 1 rfl) ?_
  refine lv_iload hx hb dL_law_2213 (lv_at hl 6 rfl) ?_
  refine lv_iconst (v := 2) hx hb dL_law_2215 (by decide) ?_
  refine lv_iadd hx hb dL_law_2216 ?_
  refine q_sld hx hb hL hw hf dL_law_2217 (fun hf => ?_)
  refine q_eI hf hw (fun v τ h => q_rV (As := [.int (xs (Int32.toNatClampNeg (i + (1 : Int32)))), .int (xs (Int32.toNatClampNeg (i + (2 : Int32))))]) (rest := []) (q := (RX8, TX8, 32)) X hK hw rfl (Nat.le_of_ble_eq_true rfl : 0 < cnt (gn Γ) 8) (rfl : vwCl[10]? = _) (kX8_keyCut h) mvX8_keyCut lk_L_267 ⟨Nat.le_of_ble_eq_true rfl, Nat.le_of_ble_eq_true rfl⟩ rfl hl.1 rfl (Nat.le_of_ble_eq_true rfl) dL_law_2218 ⟨rmC (cc := cc) (a := 2) hC (Nat.le_of_ble_eq_true rfl), rmS (ss := ss) (a := 12) hS (Nat.le_of_ble_eq_true rfl)⟩) (fun v4 σ3 H locs hf hw => ?_)
  refine lv_istore (lv' := [(7, .int v4), (6, .int v2), (0, .ref b), (1, .ref (ga Γ 0 0)), (2, .ref (ga Γ 8 0)), (3, .ref (ga Γ 180 0)), (4, .ref (ga Γ 181 0)), (5, .int i)]) hx hb dL_law_2221 hl (by decide) rfl (fun ls hl => ?_)
  refine lv_aload_n hx hb dL_law_2223 rfl (lv_at hl 4 rfl) ?_
  refine q_pI hf hw (fun v h => q_rV (As := []) (rest := []) (q := (RX8, TX8, 32)) X hK hw rfl (Nat.le_of_ble_eq_true rfl : 0 < cnt (gn Γ) 8) (rfl : vwCl[10]? = _) (kX8_thrown h) mvX8_thrown lk_L_175 ⟨Nat.le_of_ble_eq_true rfl, Nat.le_of_ble_eq_true rfl⟩ rfl hl.1 rfl (Nat.le_of_ble_eq_true rfl) dL_law_2224 ⟨rmC (cc := cc) (a := 2) hC (Nat.le_of_ble_eq_true rfl), rmS (ss := ss) (a := 12) hS (Nat.le_of_ble_eq_true rfl)⟩) (fun v5 H locs hf hw => ?_)
  refine lv_iload hx hb dL_law_2227 (lv_at hl 1 rfl) ?_
  refine q_ic_eq (tgt := 2234) hx hb hf dL_law_2229 (by decide) (fun hf => ?_) (fun hf => ?_)
  · refine lv_iload hx hb dL_law_2234 (lv_at hl 1 rfl) ?_
    refine q_if_ne (tgt := 2251) hx hb hf dL_law_2236 (by decide) (fun hf => ?_) (fun hf => ?_)
    · refine lv_goto (tgt := 3387) hx hb dL_law_2251 (by decide) ?_
      exact W.widen (k := cc + 16) (n := ss + 256) (Nat.add_le_add_left (Nat.le_of_ble_eq_true rfl : 2 ≤ 16) cc) (Nat.add_le_add_left (Nat.le_of_ble_eq_true rfl : 12 ≤ 256) ss) (kk _ _ _ _ hf hw (lv_sub hl [2, 3, 4, 5, 6, 7] rfl))
    refine lv_aload_n hx hb dL_law_2239 rfl (lv_at hl 5 rfl) ?_
    refine lv_iconst (v := 0) hx hb dL_law_2240 (by decide) ?_
    refine q_lalo0 hx hb hK hw dL_law_2241 ?_
    refine lv_iload hx hb dL_law_2242 (lv_at hl 0 rfl) ?_
    refine lv_i2l hx hb dL_law_2244 rfl ?_
    refine W.lcmp hx hb dL_law_2245 ?_
    refine q_if_eq (tgt := 2251) hx hb hf dL_law_2246 (by decide) (fun hf => ?_) (fun hf => ?_)
    · refine lv_goto (tgt := 3387) hx hb dL_law_2251 (by decide) ?_
      exact W.widen (k := cc + 16) (n := ss + 256) (Nat.add_le_add_left (Nat.le_of_ble_eq_true rfl : 2 ≤ 16) cc) (Nat.add_le_add_left (Nat.le_of_ble_eq_true rfl : 12 ≤ 256) ss) (kk _ _ _ _ hf hw (lv_sub hl [2, 3, 4, 5, 6, 7] rfl))
    refine lv_iconst (v := 0) hx hb dL_law_2249 (by decide) ?_
    exact nomatch hf
  refine lv_iconst (v := 0) hx hb dL_law_2232 (by decide) ?_
  exact nomatch hf
set_option maxRecDepth 100000 in
theorem cs_28 {p : Program} {l : Launch} {e : Env} {s : State} {m : MethodId} {args : Array Value} {below : List Frame} {meth : Method} {c : Code} {H : Heap} {locs : List Loc} {Q : State → Prop} {ls : Array Slot} {Γ : Gm} {b L N cc ss : Nat} {xs : Nat → Int32} {σ τ : St} {i : Int32} (hfl : l.stackTraces = false) (X : Fx p c cL_law 9 s m RL) (hK : KK Γ STR s.heap.size s) (hL : LX Γ s b L xs) (hC : cc + 16 ≤ 603072) (hS : ss + 256 ≤ 7223402) (hf : g_28 N xs L σ i = some (true, τ)) (hw : Sit Γ σ s H locs) (hl : lv_has ls 9 [(0, .ref b), (1, .ref (ga Γ 0 0)), (2, .ref (ga Γ 8 0)), (3, .ref (ga Γ 180 0)), (4, .ref (ga Γ 181 0)), (5, .int i)])
    (kk : ∀ (τ2 : St) (H : Heap) (locs : List Loc) (ls : Array Slot), some (true, τ2) = some (true, τ) → Sit Γ τ2 s H locs → lv_has ls 9 [(0, .ref b), (1, .ref (ga Γ 0 0)), (2, .ref (ga Γ 8 0)), (3, .ref (ga Γ 180 0)), (4, .ref (ga Γ 181 0)), (5, .int i)] → W p l e room_1 s m args below meth c H locs (cc + 16) (ss + 256) Q (F0 m 3387 ls [])) : W p l e room_1 s m args below meth c H locs cc ss Q (F0 m 2254 ls []) := by
  unfold g_28 at hf
  have hx := X.1
  have hb := X.2.1
  refine lv_aload_n hx hb dL_law_2254 rfl (lv_at hl 1 rfl) ?_
  refine lv_aload_n hx hb dL_law_2255 rfl (lv_at hl 0 rfl) ?_
  refine lv_iload hx hb dL_law_2256 (lv_at hl 5 rfl) ?_
  refine lv_iconst (v := 1) hx hb dL_law_2258 (by decide) ?_
  refine lv_iadd hx hb dL_law_2259 ?_
  refine q_sld hx hb hL hw hf dL_law_2260 (fun hf => ?_)
  refine lv_aload_n hx hb dL_law_2261 rfl (lv_at hl 0 rfl) ?_
  refine lv_iload hx hb dL_law_2262 (lv_at hl 5 rfl) ?_
  refine lv_iconst (v := 2) hx hb dL_law_2264 (by decide) ?_
  refine lv_iadd hx hb dL_law_2265 ?_
  refine q_sld hx hb hL hw hf dL_law_2266 (fun hf => ?_)
  refine lv_aload_n hx hb dL_law_2267 rfl (lv_at hl 0 rfl) ?_
  refine lv_iload hx hb dL_law_2268 (lv_at hl 5 rfl) ?_
  refine lv_iconst (v := 3) hx hb dL_law_2270 (by decide) ?_
  refine lv_iadd hx hb dL_law_2271 ?_
  refine q_sld hx hb hL hw hf dL_law_2272 (fun hf => ?_)
  refine lv_aload_n hx hb dL_law_2273 rfl (lv_at hl 3 rfl) ?_
  refine q_eI hf hw (fun v τ h => q_rW (As := [.ref (ga Γ 0 0), .int (xs (Int32.toNatClampNeg (i + (1 : Int32)))), .int (xs (Int32.toNatClampNeg (i + (2 : Int32)))), .int (xs (Int32.toNatClampNeg (i + (3 : Int32)))), .ref (ga Γ 180 0)]) (rest := []) X hK hw (kL_topAt hfl h) mwL_topAt lk_L_268 ⟨Nat.le_of_ble_eq_true rfl, Nat.le_of_ble_eq_true rfl⟩ rfl hl.1 rfl (Nat.le_of_ble_eq_true rfl) dL_law_2274 ⟨rmC (cc := cc) (a := 3) hC (Nat.le_of_ble_eq_true rfl), rmS (ss := ss) (a := 18) hS (Nat.le_of_ble_eq_true rfl)⟩) (fun v2 σ1 H locs hf hw => ?_)
  refine lv_istore (lv' := [(6, .int v2), (0, .ref b), (1, .ref (ga Γ 0 0)), (2, .ref (ga Γ 8 0)), (3, .ref (ga Γ 180 0)), (4, .ref (ga Γ 181 0)), (5, .int i)]) hx hb dL_law_2277 hl (by decide) rfl (fun ls hl => ?_)
  refine lv_aload_n hx hb dL_law_2279 rfl (lv_at hl 3 rfl) ?_
  refine lv_aload_n hx hb dL_law_2280 rfl (lv_at hl 1 rfl) ?_
  refine lv_iload hx hb dL_law_2281 (lv_at hl 6 rfl) ?_
  refine lv_iconst (v := 1) hx hb dL_law_2283 (by decide) ?_
  refine lv_iadd hx hb dL_law_2284 ?_
  refine q_sld hx hb hL hw hf dL_law_2285 (fun hf => ?_)
  refine lv_aload_n hx hb dL_law_2286 rfl (lv_at hl 1 rfl) ?_
  refine lv_iload hx hb dL_law_2287 (lv_at hl 6 rfl) ?_
  refine lv_iconst (v := 2) hx hb dL_law_2289 (by decide) ?_
  refine lv_iadd hx hb dL_law_2290 ?_
  refine q_sld hx hb hL hw hf dL_law_2291 (fun hf => ?_)
  refine lv_aload_n hx hb dL_law_2292 rfl (lv_at hl 1 rfl) ?_
  refine lv_iload hx hb dL_law_2293 (lv_at hl 6 rfl) ?_
  refine lv_iconst (v := 3) hx hb dL_law_2295 (by decide) ?_
  refine lv_iadd hx hb dL_law_2296 ?_
  refine q_sld hx hb hL hw hf dL_law_2297 (fun hf => ?_)
  refine q_eI hf hw (fun v τ h => q_rV (As := [.int (xs (Int32.toNatClampNeg (i + (1 : Int32)))), .int (xs (Int32.toNatClampNeg (i + (2 : Int32)))), .int (xs (Int32.toNatClampNeg (i + (3 : Int32))))]) (rest := []) (q := (RX8, TX8, 32)) X hK hw rfl (Nat.le_of_ble_eq_true rfl : 0 < cnt (gn Γ) 8) (rfl : vwCl[10]? = _) (kX8_topAt h) mvX8_topAt lk_L_270 ⟨Nat.le_of_ble_eq_true rfl, Nat.le_of_ble_eq_true rfl⟩ rfl hl.1 rfl (Nat.le_of_ble_eq_true rfl) dL_law_2298 ⟨rmC (cc := cc) (a := 3) hC (Nat.le_of_ble_eq_true rfl), rmS (ss := ss) (a := 18) hS (Nat.le_of_ble_eq_true rfl)⟩) (fun v4 σ3 H locs hf hw => ?_)
  refine lv_istore (lv' := [(7, .int v4), (6, .int v2), (0, .ref b), (1, .ref (ga Γ 0 0)), (2, .ref (ga Γ 8 0)), (3, .ref (ga Γ 180 0)), (4, .ref (ga Γ 181 0)), (5, .int i)]) hx hb dL_law_2301 hl (by decide) rfl (fun ls hl => ?_)
  refine lv_aload_n hx hb dL_law_2303 rfl (lv_at hl 4 rfl) ?_
  refine q_pI hf hw (fun v h => q_rV (As := []) (rest := []) (q := (RX8, TX8, 32)) X hK hw rfl (Nat.le_of_ble_eq_true rfl : 0 < cnt (gn Γ) 8) (rfl : vwCl[10]? = _) (kX8_thrown h) mvX8_thrown lk_L_175 ⟨Nat.le_of_ble_eq_true rfl, Nat.le_of_ble_eq_true rfl⟩ rfl hl.1 rfl (Nat.le_of_ble_eq_true rfl) dL_law_2304 ⟨rmC (cc := cc) (a := 3) hC (Nat.le_of_ble_eq_true rfl), rmS (ss := ss) (a := 18) hS (Nat.le_of_ble_eq_true rfl)⟩) (fun v5 H locs hf hw => ?_)
  refine lv_iload hx hb dL_law_2307 (lv_at hl 1 rfl) ?_
  refine q_ic_eq (tgt := 2314) hx hb hf dL_law_2309 (by decide) (fun hf => ?_) (fun hf => ?_)
  · refine lv_iload hx hb dL_law_2314 (lv_at hl 1 rfl) ?_
    refine q_if_ne (tgt := 2331) hx hb hf dL_law_2316 (by decide) (fun hf => ?_) (fun hf => ?_)
    · refine lv_goto (tgt := 3387) hx hb dL_law_2331 (by decide) ?_
      exact W.widen (k := cc + 16) (n := ss + 256) (Nat.add_le_add_left (Nat.le_of_ble_eq_true rfl : 3 ≤ 16) cc) (Nat.add_le_add_left (Nat.le_of_ble_eq_true rfl : 18 ≤ 256) ss) (kk _ _ _ _ hf hw (lv_sub hl [2, 3, 4, 5, 6, 7] rfl))
    refine lv_aload_n hx hb dL_law_2319 rfl (lv_at hl 5 rfl) ?_
    refine lv_iconst (v := 0) hx hb dL_law_2320 (by decide) ?_
    refine q_lalo0 hx hb hK hw dL_law_2321 ?_
    refine lv_iload hx hb dL_law_2322 (lv_at hl 0 rfl) ?_
    refine lv_i2l hx hb dL_law_2324 rfl ?_
    refine W.lcmp hx hb dL_law_2325 ?_
    refine q_if_eq (tgt := 2331) hx hb hf dL_law_2326 (by decide) (fun hf => ?_) (fun hf => ?_)
    · refine lv_goto (tgt := 3387) hx hb dL_law_2331 (by decide) ?_
      exact W.widen (k := cc + 16) (n := ss + 256) (Nat.add_le_add_left (Nat.le_of_ble_eq_true rfl : 3 ≤ 16) cc) (Nat.add_le_add_left (Nat.le_of_ble_eq_true rfl : 18 ≤ 256) ss) (kk _ _ _ _ hf hw (lv_sub hl [2, 3, 4, 5, 6, 7] rfl))
    refine lv_iconst (v := 0) hx hb dL_law_2329 (by decide) ?_
    exact nomatch hf
  refine lv_iconst (v := 0) hx hb dL_law_2312 (by decide) ?_
  exact nomatch hf
set_option maxRecDepth 100000 in
theorem cs_29 {p : Program} {l : Launch} {e : Env} {s : State} {m : MethodId} {args : Array Value} {below : List Frame} {meth : Method} {c : Code} {H : Heap} {locs : List Loc} {Q : State → Prop} {ls : Array Slot} {Γ : Gm} {b L N cc ss : Nat} {xs : Nat → Int32} {σ τ : St} {i : Int32} (hfl : l.stackTraces = false) (X : Fx p c cL_law 9 s m RL) (hK : KK Γ STR s.heap.size s) (hL : LX Γ s b L xs) (hC : cc + 16 ≤ 603072) (hS : ss + 256 ≤ 7223402) (hf : g_29 N xs L σ i = some (true, τ)) (hw : Sit Γ σ s H locs) (hl : lv_has ls 9 [(0, .ref b), (1, .ref (ga Γ 0 0)), (2, .ref (ga Γ 8 0)), (3, .ref (ga Γ 180 0)), (4, .ref (ga Γ 181 0)), (5, .int i)])
    (kk : ∀ (τ2 : St) (H : Heap) (locs : List Loc) (ls : Array Slot), some (true, τ2) = some (true, τ) → Sit Γ τ2 s H locs → lv_has ls 9 [(0, .ref b), (1, .ref (ga Γ 0 0)), (2, .ref (ga Γ 8 0)), (3, .ref (ga Γ 180 0)), (4, .ref (ga Γ 181 0)), (5, .int i)] → W p l e room_1 s m args below meth c H locs (cc + 16) (ss + 256) Q (F0 m 3387 ls [])) : W p l e room_1 s m args below meth c H locs cc ss Q (F0 m 2334 ls []) := by
  unfold g_29 at hf
  have hx := X.1
  have hb := X.2.1
  refine lv_aload_n hx hb dL_law_2334 rfl (lv_at hl 1 rfl) ?_
  refine lv_aload_n hx hb dL_law_2335 rfl (lv_at hl 0 rfl) ?_
  refine lv_iload hx hb dL_law_2336 (lv_at hl 5 rfl) ?_
  refine lv_iconst (v := 1) hx hb dL_law_2338 (by decide) ?_
  refine lv_iadd hx hb dL_law_2339 ?_
  refine q_sld hx hb hL hw hf dL_law_2340 (fun hf => ?_)
  refine lv_aload_n hx hb dL_law_2341 rfl (lv_at hl 0 rfl) ?_
  refine lv_iload hx hb dL_law_2342 (lv_at hl 5 rfl) ?_
  refine lv_iconst (v := 2) hx hb dL_law_2344 (by decide) ?_
  refine lv_iadd hx hb dL_law_2345 ?_
  refine q_sld hx hb hL hw hf dL_law_2346 (fun hf => ?_)
  refine lv_aload_n hx hb dL_law_2347 rfl (lv_at hl 3 rfl) ?_
  refine q_eI hf hw (fun v τ h => q_rW (As := [.ref (ga Γ 0 0), .int (xs (Int32.toNatClampNeg (i + (1 : Int32)))), .int (xs (Int32.toNatClampNeg (i + (2 : Int32)))), .ref (ga Γ 180 0)]) (rest := []) X hK hw (kL_lockedBy hfl h) mwL_lockedBy lk_L_271 ⟨Nat.le_of_ble_eq_true rfl, Nat.le_of_ble_eq_true rfl⟩ rfl hl.1 rfl (Nat.le_of_ble_eq_true rfl) dL_law_2348 ⟨rmC (cc := cc) (a := 2) hC (Nat.le_of_ble_eq_true rfl), rmS (ss := ss) (a := 12) hS (Nat.le_of_ble_eq_true rfl)⟩) (fun v2 σ1 H locs hf hw => ?_)
  refine lv_istore (lv' := [(6, .int v2), (0, .ref b), (1, .ref (ga Γ 0 0)), (2, .ref (ga Γ 8 0)), (3, .ref (ga Γ 180 0)), (4, .ref (ga Γ 181 0)), (5, .int i)]) hx hb dL_law_2351 hl (by decide) rfl (fun ls hl => ?_)
  refine lv_aload_n hx hb dL_law_2353 rfl (lv_at hl 3 rfl) ?_
  refine lv_aload_n hx hb dL_law_2354 rfl (lv_at hl 1 rfl) ?_
  refine lv_iload hx hb dL_law_2355 (lv_at hl 6 rfl) ?_
  refine lv_iconst (v := 1) hx hb dL_law_2357 (by decide) ?_
  refine lv_iadd hx hb dL_law_2358 ?_
  refine q_sld hx hb hL hw hf dL_law_2359 (fun hf => ?_)
  refine lv_aload_n hx hb dL_law_2360 rfl (lv_at hl 1 rfl) ?_
  refine lv_iload hx hb dL_law_2361 (lv_at hl 6 rfl) ?_
  refine lv_iconst (v := 2) hx hb dL_law_2363 (by decide) ?_
  refine lv_iadd hx hb dL_law_2364 ?_
  refine q_sld hx hb hL hw hf dL_law_2365 (fun hf => ?_)
  refine q_eI hf hw (fun v τ h => q_rV (As := [.int (xs (Int32.toNatClampNeg (i + (1 : Int32)))), .int (xs (Int32.toNatClampNeg (i + (2 : Int32))))]) (rest := []) (q := (RX8, TX8, 32)) X hK hw rfl (Nat.le_of_ble_eq_true rfl : 0 < cnt (gn Γ) 8) (rfl : vwCl[10]? = _) (kX8_lockedBy h) mvX8_lockedBy lk_L_273 ⟨Nat.le_of_ble_eq_true rfl, Nat.le_of_ble_eq_true rfl⟩ rfl hl.1 rfl (Nat.le_of_ble_eq_true rfl) dL_law_2366 ⟨rmC (cc := cc) (a := 2) hC (Nat.le_of_ble_eq_true rfl), rmS (ss := ss) (a := 12) hS (Nat.le_of_ble_eq_true rfl)⟩) (fun v4 σ3 H locs hf hw => ?_)
  refine lv_istore (lv' := [(7, .int v4), (6, .int v2), (0, .ref b), (1, .ref (ga Γ 0 0)), (2, .ref (ga Γ 8 0)), (3, .ref (ga Γ 180 0)), (4, .ref (ga Γ 181 0)), (5, .int i)]) hx hb dL_law_2369 hl (by decide) rfl (fun ls hl => ?_)
  refine lv_aload_n hx hb dL_law_2371 rfl (lv_at hl 4 rfl) ?_
  refine q_pI hf hw (fun v h => q_rV (As := []) (rest := []) (q := (RX8, TX8, 32)) X hK hw rfl (Nat.le_of_ble_eq_true rfl : 0 < cnt (gn Γ) 8) (rfl : vwCl[10]? = _) (kX8_thrown h) mvX8_thrown lk_L_175 ⟨Nat.le_of_ble_eq_true rfl, Nat.le_of_ble_eq_true rfl⟩ rfl hl.1 rfl (Nat.le_of_ble_eq_true rfl) dL_law_2372 ⟨rmC (cc := cc) (a := 2) hC (Nat.le_of_ble_eq_true rfl), rmS (ss := ss) (a := 12) hS (Nat.le_of_ble_eq_true rfl)⟩) (fun v5 H locs hf hw => ?_)
  refine lv_iload hx hb dL_law_2375 (lv_at hl 1 rfl) ?_
  refine q_ic_eq (tgt := 2382) hx hb hf dL_law_2377 (by decide) (fun hf => ?_) (fun hf => ?_)
  · refine lv_iload hx hb dL_law_2382 (lv_at hl 1 rfl) ?_
    refine q_if_ne (tgt := 2399) hx hb hf dL_law_2384 (by decide) (fun hf => ?_) (fun hf => ?_)
    · refine lv_goto (tgt := 3387) hx hb dL_law_2399 (by decide) ?_
      exact W.widen (k := cc + 16) (n := ss + 256) (Nat.add_le_add_left (Nat.le_of_ble_eq_true rfl : 2 ≤ 16) cc) (Nat.add_le_add_left (Nat.le_of_ble_eq_true rfl : 12 ≤ 256) ss) (kk _ _ _ _ hf hw (lv_sub hl [2, 3, 4, 5, 6, 7] rfl))
    refine lv_aload_n hx hb dL_law_2387 rfl (lv_at hl 5 rfl) ?_
    refine lv_iconst (v := 0) hx hb dL_law_2388 (by decide) ?_
    refine q_lalo0 hx hb hK hw dL_law_2389 ?_
    refine lv_iload hx hb dL_law_2390 (lv_at hl 0 rfl) ?_
    refine lv_i2l hx hb dL_law_2392 rfl ?_
    refine W.lcmp hx hb dL_law_2393 ?_
    refine q_if_eq (tgt := 2399) hx hb hf dL_law_2394 (by decide) (fun hf => ?_) (fun hf => ?_)
    · refine lv_goto (tgt := 3387) hx hb dL_law_2399 (by decide) ?_
      exact W.widen (k := cc + 16) (n := ss + 256) (Nat.add_le_add_left (Nat.le_of_ble_eq_true rfl : 2 ≤ 16) cc) (Nat.add_le_add_left (Nat.le_of_ble_eq_true rfl : 12 ≤ 256) ss) (kk _ _ _ _ hf hw (lv_sub hl [2, 3, 4, 5, 6, 7] rfl))
    refine lv_iconst (v := 0) hx hb dL_law_2397 (by decide) ?_
    exact nomatch hf
  refine lv_iconst (v := 0) hx hb dL_law_2380 (by decide) ?_
  exact nomatch hf
