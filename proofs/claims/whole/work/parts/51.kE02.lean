/-! The law's cases, by program. -/
set_option maxRecDepth 100000 in
theorem cs_30 {p : Program} {l : Launch} {e : Env} {s : State} {m : MethodId} {args : Array Value} {below : List Frame} {meth : Method} {c : Code} {H : Heap} {locs : List Loc} {Q : State → Prop} {ls : Array Slot} {Γ : Gm} {b L N cc ss : Nat} {xs : Nat → Int32} {σ τ : St} {i : Int32} (hfl : l.stackTraces = false) (X : Fx p c cL_law 9 s m RL) (hK : KK Γ STR s.heap.size s) (hL : LX Γ s b L xs) (hC : cc + 16 ≤ 603072) (hS : ss + 256 ≤ 7223402) (hf : g_30 N xs L σ i = some (true, τ)) (hw : Sit Γ σ s H locs) (hl : lv_has ls 9 [(0, .ref b), (1, .ref (ga Γ 0 0)), (2, .ref (ga Γ 8 0)), (3, .ref (ga Γ 180 0)), (4, .ref (ga Γ 181 0)), (5, .int i)])
    (kk : ∀ (τ2 : St) (H : Heap) (locs : List Loc) (ls : Array Slot), some (true, τ2) = some (true, τ) → Sit Γ τ2 s H locs → lv_has ls 9 [(0, .ref b), (1, .ref (ga Γ 0 0)), (2, .ref (ga Γ 8 0)), (3, .ref (ga Γ 180 0)), (4, .ref (ga Γ 181 0)), (5, .int i)] → W p l e room_1 s m args below meth c H locs (cc + 16) (ss + 256) Q (F0 m 3387 ls [])) : W p l e room_1 s m args below meth c H locs cc ss Q (F0 m 2402 ls []) := by
  unfold g_30 at hf
  have hx := X.1
  have hb := X.2.1
  refine lv_aload_n hx hb dL_law_2402 rfl (lv_at hl 1 rfl) ?_
  refine lv_aload_n hx hb dL_law_2403 rfl (lv_at hl 0 rfl) ?_
  refine lv_iload hx hb dL_law_2404 (lv_at hl 5 rfl) ?_
  refine lv_iconst (v := 1) hx hb dL_law_2406 (by decide) ?_
  refine lv_iadd hx hb dL_law_2407 ?_
  refine q_sld hx hb hL hw hf dL_law_2408 (fun hf => ?_)
  refine lv_aload_n hx hb dL_law_2409 rfl (lv_at hl 0 rfl) ?_
  refine lv_iload hx hb dL_law_2410 (lv_at hl 5 rfl) ?_
  refine lv_iconst (v := 2) hx hb dL_law_2412 (by decide) ?_
  refine lv_iadd hx hb dL_law_2413 ?_
  refine q_sld hx hb hL hw hf dL_law_2414 (fun hf => ?_)
  refine lv_aload_n hx hb dL_law_2415 rfl (lv_at hl 3 rfl) ?_
  refine q_eI hf hw (fun v τ h => q_rW (As := [.ref (ga Γ 0 0), .int (xs (Int32.toNatClampNeg (i + (1 : Int32)))), .int (xs (Int32.toNatClampNeg (i + (2 : Int32)))), .ref (ga Γ 180 0)]) (rest := []) X hK hw (kL_inside hfl h) mwL_inside lk_L_274 ⟨Nat.le_of_ble_eq_true rfl, Nat.le_of_ble_eq_true rfl⟩ rfl hl.1 rfl (Nat.le_of_ble_eq_true rfl) dL_law_2416 ⟨rmC (cc := cc) (a := 2) hC (Nat.le_of_ble_eq_true rfl), rmS (ss := ss) (a := 12) hS (Nat.le_of_ble_eq_true rfl)⟩) (fun v2 σ1 H locs hf hw => ?_)
  refine lv_istore (lv' := [(6, .int v2), (0, .ref b), (1, .ref (ga Γ 0 0)), (2, .ref (ga Γ 8 0)), (3, .ref (ga Γ 180 0)), (4, .ref (ga Γ 181 0)), (5, .int i)]) hx hb dL_law_2419 hl (by decide) rfl (fun ls hl => ?_)
  refine lv_aload_n hx hb dL_law_2421 rfl (lv_at hl 3 rfl) ?_
  refine lv_aload_n hx hb dL_law_2422 rfl (lv_at hl 1 rfl) ?_
  refine lv_iload hx hb dL_law_2423 (lv_at hl 6 rfl) ?_
  refine lv_iconst (v := 1) hx hb dL_law_2425 (by decide) ?_
  refine lv_iadd hx hb dL_law_2426 ?_
  refine q_sld hx hb hL hw hf dL_law_2427 (fun hf => ?_)
  refine lv_aload_n hx hb dL_law_2428 rfl (lv_at hl 1 rfl) ?_
  refine lv_iload hx hb dL_law_2429 (lv_at hl 6 rfl) ?_
  refine lv_iconst (v := 2) hx hb dL_law_2431 (by decide) ?_
  refine lv_iadd hx hb dL_law_2432 ?_
  refine q_sld hx hb hL hw hf dL_law_2433 (fun hf => ?_)
  refine q_eI hf hw (fun v τ h => q_rV (As := [.int (xs (Int32.toNatClampNeg (i + (1 : Int32)))), .int (xs (Int32.toNatClampNeg (i + (2 : Int32))))]) (rest := []) (q := (RX8, TX8, 32)) X hK hw rfl (Nat.le_of_ble_eq_true rfl : 0 < cnt (gn Γ) 8) (rfl : vwCl[10]? = _) (kX8_inside h) mvX8_inside lk_L_276 ⟨Nat.le_of_ble_eq_true rfl, Nat.le_of_ble_eq_true rfl⟩ rfl hl.1 rfl (Nat.le_of_ble_eq_true rfl) dL_law_2434 ⟨rmC (cc := cc) (a := 2) hC (Nat.le_of_ble_eq_true rfl), rmS (ss := ss) (a := 12) hS (Nat.le_of_ble_eq_true rfl)⟩) (fun v4 σ3 H locs hf hw => ?_)
  refine lv_istore (lv' := [(7, .int v4), (6, .int v2), (0, .ref b), (1, .ref (ga Γ 0 0)), (2, .ref (ga Γ 8 0)), (3, .ref (ga Γ 180 0)), (4, .ref (ga Γ 181 0)), (5, .int i)]) hx hb dL_law_2437 hl (by decide) rfl (fun ls hl => ?_)
  refine lv_aload_n hx hb dL_law_2439 rfl (lv_at hl 4 rfl) ?_
  refine q_pI hf hw (fun v h => q_rV (As := []) (rest := []) (q := (RX8, TX8, 32)) X hK hw rfl (Nat.le_of_ble_eq_true rfl : 0 < cnt (gn Γ) 8) (rfl : vwCl[10]? = _) (kX8_thrown h) mvX8_thrown lk_L_175 ⟨Nat.le_of_ble_eq_true rfl, Nat.le_of_ble_eq_true rfl⟩ rfl hl.1 rfl (Nat.le_of_ble_eq_true rfl) dL_law_2440 ⟨rmC (cc := cc) (a := 2) hC (Nat.le_of_ble_eq_true rfl), rmS (ss := ss) (a := 12) hS (Nat.le_of_ble_eq_true rfl)⟩) (fun v5 H locs hf hw => ?_)
  refine lv_iload hx hb dL_law_2443 (lv_at hl 1 rfl) ?_
  refine q_ic_eq (tgt := 2450) hx hb hf dL_law_2445 (by decide) (fun hf => ?_) (fun hf => ?_)
  · refine lv_iload hx hb dL_law_2450 (lv_at hl 1 rfl) ?_
    refine q_if_ne (tgt := 2467) hx hb hf dL_law_2452 (by decide) (fun hf => ?_) (fun hf => ?_)
    · refine lv_goto (tgt := 3387) hx hb dL_law_2467 (by decide) ?_
      exact W.widen (k := cc + 16) (n := ss + 256) (Nat.add_le_add_left (Nat.le_of_ble_eq_true rfl : 2 ≤ 16) cc) (Nat.add_le_add_left (Nat.le_of_ble_eq_true rfl : 12 ≤ 256) ss) (kk _ _ _ _ hf hw (lv_sub hl [2, 3, 4, 5, 6, 7] rfl))
    refine lv_aload_n hx hb dL_law_2455 rfl (lv_at hl 5 rfl) ?_
    refine lv_iconst (v := 0) hx hb dL_law_2456 (by decide) ?_
    refine q_lalo0 hx hb hK hw dL_law_2457 ?_
    refine lv_iload hx hb dL_law_2458 (lv_at hl 0 rfl) ?_
    refine lv_i2l hx hb dL_law_2460 rfl ?_
    refine W.lcmp hx hb dL_law_2461 ?_
    refine q_if_eq (tgt := 2467) hx hb hf dL_law_2462 (by decide) (fun hf => ?_) (fun hf => ?_)
    · refine lv_goto (tgt := 3387) hx hb dL_law_2467 (by decide) ?_
      exact W.widen (k := cc + 16) (n := ss + 256) (Nat.add_le_add_left (Nat.le_of_ble_eq_true rfl : 2 ≤ 16) cc) (Nat.add_le_add_left (Nat.le_of_ble_eq_true rfl : 12 ≤ 256) ss) (kk _ _ _ _ hf hw (lv_sub hl [2, 3, 4, 5, 6, 7] rfl))
    refine lv_iconst (v := 0) hx hb dL_law_2465 (by decide) ?_
    exact nomatch hf
  refine lv_iconst (v := 0) hx hb dL_law_2448 (by decide) ?_
  exact nomatch hf
set_option maxRecDepth 100000 in
theorem cs_31 {p : Program} {l : Launch} {e : Env} {s : State} {m : MethodId} {args : Array Value} {below : List Frame} {meth : Method} {c : Code} {H : Heap} {locs : List Loc} {Q : State → Prop} {ls : Array Slot} {Γ : Gm} {b L N cc ss : Nat} {xs : Nat → Int32} {σ τ : St} {i : Int32} (hfl : l.stackTraces = false) (X : Fx p c cL_law 9 s m RL) (hK : KK Γ STR s.heap.size s) (hL : LX Γ s b L xs) (hC : cc + 16 ≤ 603072) (hS : ss + 256 ≤ 7223402) (hf : g_31 N xs L σ i = some (true, τ)) (hw : Sit Γ σ s H locs) (hl : lv_has ls 9 [(0, .ref b), (1, .ref (ga Γ 0 0)), (2, .ref (ga Γ 8 0)), (3, .ref (ga Γ 180 0)), (4, .ref (ga Γ 181 0)), (5, .int i)])
    (kk : ∀ (τ2 : St) (H : Heap) (locs : List Loc) (ls : Array Slot), some (true, τ2) = some (true, τ) → Sit Γ τ2 s H locs → lv_has ls 9 [(0, .ref b), (1, .ref (ga Γ 0 0)), (2, .ref (ga Γ 8 0)), (3, .ref (ga Γ 180 0)), (4, .ref (ga Γ 181 0)), (5, .int i)] → W p l e room_1 s m args below meth c H locs (cc + 16) (ss + 256) Q (F0 m 3387 ls [])) : W p l e room_1 s m args below meth c H locs cc ss Q (F0 m 2470 ls []) := by
  unfold g_31 at hf
  have hx := X.1
  have hb := X.2.1
  refine lv_aload_n hx hb dL_law_2470 rfl (lv_at hl 1 rfl) ?_
  refine lv_aload_n hx hb dL_law_2471 rfl (lv_at hl 0 rfl) ?_
  refine lv_iload hx hb dL_law_2472 (lv_at hl 5 rfl) ?_
  refine lv_iconst (v := 1) hx hb dL_law_2474 (by decide) ?_
  refine lv_iadd hx hb dL_law_2475 ?_
  refine q_sld hx hb hL hw hf dL_law_2476 (fun hf => ?_)
  refine lv_aload_n hx hb dL_law_2477 rfl (lv_at hl 3 rfl) ?_
  refine q_eI hf hw (fun v τ h => q_rW (As := [.ref (ga Γ 0 0), .int (xs (Int32.toNatClampNeg (i + (1 : Int32)))), .ref (ga Γ 180 0)]) (rest := []) X hK hw (kL_connectors hfl h) mwL_connectors lk_L_277 ⟨Nat.le_of_ble_eq_true rfl, Nat.le_of_ble_eq_true rfl⟩ rfl hl.1 rfl (Nat.le_of_ble_eq_true rfl) dL_law_2478 ⟨rmC (cc := cc) (a := 1) hC (Nat.le_of_ble_eq_true rfl), rmS (ss := ss) (a := 6) hS (Nat.le_of_ble_eq_true rfl)⟩) (fun v2 σ1 H locs hf hw => ?_)
  refine lv_istore (lv' := [(6, .int v2), (0, .ref b), (1, .ref (ga Γ 0 0)), (2, .ref (ga Γ 8 0)), (3, .ref (ga Γ 180 0)), (4, .ref (ga Γ 181 0)), (5, .int i)]) hx hb dL_law_2481 hl (by decide) rfl (fun ls hl => ?_)
  refine lv_aload_n hx hb dL_law_2483 rfl (lv_at hl 3 rfl) ?_
  refine lv_aload_n hx hb dL_law_2484 rfl (lv_at hl 1 rfl) ?_
  refine lv_iload hx hb dL_law_2485 (lv_at hl 6 rfl) ?_
  refine lv_iconst (v := 1) hx hb dL_law_2487 (by decide) ?_
  refine lv_iadd hx hb dL_law_2488 ?_
  refine q_sld hx hb hL hw hf dL_law_2489 (fun hf => ?_)
  refine q_eI hf hw (fun v τ h => q_rV (As := [.int (xs (Int32.toNatClampNeg (i + (1 : Int32))))]) (rest := []) (q := (RX8, TX8, 32)) X hK hw rfl (Nat.le_of_ble_eq_true rfl : 0 < cnt (gn Γ) 8) (rfl : vwCl[10]? = _) (kX8_connectors h) mvX8_connectors lk_L_279 ⟨Nat.le_of_ble_eq_true rfl, Nat.le_of_ble_eq_true rfl⟩ rfl hl.1 rfl (Nat.le_of_ble_eq_true rfl) dL_law_2490 ⟨rmC (cc := cc) (a := 1) hC (Nat.le_of_ble_eq_true rfl), rmS (ss := ss) (a := 6) hS (Nat.le_of_ble_eq_true rfl)⟩) (fun v4 σ3 H locs hf hw => ?_)
  refine lv_istore (lv' := [(7, .int v4), (6, .int v2), (0, .ref b), (1, .ref (ga Γ 0 0)), (2, .ref (ga Γ 8 0)), (3, .ref (ga Γ 180 0)), (4, .ref (ga Γ 181 0)), (5, .int i)]) hx hb dL_law_2493 hl (by decide) rfl (fun ls hl => ?_)
  refine lv_aload_n hx hb dL_law_2495 rfl (lv_at hl 4 rfl) ?_
  refine q_pI hf hw (fun v h => q_rV (As := []) (rest := []) (q := (RX8, TX8, 32)) X hK hw rfl (Nat.le_of_ble_eq_true rfl : 0 < cnt (gn Γ) 8) (rfl : vwCl[10]? = _) (kX8_thrown h) mvX8_thrown lk_L_175 ⟨Nat.le_of_ble_eq_true rfl, Nat.le_of_ble_eq_true rfl⟩ rfl hl.1 rfl (Nat.le_of_ble_eq_true rfl) dL_law_2496 ⟨rmC (cc := cc) (a := 1) hC (Nat.le_of_ble_eq_true rfl), rmS (ss := ss) (a := 6) hS (Nat.le_of_ble_eq_true rfl)⟩) (fun v5 H locs hf hw => ?_)
  refine lv_iload hx hb dL_law_2499 (lv_at hl 1 rfl) ?_
  refine q_ic_eq (tgt := 2506) hx hb hf dL_law_2501 (by decide) (fun hf => ?_) (fun hf => ?_)
  · refine lv_iload hx hb dL_law_2506 (lv_at hl 1 rfl) ?_
    refine q_if_ne (tgt := 2523) hx hb hf dL_law_2508 (by decide) (fun hf => ?_) (fun hf => ?_)
    · refine lv_goto (tgt := 3387) hx hb dL_law_2523 (by decide) ?_
      exact W.widen (k := cc + 16) (n := ss + 256) (Nat.add_le_add_left (Nat.le_of_ble_eq_true rfl : 1 ≤ 16) cc) (Nat.add_le_add_left (Nat.le_of_ble_eq_true rfl : 6 ≤ 256) ss) (kk _ _ _ _ hf hw (lv_sub hl [2, 3, 4, 5, 6, 7] rfl))
    refine lv_aload_n hx hb dL_law_2511 rfl (lv_at hl 5 rfl) ?_
    refine lv_iconst (v := 0) hx hb dL_law_2512 (by decide) ?_
    refine q_lalo0 hx hb hK hw dL_law_2513 ?_
    refine lv_iload hx hb dL_law_2514 (lv_at hl 0 rfl) ?_
    refine lv_i2l hx hb dL_law_2516 rfl ?_
    refine W.lcmp hx hb dL_law_2517 ?_
    refine q_if_eq (tgt := 2523) hx hb hf dL_law_2518 (by decide) (fun hf => ?_) (fun hf => ?_)
    · refine lv_goto (tgt := 3387) hx hb dL_law_2523 (by decide) ?_
      exact W.widen (k := cc + 16) (n := ss + 256) (Nat.add_le_add_left (Nat.le_of_ble_eq_true rfl : 1 ≤ 16) cc) (Nat.add_le_add_left (Nat.le_of_ble_eq_true rfl : 6 ≤ 256) ss) (kk _ _ _ _ hf hw (lv_sub hl [2, 3, 4, 5, 6, 7] rfl))
    refine lv_iconst (v := 0) hx hb dL_law_2521 (by decide) ?_
    exact nomatch hf
  refine lv_iconst (v := 0) hx hb dL_law_2504 (by decide) ?_
  exact nomatch hf
set_option maxRecDepth 100000 in
theorem cs_32 {p : Program} {l : Launch} {e : Env} {s : State} {m : MethodId} {args : Array Value} {below : List Frame} {meth : Method} {c : Code} {H : Heap} {locs : List Loc} {Q : State → Prop} {ls : Array Slot} {Γ : Gm} {b L N cc ss : Nat} {xs : Nat → Int32} {σ τ : St} {i : Int32} (hfl : l.stackTraces = false) (X : Fx p c cL_law 9 s m RL) (hK : KK Γ STR s.heap.size s) (hL : LX Γ s b L xs) (hC : cc + 16 ≤ 603072) (hS : ss + 256 ≤ 7223402) (hf : g_32 N xs L σ i = some (true, τ)) (hw : Sit Γ σ s H locs) (hl : lv_has ls 9 [(0, .ref b), (1, .ref (ga Γ 0 0)), (2, .ref (ga Γ 8 0)), (3, .ref (ga Γ 180 0)), (4, .ref (ga Γ 181 0)), (5, .int i)])
    (kk : ∀ (τ2 : St) (H : Heap) (locs : List Loc) (ls : Array Slot), some (true, τ2) = some (true, τ) → Sit Γ τ2 s H locs → lv_has ls 9 [(0, .ref b), (1, .ref (ga Γ 0 0)), (2, .ref (ga Γ 8 0)), (3, .ref (ga Γ 180 0)), (4, .ref (ga Γ 181 0)), (5, .int i)] → W p l e room_1 s m args below meth c H locs (cc + 16) (ss + 256) Q (F0 m 3387 ls [])) : W p l e room_1 s m args below meth c H locs cc ss Q (F0 m 2526 ls []) := by
  unfold g_32 at hf
  have hx := X.1
  have hb := X.2.1
  refine lv_aload_n hx hb dL_law_2526 rfl (lv_at hl 1 rfl) ?_
  refine lv_aload_n hx hb dL_law_2527 rfl (lv_at hl 0 rfl) ?_
  refine lv_iload hx hb dL_law_2528 (lv_at hl 5 rfl) ?_
  refine lv_iconst (v := 1) hx hb dL_law_2530 (by decide) ?_
  refine lv_iadd hx hb dL_law_2531 ?_
  refine q_sld hx hb hL hw hf dL_law_2532 (fun hf => ?_)
  refine lv_aload_n hx hb dL_law_2533 rfl (lv_at hl 0 rfl) ?_
  refine lv_iload hx hb dL_law_2534 (lv_at hl 5 rfl) ?_
  refine lv_iconst (v := 2) hx hb dL_law_2536 (by decide) ?_
  refine lv_iadd hx hb dL_law_2537 ?_
  refine q_sld hx hb hL hw hf dL_law_2538 (fun hf => ?_)
  refine lv_aload_n hx hb dL_law_2539 rfl (lv_at hl 3 rfl) ?_
  refine q_eI hf hw (fun v τ h => q_rW (As := [.ref (ga Γ 0 0), .int (xs (Int32.toNatClampNeg (i + (1 : Int32)))), .int (xs (Int32.toNatClampNeg (i + (2 : Int32)))), .ref (ga Γ 180 0)]) (rest := []) X hK hw (kL_bends hfl h) mwL_bends lk_L_280 ⟨Nat.le_of_ble_eq_true rfl, Nat.le_of_ble_eq_true rfl⟩ rfl hl.1 rfl (Nat.le_of_ble_eq_true rfl) dL_law_2540 ⟨rmC (cc := cc) (a := 3) hC (Nat.le_of_ble_eq_true rfl), rmS (ss := ss) (a := 18) hS (Nat.le_of_ble_eq_true rfl)⟩) (fun v2 σ1 H locs hf hw => ?_)
  refine lv_istore (lv' := [(6, .int v2), (0, .ref b), (1, .ref (ga Γ 0 0)), (2, .ref (ga Γ 8 0)), (3, .ref (ga Γ 180 0)), (4, .ref (ga Γ 181 0)), (5, .int i)]) hx hb dL_law_2543 hl (by decide) rfl (fun ls hl => ?_)
  refine lv_aload_n hx hb dL_law_2545 rfl (lv_at hl 3 rfl) ?_
  refine lv_aload_n hx hb dL_law_2546 rfl (lv_at hl 1 rfl) ?_
  refine lv_iload hx hb dL_law_2547 (lv_at hl 6 rfl) ?_
  refine lv_iconst (v := 1) hx hb dL_law_2549 (by decide) ?_
  refine lv_iadd hx hb dL_law_2550 ?_
  refine q_sld hx hb hL hw hf dL_law_2551 (fun hf => ?_)
  refine lv_aload_n hx hb dL_law_2552 rfl (lv_at hl 1 rfl) ?_
  refine lv_iload hx hb dL_law_2553 (lv_at hl 6 rfl) ?_
  refine lv_iconst (v := 2) hx hb dL_law_2555 (by decide) ?_
  refine lv_iadd hx hb dL_law_2556 ?_
  refine q_sld hx hb hL hw hf dL_law_2557 (fun hf => ?_)
  refine q_eI hf hw (fun v τ h => q_rV (As := [.int (xs (Int32.toNatClampNeg (i + (1 : Int32)))), .int (xs (Int32.toNatClampNeg (i + (2 : Int32))))]) (rest := []) (q := (RX8, TX8, 32)) X hK hw rfl (Nat.le_of_ble_eq_true rfl : 0 < cnt (gn Γ) 8) (rfl : vwCl[10]? = _) (kX8_bends h) mvX8_bends lk_L_282 ⟨Nat.le_of_ble_eq_true rfl, Nat.le_of_ble_eq_true rfl⟩ rfl hl.1 rfl (Nat.le_of_ble_eq_true rfl) dL_law_2558 ⟨rmC (cc := cc) (a := 3) hC (Nat.le_of_ble_eq_true rfl), rmS (ss := ss) (a := 18) hS (Nat.le_of_ble_eq_true rfl)⟩) (fun v4 σ3 H locs hf hw => ?_)
  refine lv_istore (lv' := [(7, .int v4), (6, .int v2), (0, .ref b), (1, .ref (ga Γ 0 0)), (2, .ref (ga Γ 8 0)), (3, .ref (ga Γ 180 0)), (4, .ref (ga Γ 181 0)), (5, .int i)]) hx hb dL_law_2561 hl (by decide) rfl (fun ls hl => ?_)
  refine lv_aload_n hx hb dL_law_2563 rfl (lv_at hl 4 rfl) ?_
  refine q_pI hf hw (fun v h => q_rV (As := []) (rest := []) (q := (RX8, TX8, 32)) X hK hw rfl (Nat.le_of_ble_eq_true rfl : 0 < cnt (gn Γ) 8) (rfl : vwCl[10]? = _) (kX8_thrown h) mvX8_thrown lk_L_175 ⟨Nat.le_of_ble_eq_true rfl, Nat.le_of_ble_eq_true rfl⟩ rfl hl.1 rfl (Nat.le_of_ble_eq_true rfl) dL_law_2564 ⟨rmC (cc := cc) (a := 3) hC (Nat.le_of_ble_eq_true rfl), rmS (ss := ss) (a := 18) hS (Nat.le_of_ble_eq_true rfl)⟩) (fun v5 H locs hf hw => ?_)
  refine lv_iload hx hb dL_law_2567 (lv_at hl 1 rfl) ?_
  refine q_ic_eq (tgt := 2574) hx hb hf dL_law_2569 (by decide) (fun hf => ?_) (fun hf => ?_)
  · refine lv_iload hx hb dL_law_2574 (lv_at hl 1 rfl) ?_
    refine q_if_ne (tgt := 2591) hx hb hf dL_law_2576 (by decide) (fun hf => ?_) (fun hf => ?_)
    · refine lv_goto (tgt := 3387) hx hb dL_law_2591 (by decide) ?_
      exact W.widen (k := cc + 16) (n := ss + 256) (Nat.add_le_add_left (Nat.le_of_ble_eq_true rfl : 3 ≤ 16) cc) (Nat.add_le_add_left (Nat.le_of_ble_eq_true rfl : 18 ≤ 256) ss) (kk _ _ _ _ hf hw (lv_sub hl [2, 3, 4, 5, 6, 7] rfl))
    refine lv_aload_n hx hb dL_law_2579 rfl (lv_at hl 5 rfl) ?_
    refine lv_iconst (v := 0) hx hb dL_law_2580 (by decide) ?_
    refine q_lalo0 hx hb hK hw dL_law_2581 ?_
    refine lv_iload hx hb dL_law_2582 (lv_at hl 0 rfl) ?_
    refine lv_i2l hx hb dL_law_2584 rfl ?_
    refine W.lcmp hx hb dL_law_2585 ?_
    refine q_if_eq (tgt := 2591) hx hb hf dL_law_2586 (by decide) (fun hf => ?_) (fun hf => ?_)
    · refine lv_goto (tgt := 3387) hx hb dL_law_2591 (by decide) ?_
      exact W.widen (k := cc + 16) (n := ss + 256) (Nat.add_le_add_left (Nat.le_of_ble_eq_true rfl : 3 ≤ 16) cc) (Nat.add_le_add_left (Nat.le_of_ble_eq_true rfl : 18 ≤ 256) ss) (kk _ _ _ _ hf hw (lv_sub hl [2, 3, 4, 5, 6, 7] rfl))
    refine lv_iconst (v := 0) hx hb dL_law_2589 (by decide) ?_
    exact nomatch hf
  refine lv_iconst (v := 0) hx hb dL_law_2572 (by decide) ?_
  exact nomatch hf
set_option maxRecDepth 100000 in
theorem cs_33 {p : Program} {l : Launch} {e : Env} {s : State} {m : MethodId} {args : Array Value} {below : List Frame} {meth : Method} {c : Code} {H : Heap} {locs : List Loc} {Q : State → Prop} {ls : Array Slot} {Γ : Gm} {b L N cc ss : Nat} {xs : Nat → Int32} {σ τ : St} {i : Int32} (hfl : l.stackTraces = false) (X : Fx p c cL_law 9 s m RL) (hK : KK Γ STR s.heap.size s) (hL : LX Γ s b L xs) (hC : cc + 16 ≤ 603072) (hS : ss + 256 ≤ 7223402) (hf : g_33 N xs L σ i = some (true, τ)) (hw : Sit Γ σ s H locs) (hl : lv_has ls 9 [(0, .ref b), (1, .ref (ga Γ 0 0)), (2, .ref (ga Γ 8 0)), (3, .ref (ga Γ 180 0)), (4, .ref (ga Γ 181 0)), (5, .int i)])
    (kk : ∀ (τ2 : St) (H : Heap) (locs : List Loc) (ls : Array Slot), some (true, τ2) = some (true, τ) → Sit Γ τ2 s H locs → lv_has ls 9 [(0, .ref b), (1, .ref (ga Γ 0 0)), (2, .ref (ga Γ 8 0)), (3, .ref (ga Γ 180 0)), (4, .ref (ga Γ 181 0)), (5, .int i)] → W p l e room_1 s m args below meth c H locs (cc + 16) (ss + 256) Q (F0 m 3387 ls [])) : W p l e room_1 s m args below meth c H locs cc ss Q (F0 m 2594 ls []) := by
  unfold g_33 at hf
  have hx := X.1
  have hb := X.2.1
  refine lv_aload_n hx hb dL_law_2594 rfl (lv_at hl 1 rfl) ?_
  refine lv_aload_n hx hb dL_law_2595 rfl (lv_at hl 0 rfl) ?_
  refine lv_iload hx hb dL_law_2596 (lv_at hl 5 rfl) ?_
  refine lv_iconst (v := 1) hx hb dL_law_2598 (by decide) ?_
  refine lv_iadd hx hb dL_law_2599 ?_
  refine q_sld hx hb hL hw hf dL_law_2600 (fun hf => ?_)
  refine lv_aload_n hx hb dL_law_2601 rfl (lv_at hl 0 rfl) ?_
  refine lv_iload hx hb dL_law_2602 (lv_at hl 5 rfl) ?_
  refine lv_iconst (v := 2) hx hb dL_law_2604 (by decide) ?_
  refine lv_iadd hx hb dL_law_2605 ?_
  refine q_sld hx hb hL hw hf dL_law_2606 (fun hf => ?_)
  refine lv_aload_n hx hb dL_law_2607 rfl (lv_at hl 3 rfl) ?_
  refine q_eI hf hw (fun v τ h => q_rW (As := [.ref (ga Γ 0 0), .int (xs (Int32.toNatClampNeg (i + (1 : Int32)))), .int (xs (Int32.toNatClampNeg (i + (2 : Int32)))), .ref (ga Γ 180 0)]) (rest := []) X hK hw (kL_bendsByRounds hfl h) mwL_bendsByRounds lk_L_283 ⟨Nat.le_of_ble_eq_true rfl, Nat.le_of_ble_eq_true rfl⟩ rfl hl.1 rfl (Nat.le_of_ble_eq_true rfl) dL_law_2608 ⟨rmC (cc := cc) (a := 3) hC (Nat.le_of_ble_eq_true rfl), rmS (ss := ss) (a := 18) hS (Nat.le_of_ble_eq_true rfl)⟩) (fun v2 σ1 H locs hf hw => ?_)
  refine lv_istore (lv' := [(6, .int v2), (0, .ref b), (1, .ref (ga Γ 0 0)), (2, .ref (ga Γ 8 0)), (3, .ref (ga Γ 180 0)), (4, .ref (ga Γ 181 0)), (5, .int i)]) hx hb dL_law_2611 hl (by decide) rfl (fun ls hl => ?_)
  refine lv_aload_n hx hb dL_law_2613 rfl (lv_at hl 3 rfl) ?_
  refine lv_aload_n hx hb dL_law_2614 rfl (lv_at hl 1 rfl) ?_
  refine lv_iload hx hb dL_law_2615 (lv_at hl 6 rfl) ?_
  refine lv_iconst (v := 1) hx hb dL_law_2617 (by decide) ?_
  refine lv_iadd hx hb dL_law_2618 ?_
  refine q_sld hx hb hL hw hf dL_law_2619 (fun hf => ?_)
  refine lv_aload_n hx hb dL_law_2620 rfl (lv_at hl 1 rfl) ?_
  refine lv_iload hx hb dL_law_2621 (lv_at hl 6 rfl) ?_
  refine lv_iconst (v := 2) hx hb dL_law_2623 (by decide) ?_
  refine lv_iadd hx hb dL_law_2624 ?_
  refine q_sld hx hb hL hw hf dL_law_2625 (fun hf => ?_)
  refine q_eI hf hw (fun v τ h => q_rV (As := [.int (xs (Int32.toNatClampNeg (i + (1 : Int32)))), .int (xs (Int32.toNatClampNeg (i + (2 : Int32))))]) (rest := []) (q := (RX8, TX8, 32)) X hK hw rfl (Nat.le_of_ble_eq_true rfl : 0 < cnt (gn Γ) 8) (rfl : vwCl[10]? = _) (kX8_bendsByRounds h) mvX8_bendsByRounds lk_L_285 ⟨Nat.le_of_ble_eq_true rfl, Nat.le_of_ble_eq_true rfl⟩ rfl hl.1 rfl (Nat.le_of_ble_eq_true rfl) dL_law_2626 ⟨rmC (cc := cc) (a := 3) hC (Nat.le_of_ble_eq_true rfl), rmS (ss := ss) (a := 18) hS (Nat.le_of_ble_eq_true rfl)⟩) (fun v4 σ3 H locs hf hw => ?_)
  refine lv_istore (lv' := [(7, .int v4), (6, .int v2), (0, .ref b), (1, .ref (ga Γ 0 0)), (2, .ref (ga Γ 8 0)), (3, .ref (ga Γ 180 0)), (4, .ref (ga Γ 181 0)), (5, .int i)]) hx hb dL_law_2629 hl (by decide) rfl (fun ls hl => ?_)
  refine lv_aload_n hx hb dL_law_2631 rfl (lv_at hl 4 rfl) ?_
  refine q_pI hf hw (fun v h => q_rV (As := []) (rest := []) (q := (RX8, TX8, 32)) X hK hw rfl (Nat.le_of_ble_eq_true rfl : 0 < cnt (gn Γ) 8) (rfl : vwCl[10]? = _) (kX8_thrown h) mvX8_thrown lk_L_175 ⟨Nat.le_of_ble_eq_true rfl, Nat.le_of_ble_eq_true rfl⟩ rfl hl.1 rfl (Nat.le_of_ble_eq_true rfl) dL_law_2632 ⟨rmC (cc := cc) (a := 3) hC (Nat.le_of_ble_eq_true rfl), rmS (ss := ss) (a := 18) hS (Nat.le_of_ble_eq_true rfl)⟩) (fun v5 H locs hf hw => ?_)
  refine lv_iload hx hb dL_law_2635 (lv_at hl 1 rfl) ?_
  refine q_ic_eq (tgt := 2642) hx hb hf dL_law_2637 (by decide) (fun hf => ?_) (fun hf => ?_)
  · refine lv_iload hx hb dL_law_2642 (lv_at hl 1 rfl) ?_
    refine q_if_ne (tgt := 2659) hx hb hf dL_law_2644 (by decide) (fun hf => ?_) (fun hf => ?_)
    · refine lv_goto (tgt := 3387) hx hb dL_law_2659 (by decide) ?_
      exact W.widen (k := cc + 16) (n := ss + 256) (Nat.add_le_add_left (Nat.le_of_ble_eq_true rfl : 3 ≤ 16) cc) (Nat.add_le_add_left (Nat.le_of_ble_eq_true rfl : 18 ≤ 256) ss) (kk _ _ _ _ hf hw (lv_sub hl [2, 3, 4, 5, 6, 7] rfl))
    refine lv_aload_n hx hb dL_law_2647 rfl (lv_at hl 5 rfl) ?_
    refine lv_iconst (v := 0) hx hb dL_law_2648 (by decide) ?_
    refine q_lalo0 hx hb hK hw dL_law_2649 ?_
    refine lv_iload hx hb dL_law_2650 (lv_at hl 0 rfl) ?_
    refine lv_i2l hx hb dL_law_2652 rfl ?_
    refine W.lcmp hx hb dL_law_2653 ?_
    refine q_if_eq (tgt := 2659) hx hb hf dL_law_2654 (by decide) (fun hf => ?_) (fun hf => ?_)
    · refine lv_goto (tgt := 3387) hx hb dL_law_2659 (by decide) ?_
      exact W.widen (k := cc + 16) (n := ss + 256) (Nat.add_le_add_left (Nat.le_of_ble_eq_true rfl : 3 ≤ 16) cc) (Nat.add_le_add_left (Nat.le_of_ble_eq_true rfl : 18 ≤ 256) ss) (kk _ _ _ _ hf hw (lv_sub hl [2, 3, 4, 5, 6, 7] rfl))
    refine lv_iconst (v := 0) hx hb dL_law_2657 (by decide) ?_
    exact nomatch hf
  refine lv_iconst (v := 0) hx hb dL_law_2640 (by decide) ?_
  exact nomatch hf
set_option maxRecDepth 100000 in
theorem cs_34 {p : Program} {l : Launch} {e : Env} {s : State} {m : MethodId} {args : Array Value} {below : List Frame} {meth : Method} {c : Code} {H : Heap} {locs : List Loc} {Q : State → Prop} {ls : Array Slot} {Γ : Gm} {b L N cc ss : Nat} {xs : Nat → Int32} {σ τ : St} {i : Int32} (hfl : l.stackTraces = false) (X : Fx p c cL_law 9 s m RL) (hK : KK Γ STR s.heap.size s) (hL : LX Γ s b L xs) (hC : cc + 16 ≤ 603072) (hS : ss + 256 ≤ 7223402) (hf : g_34 N xs L σ i = some (true, τ)) (hw : Sit Γ σ s H locs) (hl : lv_has ls 9 [(0, .ref b), (1, .ref (ga Γ 0 0)), (2, .ref (ga Γ 8 0)), (3, .ref (ga Γ 180 0)), (4, .ref (ga Γ 181 0)), (5, .int i)])
    (kk : ∀ (τ2 : St) (H : Heap) (locs : List Loc) (ls : Array Slot), some (true, τ2) = some (true, τ) → Sit Γ τ2 s H locs → lv_has ls 9 [(0, .ref b), (1, .ref (ga Γ 0 0)), (2, .ref (ga Γ 8 0)), (3, .ref (ga Γ 180 0)), (4, .ref (ga Γ 181 0)), (5, .int i)] → W p l e room_1 s m args below meth c H locs (cc + 16) (ss + 256) Q (F0 m 3387 ls [])) : W p l e room_1 s m args below meth c H locs cc ss Q (F0 m 2662 ls []) := by
  unfold g_34 at hf
  have hx := X.1
  have hb := X.2.1
  refine lv_aload_n hx hb dL_law_2662 rfl (lv_at hl 1 rfl) ?_
  refine lv_aload_n hx hb dL_law_2663 rfl (lv_at hl 0 rfl) ?_
  refine lv_iload hx hb dL_law_2664 (lv_at hl 5 rfl) ?_
  refine lv_iconst (v := 1) hx hb dL_law_2666 (by decide) ?_
  refine lv_iadd hx hb dL_law_2667 ?_
  refine q_sld hx hb hL hw hf dL_law_2668 (fun hf => ?_)
  refine lv_aload_n hx hb dL_law_2669 rfl (lv_at hl 0 rfl) ?_
  refine lv_iload hx hb dL_law_2670 (lv_at hl 5 rfl) ?_
  refine lv_iconst (v := 2) hx hb dL_law_2672 (by decide) ?_
  refine lv_iadd hx hb dL_law_2673 ?_
  refine q_sld hx hb hL hw hf dL_law_2674 (fun hf => ?_)
  refine lv_aload_n hx hb dL_law_2675 rfl (lv_at hl 3 rfl) ?_
  refine q_eI hf hw (fun v τ h => q_rW (As := [.ref (ga Γ 0 0), .int (xs (Int32.toNatClampNeg (i + (1 : Int32)))), .int (xs (Int32.toNatClampNeg (i + (2 : Int32)))), .ref (ga Γ 180 0)]) (rest := []) X hK hw (kL_routeLength hfl h) mwL_routeLength lk_L_286 ⟨Nat.le_of_ble_eq_true rfl, Nat.le_of_ble_eq_true rfl⟩ rfl hl.1 rfl (Nat.le_of_ble_eq_true rfl) dL_law_2676 ⟨rmC (cc := cc) (a := 3) hC (Nat.le_of_ble_eq_true rfl), rmS (ss := ss) (a := 18) hS (Nat.le_of_ble_eq_true rfl)⟩) (fun v2 σ1 H locs hf hw => ?_)
  refine lv_istore (lv' := [(6, .int v2), (0, .ref b), (1, .ref (ga Γ 0 0)), (2, .ref (ga Γ 8 0)), (3, .ref (ga Γ 180 0)), (4, .ref (ga Γ 181 0)), (5, .int i)]) hx hb dL_law_2679 hl (by decide) rfl (fun ls hl => ?_)
  refine lv_aload_n hx hb dL_law_2681 rfl (lv_at hl 3 rfl) ?_
  refine lv_aload_n hx hb dL_law_2682 rfl (lv_at hl 1 rfl) ?_
  refine lv_iload hx hb dL_law_2683 (lv_at hl 6 rfl) ?_
  refine lv_iconst (v := 1) hx hb dL_law_2685 (by decide) ?_
  refine lv_iadd hx hb dL_law_2686 ?_
  refine q_sld hx hb hL hw hf dL_law_2687 (fun hf => ?_)
  refine lv_aload_n hx hb dL_law_2688 rfl (lv_at hl 1 rfl) ?_
  refine lv_iload hx hb dL_law_2689 (lv_at hl 6 rfl) ?_
  refine lv_iconst (v := 2) hx hb dL_law_2691 (by decide) ?_
  refine lv_iadd hx hb dL_law_2692 ?_
  refine q_sld hx hb hL hw hf dL_law_2693 (fun hf => ?_)
  refine q_eI hf hw (fun v τ h => q_rV (As := [.int (xs (Int32.toNatClampNeg (i + (1 : Int32)))), .int (xs (Int32.toNatClampNeg (i + (2 : Int32))))]) (rest := []) (q := (RX8, TX8, 32)) X hK hw rfl (Nat.le_of_ble_eq_true rfl : 0 < cnt (gn Γ) 8) (rfl : vwCl[10]? = _) (kX8_routeLength h) mvX8_routeLength lk_L_288 ⟨Nat.le_of_ble_eq_true rfl, Nat.le_of_ble_eq_true rfl⟩ rfl hl.1 rfl (Nat.le_of_ble_eq_true rfl) dL_law_2694 ⟨rmC (cc := cc) (a := 3) hC (Nat.le_of_ble_eq_true rfl), rmS (ss := ss) (a := 18) hS (Nat.le_of_ble_eq_true rfl)⟩) (fun v4 σ3 H locs hf hw => ?_)
  refine lv_istore (lv' := [(7, .int v4), (6, .int v2), (0, .ref b), (1, .ref (ga Γ 0 0)), (2, .ref (ga Γ 8 0)), (3, .ref (ga Γ 180 0)), (4, .ref (ga Γ 181 0)), (5, .int i)]) hx hb dL_law_2697 hl (by decide) rfl (fun ls hl => ?_)
  refine lv_aload_n hx hb dL_law_2699 rfl (lv_at hl 4 rfl) ?_
  refine q_pI hf hw (fun v h => q_rV (As := []) (rest := []) (q := (RX8, TX8, 32)) X hK hw rfl (Nat.le_of_ble_eq_true rfl : 0 < cnt (gn Γ) 8) (rfl : vwCl[10]? = _) (kX8_thrown h) mvX8_thrown lk_L_175 ⟨Nat.le_of_ble_eq_true rfl, Nat.le_of_ble_eq_true rfl⟩ rfl hl.1 rfl (Nat.le_of_ble_eq_true rfl) dL_law_2700 ⟨rmC (cc := cc) (a := 3) hC (Nat.le_of_ble_eq_true rfl), rmS (ss := ss) (a := 18) hS (Nat.le_of_ble_eq_true rfl)⟩) (fun v5 H locs hf hw => ?_)
  refine lv_iload hx hb dL_law_2703 (lv_at hl 1 rfl) ?_
  refine q_ic_eq (tgt := 2710) hx hb hf dL_law_2705 (by decide) (fun hf => ?_) (fun hf => ?_)
  · refine lv_iload hx hb dL_law_2710 (lv_at hl 1 rfl) ?_
    refine q_if_ne (tgt := 2727) hx hb hf dL_law_2712 (by decide) (fun hf => ?_) (fun hf => ?_)
    · refine lv_goto (tgt := 3387) hx hb dL_law_2727 (by decide) ?_
      exact W.widen (k := cc + 16) (n := ss + 256) (Nat.add_le_add_left (Nat.le_of_ble_eq_true rfl : 3 ≤ 16) cc) (Nat.add_le_add_left (Nat.le_of_ble_eq_true rfl : 18 ≤ 256) ss) (kk _ _ _ _ hf hw (lv_sub hl [2, 3, 4, 5, 6, 7] rfl))
    refine lv_aload_n hx hb dL_law_2715 rfl (lv_at hl 5 rfl) ?_
    refine lv_iconst (v := 0) hx hb dL_law_2716 (by decide) ?_
    refine q_lalo0 hx hb hK hw dL_law_2717 ?_
    refine lv_iload hx hb dL_law_2718 (lv_at hl 0 rfl) ?_
    refine lv_i2l hx hb dL_law_2720 rfl ?_
    refine W.lcmp hx hb dL_law_2721 ?_
    refine q_if_eq (tgt := 2727) hx hb hf dL_law_2722 (by decide) (fun hf => ?_) (fun hf => ?_)
    · refine lv_goto (tgt := 3387) hx hb dL_law_2727 (by decide) ?_
      exact W.widen (k := cc + 16) (n := ss + 256) (Nat.add_le_add_left (Nat.le_of_ble_eq_true rfl : 3 ≤ 16) cc) (Nat.add_le_add_left (Nat.le_of_ble_eq_true rfl : 18 ≤ 256) ss) (kk _ _ _ _ hf hw (lv_sub hl [2, 3, 4, 5, 6, 7] rfl))
    refine lv_iconst (v := 0) hx hb dL_law_2725 (by decide) ?_
    exact nomatch hf
  refine lv_iconst (v := 0) hx hb dL_law_2708 (by decide) ?_
  exact nomatch hf
set_option maxRecDepth 100000 in
theorem cs_35 {p : Program} {l : Launch} {e : Env} {s : State} {m : MethodId} {args : Array Value} {below : List Frame} {meth : Method} {c : Code} {H : Heap} {locs : List Loc} {Q : State → Prop} {ls : Array Slot} {Γ : Gm} {b L N cc ss : Nat} {xs : Nat → Int32} {σ τ : St} {i : Int32} (hfl : l.stackTraces = false) (X : Fx p c cL_law 9 s m RL) (hK : KK Γ STR s.heap.size s) (hL : LX Γ s b L xs) (hC : cc + 16 ≤ 603072) (hS : ss + 256 ≤ 7223402) (hf : g_35 N xs L σ i = some (true, τ)) (hw : Sit Γ σ s H locs) (hl : lv_has ls 9 [(0, .ref b), (1, .ref (ga Γ 0 0)), (2, .ref (ga Γ 8 0)), (3, .ref (ga Γ 180 0)), (4, .ref (ga Γ 181 0)), (5, .int i)])
    (kk : ∀ (τ2 : St) (H : Heap) (locs : List Loc) (ls : Array Slot), some (true, τ2) = some (true, τ) → Sit Γ τ2 s H locs → lv_has ls 9 [(0, .ref b), (1, .ref (ga Γ 0 0)), (2, .ref (ga Γ 8 0)), (3, .ref (ga Γ 180 0)), (4, .ref (ga Γ 181 0)), (5, .int i)] → W p l e room_1 s m args below meth c H locs (cc + 16) (ss + 256) Q (F0 m 3387 ls [])) : W p l e room_1 s m args below meth c H locs cc ss Q (F0 m 2730 ls []) := by
  unfold g_35 at hf
  have hx := X.1
  have hb := X.2.1
  refine lv_aload_n hx hb dL_law_2730 rfl (lv_at hl 1 rfl) ?_
  refine lv_aload_n hx hb dL_law_2731 rfl (lv_at hl 0 rfl) ?_
  refine lv_iload hx hb dL_law_2732 (lv_at hl 5 rfl) ?_
  refine lv_iconst (v := 1) hx hb dL_law_2734 (by decide) ?_
  refine lv_iadd hx hb dL_law_2735 ?_
  refine q_sld hx hb hL hw hf dL_law_2736 (fun hf => ?_)
  refine lv_aload_n hx hb dL_law_2737 rfl (lv_at hl 0 rfl) ?_
  refine lv_iload hx hb dL_law_2738 (lv_at hl 5 rfl) ?_
  refine lv_iconst (v := 2) hx hb dL_law_2740 (by decide) ?_
  refine lv_iadd hx hb dL_law_2741 ?_
  refine q_sld hx hb hL hw hf dL_law_2742 (fun hf => ?_)
  refine lv_aload_n hx hb dL_law_2743 rfl (lv_at hl 3 rfl) ?_
  refine q_eI hf hw (fun v τ h => q_rW (As := [.ref (ga Γ 0 0), .int (xs (Int32.toNatClampNeg (i + (1 : Int32)))), .int (xs (Int32.toNatClampNeg (i + (2 : Int32)))), .ref (ga Γ 180 0)]) (rest := []) X hK hw (kL_ownVotes hfl h) mwL_ownVotes lk_L_289 ⟨Nat.le_of_ble_eq_true rfl, Nat.le_of_ble_eq_true rfl⟩ rfl hl.1 rfl (Nat.le_of_ble_eq_true rfl) dL_law_2744 ⟨rmC (cc := cc) (a := 2) hC (Nat.le_of_ble_eq_true rfl), rmS (ss := ss) (a := 12) hS (Nat.le_of_ble_eq_true rfl)⟩) (fun v2 σ1 H locs hf hw => ?_)
  refine lv_istore (lv' := [(6, .int v2), (0, .ref b), (1, .ref (ga Γ 0 0)), (2, .ref (ga Γ 8 0)), (3, .ref (ga Γ 180 0)), (4, .ref (ga Γ 181 0)), (5, .int i)]) hx hb dL_law_2747 hl (by decide) rfl (fun ls hl => ?_)
  refine lv_aload_n hx hb dL_law_2749 rfl (lv_at hl 3 rfl) ?_
  refine lv_aload_n hx hb dL_law_2750 rfl (lv_at hl 1 rfl) ?_
  refine lv_iload hx hb dL_law_2751 (lv_at hl 6 rfl) ?_
  refine lv_iconst (v := 1) hx hb dL_law_2753 (by decide) ?_
  refine lv_iadd hx hb dL_law_2754 ?_
  refine q_sld hx hb hL hw hf dL_law_2755 (fun hf => ?_)
  refine lv_aload_n hx hb dL_law_2756 rfl (lv_at hl 1 rfl) ?_
  refine lv_iload hx hb dL_law_2757 (lv_at hl 6 rfl) ?_
  refine lv_iconst (v := 2) hx hb dL_law_2759 (by decide) ?_
  refine lv_iadd hx hb dL_law_2760 ?_
  refine q_sld hx hb hL hw hf dL_law_2761 (fun hf => ?_)
  refine q_eI hf hw (fun v τ h => q_rV (As := [.int (xs (Int32.toNatClampNeg (i + (1 : Int32)))), .int (xs (Int32.toNatClampNeg (i + (2 : Int32))))]) (rest := []) (q := (RX8, TX8, 32)) X hK hw rfl (Nat.le_of_ble_eq_true rfl : 0 < cnt (gn Γ) 8) (rfl : vwCl[10]? = _) (kX8_ownVotes h) mvX8_ownVotes lk_L_291 ⟨Nat.le_of_ble_eq_true rfl, Nat.le_of_ble_eq_true rfl⟩ rfl hl.1 rfl (Nat.le_of_ble_eq_true rfl) dL_law_2762 ⟨rmC (cc := cc) (a := 2) hC (Nat.le_of_ble_eq_true rfl), rmS (ss := ss) (a := 12) hS (Nat.le_of_ble_eq_true rfl)⟩) (fun v4 σ3 H locs hf hw => ?_)
  refine lv_istore (lv' := [(7, .int v4), (6, .int v2), (0, .ref b), (1, .ref (ga Γ 0 0)), (2, .ref (ga Γ 8 0)), (3, .ref (ga Γ 180 0)), (4, .ref (ga Γ 181 0)), (5, .int i)]) hx hb dL_law_2765 hl (by decide) rfl (fun ls hl => ?_)
  refine lv_aload_n hx hb dL_law_2767 rfl (lv_at hl 4 rfl) ?_
  refine q_pI hf hw (fun v h => q_rV (As := []) (rest := []) (q := (RX8, TX8, 32)) X hK hw rfl (Nat.le_of_ble_eq_true rfl : 0 < cnt (gn Γ) 8) (rfl : vwCl[10]? = _) (kX8_thrown h) mvX8_thrown lk_L_175 ⟨Nat.le_of_ble_eq_true rfl, Nat.le_of_ble_eq_true rfl⟩ rfl hl.1 rfl (Nat.le_of_ble_eq_true rfl) dL_law_2768 ⟨rmC (cc := cc) (a := 2) hC (Nat.le_of_ble_eq_true rfl), rmS (ss := ss) (a := 12) hS (Nat.le_of_ble_eq_true rfl)⟩) (fun v5 H locs hf hw => ?_)
  refine lv_iload hx hb dL_law_2771 (lv_at hl 1 rfl) ?_
  refine q_ic_eq (tgt := 2778) hx hb hf dL_law_2773 (by decide) (fun hf => ?_) (fun hf => ?_)
  · refine lv_iload hx hb dL_law_2778 (lv_at hl 1 rfl) ?_
    refine q_if_ne (tgt := 2795) hx hb hf dL_law_2780 (by decide) (fun hf => ?_) (fun hf => ?_)
    · refine lv_goto (tgt := 3387) hx hb dL_law_2795 (by decide) ?_
      exact W.widen (k := cc + 16) (n := ss + 256) (Nat.add_le_add_left (Nat.le_of_ble_eq_true rfl : 2 ≤ 16) cc) (Nat.add_le_add_left (Nat.le_of_ble_eq_true rfl : 12 ≤ 256) ss) (kk _ _ _ _ hf hw (lv_sub hl [2, 3, 4, 5, 6, 7] rfl))
    refine lv_aload_n hx hb dL_law_2783 rfl (lv_at hl 5 rfl) ?_
    refine lv_iconst (v := 0) hx hb dL_law_2784 (by decide) ?_
    refine q_lalo0 hx hb hK hw dL_law_2785 ?_
    refine lv_iload hx hb dL_law_2786 (lv_at hl 0 rfl) ?_
    refine lv_i2l hx hb dL_law_2788 rfl ?_
    refine W.lcmp hx hb dL_law_2789 ?_
    refine q_if_eq (tgt := 2795) hx hb hf dL_law_2790 (by decide) (fun hf => ?_) (fun hf => ?_)
    · refine lv_goto (tgt := 3387) hx hb dL_law_2795 (by decide) ?_
      exact W.widen (k := cc + 16) (n := ss + 256) (Nat.add_le_add_left (Nat.le_of_ble_eq_true rfl : 2 ≤ 16) cc) (Nat.add_le_add_left (Nat.le_of_ble_eq_true rfl : 12 ≤ 256) ss) (kk _ _ _ _ hf hw (lv_sub hl [2, 3, 4, 5, 6, 7] rfl))
    refine lv_iconst (v := 0) hx hb dL_law_2793 (by decide) ?_
    exact nomatch hf
  refine lv_iconst (v := 0) hx hb dL_law_2776 (by decide) ?_
  exact nomatch hf
set_option maxRecDepth 100000 in
theorem cs_36 {p : Program} {l : Launch} {e : Env} {s : State} {m : MethodId} {args : Array Value} {below : List Frame} {meth : Method} {c : Code} {H : Heap} {locs : List Loc} {Q : State → Prop} {ls : Array Slot} {Γ : Gm} {b L N cc ss : Nat} {xs : Nat → Int32} {σ τ : St} {i : Int32} (hfl : l.stackTraces = false) (X : Fx p c cL_law 9 s m RL) (hK : KK Γ STR s.heap.size s) (hL : LX Γ s b L xs) (hC : cc + 16 ≤ 603072) (hS : ss + 256 ≤ 7223402) (hf : g_36 N xs L σ i = some (true, τ)) (hw : Sit Γ σ s H locs) (hl : lv_has ls 9 [(0, .ref b), (1, .ref (ga Γ 0 0)), (2, .ref (ga Γ 8 0)), (3, .ref (ga Γ 180 0)), (4, .ref (ga Γ 181 0)), (5, .int i)])
    (kk : ∀ (τ2 : St) (H : Heap) (locs : List Loc) (ls : Array Slot), some (true, τ2) = some (true, τ) → Sit Γ τ2 s H locs → lv_has ls 9 [(0, .ref b), (1, .ref (ga Γ 0 0)), (2, .ref (ga Γ 8 0)), (3, .ref (ga Γ 180 0)), (4, .ref (ga Γ 181 0)), (5, .int i)] → W p l e room_1 s m args below meth c H locs (cc + 16) (ss + 256) Q (F0 m 3387 ls [])) : W p l e room_1 s m args below meth c H locs cc ss Q (F0 m 2798 ls []) := by
  unfold g_36 at hf
  have hx := X.1
  have hb := X.2.1
  refine lv_aload_n hx hb dL_law_2798 rfl (lv_at hl 1 rfl) ?_
  refine lv_aload_n hx hb dL_law_2799 rfl (lv_at hl 0 rfl) ?_
  refine lv_iload hx hb dL_law_2800 (lv_at hl 5 rfl) ?_
  refine lv_iconst (v := 1) hx hb dL_law_2802 (by decide) ?_
  refine lv_iadd hx hb dL_law_2803 ?_
  refine q_sld hx hb hL hw hf dL_law_2804 (fun hf => ?_)
  refine lv_aload_n hx hb dL_law_2805 rfl (lv_at hl 0 rfl) ?_
  refine lv_iload hx hb dL_law_2806 (lv_at hl 5 rfl) ?_
  refine lv_iconst (v := 2) hx hb dL_law_2808 (by decide) ?_
  refine lv_iadd hx hb dL_law_2809 ?_
  refine q_sld hx hb hL hw hf dL_law_2810 (fun hf => ?_)
  refine lv_aload_n hx hb dL_law_2811 rfl (lv_at hl 3 rfl) ?_
  refine q_eI hf hw (fun v τ h => q_rW (As := [.ref (ga Γ 0 0), .int (xs (Int32.toNatClampNeg (i + (1 : Int32)))), .int (xs (Int32.toNatClampNeg (i + (2 : Int32)))), .ref (ga Γ 180 0)]) (rest := []) X hK hw (kL_votesFor hfl h) mwL_votesFor lk_L_292 ⟨Nat.le_of_ble_eq_true rfl, Nat.le_of_ble_eq_true rfl⟩ rfl hl.1 rfl (Nat.le_of_ble_eq_true rfl) dL_law_2812 ⟨rmC (cc := cc) (a := 3) hC (Nat.le_of_ble_eq_true rfl), rmS (ss := ss) (a := 18) hS (Nat.le_of_ble_eq_true rfl)⟩) (fun v2 σ1 H locs hf hw => ?_)
  refine lv_istore (lv' := [(6, .int v2), (0, .ref b), (1, .ref (ga Γ 0 0)), (2, .ref (ga Γ 8 0)), (3, .ref (ga Γ 180 0)), (4, .ref (ga Γ 181 0)), (5, .int i)]) hx hb dL_law_2815 hl (by decide) rfl (fun ls hl => ?_)
  refine lv_aload_n hx hb dL_law_2817 rfl (lv_at hl 3 rfl) ?_
  refine lv_aload_n hx hb dL_law_2818 rfl (lv_at hl 1 rfl) ?_
  refine lv_iload hx hb dL_law_2819 (lv_at hl 6 rfl) ?_
  refine lv_iconst (v := 1) hx hb dL_law_2821 (by decide) ?_
  refine lv_iadd hx hb dL_law_2822 ?_
  refine q_sld hx hb hL hw hf dL_law_2823 (fun hf => ?_)
  refine lv_aload_n hx hb dL_law_2824 rfl (lv_at hl 1 rfl) ?_
  refine lv_iload hx hb dL_law_2825 (lv_at hl 6 rfl) ?_
  refine lv_iconst (v := 2) hx hb dL_law_2827 (by decide) ?_
  refine lv_iadd hx hb dL_law_2828 ?_
  refine q_sld hx hb hL hw hf dL_law_2829 (fun hf => ?_)
  refine q_eI hf hw (fun v τ h => q_rV (As := [.int (xs (Int32.toNatClampNeg (i + (1 : Int32)))), .int (xs (Int32.toNatClampNeg (i + (2 : Int32))))]) (rest := []) (q := (RX8, TX8, 32)) X hK hw rfl (Nat.le_of_ble_eq_true rfl : 0 < cnt (gn Γ) 8) (rfl : vwCl[10]? = _) (kX8_votesFor h) mvX8_votesFor lk_L_294 ⟨Nat.le_of_ble_eq_true rfl, Nat.le_of_ble_eq_true rfl⟩ rfl hl.1 rfl (Nat.le_of_ble_eq_true rfl) dL_law_2830 ⟨rmC (cc := cc) (a := 3) hC (Nat.le_of_ble_eq_true rfl), rmS (ss := ss) (a := 18) hS (Nat.le_of_ble_eq_true rfl)⟩) (fun v4 σ3 H locs hf hw => ?_)
  refine lv_istore (lv' := [(7, .int v4), (6, .int v2), (0, .ref b), (1, .ref (ga Γ 0 0)), (2, .ref (ga Γ 8 0)), (3, .ref (ga Γ 180 0)), (4, .ref (ga Γ 181 0)), (5, .int i)]) hx hb dL_law_2833 hl (by decide) rfl (fun ls hl => ?_)
  refine lv_aload_n hx hb dL_law_2835 rfl (lv_at hl 4 rfl) ?_
  refine q_pI hf hw (fun v h => q_rV (As := []) (rest := []) (q := (RX8, TX8, 32)) X hK hw rfl (Nat.le_of_ble_eq_true rfl : 0 < cnt (gn Γ) 8) (rfl : vwCl[10]? = _) (kX8_thrown h) mvX8_thrown lk_L_175 ⟨Nat.le_of_ble_eq_true rfl, Nat.le_of_ble_eq_true rfl⟩ rfl hl.1 rfl (Nat.le_of_ble_eq_true rfl) dL_law_2836 ⟨rmC (cc := cc) (a := 3) hC (Nat.le_of_ble_eq_true rfl), rmS (ss := ss) (a := 18) hS (Nat.le_of_ble_eq_true rfl)⟩) (fun v5 H locs hf hw => ?_)
  refine lv_iload hx hb dL_law_2839 (lv_at hl 1 rfl) ?_
  refine q_ic_eq (tgt := 2846) hx hb hf dL_law_2841 (by decide) (fun hf => ?_) (fun hf => ?_)
  · refine lv_iload hx hb dL_law_2846 (lv_at hl 1 rfl) ?_
    refine q_if_ne (tgt := 2863) hx hb hf dL_law_2848 (by decide) (fun hf => ?_) (fun hf => ?_)
    · refine lv_goto (tgt := 3387) hx hb dL_law_2863 (by decide) ?_
      exact W.widen (k := cc + 16) (n := ss + 256) (Nat.add_le_add_left (Nat.le_of_ble_eq_true rfl : 3 ≤ 16) cc) (Nat.add_le_add_left (Nat.le_of_ble_eq_true rfl : 18 ≤ 256) ss) (kk _ _ _ _ hf hw (lv_sub hl [2, 3, 4, 5, 6, 7] rfl))
    refine lv_aload_n hx hb dL_law_2851 rfl (lv_at hl 5 rfl) ?_
    refine lv_iconst (v := 0) hx hb dL_law_2852 (by decide) ?_
    refine q_lalo0 hx hb hK hw dL_law_2853 ?_
    refine lv_iload hx hb dL_law_2854 (lv_at hl 0 rfl) ?_
    refine lv_i2l hx hb dL_law_2856 rfl ?_
    refine W.lcmp hx hb dL_law_2857 ?_
    refine q_if_eq (tgt := 2863) hx hb hf dL_law_2858 (by decide) (fun hf => ?_) (fun hf => ?_)
    · refine lv_goto (tgt := 3387) hx hb dL_law_2863 (by decide) ?_
      exact W.widen (k := cc + 16) (n := ss + 256) (Nat.add_le_add_left (Nat.le_of_ble_eq_true rfl : 3 ≤ 16) cc) (Nat.add_le_add_left (Nat.le_of_ble_eq_true rfl : 18 ≤ 256) ss) (kk _ _ _ _ hf hw (lv_sub hl [2, 3, 4, 5, 6, 7] rfl))
    refine lv_iconst (v := 0) hx hb dL_law_2861 (by decide) ?_
    exact nomatch hf
  refine lv_iconst (v := 0) hx hb dL_law_2844 (by decide) ?_
  exact nomatch hf
set_option maxRecDepth 100000 in
theorem cs_37 {p : Program} {l : Launch} {e : Env} {s : State} {m : MethodId} {args : Array Value} {below : List Frame} {meth : Method} {c : Code} {H : Heap} {locs : List Loc} {Q : State → Prop} {ls : Array Slot} {Γ : Gm} {b L N cc ss : Nat} {xs : Nat → Int32} {σ τ : St} {i : Int32} (hfl : l.stackTraces = false) (X : Fx p c cL_law 9 s m RL) (hK : KK Γ STR s.heap.size s) (hL : LX Γ s b L xs) (hC : cc + 16 ≤ 603072) (hS : ss + 256 ≤ 7223402) (hf : g_37 N xs L σ i = some (true, τ)) (hw : Sit Γ σ s H locs) (hl : lv_has ls 9 [(0, .ref b), (1, .ref (ga Γ 0 0)), (2, .ref (ga Γ 8 0)), (3, .ref (ga Γ 180 0)), (4, .ref (ga Γ 181 0)), (5, .int i)])
    (kk : ∀ (τ2 : St) (H : Heap) (locs : List Loc) (ls : Array Slot), some (true, τ2) = some (true, τ) → Sit Γ τ2 s H locs → lv_has ls 9 [(0, .ref b), (1, .ref (ga Γ 0 0)), (2, .ref (ga Γ 8 0)), (3, .ref (ga Γ 180 0)), (4, .ref (ga Γ 181 0)), (5, .int i)] → W p l e room_1 s m args below meth c H locs (cc + 16) (ss + 256) Q (F0 m 3387 ls [])) : W p l e room_1 s m args below meth c H locs cc ss Q (F0 m 2866 ls []) := by
  unfold g_37 at hf
  have hx := X.1
  have hb := X.2.1
  refine lv_aload_n hx hb dL_law_2866 rfl (lv_at hl 1 rfl) ?_
  refine lv_aload_n hx hb dL_law_2867 rfl (lv_at hl 0 rfl) ?_
  refine lv_iload hx hb dL_law_2868 (lv_at hl 5 rfl) ?_
  refine lv_iconst (v := 1) hx hb dL_law_2870 (by decide) ?_
  refine lv_iadd hx hb dL_law_2871 ?_
  refine q_sld hx hb hL hw hf dL_law_2872 (fun hf => ?_)
  refine lv_aload_n hx hb dL_law_2873 rfl (lv_at hl 3 rfl) ?_
  refine q_eI hf hw (fun v τ h => q_rW (As := [.ref (ga Γ 0 0), .int (xs (Int32.toNatClampNeg (i + (1 : Int32)))), .ref (ga Γ 180 0)]) (rest := []) X hK hw (kL_winner hfl h) mwL_winner lk_L_295 ⟨Nat.le_of_ble_eq_true rfl, Nat.le_of_ble_eq_true rfl⟩ rfl hl.1 rfl (Nat.le_of_ble_eq_true rfl) dL_law_2874 ⟨rmC (cc := cc) (a := 3) hC (Nat.le_of_ble_eq_true rfl), rmS (ss := ss) (a := 18) hS (Nat.le_of_ble_eq_true rfl)⟩) (fun v2 σ1 H locs hf hw => ?_)
  refine lv_istore (lv' := [(6, .int v2), (0, .ref b), (1, .ref (ga Γ 0 0)), (2, .ref (ga Γ 8 0)), (3, .ref (ga Γ 180 0)), (4, .ref (ga Γ 181 0)), (5, .int i)]) hx hb dL_law_2877 hl (by decide) rfl (fun ls hl => ?_)
  refine lv_aload_n hx hb dL_law_2879 rfl (lv_at hl 3 rfl) ?_
  refine lv_aload_n hx hb dL_law_2880 rfl (lv_at hl 1 rfl) ?_
  refine lv_iload hx hb dL_law_2881 (lv_at hl 6 rfl) ?_
  refine lv_iconst (v := 1) hx hb dL_law_2883 (by decide) ?_
  refine lv_iadd hx hb dL_law_2884 ?_
  refine q_sld hx hb hL hw hf dL_law_2885 (fun hf => ?_)
  refine q_eI hf hw (fun v τ h => q_rV (As := [.int (xs (Int32.toNatClampNeg (i + (1 : Int32))))]) (rest := []) (q := (RX8, TX8, 32)) X hK hw rfl (Nat.le_of_ble_eq_true rfl : 0 < cnt (gn Γ) 8) (rfl : vwCl[10]? = _) (kX8_winner h) mvX8_winner lk_L_297 ⟨Nat.le_of_ble_eq_true rfl, Nat.le_of_ble_eq_true rfl⟩ rfl hl.1 rfl (Nat.le_of_ble_eq_true rfl) dL_law_2886 ⟨rmC (cc := cc) (a := 3) hC (Nat.le_of_ble_eq_true rfl), rmS (ss := ss) (a := 18) hS (Nat.le_of_ble_eq_true rfl)⟩) (fun v4 σ3 H locs hf hw => ?_)
  refine lv_istore (lv' := [(7, .int v4), (6, .int v2), (0, .ref b), (1, .ref (ga Γ 0 0)), (2, .ref (ga Γ 8 0)), (3, .ref (ga Γ 180 0)), (4, .ref (ga Γ 181 0)), (5, .int i)]) hx hb dL_law_2889 hl (by decide) rfl (fun ls hl => ?_)
  refine lv_aload_n hx hb dL_law_2891 rfl (lv_at hl 4 rfl) ?_
  refine q_pI hf hw (fun v h => q_rV (As := []) (rest := []) (q := (RX8, TX8, 32)) X hK hw rfl (Nat.le_of_ble_eq_true rfl : 0 < cnt (gn Γ) 8) (rfl : vwCl[10]? = _) (kX8_thrown h) mvX8_thrown lk_L_175 ⟨Nat.le_of_ble_eq_true rfl, Nat.le_of_ble_eq_true rfl⟩ rfl hl.1 rfl (Nat.le_of_ble_eq_true rfl) dL_law_2892 ⟨rmC (cc := cc) (a := 3) hC (Nat.le_of_ble_eq_true rfl), rmS (ss := ss) (a := 18) hS (Nat.le_of_ble_eq_true rfl)⟩) (fun v5 H locs hf hw => ?_)
  refine lv_iload hx hb dL_law_2895 (lv_at hl 1 rfl) ?_
  refine q_ic_eq (tgt := 2902) hx hb hf dL_law_2897 (by decide) (fun hf => ?_) (fun hf => ?_)
  · refine lv_iload hx hb dL_law_2902 (lv_at hl 1 rfl) ?_
    refine q_if_ne (tgt := 2919) hx hb hf dL_law_2904 (by decide) (fun hf => ?_) (fun hf => ?_)
    · refine lv_goto (tgt := 3387) hx hb dL_law_2919 (by decide) ?_
      exact W.widen (k := cc + 16) (n := ss + 256) (Nat.add_le_add_left (Nat.le_of_ble_eq_true rfl : 3 ≤ 16) cc) (Nat.add_le_add_left (Nat.le_of_ble_eq_true rfl : 18 ≤ 256) ss) (kk _ _ _ _ hf hw (lv_sub hl [2, 3, 4, 5, 6, 7] rfl))
    refine lv_aload_n hx hb dL_law_2907 rfl (lv_at hl 5 rfl) ?_
    refine lv_iconst (v := 0) hx hb dL_law_2908 (by decide) ?_
    refine q_lalo0 hx hb hK hw dL_law_2909 ?_
    refine lv_iload hx hb dL_law_2910 (lv_at hl 0 rfl) ?_
    refine lv_i2l hx hb dL_law_2912 rfl ?_
    refine W.lcmp hx hb dL_law_2913 ?_
    refine q_if_eq (tgt := 2919) hx hb hf dL_law_2914 (by decide) (fun hf => ?_) (fun hf => ?_)
    · refine lv_goto (tgt := 3387) hx hb dL_law_2919 (by decide) ?_
      exact W.widen (k := cc + 16) (n := ss + 256) (Nat.add_le_add_left (Nat.le_of_ble_eq_true rfl : 3 ≤ 16) cc) (Nat.add_le_add_left (Nat.le_of_ble_eq_true rfl : 18 ≤ 256) ss) (kk _ _ _ _ hf hw (lv_sub hl [2, 3, 4, 5, 6, 7] rfl))
    refine lv_iconst (v := 0) hx hb dL_law_2917 (by decide) ?_
    exact nomatch hf
  refine lv_iconst (v := 0) hx hb dL_law_2900 (by decide) ?_
  exact nomatch hf
set_option maxRecDepth 100000 in
theorem cs_38 {p : Program} {l : Launch} {e : Env} {s : State} {m : MethodId} {args : Array Value} {below : List Frame} {meth : Method} {c : Code} {H : Heap} {locs : List Loc} {Q : State → Prop} {ls : Array Slot} {Γ : Gm} {b L N cc ss : Nat} {xs : Nat → Int32} {σ τ : St} {i : Int32} (hfl : l.stackTraces = false) (X : Fx p c cL_law 9 s m RL) (hK : KK Γ STR s.heap.size s) (hL : LX Γ s b L xs) (hC : cc + 16 ≤ 603072) (hS : ss + 256 ≤ 7223402) (hf : g_38 N xs L σ i = some (true, τ)) (hw : Sit Γ σ s H locs) (hl : lv_has ls 9 [(0, .ref b), (1, .ref (ga Γ 0 0)), (2, .ref (ga Γ 8 0)), (3, .ref (ga Γ 180 0)), (4, .ref (ga Γ 181 0)), (5, .int i)])
    (kk : ∀ (τ2 : St) (H : Heap) (locs : List Loc) (ls : Array Slot), some (true, τ2) = some (true, τ) → Sit Γ τ2 s H locs → lv_has ls 9 [(0, .ref b), (1, .ref (ga Γ 0 0)), (2, .ref (ga Γ 8 0)), (3, .ref (ga Γ 180 0)), (4, .ref (ga Γ 181 0)), (5, .int i)] → W p l e room_1 s m args below meth c H locs (cc + 16) (ss + 256) Q (F0 m 3387 ls [])) : W p l e room_1 s m args below meth c H locs cc ss Q (F0 m 2922 ls []) := by
  unfold g_38 at hf
  have hx := X.1
  have hb := X.2.1
  refine lv_aload_n hx hb dL_law_2922 rfl (lv_at hl 1 rfl) ?_
  refine lv_aload_n hx hb dL_law_2923 rfl (lv_at hl 0 rfl) ?_
  refine lv_iload hx hb dL_law_2924 (lv_at hl 5 rfl) ?_
  refine lv_iconst (v := 1) hx hb dL_law_2926 (by decide) ?_
  refine lv_iadd hx hb dL_law_2927 ?_
  refine q_sld hx hb hL hw hf dL_law_2928 (fun hf => ?_)
  refine lv_aload_n hx hb dL_law_2929 rfl (lv_at hl 3 rfl) ?_
  refine q_eI hf hw (fun v τ h => q_rW (As := [.ref (ga Γ 0 0), .int (xs (Int32.toNatClampNeg (i + (1 : Int32)))), .ref (ga Γ 180 0)]) (rest := []) X hK hw (kL_outcome hfl h) mwL_outcome lk_L_298 ⟨Nat.le_of_ble_eq_true rfl, Nat.le_of_ble_eq_true rfl⟩ rfl hl.1 rfl (Nat.le_of_ble_eq_true rfl) dL_law_2930 ⟨rmC (cc := cc) (a := 1) hC (Nat.le_of_ble_eq_true rfl), rmS (ss := ss) (a := 6) hS (Nat.le_of_ble_eq_true rfl)⟩) (fun v2 σ1 H locs hf hw => ?_)
  refine lv_istore (lv' := [(6, .int v2), (0, .ref b), (1, .ref (ga Γ 0 0)), (2, .ref (ga Γ 8 0)), (3, .ref (ga Γ 180 0)), (4, .ref (ga Γ 181 0)), (5, .int i)]) hx hb dL_law_2933 hl (by decide) rfl (fun ls hl => ?_)
  refine lv_aload_n hx hb dL_law_2935 rfl (lv_at hl 3 rfl) ?_
  refine lv_aload_n hx hb dL_law_2936 rfl (lv_at hl 1 rfl) ?_
  refine lv_iload hx hb dL_law_2937 (lv_at hl 6 rfl) ?_
  refine lv_iconst (v := 1) hx hb dL_law_2939 (by decide) ?_
  refine lv_iadd hx hb dL_law_2940 ?_
  refine q_sld hx hb hL hw hf dL_law_2941 (fun hf => ?_)
  refine q_eI hf hw (fun v τ h => q_rV (As := [.int (xs (Int32.toNatClampNeg (i + (1 : Int32))))]) (rest := []) (q := (RX8, TX8, 32)) X hK hw rfl (Nat.le_of_ble_eq_true rfl : 0 < cnt (gn Γ) 8) (rfl : vwCl[10]? = _) (kX8_outcome h) mvX8_outcome lk_L_300 ⟨Nat.le_of_ble_eq_true rfl, Nat.le_of_ble_eq_true rfl⟩ rfl hl.1 rfl (Nat.le_of_ble_eq_true rfl) dL_law_2942 ⟨rmC (cc := cc) (a := 1) hC (Nat.le_of_ble_eq_true rfl), rmS (ss := ss) (a := 6) hS (Nat.le_of_ble_eq_true rfl)⟩) (fun v4 σ3 H locs hf hw => ?_)
  refine lv_istore (lv' := [(7, .int v4), (6, .int v2), (0, .ref b), (1, .ref (ga Γ 0 0)), (2, .ref (ga Γ 8 0)), (3, .ref (ga Γ 180 0)), (4, .ref (ga Γ 181 0)), (5, .int i)]) hx hb dL_law_2945 hl (by decide) rfl (fun ls hl => ?_)
  refine lv_aload_n hx hb dL_law_2947 rfl (lv_at hl 4 rfl) ?_
  refine q_pI hf hw (fun v h => q_rV (As := []) (rest := []) (q := (RX8, TX8, 32)) X hK hw rfl (Nat.le_of_ble_eq_true rfl : 0 < cnt (gn Γ) 8) (rfl : vwCl[10]? = _) (kX8_thrown h) mvX8_thrown lk_L_175 ⟨Nat.le_of_ble_eq_true rfl, Nat.le_of_ble_eq_true rfl⟩ rfl hl.1 rfl (Nat.le_of_ble_eq_true rfl) dL_law_2948 ⟨rmC (cc := cc) (a := 1) hC (Nat.le_of_ble_eq_true rfl), rmS (ss := ss) (a := 6) hS (Nat.le_of_ble_eq_true rfl)⟩) (fun v5 H locs hf hw => ?_)
  refine lv_iload hx hb dL_law_2951 (lv_at hl 1 rfl) ?_
  refine q_ic_eq (tgt := 2958) hx hb hf dL_law_2953 (by decide) (fun hf => ?_) (fun hf => ?_)
  · refine lv_iload hx hb dL_law_2958 (lv_at hl 1 rfl) ?_
    refine q_if_ne (tgt := 2975) hx hb hf dL_law_2960 (by decide) (fun hf => ?_) (fun hf => ?_)
    · refine lv_goto (tgt := 3387) hx hb dL_law_2975 (by decide) ?_
      exact W.widen (k := cc + 16) (n := ss + 256) (Nat.add_le_add_left (Nat.le_of_ble_eq_true rfl : 1 ≤ 16) cc) (Nat.add_le_add_left (Nat.le_of_ble_eq_true rfl : 6 ≤ 256) ss) (kk _ _ _ _ hf hw (lv_sub hl [2, 3, 4, 5, 6, 7] rfl))
    refine lv_aload_n hx hb dL_law_2963 rfl (lv_at hl 5 rfl) ?_
    refine lv_iconst (v := 0) hx hb dL_law_2964 (by decide) ?_
    refine q_lalo0 hx hb hK hw dL_law_2965 ?_
    refine lv_iload hx hb dL_law_2966 (lv_at hl 0 rfl) ?_
    refine lv_i2l hx hb dL_law_2968 rfl ?_
    refine W.lcmp hx hb dL_law_2969 ?_
    refine q_if_eq (tgt := 2975) hx hb hf dL_law_2970 (by decide) (fun hf => ?_) (fun hf => ?_)
    · refine lv_goto (tgt := 3387) hx hb dL_law_2975 (by decide) ?_
      exact W.widen (k := cc + 16) (n := ss + 256) (Nat.add_le_add_left (Nat.le_of_ble_eq_true rfl : 1 ≤ 16) cc) (Nat.add_le_add_left (Nat.le_of_ble_eq_true rfl : 6 ≤ 256) ss) (kk _ _ _ _ hf hw (lv_sub hl [2, 3, 4, 5, 6, 7] rfl))
    refine lv_iconst (v := 0) hx hb dL_law_2973 (by decide) ?_
    exact nomatch hf
  refine lv_iconst (v := 0) hx hb dL_law_2956 (by decide) ?_
  exact nomatch hf
set_option maxRecDepth 100000 in
theorem cs_39 {p : Program} {l : Launch} {e : Env} {s : State} {m : MethodId} {args : Array Value} {below : List Frame} {meth : Method} {c : Code} {H : Heap} {locs : List Loc} {Q : State → Prop} {ls : Array Slot} {Γ : Gm} {b L N cc ss : Nat} {xs : Nat → Int32} {σ τ : St} {i : Int32} (hfl : l.stackTraces = false) (X : Fx p c cL_law 9 s m RL) (hK : KK Γ STR s.heap.size s) (hL : LX Γ s b L xs) (hC : cc + 16 ≤ 603072) (hS : ss + 256 ≤ 7223402) (hf : g_39 N xs L σ i = some (true, τ)) (hw : Sit Γ σ s H locs) (hl : lv_has ls 9 [(0, .ref b), (1, .ref (ga Γ 0 0)), (2, .ref (ga Γ 8 0)), (3, .ref (ga Γ 180 0)), (4, .ref (ga Γ 181 0)), (5, .int i)])
    (kk : ∀ (τ2 : St) (H : Heap) (locs : List Loc) (ls : Array Slot), some (true, τ2) = some (true, τ) → Sit Γ τ2 s H locs → lv_has ls 9 [(0, .ref b), (1, .ref (ga Γ 0 0)), (2, .ref (ga Γ 8 0)), (3, .ref (ga Γ 180 0)), (4, .ref (ga Γ 181 0)), (5, .int i)] → W p l e room_1 s m args below meth c H locs (cc + 16) (ss + 256) Q (F0 m 3387 ls [])) : W p l e room_1 s m args below meth c H locs cc ss Q (F0 m 2978 ls []) := by
  unfold g_39 at hf
  have hx := X.1
  have hb := X.2.1
  refine lv_aload_n hx hb dL_law_2978 rfl (lv_at hl 1 rfl) ?_
  refine lv_aload_n hx hb dL_law_2979 rfl (lv_at hl 0 rfl) ?_
  refine lv_iload hx hb dL_law_2980 (lv_at hl 5 rfl) ?_
  refine lv_iconst (v := 1) hx hb dL_law_2982 (by decide) ?_
  refine lv_iadd hx hb dL_law_2983 ?_
  refine q_sld hx hb hL hw hf dL_law_2984 (fun hf => ?_)
  refine lv_aload_n hx hb dL_law_2985 rfl (lv_at hl 3 rfl) ?_
  refine q_eI hf hw (fun v τ h => q_rW (As := [.ref (ga Γ 0 0), .int (xs (Int32.toNatClampNeg (i + (1 : Int32)))), .ref (ga Γ 180 0)]) (rest := []) X hK hw (kL_outcomeAnew hfl h) mwL_outcomeAnew lk_L_301 ⟨Nat.le_of_ble_eq_true rfl, Nat.le_of_ble_eq_true rfl⟩ rfl hl.1 rfl (Nat.le_of_ble_eq_true rfl) dL_law_2986 ⟨rmC (cc := cc) (a := 1) hC (Nat.le_of_ble_eq_true rfl), rmS (ss := ss) (a := 6) hS (Nat.le_of_ble_eq_true rfl)⟩) (fun v2 σ1 H locs hf hw => ?_)
  refine lv_istore (lv' := [(6, .int v2), (0, .ref b), (1, .ref (ga Γ 0 0)), (2, .ref (ga Γ 8 0)), (3, .ref (ga Γ 180 0)), (4, .ref (ga Γ 181 0)), (5, .int i)]) hx hb dL_law_2989 hl (by decide) rfl (fun ls hl => ?_)
  refine lv_aload_n hx hb dL_law_2991 rfl (lv_at hl 3 rfl) ?_
  refine lv_aload_n hx hb dL_law_2992 rfl (lv_at hl 1 rfl) ?_
  refine lv_iload hx hb dL_law_2993 (lv_at hl 6 rfl) ?_
  refine lv_iconst (v := 1) hx hb dL_law_2995 (by decide) ?_
  refine lv_iadd hx hb dL_law_2996 ?_
  refine q_sld hx hb hL hw hf dL_law_2997 (fun hf => ?_)
  refine q_eI hf hw (fun v τ h => q_rV (As := [.int (xs (Int32.toNatClampNeg (i + (1 : Int32))))]) (rest := []) (q := (RX8, TX8, 32)) X hK hw rfl (Nat.le_of_ble_eq_true rfl : 0 < cnt (gn Γ) 8) (rfl : vwCl[10]? = _) (kX8_outcomeAnew h) mvX8_outcomeAnew lk_L_303 ⟨Nat.le_of_ble_eq_true rfl, Nat.le_of_ble_eq_true rfl⟩ rfl hl.1 rfl (Nat.le_of_ble_eq_true rfl) dL_law_2998 ⟨rmC (cc := cc) (a := 1) hC (Nat.le_of_ble_eq_true rfl), rmS (ss := ss) (a := 6) hS (Nat.le_of_ble_eq_true rfl)⟩) (fun v4 σ3 H locs hf hw => ?_)
  refine lv_istore (lv' := [(7, .int v4), (6, .int v2), (0, .ref b), (1, .ref (ga Γ 0 0)), (2, .ref (ga Γ 8 0)), (3, .ref (ga Γ 180 0)), (4, .ref (ga Γ 181 0)), (5, .int i)]) hx hb dL_law_3001 hl (by decide) rfl (fun ls hl => ?_)
  refine lv_aload_n hx hb dL_law_3003 rfl (lv_at hl 4 rfl) ?_
  refine q_pI hf hw (fun v h => q_rV (As := []) (rest := []) (q := (RX8, TX8, 32)) X hK hw rfl (Nat.le_of_ble_eq_true rfl : 0 < cnt (gn Γ) 8) (rfl : vwCl[10]? = _) (kX8_thrown h) mvX8_thrown lk_L_175 ⟨Nat.le_of_ble_eq_true rfl, Nat.le_of_ble_eq_true rfl⟩ rfl hl.1 rfl (Nat.le_of_ble_eq_true rfl) dL_law_3004 ⟨rmC (cc := cc) (a := 1) hC (Nat.le_of_ble_eq_true rfl), rmS (ss := ss) (a := 6) hS (Nat.le_of_ble_eq_true rfl)⟩) (fun v5 H locs hf hw => ?_)
  refine lv_iload hx hb dL_law_3007 (lv_at hl 1 rfl) ?_
  refine q_ic_eq (tgt := 3014) hx hb hf dL_law_3009 (by decide) (fun hf => ?_) (fun hf => ?_)
  · refine lv_iload hx hb dL_law_3014 (lv_at hl 1 rfl) ?_
    refine q_if_ne (tgt := 3031) hx hb hf dL_law_3016 (by decide) (fun hf => ?_) (fun hf => ?_)
    · refine lv_goto (tgt := 3387) hx hb dL_law_3031 (by decide) ?_
      exact W.widen (k := cc + 16) (n := ss + 256) (Nat.add_le_add_left (Nat.le_of_ble_eq_true rfl : 1 ≤ 16) cc) (Nat.add_le_add_left (Nat.le_of_ble_eq_true rfl : 6 ≤ 256) ss) (kk _ _ _ _ hf hw (lv_sub hl [2, 3, 4, 5, 6, 7] rfl))
    refine lv_aload_n hx hb dL_law_3019 rfl (lv_at hl 5 rfl) ?_
    refine lv_iconst (v := 0) hx hb dL_law_3020 (by decide) ?_
    refine q_lalo0 hx hb hK hw dL_law_3021 ?_
    refine lv_iload hx hb dL_law_3022 (lv_at hl 0 rfl) ?_
    refine lv_i2l hx hb dL_law_3024 rfl ?_
    refine W.lcmp hx hb dL_law_3025 ?_
    refine q_if_eq (tgt := 3031) hx hb hf dL_law_3026 (by decide) (fun hf => ?_) (fun hf => ?_)
    · refine lv_goto (tgt := 3387) hx hb dL_law_3031 (by decide) ?_
      exact W.widen (k := cc + 16) (n := ss + 256) (Nat.add_le_add_left (Nat.le_of_ble_eq_true rfl : 1 ≤ 16) cc) (Nat.add_le_add_left (Nat.le_of_ble_eq_true rfl : 6 ≤ 256) ss) (kk _ _ _ _ hf hw (lv_sub hl [2, 3, 4, 5, 6, 7] rfl))
    refine lv_iconst (v := 0) hx hb dL_law_3029 (by decide) ?_
    exact nomatch hf
  refine lv_iconst (v := 0) hx hb dL_law_3012 (by decide) ?_
  exact nomatch hf
set_option maxRecDepth 100000 in
theorem cs_40 {p : Program} {l : Launch} {e : Env} {s : State} {m : MethodId} {args : Array Value} {below : List Frame} {meth : Method} {c : Code} {H : Heap} {locs : List Loc} {Q : State → Prop} {ls : Array Slot} {Γ : Gm} {b L N cc ss : Nat} {xs : Nat → Int32} {σ τ : St} {i : Int32} (hfl : l.stackTraces = false) (X : Fx p c cL_law 9 s m RL) (hK : KK Γ STR s.heap.size s) (hL : LX Γ s b L xs) (hC : cc + 16 ≤ 603072) (hS : ss + 256 ≤ 7223402) (hf : g_40 N xs L σ i = some (true, τ)) (hw : Sit Γ σ s H locs) (hl : lv_has ls 9 [(0, .ref b), (1, .ref (ga Γ 0 0)), (2, .ref (ga Γ 8 0)), (3, .ref (ga Γ 180 0)), (4, .ref (ga Γ 181 0)), (5, .int i)])
    (kk : ∀ (τ2 : St) (H : Heap) (locs : List Loc) (ls : Array Slot), some (true, τ2) = some (true, τ) → Sit Γ τ2 s H locs → lv_has ls 9 [(0, .ref b), (1, .ref (ga Γ 0 0)), (2, .ref (ga Γ 8 0)), (3, .ref (ga Γ 180 0)), (4, .ref (ga Γ 181 0)), (5, .int i)] → W p l e room_1 s m args below meth c H locs (cc + 16) (ss + 256) Q (F0 m 3387 ls [])) : W p l e room_1 s m args below meth c H locs cc ss Q (F0 m 3034 ls []) := by
  unfold g_40 at hf
  have hx := X.1
  have hb := X.2.1
  refine lv_aload_n hx hb dL_law_3034 rfl (lv_at hl 1 rfl) ?_
  refine lv_aload_n hx hb dL_law_3035 rfl (lv_at hl 0 rfl) ?_
  refine lv_iload hx hb dL_law_3036 (lv_at hl 5 rfl) ?_
  refine lv_iconst (v := 1) hx hb dL_law_3038 (by decide) ?_
  refine lv_iadd hx hb dL_law_3039 ?_
  refine q_sld hx hb hL hw hf dL_law_3040 (fun hf => ?_)
  refine lv_aload_n hx hb dL_law_3041 rfl (lv_at hl 0 rfl) ?_
  refine lv_iload hx hb dL_law_3042 (lv_at hl 5 rfl) ?_
  refine lv_iconst (v := 2) hx hb dL_law_3044 (by decide) ?_
  refine lv_iadd hx hb dL_law_3045 ?_
  refine q_sld hx hb hL hw hf dL_law_3046 (fun hf => ?_)
  refine lv_aload_n hx hb dL_law_3047 rfl (lv_at hl 3 rfl) ?_
  refine q_eI hf hw (fun v τ h => q_rW (As := [.ref (ga Γ 0 0), .int (xs (Int32.toNatClampNeg (i + (1 : Int32)))), .int (xs (Int32.toNatClampNeg (i + (2 : Int32)))), .ref (ga Γ 180 0)]) (rest := []) X hK hw (kL_outcomes hfl h) mwL_outcomes lk_L_304 ⟨Nat.le_of_ble_eq_true rfl, Nat.le_of_ble_eq_true rfl⟩ rfl hl.1 rfl (Nat.le_of_ble_eq_true rfl) dL_law_3048 ⟨rmC (cc := cc) (a := 2) hC (Nat.le_of_ble_eq_true rfl), rmS (ss := ss) (a := 12) hS (Nat.le_of_ble_eq_true rfl)⟩) (fun v2 σ1 H locs hf hw => ?_)
  refine lv_istore (lv' := [(6, .int v2), (0, .ref b), (1, .ref (ga Γ 0 0)), (2, .ref (ga Γ 8 0)), (3, .ref (ga Γ 180 0)), (4, .ref (ga Γ 181 0)), (5, .int i)]) hx hb dL_law_3051 hl (by decide) rfl (fun ls hl => ?_)
  refine lv_aload_n hx hb dL_law_3053 rfl (lv_at hl 3 rfl) ?_
  refine lv_aload_n hx hb dL_law_3054 rfl (lv_at hl 1 rfl) ?_
  refine lv_iload hx hb dL_law_3055 (lv_at hl 6 rfl) ?_
  refine lv_iconst (v := 1) hx hb dL_law_3057 (by decide) ?_
  refine lv_iadd hx hb dL_law_3058 ?_
  refine q_sld hx hb hL hw hf dL_law_3059 (fun hf => ?_)
  refine lv_aload_n hx hb dL_law_3060 rfl (lv_at hl 1 rfl) ?_
  refine lv_iload hx hb dL_law_3061 (lv_at hl 6 rfl) ?_
  refine lv_iconst (v := 2) hx hb dL_law_3063 (by decide) ?_
  refine lv_iadd hx hb dL_law_3064 ?_
  refine q_sld hx hb hL hw hf dL_law_3065 (fun hf => ?_)
  refine q_eI hf hw (fun v τ h => q_rV (As := [.int (xs (Int32.toNatClampNeg (i + (1 : Int32)))), .int (xs (Int32.toNatClampNeg (i + (2 : Int32))))]) (rest := []) (q := (RX8, TX8, 32)) X hK hw rfl (Nat.le_of_ble_eq_true rfl : 0 < cnt (gn Γ) 8) (rfl : vwCl[10]? = _) (kX8_outcomes h) mvX8_outcomes lk_L_306 ⟨Nat.le_of_ble_eq_true rfl, Nat.le_of_ble_eq_true rfl⟩ rfl hl.1 rfl (Nat.le_of_ble_eq_true rfl) dL_law_3066 ⟨rmC (cc := cc) (a := 2) hC (Nat.le_of_ble_eq_true rfl), rmS (ss := ss) (a := 12) hS (Nat.le_of_ble_eq_true rfl)⟩) (fun v4 σ3 H locs hf hw => ?_)
  refine lv_istore (lv' := [(7, .int v4), (6, .int v2), (0, .ref b), (1, .ref (ga Γ 0 0)), (2, .ref (ga Γ 8 0)), (3, .ref (ga Γ 180 0)), (4, .ref (ga Γ 181 0)), (5, .int i)]) hx hb dL_law_3069 hl (by decide) rfl (fun ls hl => ?_)
  refine lv_aload_n hx hb dL_law_3071 rfl (lv_at hl 4 rfl) ?_
  refine q_pI hf hw (fun v h => q_rV (As := []) (rest := []) (q := (RX8, TX8, 32)) X hK hw rfl (Nat.le_of_ble_eq_true rfl : 0 < cnt (gn Γ) 8) (rfl : vwCl[10]? = _) (kX8_thrown h) mvX8_thrown lk_L_175 ⟨Nat.le_of_ble_eq_true rfl, Nat.le_of_ble_eq_true rfl⟩ rfl hl.1 rfl (Nat.le_of_ble_eq_true rfl) dL_law_3072 ⟨rmC (cc := cc) (a := 2) hC (Nat.le_of_ble_eq_true rfl), rmS (ss := ss) (a := 12) hS (Nat.le_of_ble_eq_true rfl)⟩) (fun v5 H locs hf hw => ?_)
  refine lv_iload hx hb dL_law_3075 (lv_at hl 1 rfl) ?_
  refine q_ic_eq (tgt := 3082) hx hb hf dL_law_3077 (by decide) (fun hf => ?_) (fun hf => ?_)
  · refine lv_iload hx hb dL_law_3082 (lv_at hl 1 rfl) ?_
    refine q_if_ne (tgt := 3099) hx hb hf dL_law_3084 (by decide) (fun hf => ?_) (fun hf => ?_)
    · refine lv_goto (tgt := 3387) hx hb dL_law_3099 (by decide) ?_
      exact W.widen (k := cc + 16) (n := ss + 256) (Nat.add_le_add_left (Nat.le_of_ble_eq_true rfl : 2 ≤ 16) cc) (Nat.add_le_add_left (Nat.le_of_ble_eq_true rfl : 12 ≤ 256) ss) (kk _ _ _ _ hf hw (lv_sub hl [2, 3, 4, 5, 6, 7] rfl))
    refine lv_aload_n hx hb dL_law_3087 rfl (lv_at hl 5 rfl) ?_
    refine lv_iconst (v := 0) hx hb dL_law_3088 (by decide) ?_
    refine q_lalo0 hx hb hK hw dL_law_3089 ?_
    refine lv_iload hx hb dL_law_3090 (lv_at hl 0 rfl) ?_
    refine lv_i2l hx hb dL_law_3092 rfl ?_
    refine W.lcmp hx hb dL_law_3093 ?_
    refine q_if_eq (tgt := 3099) hx hb hf dL_law_3094 (by decide) (fun hf => ?_) (fun hf => ?_)
    · refine lv_goto (tgt := 3387) hx hb dL_law_3099 (by decide) ?_
      exact W.widen (k := cc + 16) (n := ss + 256) (Nat.add_le_add_left (Nat.le_of_ble_eq_true rfl : 2 ≤ 16) cc) (Nat.add_le_add_left (Nat.le_of_ble_eq_true rfl : 12 ≤ 256) ss) (kk _ _ _ _ hf hw (lv_sub hl [2, 3, 4, 5, 6, 7] rfl))
    refine lv_iconst (v := 0) hx hb dL_law_3097 (by decide) ?_
    exact nomatch hf
  refine lv_iconst (v := 0) hx hb dL_law_3080 (by decide) ?_
  exact nomatch hf
set_option maxRecDepth 100000 in
theorem cs_41 {p : Program} {l : Launch} {e : Env} {s : State} {m : MethodId} {args : Array Value} {below : List Frame} {meth : Method} {c : Code} {H : Heap} {locs : List Loc} {Q : State → Prop} {ls : Array Slot} {Γ : Gm} {b L N cc ss : Nat} {xs : Nat → Int32} {σ τ : St} {i : Int32} (hfl : l.stackTraces = false) (X : Fx p c cL_law 9 s m RL) (hK : KK Γ STR s.heap.size s) (hL : LX Γ s b L xs) (hC : cc + 16 ≤ 603072) (hS : ss + 256 ≤ 7223402) (hf : g_41 N xs L σ i = some (true, τ)) (hw : Sit Γ σ s H locs) (hl : lv_has ls 9 [(0, .ref b), (1, .ref (ga Γ 0 0)), (2, .ref (ga Γ 8 0)), (3, .ref (ga Γ 180 0)), (4, .ref (ga Γ 181 0)), (5, .int i)])
    (kk : ∀ (τ2 : St) (H : Heap) (locs : List Loc) (ls : Array Slot), some (true, τ2) = some (true, τ) → Sit Γ τ2 s H locs → lv_has ls 9 [(0, .ref b), (1, .ref (ga Γ 0 0)), (2, .ref (ga Γ 8 0)), (3, .ref (ga Γ 180 0)), (4, .ref (ga Γ 181 0)), (5, .int i)] → W p l e room_1 s m args below meth c H locs (cc + 16) (ss + 256) Q (F0 m 3387 ls [])) : W p l e room_1 s m args below meth c H locs cc ss Q (F0 m 3102 ls []) := by
  unfold g_41 at hf
  have hx := X.1
  have hb := X.2.1
  refine lv_aload_n hx hb dL_law_3102 rfl (lv_at hl 1 rfl) ?_
  refine lv_aload_n hx hb dL_law_3103 rfl (lv_at hl 0 rfl) ?_
  refine lv_iload hx hb dL_law_3104 (lv_at hl 5 rfl) ?_
  refine lv_iconst (v := 1) hx hb dL_law_3106 (by decide) ?_
  refine lv_iadd hx hb dL_law_3107 ?_
  refine q_sld hx hb hL hw hf dL_law_3108 (fun hf => ?_)
  refine lv_aload_n hx hb dL_law_3109 rfl (lv_at hl 0 rfl) ?_
  refine lv_iload hx hb dL_law_3110 (lv_at hl 5 rfl) ?_
  refine lv_iconst (v := 2) hx hb dL_law_3112 (by decide) ?_
  refine lv_iadd hx hb dL_law_3113 ?_
  refine q_sld hx hb hL hw hf dL_law_3114 (fun hf => ?_)
  refine lv_aload_n hx hb dL_law_3115 rfl (lv_at hl 3 rfl) ?_
  refine q_eI hf hw (fun v τ h => q_rW (As := [.ref (ga Γ 0 0), .int (xs (Int32.toNatClampNeg (i + (1 : Int32)))), .int (xs (Int32.toNatClampNeg (i + (2 : Int32)))), .ref (ga Γ 180 0)]) (rest := []) X hK hw (kL_areAlike hfl h) mwL_areAlike lk_L_307 ⟨Nat.le_of_ble_eq_true rfl, Nat.le_of_ble_eq_true rfl⟩ rfl hl.1 rfl (Nat.le_of_ble_eq_true rfl) dL_law_3116 ⟨rmC (cc := cc) (a := 2) hC (Nat.le_of_ble_eq_true rfl), rmS (ss := ss) (a := 12) hS (Nat.le_of_ble_eq_true rfl)⟩) (fun v2 σ1 H locs hf hw => ?_)
  refine lv_istore (lv' := [(6, .int v2), (0, .ref b), (1, .ref (ga Γ 0 0)), (2, .ref (ga Γ 8 0)), (3, .ref (ga Γ 180 0)), (4, .ref (ga Γ 181 0)), (5, .int i)]) hx hb dL_law_3119 hl (by decide) rfl (fun ls hl => ?_)
  refine lv_aload_n hx hb dL_law_3121 rfl (lv_at hl 3 rfl) ?_
  refine lv_aload_n hx hb dL_law_3122 rfl (lv_at hl 1 rfl) ?_
  refine lv_iload hx hb dL_law_3123 (lv_at hl 6 rfl) ?_
  refine lv_iconst (v := 1) hx hb dL_law_3125 (by decide) ?_
  refine lv_iadd hx hb dL_law_3126 ?_
  refine q_sld hx hb hL hw hf dL_law_3127 (fun hf => ?_)
  refine lv_aload_n hx hb dL_law_3128 rfl (lv_at hl 1 rfl) ?_
  refine lv_iload hx hb dL_law_3129 (lv_at hl 6 rfl) ?_
  refine lv_iconst (v := 2) hx hb dL_law_3131 (by decide) ?_
  refine lv_iadd hx hb dL_law_3132 ?_
  refine q_sld hx hb hL hw hf dL_law_3133 (fun hf => ?_)
  refine q_eI hf hw (fun v τ h => q_rV (As := [.int (xs (Int32.toNatClampNeg (i + (1 : Int32)))), .int (xs (Int32.toNatClampNeg (i + (2 : Int32))))]) (rest := []) (q := (RX8, TX8, 32)) X hK hw rfl (Nat.le_of_ble_eq_true rfl : 0 < cnt (gn Γ) 8) (rfl : vwCl[10]? = _) (kX8_areAlike hL.2.2.2 h) mvX8_areAlike lk_L_309 ⟨Nat.le_of_ble_eq_true rfl, Nat.le_of_ble_eq_true rfl⟩ rfl hl.1 rfl (Nat.le_of_ble_eq_true rfl) dL_law_3134 ⟨rmC (cc := cc) (a := 3) hC (Nat.le_of_ble_eq_true rfl), rmS (ss := ss) (a := 105) hS (Nat.le_of_ble_eq_true rfl)⟩) (fun v4 σ3 H locs hf hw => ?_)
  refine lv_istore (lv' := [(7, .int v4), (6, .int v2), (0, .ref b), (1, .ref (ga Γ 0 0)), (2, .ref (ga Γ 8 0)), (3, .ref (ga Γ 180 0)), (4, .ref (ga Γ 181 0)), (5, .int i)]) hx hb dL_law_3137 hl (by decide) rfl (fun ls hl => ?_)
  refine lv_aload_n hx hb dL_law_3139 rfl (lv_at hl 4 rfl) ?_
  refine q_pI hf hw (fun v h => q_rV (As := []) (rest := []) (q := (RX8, TX8, 32)) X hK hw rfl (Nat.le_of_ble_eq_true rfl : 0 < cnt (gn Γ) 8) (rfl : vwCl[10]? = _) (kX8_thrown h) mvX8_thrown lk_L_175 ⟨Nat.le_of_ble_eq_true rfl, Nat.le_of_ble_eq_true rfl⟩ rfl hl.1 rfl (Nat.le_of_ble_eq_true rfl) dL_law_3140 ⟨rmC (cc := cc) (a := 3) hC (Nat.le_of_ble_eq_true rfl), rmS (ss := ss) (a := 105) hS (Nat.le_of_ble_eq_true rfl)⟩) (fun v5 H locs hf hw => ?_)
  refine lv_iload hx hb dL_law_3143 (lv_at hl 1 rfl) ?_
  refine q_ic_eq (tgt := 3150) hx hb hf dL_law_3145 (by decide) (fun hf => ?_) (fun hf => ?_)
  · refine lv_iload hx hb dL_law_3150 (lv_at hl 1 rfl) ?_
    refine q_if_ne (tgt := 3174) hx hb hf dL_law_3152 (by decide) (fun hf => ?_) (fun hf => ?_)
    · refine lv_goto (tgt := 3387) hx hb dL_law_3174 (by decide) ?_
      exact W.widen (k := cc + 16) (n := ss + 256) (Nat.add_le_add_left (Nat.le_of_ble_eq_true rfl : 3 ≤ 16) cc) (Nat.add_le_add_left (Nat.le_of_ble_eq_true rfl : 105 ≤ 256) ss) (kk _ _ _ _ hf hw (lv_sub hl [2, 3, 4, 5, 6, 7] rfl))
    refine lv_aload_n hx hb dL_law_3155 rfl (lv_at hl 5 rfl) ?_
    refine lv_iconst (v := 0) hx hb dL_law_3156 (by decide) ?_
    refine q_lalo0 hx hb hK hw dL_law_3157 ?_
    refine lv_iload hx hb dL_law_3158 (lv_at hl 0 rfl) ?_
    refine q_if_eq (tgt := 3167) hx hb hf dL_law_3160 (by decide) (fun hf => ?_) (fun hf => ?_)
    · refine lv_lconst (v := 0) hx hb dL_law_3167 rfl ?_
      refine W.lcmp hx hb dL_law_3168 ?_
      refine q_if_eq (tgt := 3174) hx hb hf dL_law_3169 (by decide) (fun hf => ?_) (fun hf => ?_)
      · refine lv_goto (tgt := 3387) hx hb dL_law_3174 (by decide) ?_
        exact W.widen (k := cc + 16) (n := ss + 256) (Nat.add_le_add_left (Nat.le_of_ble_eq_true rfl : 3 ≤ 16) cc) (Nat.add_le_add_left (Nat.le_of_ble_eq_true rfl : 105 ≤ 256) ss) (kk _ _ _ _ hf hw (lv_sub hl [2, 3, 4, 5, 6, 7] rfl))
      refine lv_iconst (v := 0) hx hb dL_law_3172 (by decide) ?_
      exact nomatch hf
    refine lv_lconst (v := 1) hx hb dL_law_3163 rfl ?_
    refine lv_goto (tgt := 3168) hx hb dL_law_3164 (by decide) ?_
    refine W.lcmp hx hb dL_law_3168 ?_
    refine q_if_eq (tgt := 3174) hx hb hf dL_law_3169 (by decide) (fun hf => ?_) (fun hf => ?_)
    · refine lv_goto (tgt := 3387) hx hb dL_law_3174 (by decide) ?_
      exact W.widen (k := cc + 16) (n := ss + 256) (Nat.add_le_add_left (Nat.le_of_ble_eq_true rfl : 3 ≤ 16) cc) (Nat.add_le_add_left (Nat.le_of_ble_eq_true rfl : 105 ≤ 256) ss) (kk _ _ _ _ hf hw (lv_sub hl [2, 3, 4, 5, 6, 7] rfl))
    refine lv_iconst (v := 0) hx hb dL_law_3172 (by decide) ?_
    exact nomatch hf
  refine lv_iconst (v := 0) hx hb dL_law_3148 (by decide) ?_
  exact nomatch hf
set_option maxRecDepth 100000 in
theorem cs_42 {p : Program} {l : Launch} {e : Env} {s : State} {m : MethodId} {args : Array Value} {below : List Frame} {meth : Method} {c : Code} {H : Heap} {locs : List Loc} {Q : State → Prop} {ls : Array Slot} {Γ : Gm} {b L N cc ss : Nat} {xs : Nat → Int32} {σ τ : St} {i : Int32} (hfl : l.stackTraces = false) (X : Fx p c cL_law 9 s m RL) (hK : KK Γ STR s.heap.size s) (hL : LX Γ s b L xs) (hC : cc + 16 ≤ 603072) (hS : ss + 256 ≤ 7223402) (hf : g_42 N xs L σ i = some (true, τ)) (hw : Sit Γ σ s H locs) (hl : lv_has ls 9 [(0, .ref b), (1, .ref (ga Γ 0 0)), (2, .ref (ga Γ 8 0)), (3, .ref (ga Γ 180 0)), (4, .ref (ga Γ 181 0)), (5, .int i)])
    (kk : ∀ (τ2 : St) (H : Heap) (locs : List Loc) (ls : Array Slot), some (true, τ2) = some (true, τ) → Sit Γ τ2 s H locs → lv_has ls 9 [(0, .ref b), (1, .ref (ga Γ 0 0)), (2, .ref (ga Γ 8 0)), (3, .ref (ga Γ 180 0)), (4, .ref (ga Γ 181 0)), (5, .int i)] → W p l e room_1 s m args below meth c H locs (cc + 16) (ss + 256) Q (F0 m 3387 ls [])) : W p l e room_1 s m args below meth c H locs cc ss Q (F0 m 3177 ls []) := by
  unfold g_42 at hf
  have hx := X.1
  have hb := X.2.1
  refine lv_aload_n hx hb dL_law_3177 rfl (lv_at hl 1 rfl) ?_
  refine lv_aload_n hx hb dL_law_3178 rfl (lv_at hl 0 rfl) ?_
  refine lv_iload hx hb dL_law_3179 (lv_at hl 5 rfl) ?_
  refine lv_iconst (v := 1) hx hb dL_law_3181 (by decide) ?_
  refine lv_iadd hx hb dL_law_3182 ?_
  refine q_sld hx hb hL hw hf dL_law_3183 (fun hf => ?_)
  refine lv_aload hx hb dL_law_3184 (lv_at hl 4 rfl) ?_
  refine q_eI hf hw (fun v τ h => q_rW (As := [.ref (ga Γ 0 0), .int (xs (Int32.toNatClampNeg (i + (1 : Int32)))), .ref (ga Γ 181 0)]) (rest := []) X hK hw (kL_frameShare hfl h) mwL_frameShare lk_L_310 ⟨Nat.le_of_ble_eq_true rfl, Nat.le_of_ble_eq_true rfl⟩ rfl hl.1 rfl (Nat.le_of_ble_eq_true rfl) dL_law_3186 ⟨rmC (cc := cc) (a := 2) hC (Nat.le_of_ble_eq_true rfl), rmS (ss := ss) (a := 12) hS (Nat.le_of_ble_eq_true rfl)⟩) (fun v2 σ1 H locs hf hw => ?_)
  refine lv_istore (lv' := [(6, .int v2), (0, .ref b), (1, .ref (ga Γ 0 0)), (2, .ref (ga Γ 8 0)), (3, .ref (ga Γ 180 0)), (4, .ref (ga Γ 181 0)), (5, .int i)]) hx hb dL_law_3189 hl (by decide) rfl (fun ls hl => ?_)
  refine lv_aload_n hx hb dL_law_3191 rfl (lv_at hl 3 rfl) ?_
  refine lv_aload_n hx hb dL_law_3192 rfl (lv_at hl 1 rfl) ?_
  refine lv_iload hx hb dL_law_3193 (lv_at hl 6 rfl) ?_
  refine lv_iconst (v := 1) hx hb dL_law_3195 (by decide) ?_
  refine lv_iadd hx hb dL_law_3196 ?_
  refine q_sld hx hb hL hw hf dL_law_3197 (fun hf => ?_)
  refine q_eF hf hw (fun v τ h => q_rV (As := [.int (xs (Int32.toNatClampNeg (i + (1 : Int32))))]) (rest := []) (q := (RX8, TX8, 32)) X hK hw rfl (Nat.le_of_ble_eq_true rfl : 0 < cnt (gn Γ) 8) (rfl : vwCl[10]? = _) (kX8_frameShare h) mvX8_frameShare lk_L_313 ⟨Nat.le_of_ble_eq_true rfl, Nat.le_of_ble_eq_true rfl⟩ rfl hl.1 rfl (Nat.le_of_ble_eq_true rfl) dL_law_3198 ⟨rmC (cc := cc) (a := 2) hC (Nat.le_of_ble_eq_true rfl), rmS (ss := ss) (a := 12) hS (Nat.le_of_ble_eq_true rfl)⟩) (fun v4 σ3 H locs hf hw => ?_)
  refine lv_fstore (lv' := [(7, .float v4), (6, .int v2), (0, .ref b), (1, .ref (ga Γ 0 0)), (2, .ref (ga Γ 8 0)), (3, .ref (ga Γ 180 0)), (4, .ref (ga Γ 181 0)), (5, .int i)]) hx hb dL_law_3201 hl (by decide) rfl (fun ls hl => ?_)
  refine lv_aload_n hx hb dL_law_3203 rfl (lv_at hl 4 rfl) ?_
  refine q_pI hf hw (fun v h => q_rV (As := []) (rest := []) (q := (RX8, TX8, 32)) X hK hw rfl (Nat.le_of_ble_eq_true rfl : 0 < cnt (gn Γ) 8) (rfl : vwCl[10]? = _) (kX8_thrown h) mvX8_thrown lk_L_175 ⟨Nat.le_of_ble_eq_true rfl, Nat.le_of_ble_eq_true rfl⟩ rfl hl.1 rfl (Nat.le_of_ble_eq_true rfl) dL_law_3204 ⟨rmC (cc := cc) (a := 2) hC (Nat.le_of_ble_eq_true rfl), rmS (ss := ss) (a := 12) hS (Nat.le_of_ble_eq_true rfl)⟩) (fun v5 H locs hf hw => ?_)
  refine lv_iload hx hb dL_law_3207 (lv_at hl 1 rfl) ?_
  refine q_ic_eq (tgt := 3214) hx hb hf dL_law_3209 (by decide) (fun hf => ?_) (fun hf => ?_)
  · refine lv_iload hx hb dL_law_3214 (lv_at hl 1 rfl) ?_
    refine q_if_ne (tgt := 3252) hx hb hf dL_law_3216 (by decide) (fun hf => ?_) (fun hf => ?_)
    · refine lv_goto (tgt := 3387) hx hb dL_law_3252 (by decide) ?_
      exact W.widen (k := cc + 16) (n := ss + 256) (Nat.add_le_add_left (Nat.le_of_ble_eq_true rfl : 2 ≤ 16) cc) (Nat.add_le_add_left (Nat.le_of_ble_eq_true rfl : 12 ≤ 256) ss) (kk _ _ _ _ hf hw (lv_sub hl [2, 3, 4, 5, 6, 7] rfl))
    refine lv_aload hx hb dL_law_3219 (lv_at hl 6 rfl) ?_
    refine lv_iconst (v := 0) hx hb dL_law_3221 (by decide) ?_
    refine q_dalo0 hx hb hK hw dL_law_3222 ?_
    refine lv_fload hx hb dL_law_3223 (lv_at hl 0 rfl) ?_
    refine q_f2d hx hb hf dL_law_3225 (fun hf => ?_)
    refine lv_dcmp hx hb dL_law_3226 ?_
    refine q_if_eq (tgt := 3252) hx hb hf dL_law_3227 (by decide) (fun hf => ?_) (fun hf => ?_)
    · refine lv_goto (tgt := 3387) hx hb dL_law_3252 (by decide) ?_
      exact W.widen (k := cc + 16) (n := ss + 256) (Nat.add_le_add_left (Nat.le_of_ble_eq_true rfl : 2 ≤ 16) cc) (Nat.add_le_add_left (Nat.le_of_ble_eq_true rfl : 12 ≤ 256) ss) (kk _ _ _ _ hf hw (lv_sub hl [2, 3, 4, 5, 6, 7] rfl))
    refine lv_aload hx hb dL_law_3230 (lv_at hl 6 rfl) ?_
    refine lv_iconst (v := 0) hx hb dL_law_3232 (by decide) ?_
    refine q_dalo0 hx hb hK hw dL_law_3233 ?_
    refine lv_aload hx hb dL_law_3234 (lv_at hl 6 rfl) ?_
    refine lv_iconst (v := 0) hx hb dL_law_3236 (by decide) ?_
    refine q_dalo0 hx hb hK hw dL_law_3237 ?_
    refine lv_dcmp hx hb dL_law_3238 ?_
    refine q_if_eq (tgt := 3250) hx hb hf dL_law_3239 (by decide) (fun hf => ?_) (fun hf => ?_)
    · refine lv_iconst (v := 0) hx hb dL_law_3250 (by decide) ?_
      exact nomatch hf
    refine lv_fload hx hb dL_law_3242 (lv_at hl 0 rfl) ?_
    refine lv_fload hx hb dL_law_3244 (lv_at hl 0 rfl) ?_
    refine lv_fcmp hx hb dL_law_3246 ?_
    refine q_if_ne (tgt := 3252) hx hb hf dL_law_3247 (by decide) (fun hf => ?_) (fun hf => ?_)
    · refine lv_goto (tgt := 3387) hx hb dL_law_3252 (by decide) ?_
      exact W.widen (k := cc + 16) (n := ss + 256) (Nat.add_le_add_left (Nat.le_of_ble_eq_true rfl : 2 ≤ 16) cc) (Nat.add_le_add_left (Nat.le_of_ble_eq_true rfl : 12 ≤ 256) ss) (kk _ _ _ _ hf hw (lv_sub hl [2, 3, 4, 5, 6, 7] rfl))
    refine lv_iconst (v := 0) hx hb dL_law_3250 (by decide) ?_
    exact nomatch hf
  refine lv_iconst (v := 0) hx hb dL_law_3212 (by decide) ?_
  exact nomatch hf
set_option maxRecDepth 100000 in
theorem cs_43 {p : Program} {l : Launch} {e : Env} {s : State} {m : MethodId} {args : Array Value} {below : List Frame} {meth : Method} {c : Code} {H : Heap} {locs : List Loc} {Q : State → Prop} {ls : Array Slot} {Γ : Gm} {b L N cc ss : Nat} {xs : Nat → Int32} {σ τ : St} {i : Int32} (hfl : l.stackTraces = false) (X : Fx p c cL_law 9 s m RL) (hK : KK Γ STR s.heap.size s) (hL : LX Γ s b L xs) (hC : cc + 16 ≤ 603072) (hS : ss + 256 ≤ 7223402) (hf : g_43 N xs L σ i = some (true, τ)) (hw : Sit Γ σ s H locs) (hl : lv_has ls 9 [(0, .ref b), (1, .ref (ga Γ 0 0)), (2, .ref (ga Γ 8 0)), (3, .ref (ga Γ 180 0)), (4, .ref (ga Γ 181 0)), (5, .int i)])
    (kk : ∀ (τ2 : St) (H : Heap) (locs : List Loc) (ls : Array Slot), some (true, τ2) = some (true, τ) → Sit Γ τ2 s H locs → lv_has ls 9 [(0, .ref b), (1, .ref (ga Γ 0 0)), (2, .ref (ga Γ 8 0)), (3, .ref (ga Γ 180 0)), (4, .ref (ga Γ 181 0)), (5, .int i)] → W p l e room_1 s m args below meth c H locs (cc + 16) (ss + 256) Q (F0 m 3387 ls [])) : W p l e room_1 s m args below meth c H locs cc ss Q (F0 m 3255 ls []) := by
  unfold g_43 at hf
  have hx := X.1
  have hb := X.2.1
  refine lv_aload_n hx hb dL_law_3255 rfl (lv_at hl 1 rfl) ?_
  refine lv_aload_n hx hb dL_law_3256 rfl (lv_at hl 0 rfl) ?_
  refine lv_iload hx hb dL_law_3257 (lv_at hl 5 rfl) ?_
  refine lv_iconst (v := 1) hx hb dL_law_3259 (by decide) ?_
  refine lv_iadd hx hb dL_law_3260 ?_
  refine q_sld hx hb hL hw hf dL_law_3261 (fun hf => ?_)
  refine lv_aload hx hb dL_law_3262 (lv_at hl 4 rfl) ?_
  refine q_eI hf hw (fun v τ h => q_rW (As := [.ref (ga Γ 0 0), .int (xs (Int32.toNatClampNeg (i + (1 : Int32)))), .ref (ga Γ 181 0)]) (rest := []) X hK hw (kL_meanRoute hfl h) mwL_meanRoute lk_L_314 ⟨Nat.le_of_ble_eq_true rfl, Nat.le_of_ble_eq_true rfl⟩ rfl hl.1 rfl (Nat.le_of_ble_eq_true rfl) dL_law_3264 ⟨rmC (cc := cc) (a := 2) hC (Nat.le_of_ble_eq_true rfl), rmS (ss := ss) (a := 12) hS (Nat.le_of_ble_eq_true rfl)⟩) (fun v2 σ1 H locs hf hw => ?_)
  refine lv_istore (lv' := [(6, .int v2), (0, .ref b), (1, .ref (ga Γ 0 0)), (2, .ref (ga Γ 8 0)), (3, .ref (ga Γ 180 0)), (4, .ref (ga Γ 181 0)), (5, .int i)]) hx hb dL_law_3267 hl (by decide) rfl (fun ls hl => ?_)
  refine lv_aload_n hx hb dL_law_3269 rfl (lv_at hl 3 rfl) ?_
  refine lv_aload_n hx hb dL_law_3270 rfl (lv_at hl 1 rfl) ?_
  refine lv_iload hx hb dL_law_3271 (lv_at hl 6 rfl) ?_
  refine lv_iconst (v := 1) hx hb dL_law_3273 (by decide) ?_
  refine lv_iadd hx hb dL_law_3274 ?_
  refine q_sld hx hb hL hw hf dL_law_3275 (fun hf => ?_)
  refine q_eD hf hw (fun v τ h => q_rV (As := [.int (xs (Int32.toNatClampNeg (i + (1 : Int32))))]) (rest := []) (q := (RX8, TX8, 32)) X hK hw rfl (Nat.le_of_ble_eq_true rfl : 0 < cnt (gn Γ) 8) (rfl : vwCl[10]? = _) (kX8_meanRoute h) mvX8_meanRoute lk_L_316 ⟨Nat.le_of_ble_eq_true rfl, Nat.le_of_ble_eq_true rfl⟩ rfl hl.1 rfl (Nat.le_of_ble_eq_true rfl) dL_law_3276 ⟨rmC (cc := cc) (a := 2) hC (Nat.le_of_ble_eq_true rfl), rmS (ss := ss) (a := 12) hS (Nat.le_of_ble_eq_true rfl)⟩) (fun v4 σ3 H locs hf hw => ?_)
  refine lv_dstore (lv' := [(7, .double v4), (6, .int v2), (0, .ref b), (1, .ref (ga Γ 0 0)), (2, .ref (ga Γ 8 0)), (3, .ref (ga Γ 180 0)), (4, .ref (ga Γ 181 0)), (5, .int i)]) hx hb dL_law_3279 hl (by decide) rfl (fun ls hl => ?_)
  refine lv_aload_n hx hb dL_law_3281 rfl (lv_at hl 4 rfl) ?_
  refine q_pI hf hw (fun v h => q_rV (As := []) (rest := []) (q := (RX8, TX8, 32)) X hK hw rfl (Nat.le_of_ble_eq_true rfl : 0 < cnt (gn Γ) 8) (rfl : vwCl[10]? = _) (kX8_thrown h) mvX8_thrown lk_L_175 ⟨Nat.le_of_ble_eq_true rfl, Nat.le_of_ble_eq_true rfl⟩ rfl hl.1 rfl (Nat.le_of_ble_eq_true rfl) dL_law_3282 ⟨rmC (cc := cc) (a := 2) hC (Nat.le_of_ble_eq_true rfl), rmS (ss := ss) (a := 12) hS (Nat.le_of_ble_eq_true rfl)⟩) (fun v5 H locs hf hw => ?_)
  refine lv_iload hx hb dL_law_3285 (lv_at hl 1 rfl) ?_
  refine q_ic_eq (tgt := 3292) hx hb hf dL_law_3287 (by decide) (fun hf => ?_) (fun hf => ?_)
  · refine lv_iload hx hb dL_law_3292 (lv_at hl 1 rfl) ?_
    refine q_if_ne (tgt := 3329) hx hb hf dL_law_3294 (by decide) (fun hf => ?_) (fun hf => ?_)
    · refine lv_goto (tgt := 3387) hx hb dL_law_3329 (by decide) ?_
      exact W.widen (k := cc + 16) (n := ss + 256) (Nat.add_le_add_left (Nat.le_of_ble_eq_true rfl : 2 ≤ 16) cc) (Nat.add_le_add_left (Nat.le_of_ble_eq_true rfl : 12 ≤ 256) ss) (kk _ _ _ _ hf hw (lv_sub hl [2, 3, 4, 5, 6, 7] rfl))
    refine lv_aload hx hb dL_law_3297 (lv_at hl 6 rfl) ?_
    refine lv_iconst (v := 0) hx hb dL_law_3299 (by decide) ?_
    refine q_dalo0 hx hb hK hw dL_law_3300 ?_
    refine lv_dload hx hb dL_law_3301 (lv_at hl 0 rfl) ?_
    refine lv_dcmp hx hb dL_law_3303 ?_
    refine q_if_eq (tgt := 3329) hx hb hf dL_law_3304 (by decide) (fun hf => ?_) (fun hf => ?_)
    · refine lv_goto (tgt := 3387) hx hb dL_law_3329 (by decide) ?_
      exact W.widen (k := cc + 16) (n := ss + 256) (Nat.add_le_add_left (Nat.le_of_ble_eq_true rfl : 2 ≤ 16) cc) (Nat.add_le_add_left (Nat.le_of_ble_eq_true rfl : 12 ≤ 256) ss) (kk _ _ _ _ hf hw (lv_sub hl [2, 3, 4, 5, 6, 7] rfl))
    refine lv_aload hx hb dL_law_3307 (lv_at hl 6 rfl) ?_
    refine lv_iconst (v := 0) hx hb dL_law_3309 (by decide) ?_
    refine q_dalo0 hx hb hK hw dL_law_3310 ?_
    refine lv_aload hx hb dL_law_3311 (lv_at hl 6 rfl) ?_
    refine lv_iconst (v := 0) hx hb dL_law_3313 (by decide) ?_
    refine q_dalo0 hx hb hK hw dL_law_3314 ?_
    refine lv_dcmp hx hb dL_law_3315 ?_
    refine q_if_eq (tgt := 3327) hx hb hf dL_law_3316 (by decide) (fun hf => ?_) (fun hf => ?_)
    · refine lv_iconst (v := 0) hx hb dL_law_3327 (by decide) ?_
      exact nomatch hf
    refine lv_dload hx hb dL_law_3319 (lv_at hl 0 rfl) ?_
    refine lv_dload hx hb dL_law_3321 (lv_at hl 0 rfl) ?_
    refine lv_dcmp hx hb dL_law_3323 ?_
    refine q_if_ne (tgt := 3329) hx hb hf dL_law_3324 (by decide) (fun hf => ?_) (fun hf => ?_)
    · refine lv_goto (tgt := 3387) hx hb dL_law_3329 (by decide) ?_
      exact W.widen (k := cc + 16) (n := ss + 256) (Nat.add_le_add_left (Nat.le_of_ble_eq_true rfl : 2 ≤ 16) cc) (Nat.add_le_add_left (Nat.le_of_ble_eq_true rfl : 12 ≤ 256) ss) (kk _ _ _ _ hf hw (lv_sub hl [2, 3, 4, 5, 6, 7] rfl))
    refine lv_iconst (v := 0) hx hb dL_law_3327 (by decide) ?_
    exact nomatch hf
  refine lv_iconst (v := 0) hx hb dL_law_3290 (by decide) ?_
  exact nomatch hf
set_option maxRecDepth 100000 in
theorem cs_44 {p : Program} {l : Launch} {e : Env} {s : State} {m : MethodId} {args : Array Value} {below : List Frame} {meth : Method} {c : Code} {H : Heap} {locs : List Loc} {Q : State → Prop} {ls : Array Slot} {Γ : Gm} {b L N cc ss : Nat} {xs : Nat → Int32} {σ τ : St} {i : Int32} (hfl : l.stackTraces = false) (X : Fx p c cL_law 9 s m RL) (hK : KK Γ STR s.heap.size s) (hL : LX Γ s b L xs) (hC : cc + 16 ≤ 603072) (hS : ss + 256 ≤ 7223402) (hf : g_44 N xs L σ i = some (true, τ)) (hw : Sit Γ σ s H locs) (hl : lv_has ls 9 [(0, .ref b), (1, .ref (ga Γ 0 0)), (2, .ref (ga Γ 8 0)), (3, .ref (ga Γ 180 0)), (4, .ref (ga Γ 181 0)), (5, .int i)])
    (kk : ∀ (τ2 : St) (H : Heap) (locs : List Loc) (ls : Array Slot), some (true, τ2) = some (true, τ) → Sit Γ τ2 s H locs → lv_has ls 9 [(0, .ref b), (1, .ref (ga Γ 0 0)), (2, .ref (ga Γ 8 0)), (3, .ref (ga Γ 180 0)), (4, .ref (ga Γ 181 0)), (5, .int i)] → W p l e room_1 s m args below meth c H locs (cc + 16) (ss + 256) Q (F0 m 3387 ls [])) : W p l e room_1 s m args below meth c H locs cc ss Q (F0 m 3332 ls []) := by
  unfold g_44 at hf
  have hx := X.1
  have hb := X.2.1
  refine lv_aload_n hx hb dL_law_3332 rfl (lv_at hl 1 rfl) ?_
  refine lv_aload_n hx hb dL_law_3333 rfl (lv_at hl 0 rfl) ?_
  refine lv_iload hx hb dL_law_3334 (lv_at hl 5 rfl) ?_
  refine lv_iconst (v := 1) hx hb dL_law_3336 (by decide) ?_
  refine lv_iadd hx hb dL_law_3337 ?_
  refine q_sld hx hb hL hw hf dL_law_3338 (fun hf => ?_)
  refine lv_aload_n hx hb dL_law_3339 rfl (lv_at hl 3 rfl) ?_
  refine q_eI hf hw (fun v τ h => q_rW (As := [.ref (ga Γ 0 0), .int (xs (Int32.toNatClampNeg (i + (1 : Int32)))), .ref (ga Γ 180 0)]) (rest := []) X hK hw (kL_area hfl h) mwL_area lk_L_317 ⟨Nat.le_of_ble_eq_true rfl, Nat.le_of_ble_eq_true rfl⟩ rfl hl.1 rfl (Nat.le_of_ble_eq_true rfl) dL_law_3340 ⟨rmC (cc := cc) (a := 1) hC (Nat.le_of_ble_eq_true rfl), rmS (ss := ss) (a := 6) hS (Nat.le_of_ble_eq_true rfl)⟩) (fun v2 σ1 H locs hf hw => ?_)
  refine lv_istore (lv' := [(6, .int v2), (0, .ref b), (1, .ref (ga Γ 0 0)), (2, .ref (ga Γ 8 0)), (3, .ref (ga Γ 180 0)), (4, .ref (ga Γ 181 0)), (5, .int i)]) hx hb dL_law_3343 hl (by decide) rfl (fun ls hl => ?_)
  refine lv_aload_n hx hb dL_law_3345 rfl (lv_at hl 3 rfl) ?_
  refine lv_aload_n hx hb dL_law_3346 rfl (lv_at hl 1 rfl) ?_
  refine lv_iload hx hb dL_law_3347 (lv_at hl 6 rfl) ?_
  refine lv_iconst (v := 1) hx hb dL_law_3349 (by decide) ?_
  refine lv_iadd hx hb dL_law_3350 ?_
  refine q_sld hx hb hL hw hf dL_law_3351 (fun hf => ?_)
  refine q_eJ hf hw (fun v τ h => q_rV (As := [.int (xs (Int32.toNatClampNeg (i + (1 : Int32))))]) (rest := []) (q := (RX8, TX8, 32)) X hK hw rfl (Nat.le_of_ble_eq_true rfl : 0 < cnt (gn Γ) 8) (rfl : vwCl[10]? = _) (kX8_area h) mvX8_area lk_L_319 ⟨Nat.le_of_ble_eq_true rfl, Nat.le_of_ble_eq_true rfl⟩ rfl hl.1 rfl (Nat.le_of_ble_eq_true rfl) dL_law_3352 ⟨rmC (cc := cc) (a := 1) hC (Nat.le_of_ble_eq_true rfl), rmS (ss := ss) (a := 6) hS (Nat.le_of_ble_eq_true rfl)⟩) (fun v4 σ3 H locs hf hw => ?_)
  refine lv_lstore (lv' := [(7, .long v4), (6, .int v2), (0, .ref b), (1, .ref (ga Γ 0 0)), (2, .ref (ga Γ 8 0)), (3, .ref (ga Γ 180 0)), (4, .ref (ga Γ 181 0)), (5, .int i)]) hx hb dL_law_3355 hl (by decide) rfl (fun ls hl => ?_)
  refine lv_aload_n hx hb dL_law_3357 rfl (lv_at hl 4 rfl) ?_
  refine q_pI hf hw (fun v h => q_rV (As := []) (rest := []) (q := (RX8, TX8, 32)) X hK hw rfl (Nat.le_of_ble_eq_true rfl : 0 < cnt (gn Γ) 8) (rfl : vwCl[10]? = _) (kX8_thrown h) mvX8_thrown lk_L_175 ⟨Nat.le_of_ble_eq_true rfl, Nat.le_of_ble_eq_true rfl⟩ rfl hl.1 rfl (Nat.le_of_ble_eq_true rfl) dL_law_3358 ⟨rmC (cc := cc) (a := 1) hC (Nat.le_of_ble_eq_true rfl), rmS (ss := ss) (a := 6) hS (Nat.le_of_ble_eq_true rfl)⟩) (fun v5 H locs hf hw => ?_)
  refine lv_iload hx hb dL_law_3361 (lv_at hl 1 rfl) ?_
  refine q_ic_eq (tgt := 3368) hx hb hf dL_law_3363 (by decide) (fun hf => ?_) (fun hf => ?_)
  · refine lv_iload hx hb dL_law_3368 (lv_at hl 1 rfl) ?_
    refine q_if_ne (tgt := 3384) hx hb hf dL_law_3370 (by decide) (fun hf => ?_) (fun hf => ?_)
    · refine lv_goto (tgt := 3387) hx hb dL_law_3384 (by decide) ?_
      exact W.widen (k := cc + 16) (n := ss + 256) (Nat.add_le_add_left (Nat.le_of_ble_eq_true rfl : 1 ≤ 16) cc) (Nat.add_le_add_left (Nat.le_of_ble_eq_true rfl : 6 ≤ 256) ss) (kk _ _ _ _ hf hw (lv_sub hl [2, 3, 4, 5, 6, 7] rfl))
    refine lv_aload_n hx hb dL_law_3373 rfl (lv_at hl 5 rfl) ?_
    refine lv_iconst (v := 0) hx hb dL_law_3374 (by decide) ?_
    refine q_lalo0 hx hb hK hw dL_law_3375 ?_
    refine lv_lload hx hb dL_law_3376 (lv_at hl 0 rfl) ?_
    refine W.lcmp hx hb dL_law_3378 ?_
    refine q_if_eq (tgt := 3384) hx hb hf dL_law_3379 (by decide) (fun hf => ?_) (fun hf => ?_)
    · refine lv_goto (tgt := 3387) hx hb dL_law_3384 (by decide) ?_
      exact W.widen (k := cc + 16) (n := ss + 256) (Nat.add_le_add_left (Nat.le_of_ble_eq_true rfl : 1 ≤ 16) cc) (Nat.add_le_add_left (Nat.le_of_ble_eq_true rfl : 6 ≤ 256) ss) (kk _ _ _ _ hf hw (lv_sub hl [2, 3, 4, 5, 6, 7] rfl))
    refine lv_iconst (v := 0) hx hb dL_law_3382 (by decide) ?_
    exact nomatch hf
  refine lv_iconst (v := 0) hx hb dL_law_3366 (by decide) ?_
  exact nomatch hf
