/-! The law's cases, by program. -/
set_option maxRecDepth 100000 in
theorem cs_0 {p : Program} {l : Launch} {e : Env} {s : State} {m : MethodId} {args : Array Value} {below : List Frame} {meth : Method} {c : Code} {H : Heap} {locs : List Loc} {Q : State → Prop} {ls : Array Slot} {Γ : Gm} {b L N cc ss : Nat} {xs : Nat → Int32} {σ τ : St} {i : Int32} (hfl : l.stackTraces = false) (X : Fx p c cL_law 9 s m RL) (hK : KK Γ STR s.heap.size s) (hL : LX Γ s b L xs) (hC : cc + 16 ≤ 603072) (hS : ss + 256 ≤ 7223402) (hf : g_0 N xs L σ i = some (true, τ)) (hw : Sit Γ σ s H locs) (hl : lv_has ls 9 [(0, .ref b), (1, .ref (ga Γ 0 0)), (2, .ref (ga Γ 8 0)), (3, .ref (ga Γ 180 0)), (4, .ref (ga Γ 181 0)), (5, .int i)])
    (kk : ∀ (τ2 : St) (H : Heap) (locs : List Loc) (ls : Array Slot), some (true, τ2) = some (true, τ) → Sit Γ τ2 s H locs → lv_has ls 9 [(0, .ref b), (1, .ref (ga Γ 0 0)), (2, .ref (ga Γ 8 0)), (3, .ref (ga Γ 180 0)), (4, .ref (ga Γ 181 0)), (5, .int i)] → W p l e room_1 s m args below meth c H locs (cc + 16) (ss + 256) Q (F0 m 3387 ls [])) : W p l e room_1 s m args below meth c H locs cc ss Q (F0 m 240 ls []) := by
  unfold g_0 at hf
  have hx := X.1
  have hb := X.2.1
  refine lv_aload_n hx hb dL_law_240 rfl (lv_at hl 1 rfl) ?_
  refine lv_aload_n hx hb dL_law_241 rfl (lv_at hl 0 rfl) ?_
  refine lv_iload hx hb dL_law_242 (lv_at hl 5 rfl) ?_
  refine lv_iconst (v := 1) hx hb dL_law_244 (by decide) ?_
  refine lv_iadd hx hb dL_law_245 ?_
  refine q_sld hx hb hL hw hf dL_law_246 (fun hf => ?_)
  refine lv_aload_n hx hb dL_law_247 rfl (lv_at hl 0 rfl) ?_
  refine lv_iload hx hb dL_law_248 (lv_at hl 5 rfl) ?_
  refine lv_iconst (v := 2) hx hb dL_law_250 (by decide) ?_
  refine lv_iadd hx hb dL_law_251 ?_
  refine q_sld hx hb hL hw hf dL_law_252 (fun hf => ?_)
  refine lv_aload_n hx hb dL_law_253 rfl (lv_at hl 0 rfl) ?_
  refine lv_iload hx hb dL_law_254 (lv_at hl 5 rfl) ?_
  refine lv_iconst (v := 3) hx hb dL_law_256 (by decide) ?_
  refine lv_iadd hx hb dL_law_257 ?_
  refine q_sld hx hb hL hw hf dL_law_258 (fun hf => ?_)
  refine lv_aload_n hx hb dL_law_259 rfl (lv_at hl 0 rfl) ?_
  refine lv_iload hx hb dL_law_260 (lv_at hl 5 rfl) ?_
  refine lv_iconst (v := 4) hx hb dL_law_262 (by decide) ?_
  refine lv_iadd hx hb dL_law_263 ?_
  refine q_sld hx hb hL hw hf dL_law_264 (fun hf => ?_)
  refine lv_aload_n hx hb dL_law_265 rfl (lv_at hl 0 rfl) ?_
  refine lv_iload hx hb dL_law_266 (lv_at hl 5 rfl) ?_
  refine lv_iconst (v := 5) hx hb dL_law_268 (by decide) ?_
  refine lv_iadd hx hb dL_law_269 ?_
  refine q_sld hx hb hL hw hf dL_law_270 (fun hf => ?_)
  refine lv_aload_n hx hb dL_law_271 rfl (lv_at hl 0 rfl) ?_
  refine lv_iload hx hb dL_law_272 (lv_at hl 5 rfl) ?_
  refine lv_bipush (v := 6) hx hb dL_law_274 (by decide) ?_
  refine lv_iadd hx hb dL_law_276 ?_
  refine q_sld hx hb hL hw hf dL_law_277 (fun hf => ?_)
  refine q_if_eq (tgt := 285) hx hb hf dL_law_278 (by decide) (fun hf => ?_) (fun hf => ?_)
  · refine lv_iconst (v := 0) hx hb dL_law_285 (by decide) ?_
    refine lv_aload_n hx hb dL_law_286 rfl (lv_at hl 3 rfl) ?_
    refine q_eI hf hw (fun v τ h => q_rW (As := [.ref (ga Γ 0 0), .int (xs (Int32.toNatClampNeg (i + (1 : Int32)))), .int (xs (Int32.toNatClampNeg (i + (2 : Int32)))), .int (xs (Int32.toNatClampNeg (i + (3 : Int32)))), .int (xs (Int32.toNatClampNeg (i + (4 : Int32)))), .int (xs (Int32.toNatClampNeg (i + (5 : Int32)))), .int (0 : Int32), .ref (ga Γ 180 0)]) (rest := []) X hK hw (kL_addShape hfl h) mwL_addShape lk_L_169 ⟨Nat.le_of_ble_eq_true rfl, Nat.le_of_ble_eq_true rfl⟩ rfl hl.1 rfl (Nat.le_of_ble_eq_true rfl) dL_law_287 ⟨rmC (cc := cc) (a := 4) hC (Nat.le_of_ble_eq_true rfl), rmS (ss := ss) (a := 24) hS (Nat.le_of_ble_eq_true rfl)⟩) (fun v2 σ1 H locs hf hw => ?_)
    refine lv_istore (lv' := [(6, .int v2), (0, .ref b), (1, .ref (ga Γ 0 0)), (2, .ref (ga Γ 8 0)), (3, .ref (ga Γ 180 0)), (4, .ref (ga Γ 181 0)), (5, .int i)]) hx hb dL_law_290 hl (by decide) rfl (fun ls hl => ?_)
    refine lv_aload_n hx hb dL_law_292 rfl (lv_at hl 3 rfl) ?_
    refine lv_aload_n hx hb dL_law_293 rfl (lv_at hl 1 rfl) ?_
    refine lv_iload hx hb dL_law_294 (lv_at hl 6 rfl) ?_
    refine lv_iconst (v := 1) hx hb dL_law_296 (by decide) ?_
    refine lv_iadd hx hb dL_law_297 ?_
    refine q_sld hx hb hL hw hf dL_law_298 (fun hf => ?_)
    refine lv_aload_n hx hb dL_law_299 rfl (lv_at hl 1 rfl) ?_
    refine lv_iload hx hb dL_law_300 (lv_at hl 6 rfl) ?_
    refine lv_iconst (v := 2) hx hb dL_law_302 (by decide) ?_
    refine lv_iadd hx hb dL_law_303 ?_
    refine q_sld hx hb hL hw hf dL_law_304 (fun hf => ?_)
    refine lv_aload_n hx hb dL_law_305 rfl (lv_at hl 1 rfl) ?_
    refine lv_iload hx hb dL_law_306 (lv_at hl 6 rfl) ?_
    refine lv_iconst (v := 3) hx hb dL_law_308 (by decide) ?_
    refine lv_iadd hx hb dL_law_309 ?_
    refine q_sld hx hb hL hw hf dL_law_310 (fun hf => ?_)
    refine lv_aload_n hx hb dL_law_311 rfl (lv_at hl 1 rfl) ?_
    refine lv_iload hx hb dL_law_312 (lv_at hl 6 rfl) ?_
    refine lv_iconst (v := 4) hx hb dL_law_314 (by decide) ?_
    refine lv_iadd hx hb dL_law_315 ?_
    refine q_sld hx hb hL hw hf dL_law_316 (fun hf => ?_)
    refine lv_aload_n hx hb dL_law_317 rfl (lv_at hl 1 rfl) ?_
    refine lv_iload hx hb dL_law_318 (lv_at hl 6 rfl) ?_
    refine lv_iconst (v := 5) hx hb dL_law_320 (by decide) ?_
    refine lv_iadd hx hb dL_law_321 ?_
    refine q_sld hx hb hL hw hf dL_law_322 (fun hf => ?_)
    refine lv_aload_n hx hb dL_law_323 rfl (lv_at hl 1 rfl) ?_
    refine lv_iload hx hb dL_law_324 (lv_at hl 6 rfl) ?_
    refine lv_bipush (v := 6) hx hb dL_law_326 (by decide) ?_
    refine lv_iadd hx hb dL_law_328 ?_
    refine q_sld hx hb hL hw hf dL_law_329 (fun hf => ?_)
    refine q_if_eq (tgt := 337) hx hb hf dL_law_330 (by decide) (fun hf => ?_) (fun hf => ?_)
    · refine lv_iconst (v := 0) hx hb dL_law_337 (by decide) ?_
      refine q_eI hf hw (fun v τ h => q_rV (As := [.int (xs (Int32.toNatClampNeg (i + (1 : Int32)))), .int (xs (Int32.toNatClampNeg (i + (2 : Int32)))), .int (xs (Int32.toNatClampNeg (i + (3 : Int32)))), .int (xs (Int32.toNatClampNeg (i + (4 : Int32)))), .int (xs (Int32.toNatClampNeg (i + (5 : Int32)))), .int (0 : Int32)]) (rest := []) (q := (RX8, TX8, 32)) X hK hw rfl (Nat.le_of_ble_eq_true rfl : 0 < cnt (gn Γ) 8) (rfl : vwCl[10]? = _) (kX8_addShape h) mvX8_addShape lk_L_174 ⟨Nat.le_of_ble_eq_true rfl, Nat.le_of_ble_eq_true rfl⟩ rfl hl.1 rfl (Nat.le_of_ble_eq_true rfl) dL_law_338 ⟨rmC (cc := cc) (a := 4) hC (Nat.le_of_ble_eq_true rfl), rmS (ss := ss) (a := 24) hS (Nat.le_of_ble_eq_true rfl)⟩) (fun v4 σ3 H locs hf hw => ?_)
      refine lv_istore (lv' := [(7, .int v4), (6, .int v2), (0, .ref b), (1, .ref (ga Γ 0 0)), (2, .ref (ga Γ 8 0)), (3, .ref (ga Γ 180 0)), (4, .ref (ga Γ 181 0)), (5, .int i)]) hx hb dL_law_341 hl (by decide) rfl (fun ls hl => ?_)
      refine lv_aload_n hx hb dL_law_343 rfl (lv_at hl 4 rfl) ?_
      refine q_pI hf hw (fun v h => q_rV (As := []) (rest := []) (q := (RX8, TX8, 32)) X hK hw rfl (Nat.le_of_ble_eq_true rfl : 0 < cnt (gn Γ) 8) (rfl : vwCl[10]? = _) (kX8_thrown h) mvX8_thrown lk_L_175 ⟨Nat.le_of_ble_eq_true rfl, Nat.le_of_ble_eq_true rfl⟩ rfl hl.1 rfl (Nat.le_of_ble_eq_true rfl) dL_law_344 ⟨rmC (cc := cc) (a := 4) hC (Nat.le_of_ble_eq_true rfl), rmS (ss := ss) (a := 24) hS (Nat.le_of_ble_eq_true rfl)⟩) (fun v5 H locs hf hw => ?_)
      refine lv_iload hx hb dL_law_347 (lv_at hl 1 rfl) ?_
      refine q_ic_eq (tgt := 354) hx hb hf dL_law_349 (by decide) (fun hf => ?_) (fun hf => ?_)
      · refine lv_iload hx hb dL_law_354 (lv_at hl 1 rfl) ?_
        refine q_if_ne (tgt := 371) hx hb hf dL_law_356 (by decide) (fun hf => ?_) (fun hf => ?_)
        · refine lv_goto (tgt := 3387) hx hb dL_law_371 (by decide) ?_
          exact W.widen (k := cc + 16) (n := ss + 256) (Nat.add_le_add_left (Nat.le_of_ble_eq_true rfl : 4 ≤ 16) cc) (Nat.add_le_add_left (Nat.le_of_ble_eq_true rfl : 24 ≤ 256) ss) (kk _ _ _ _ hf hw (lv_sub hl [2, 3, 4, 5, 6, 7] rfl))
        refine lv_aload_n hx hb dL_law_359 rfl (lv_at hl 5 rfl) ?_
        refine lv_iconst (v := 0) hx hb dL_law_360 (by decide) ?_
        refine q_lalo0 hx hb hK hw dL_law_361 ?_
        refine lv_iload hx hb dL_law_362 (lv_at hl 0 rfl) ?_
        refine lv_i2l hx hb dL_law_364 rfl ?_
        refine W.lcmp hx hb dL_law_365 ?_
        refine q_if_eq (tgt := 371) hx hb hf dL_law_366 (by decide) (fun hf => ?_) (fun hf => ?_)
        · refine lv_goto (tgt := 3387) hx hb dL_law_371 (by decide) ?_
          exact W.widen (k := cc + 16) (n := ss + 256) (Nat.add_le_add_left (Nat.le_of_ble_eq_true rfl : 4 ≤ 16) cc) (Nat.add_le_add_left (Nat.le_of_ble_eq_true rfl : 24 ≤ 256) ss) (kk _ _ _ _ hf hw (lv_sub hl [2, 3, 4, 5, 6, 7] rfl))
        refine lv_iconst (v := 0) hx hb dL_law_369 (by decide) ?_
        exact nomatch hf
      refine lv_iconst (v := 0) hx hb dL_law_352 (by decide) ?_
      exact nomatch hf
    refine lv_iconst (v := 1) hx hb dL_law_333 (by decide) ?_
    refine lv_goto (tgt := 338) hx hb dL_law_334 (by decide) ?_
    refine q_eI hf hw (fun v τ h => q_rV (As := [.int (xs (Int32.toNatClampNeg (i + (1 : Int32)))), .int (xs (Int32.toNatClampNeg (i + (2 : Int32)))), .int (xs (Int32.toNatClampNeg (i + (3 : Int32)))), .int (xs (Int32.toNatClampNeg (i + (4 : Int32)))), .int (xs (Int32.toNatClampNeg (i + (5 : Int32)))), .int (1 : Int32)]) (rest := []) (q := (RX8, TX8, 32)) X hK hw rfl (Nat.le_of_ble_eq_true rfl : 0 < cnt (gn Γ) 8) (rfl : vwCl[10]? = _) (kX8_addShape h) mvX8_addShape lk_L_174 ⟨Nat.le_of_ble_eq_true rfl, Nat.le_of_ble_eq_true rfl⟩ rfl hl.1 rfl (Nat.le_of_ble_eq_true rfl) dL_law_338 ⟨rmC (cc := cc) (a := 4) hC (Nat.le_of_ble_eq_true rfl), rmS (ss := ss) (a := 24) hS (Nat.le_of_ble_eq_true rfl)⟩) (fun v7 σ6 H locs hf hw => ?_)
    refine lv_istore (lv' := [(7, .int v7), (6, .int v2), (0, .ref b), (1, .ref (ga Γ 0 0)), (2, .ref (ga Γ 8 0)), (3, .ref (ga Γ 180 0)), (4, .ref (ga Γ 181 0)), (5, .int i)]) hx hb dL_law_341 hl (by decide) rfl (fun ls hl => ?_)
    refine lv_aload_n hx hb dL_law_343 rfl (lv_at hl 4 rfl) ?_
    refine q_pI hf hw (fun v h => q_rV (As := []) (rest := []) (q := (RX8, TX8, 32)) X hK hw rfl (Nat.le_of_ble_eq_true rfl : 0 < cnt (gn Γ) 8) (rfl : vwCl[10]? = _) (kX8_thrown h) mvX8_thrown lk_L_175 ⟨Nat.le_of_ble_eq_true rfl, Nat.le_of_ble_eq_true rfl⟩ rfl hl.1 rfl (Nat.le_of_ble_eq_true rfl) dL_law_344 ⟨rmC (cc := cc) (a := 4) hC (Nat.le_of_ble_eq_true rfl), rmS (ss := ss) (a := 24) hS (Nat.le_of_ble_eq_true rfl)⟩) (fun v8 H locs hf hw => ?_)
    refine lv_iload hx hb dL_law_347 (lv_at hl 1 rfl) ?_
    refine q_ic_eq (tgt := 354) hx hb hf dL_law_349 (by decide) (fun hf => ?_) (fun hf => ?_)
    · refine lv_iload hx hb dL_law_354 (lv_at hl 1 rfl) ?_
      refine q_if_ne (tgt := 371) hx hb hf dL_law_356 (by decide) (fun hf => ?_) (fun hf => ?_)
      · refine lv_goto (tgt := 3387) hx hb dL_law_371 (by decide) ?_
        exact W.widen (k := cc + 16) (n := ss + 256) (Nat.add_le_add_left (Nat.le_of_ble_eq_true rfl : 4 ≤ 16) cc) (Nat.add_le_add_left (Nat.le_of_ble_eq_true rfl : 24 ≤ 256) ss) (kk _ _ _ _ hf hw (lv_sub hl [2, 3, 4, 5, 6, 7] rfl))
      refine lv_aload_n hx hb dL_law_359 rfl (lv_at hl 5 rfl) ?_
      refine lv_iconst (v := 0) hx hb dL_law_360 (by decide) ?_
      refine q_lalo0 hx hb hK hw dL_law_361 ?_
      refine lv_iload hx hb dL_law_362 (lv_at hl 0 rfl) ?_
      refine lv_i2l hx hb dL_law_364 rfl ?_
      refine W.lcmp hx hb dL_law_365 ?_
      refine q_if_eq (tgt := 371) hx hb hf dL_law_366 (by decide) (fun hf => ?_) (fun hf => ?_)
      · refine lv_goto (tgt := 3387) hx hb dL_law_371 (by decide) ?_
        exact W.widen (k := cc + 16) (n := ss + 256) (Nat.add_le_add_left (Nat.le_of_ble_eq_true rfl : 4 ≤ 16) cc) (Nat.add_le_add_left (Nat.le_of_ble_eq_true rfl : 24 ≤ 256) ss) (kk _ _ _ _ hf hw (lv_sub hl [2, 3, 4, 5, 6, 7] rfl))
      refine lv_iconst (v := 0) hx hb dL_law_369 (by decide) ?_
      exact nomatch hf
    refine lv_iconst (v := 0) hx hb dL_law_352 (by decide) ?_
    exact nomatch hf
  refine lv_iconst (v := 1) hx hb dL_law_281 (by decide) ?_
  refine lv_goto (tgt := 286) hx hb dL_law_282 (by decide) ?_
  refine lv_aload_n hx hb dL_law_286 rfl (lv_at hl 3 rfl) ?_
  refine q_eI hf hw (fun v τ h => q_rW (As := [.ref (ga Γ 0 0), .int (xs (Int32.toNatClampNeg (i + (1 : Int32)))), .int (xs (Int32.toNatClampNeg (i + (2 : Int32)))), .int (xs (Int32.toNatClampNeg (i + (3 : Int32)))), .int (xs (Int32.toNatClampNeg (i + (4 : Int32)))), .int (xs (Int32.toNatClampNeg (i + (5 : Int32)))), .int (1 : Int32), .ref (ga Γ 180 0)]) (rest := []) X hK hw (kL_addShape hfl h) mwL_addShape lk_L_169 ⟨Nat.le_of_ble_eq_true rfl, Nat.le_of_ble_eq_true rfl⟩ rfl hl.1 rfl (Nat.le_of_ble_eq_true rfl) dL_law_287 ⟨rmC (cc := cc) (a := 4) hC (Nat.le_of_ble_eq_true rfl), rmS (ss := ss) (a := 24) hS (Nat.le_of_ble_eq_true rfl)⟩) (fun v10 σ9 H locs hf hw => ?_)
  refine lv_istore (lv' := [(6, .int v10), (0, .ref b), (1, .ref (ga Γ 0 0)), (2, .ref (ga Γ 8 0)), (3, .ref (ga Γ 180 0)), (4, .ref (ga Γ 181 0)), (5, .int i)]) hx hb dL_law_290 hl (by decide) rfl (fun ls hl => ?_)
  refine lv_aload_n hx hb dL_law_292 rfl (lv_at hl 3 rfl) ?_
  refine lv_aload_n hx hb dL_law_293 rfl (lv_at hl 1 rfl) ?_
  refine lv_iload hx hb dL_law_294 (lv_at hl 6 rfl) ?_
  refine lv_iconst (v := 1) hx hb dL_law_296 (by decide) ?_
  refine lv_iadd hx hb dL_law_297 ?_
  refine q_sld hx hb hL hw hf dL_law_298 (fun hf => ?_)
  refine lv_aload_n hx hb dL_law_299 rfl (lv_at hl 1 rfl) ?_
  refine lv_iload hx hb dL_law_300 (lv_at hl 6 rfl) ?_
  refine lv_iconst (v := 2) hx hb dL_law_302 (by decide) ?_
  refine lv_iadd hx hb dL_law_303 ?_
  refine q_sld hx hb hL hw hf dL_law_304 (fun hf => ?_)
  refine lv_aload_n hx hb dL_law_305 rfl (lv_at hl 1 rfl) ?_
  refine lv_iload hx hb dL_law_306 (lv_at hl 6 rfl) ?_
  refine lv_iconst (v := 3) hx hb dL_law_308 (by decide) ?_
  refine lv_iadd hx hb dL_law_309 ?_
  refine q_sld hx hb hL hw hf dL_law_310 (fun hf => ?_)
  refine lv_aload_n hx hb dL_law_311 rfl (lv_at hl 1 rfl) ?_
  refine lv_iload hx hb dL_law_312 (lv_at hl 6 rfl) ?_
  refine lv_iconst (v := 4) hx hb dL_law_314 (by decide) ?_
  refine lv_iadd hx hb dL_law_315 ?_
  refine q_sld hx hb hL hw hf dL_law_316 (fun hf => ?_)
  refine lv_aload_n hx hb dL_law_317 rfl (lv_at hl 1 rfl) ?_
  refine lv_iload hx hb dL_law_318 (lv_at hl 6 rfl) ?_
  refine lv_iconst (v := 5) hx hb dL_law_320 (by decide) ?_
  refine lv_iadd hx hb dL_law_321 ?_
  refine q_sld hx hb hL hw hf dL_law_322 (fun hf => ?_)
  refine lv_aload_n hx hb dL_law_323 rfl (lv_at hl 1 rfl) ?_
  refine lv_iload hx hb dL_law_324 (lv_at hl 6 rfl) ?_
  refine lv_bipush (v := 6) hx hb dL_law_326 (by decide) ?_
  refine lv_iadd hx hb dL_law_328 ?_
  refine q_sld hx hb hL hw hf dL_law_329 (fun hf => ?_)
  refine q_if_eq (tgt := 337) hx hb hf dL_law_330 (by decide) (fun hf => ?_) (fun hf => ?_)
  · refine lv_iconst (v := 0) hx hb dL_law_337 (by decide) ?_
    refine q_eI hf hw (fun v τ h => q_rV (As := [.int (xs (Int32.toNatClampNeg (i + (1 : Int32)))), .int (xs (Int32.toNatClampNeg (i + (2 : Int32)))), .int (xs (Int32.toNatClampNeg (i + (3 : Int32)))), .int (xs (Int32.toNatClampNeg (i + (4 : Int32)))), .int (xs (Int32.toNatClampNeg (i + (5 : Int32)))), .int (0 : Int32)]) (rest := []) (q := (RX8, TX8, 32)) X hK hw rfl (Nat.le_of_ble_eq_true rfl : 0 < cnt (gn Γ) 8) (rfl : vwCl[10]? = _) (kX8_addShape h) mvX8_addShape lk_L_174 ⟨Nat.le_of_ble_eq_true rfl, Nat.le_of_ble_eq_true rfl⟩ rfl hl.1 rfl (Nat.le_of_ble_eq_true rfl) dL_law_338 ⟨rmC (cc := cc) (a := 4) hC (Nat.le_of_ble_eq_true rfl), rmS (ss := ss) (a := 24) hS (Nat.le_of_ble_eq_true rfl)⟩) (fun v12 σ11 H locs hf hw => ?_)
    refine lv_istore (lv' := [(7, .int v12), (6, .int v10), (0, .ref b), (1, .ref (ga Γ 0 0)), (2, .ref (ga Γ 8 0)), (3, .ref (ga Γ 180 0)), (4, .ref (ga Γ 181 0)), (5, .int i)]) hx hb dL_law_341 hl (by decide) rfl (fun ls hl => ?_)
    refine lv_aload_n hx hb dL_law_343 rfl (lv_at hl 4 rfl) ?_
    refine q_pI hf hw (fun v h => q_rV (As := []) (rest := []) (q := (RX8, TX8, 32)) X hK hw rfl (Nat.le_of_ble_eq_true rfl : 0 < cnt (gn Γ) 8) (rfl : vwCl[10]? = _) (kX8_thrown h) mvX8_thrown lk_L_175 ⟨Nat.le_of_ble_eq_true rfl, Nat.le_of_ble_eq_true rfl⟩ rfl hl.1 rfl (Nat.le_of_ble_eq_true rfl) dL_law_344 ⟨rmC (cc := cc) (a := 4) hC (Nat.le_of_ble_eq_true rfl), rmS (ss := ss) (a := 24) hS (Nat.le_of_ble_eq_true rfl)⟩) (fun v13 H locs hf hw => ?_)
    refine lv_iload hx hb dL_law_347 (lv_at hl 1 rfl) ?_
    refine q_ic_eq (tgt := 354) hx hb hf dL_law_349 (by decide) (fun hf => ?_) (fun hf => ?_)
    · refine lv_iload hx hb dL_law_354 (lv_at hl 1 rfl) ?_
      refine q_if_ne (tgt := 371) hx hb hf dL_law_356 (by decide) (fun hf => ?_) (fun hf => ?_)
      · refine lv_goto (tgt := 3387) hx hb dL_law_371 (by decide) ?_
        exact W.widen (k := cc + 16) (n := ss + 256) (Nat.add_le_add_left (Nat.le_of_ble_eq_true rfl : 4 ≤ 16) cc) (Nat.add_le_add_left (Nat.le_of_ble_eq_true rfl : 24 ≤ 256) ss) (kk _ _ _ _ hf hw (lv_sub hl [2, 3, 4, 5, 6, 7] rfl))
      refine lv_aload_n hx hb dL_law_359 rfl (lv_at hl 5 rfl) ?_
      refine lv_iconst (v := 0) hx hb dL_law_360 (by decide) ?_
      refine q_lalo0 hx hb hK hw dL_law_361 ?_
      refine lv_iload hx hb dL_law_362 (lv_at hl 0 rfl) ?_
      refine lv_i2l hx hb dL_law_364 rfl ?_
      refine W.lcmp hx hb dL_law_365 ?_
      refine q_if_eq (tgt := 371) hx hb hf dL_law_366 (by decide) (fun hf => ?_) (fun hf => ?_)
      · refine lv_goto (tgt := 3387) hx hb dL_law_371 (by decide) ?_
        exact W.widen (k := cc + 16) (n := ss + 256) (Nat.add_le_add_left (Nat.le_of_ble_eq_true rfl : 4 ≤ 16) cc) (Nat.add_le_add_left (Nat.le_of_ble_eq_true rfl : 24 ≤ 256) ss) (kk _ _ _ _ hf hw (lv_sub hl [2, 3, 4, 5, 6, 7] rfl))
      refine lv_iconst (v := 0) hx hb dL_law_369 (by decide) ?_
      exact nomatch hf
    refine lv_iconst (v := 0) hx hb dL_law_352 (by decide) ?_
    exact nomatch hf
  refine lv_iconst (v := 1) hx hb dL_law_333 (by decide) ?_
  refine lv_goto (tgt := 338) hx hb dL_law_334 (by decide) ?_
  refine q_eI hf hw (fun v τ h => q_rV (As := [.int (xs (Int32.toNatClampNeg (i + (1 : Int32)))), .int (xs (Int32.toNatClampNeg (i + (2 : Int32)))), .int (xs (Int32.toNatClampNeg (i + (3 : Int32)))), .int (xs (Int32.toNatClampNeg (i + (4 : Int32)))), .int (xs (Int32.toNatClampNeg (i + (5 : Int32)))), .int (1 : Int32)]) (rest := []) (q := (RX8, TX8, 32)) X hK hw rfl (Nat.le_of_ble_eq_true rfl : 0 < cnt (gn Γ) 8) (rfl : vwCl[10]? = _) (kX8_addShape h) mvX8_addShape lk_L_174 ⟨Nat.le_of_ble_eq_true rfl, Nat.le_of_ble_eq_true rfl⟩ rfl hl.1 rfl (Nat.le_of_ble_eq_true rfl) dL_law_338 ⟨rmC (cc := cc) (a := 4) hC (Nat.le_of_ble_eq_true rfl), rmS (ss := ss) (a := 24) hS (Nat.le_of_ble_eq_true rfl)⟩) (fun v15 σ14 H locs hf hw => ?_)
  refine lv_istore (lv' := [(7, .int v15), (6, .int v10), (0, .ref b), (1, .ref (ga Γ 0 0)), (2, .ref (ga Γ 8 0)), (3, .ref (ga Γ 180 0)), (4, .ref (ga Γ 181 0)), (5, .int i)]) hx hb dL_law_341 hl (by decide) rfl (fun ls hl => ?_)
  refine lv_aload_n hx hb dL_law_343 rfl (lv_at hl 4 rfl) ?_
  refine q_pI hf hw (fun v h => q_rV (As := []) (rest := []) (q := (RX8, TX8, 32)) X hK hw rfl (Nat.le_of_ble_eq_true rfl : 0 < cnt (gn Γ) 8) (rfl : vwCl[10]? = _) (kX8_thrown h) mvX8_thrown lk_L_175 ⟨Nat.le_of_ble_eq_true rfl, Nat.le_of_ble_eq_true rfl⟩ rfl hl.1 rfl (Nat.le_of_ble_eq_true rfl) dL_law_344 ⟨rmC (cc := cc) (a := 4) hC (Nat.le_of_ble_eq_true rfl), rmS (ss := ss) (a := 24) hS (Nat.le_of_ble_eq_true rfl)⟩) (fun v16 H locs hf hw => ?_)
  refine lv_iload hx hb dL_law_347 (lv_at hl 1 rfl) ?_
  refine q_ic_eq (tgt := 354) hx hb hf dL_law_349 (by decide) (fun hf => ?_) (fun hf => ?_)
  · refine lv_iload hx hb dL_law_354 (lv_at hl 1 rfl) ?_
    refine q_if_ne (tgt := 371) hx hb hf dL_law_356 (by decide) (fun hf => ?_) (fun hf => ?_)
    · refine lv_goto (tgt := 3387) hx hb dL_law_371 (by decide) ?_
      exact W.widen (k := cc + 16) (n := ss + 256) (Nat.add_le_add_left (Nat.le_of_ble_eq_true rfl : 4 ≤ 16) cc) (Nat.add_le_add_left (Nat.le_of_ble_eq_true rfl : 24 ≤ 256) ss) (kk _ _ _ _ hf hw (lv_sub hl [2, 3, 4, 5, 6, 7] rfl))
    refine lv_aload_n hx hb dL_law_359 rfl (lv_at hl 5 rfl) ?_
    refine lv_iconst (v := 0) hx hb dL_law_360 (by decide) ?_
    refine q_lalo0 hx hb hK hw dL_law_361 ?_
    refine lv_iload hx hb dL_law_362 (lv_at hl 0 rfl) ?_
    refine lv_i2l hx hb dL_law_364 rfl ?_
    refine W.lcmp hx hb dL_law_365 ?_
    refine q_if_eq (tgt := 371) hx hb hf dL_law_366 (by decide) (fun hf => ?_) (fun hf => ?_)
    · refine lv_goto (tgt := 3387) hx hb dL_law_371 (by decide) ?_
      exact W.widen (k := cc + 16) (n := ss + 256) (Nat.add_le_add_left (Nat.le_of_ble_eq_true rfl : 4 ≤ 16) cc) (Nat.add_le_add_left (Nat.le_of_ble_eq_true rfl : 24 ≤ 256) ss) (kk _ _ _ _ hf hw (lv_sub hl [2, 3, 4, 5, 6, 7] rfl))
    refine lv_iconst (v := 0) hx hb dL_law_369 (by decide) ?_
    exact nomatch hf
  refine lv_iconst (v := 0) hx hb dL_law_352 (by decide) ?_
  exact nomatch hf
set_option maxRecDepth 100000 in
theorem cs_1 {p : Program} {l : Launch} {e : Env} {s : State} {m : MethodId} {args : Array Value} {below : List Frame} {meth : Method} {c : Code} {H : Heap} {locs : List Loc} {Q : State → Prop} {ls : Array Slot} {Γ : Gm} {b L N cc ss : Nat} {xs : Nat → Int32} {σ τ : St} {i : Int32} (hfl : l.stackTraces = false) (X : Fx p c cL_law 9 s m RL) (hK : KK Γ STR s.heap.size s) (hL : LX Γ s b L xs) (hC : cc + 16 ≤ 603072) (hS : ss + 256 ≤ 7223402) (hf : g_1 N xs L σ i = some (true, τ)) (hw : Sit Γ σ s H locs) (hl : lv_has ls 9 [(0, .ref b), (1, .ref (ga Γ 0 0)), (2, .ref (ga Γ 8 0)), (3, .ref (ga Γ 180 0)), (4, .ref (ga Γ 181 0)), (5, .int i)])
    (kk : ∀ (τ2 : St) (H : Heap) (locs : List Loc) (ls : Array Slot), some (true, τ2) = some (true, τ) → Sit Γ τ2 s H locs → lv_has ls 9 [(0, .ref b), (1, .ref (ga Γ 0 0)), (2, .ref (ga Γ 8 0)), (3, .ref (ga Γ 180 0)), (4, .ref (ga Γ 181 0)), (5, .int i)] → W p l e room_1 s m args below meth c H locs (cc + 16) (ss + 256) Q (F0 m 3387 ls [])) : W p l e room_1 s m args below meth c H locs cc ss Q (F0 m 374 ls []) := by
  unfold g_1 at hf
  have hx := X.1
  have hb := X.2.1
  refine lv_aload_n hx hb dL_law_374 rfl (lv_at hl 1 rfl) ?_
  refine lv_aload_n hx hb dL_law_375 rfl (lv_at hl 0 rfl) ?_
  refine lv_iload hx hb dL_law_376 (lv_at hl 5 rfl) ?_
  refine lv_iconst (v := 1) hx hb dL_law_378 (by decide) ?_
  refine lv_iadd hx hb dL_law_379 ?_
  refine q_sld hx hb hL hw hf dL_law_380 (fun hf => ?_)
  refine lv_aload_n hx hb dL_law_381 rfl (lv_at hl 0 rfl) ?_
  refine lv_iload hx hb dL_law_382 (lv_at hl 5 rfl) ?_
  refine lv_iconst (v := 2) hx hb dL_law_384 (by decide) ?_
  refine lv_iadd hx hb dL_law_385 ?_
  refine q_sld hx hb hL hw hf dL_law_386 (fun hf => ?_)
  refine lv_aload_n hx hb dL_law_387 rfl (lv_at hl 0 rfl) ?_
  refine lv_iload hx hb dL_law_388 (lv_at hl 5 rfl) ?_
  refine lv_iconst (v := 3) hx hb dL_law_390 (by decide) ?_
  refine lv_iadd hx hb dL_law_391 ?_
  refine q_sld hx hb hL hw hf dL_law_392 (fun hf => ?_)
  refine lv_aload_n hx hb dL_law_393 rfl (lv_at hl 0 rfl) ?_
  refine lv_iload hx hb dL_law_394 (lv_at hl 5 rfl) ?_
  refine lv_iconst (v := 4) hx hb dL_law_396 (by decide) ?_
  refine lv_iadd hx hb dL_law_397 ?_
  refine q_sld hx hb hL hw hf dL_law_398 (fun hf => ?_)
  refine lv_aload_n hx hb dL_law_399 rfl (lv_at hl 3 rfl) ?_
  refine q_eI hf hw (fun v τ h => q_rW (As := [.ref (ga Γ 0 0), .int (xs (Int32.toNatClampNeg (i + (1 : Int32)))), .int (xs (Int32.toNatClampNeg (i + (2 : Int32)))), .int (xs (Int32.toNatClampNeg (i + (3 : Int32)))), .int (xs (Int32.toNatClampNeg (i + (4 : Int32)))), .ref (ga Γ 180 0)]) (rest := []) X hK hw (kL_move hfl h) mwL_move lk_L_179 ⟨Nat.le_of_ble_eq_true rfl, Nat.le_of_ble_eq_true rfl⟩ rfl hl.1 rfl (Nat.le_of_ble_eq_true rfl) dL_law_400 ⟨rmC (cc := cc) (a := 5) hC (Nat.le_of_ble_eq_true rfl), rmS (ss := ss) (a := 30) hS (Nat.le_of_ble_eq_true rfl)⟩) (fun v2 σ1 H locs hf hw => ?_)
  refine lv_istore (lv' := [(6, .int v2), (0, .ref b), (1, .ref (ga Γ 0 0)), (2, .ref (ga Γ 8 0)), (3, .ref (ga Γ 180 0)), (4, .ref (ga Γ 181 0)), (5, .int i)]) hx hb dL_law_403 hl (by decide) rfl (fun ls hl => ?_)
  refine lv_aload_n hx hb dL_law_405 rfl (lv_at hl 3 rfl) ?_
  refine lv_aload_n hx hb dL_law_406 rfl (lv_at hl 1 rfl) ?_
  refine lv_iload hx hb dL_law_407 (lv_at hl 6 rfl) ?_
  refine lv_iconst (v := 1) hx hb dL_law_409 (by decide) ?_
  refine lv_iadd hx hb dL_law_410 ?_
  refine q_sld hx hb hL hw hf dL_law_411 (fun hf => ?_)
  refine lv_aload_n hx hb dL_law_412 rfl (lv_at hl 1 rfl) ?_
  refine lv_iload hx hb dL_law_413 (lv_at hl 6 rfl) ?_
  refine lv_iconst (v := 2) hx hb dL_law_415 (by decide) ?_
  refine lv_iadd hx hb dL_law_416 ?_
  refine q_sld hx hb hL hw hf dL_law_417 (fun hf => ?_)
  refine lv_aload_n hx hb dL_law_418 rfl (lv_at hl 1 rfl) ?_
  refine lv_iload hx hb dL_law_419 (lv_at hl 6 rfl) ?_
  refine lv_iconst (v := 3) hx hb dL_law_421 (by decide) ?_
  refine lv_iadd hx hb dL_law_422 ?_
  refine q_sld hx hb hL hw hf dL_law_423 (fun hf => ?_)
  refine lv_aload_n hx hb dL_law_424 rfl (lv_at hl 1 rfl) ?_
  refine lv_iload hx hb dL_law_425 (lv_at hl 6 rfl) ?_
  refine lv_iconst (v := 4) hx hb dL_law_427 (by decide) ?_
  refine lv_iadd hx hb dL_law_428 ?_
  refine q_sld hx hb hL hw hf dL_law_429 (fun hf => ?_)
  refine q_eI hf hw (fun v τ h => q_rV (As := [.int (xs (Int32.toNatClampNeg (i + (1 : Int32)))), .int (xs (Int32.toNatClampNeg (i + (2 : Int32)))), .int (xs (Int32.toNatClampNeg (i + (3 : Int32)))), .int (xs (Int32.toNatClampNeg (i + (4 : Int32))))]) (rest := []) (q := (RX8, TX8, 32)) X hK hw rfl (Nat.le_of_ble_eq_true rfl : 0 < cnt (gn Γ) 8) (rfl : vwCl[10]? = _) (kX8_move h) mvX8_move lk_L_182 ⟨Nat.le_of_ble_eq_true rfl, Nat.le_of_ble_eq_true rfl⟩ rfl hl.1 rfl (Nat.le_of_ble_eq_true rfl) dL_law_430 ⟨rmC (cc := cc) (a := 5) hC (Nat.le_of_ble_eq_true rfl), rmS (ss := ss) (a := 30) hS (Nat.le_of_ble_eq_true rfl)⟩) (fun v4 σ3 H locs hf hw => ?_)
  refine lv_istore (lv' := [(7, .int v4), (6, .int v2), (0, .ref b), (1, .ref (ga Γ 0 0)), (2, .ref (ga Γ 8 0)), (3, .ref (ga Γ 180 0)), (4, .ref (ga Γ 181 0)), (5, .int i)]) hx hb dL_law_433 hl (by decide) rfl (fun ls hl => ?_)
  refine lv_aload_n hx hb dL_law_435 rfl (lv_at hl 4 rfl) ?_
  refine q_pI hf hw (fun v h => q_rV (As := []) (rest := []) (q := (RX8, TX8, 32)) X hK hw rfl (Nat.le_of_ble_eq_true rfl : 0 < cnt (gn Γ) 8) (rfl : vwCl[10]? = _) (kX8_thrown h) mvX8_thrown lk_L_175 ⟨Nat.le_of_ble_eq_true rfl, Nat.le_of_ble_eq_true rfl⟩ rfl hl.1 rfl (Nat.le_of_ble_eq_true rfl) dL_law_436 ⟨rmC (cc := cc) (a := 5) hC (Nat.le_of_ble_eq_true rfl), rmS (ss := ss) (a := 30) hS (Nat.le_of_ble_eq_true rfl)⟩) (fun v5 H locs hf hw => ?_)
  refine lv_iload hx hb dL_law_439 (lv_at hl 1 rfl) ?_
  refine q_ic_eq (tgt := 446) hx hb hf dL_law_441 (by decide) (fun hf => ?_) (fun hf => ?_)
  · refine lv_iload hx hb dL_law_446 (lv_at hl 1 rfl) ?_
    refine q_if_ne (tgt := 463) hx hb hf dL_law_448 (by decide) (fun hf => ?_) (fun hf => ?_)
    · refine lv_goto (tgt := 3387) hx hb dL_law_463 (by decide) ?_
      exact W.widen (k := cc + 16) (n := ss + 256) (Nat.add_le_add_left (Nat.le_of_ble_eq_true rfl : 5 ≤ 16) cc) (Nat.add_le_add_left (Nat.le_of_ble_eq_true rfl : 30 ≤ 256) ss) (kk _ _ _ _ hf hw (lv_sub hl [2, 3, 4, 5, 6, 7] rfl))
    refine lv_aload_n hx hb dL_law_451 rfl (lv_at hl 5 rfl) ?_
    refine lv_iconst (v := 0) hx hb dL_law_452 (by decide) ?_
    refine q_lalo0 hx hb hK hw dL_law_453 ?_
    refine lv_iload hx hb dL_law_454 (lv_at hl 0 rfl) ?_
    refine lv_i2l hx hb dL_law_456 rfl ?_
    refine W.lcmp hx hb dL_law_457 ?_
    refine q_if_eq (tgt := 463) hx hb hf dL_law_458 (by decide) (fun hf => ?_) (fun hf => ?_)
    · refine lv_goto (tgt := 3387) hx hb dL_law_463 (by decide) ?_
      exact W.widen (k := cc + 16) (n := ss + 256) (Nat.add_le_add_left (Nat.le_of_ble_eq_true rfl : 5 ≤ 16) cc) (Nat.add_le_add_left (Nat.le_of_ble_eq_true rfl : 30 ≤ 256) ss) (kk _ _ _ _ hf hw (lv_sub hl [2, 3, 4, 5, 6, 7] rfl))
    refine lv_iconst (v := 0) hx hb dL_law_461 (by decide) ?_
    exact nomatch hf
  refine lv_iconst (v := 0) hx hb dL_law_444 (by decide) ?_
  exact nomatch hf
set_option maxRecDepth 100000 in
theorem cs_2 {p : Program} {l : Launch} {e : Env} {s : State} {m : MethodId} {args : Array Value} {below : List Frame} {meth : Method} {c : Code} {H : Heap} {locs : List Loc} {Q : State → Prop} {ls : Array Slot} {Γ : Gm} {b L N cc ss : Nat} {xs : Nat → Int32} {σ τ : St} {i : Int32} (hfl : l.stackTraces = false) (X : Fx p c cL_law 9 s m RL) (hK : KK Γ STR s.heap.size s) (hL : LX Γ s b L xs) (hC : cc + 16 ≤ 603072) (hS : ss + 256 ≤ 7223402) (hf : g_2 N xs L σ i = some (true, τ)) (hw : Sit Γ σ s H locs) (hl : lv_has ls 9 [(0, .ref b), (1, .ref (ga Γ 0 0)), (2, .ref (ga Γ 8 0)), (3, .ref (ga Γ 180 0)), (4, .ref (ga Γ 181 0)), (5, .int i)])
    (kk : ∀ (τ2 : St) (H : Heap) (locs : List Loc) (ls : Array Slot), some (true, τ2) = some (true, τ) → Sit Γ τ2 s H locs → lv_has ls 9 [(0, .ref b), (1, .ref (ga Γ 0 0)), (2, .ref (ga Γ 8 0)), (3, .ref (ga Γ 180 0)), (4, .ref (ga Γ 181 0)), (5, .int i)] → W p l e room_1 s m args below meth c H locs (cc + 16) (ss + 256) Q (F0 m 3387 ls [])) : W p l e room_1 s m args below meth c H locs cc ss Q (F0 m 466 ls []) := by
  unfold g_2 at hf
  have hx := X.1
  have hb := X.2.1
  refine lv_aload_n hx hb dL_law_466 rfl (lv_at hl 1 rfl) ?_
  refine lv_aload_n hx hb dL_law_467 rfl (lv_at hl 0 rfl) ?_
  refine lv_iload hx hb dL_law_468 (lv_at hl 5 rfl) ?_
  refine lv_iconst (v := 1) hx hb dL_law_470 (by decide) ?_
  refine lv_iadd hx hb dL_law_471 ?_
  refine q_sld hx hb hL hw hf dL_law_472 (fun hf => ?_)
  refine lv_aload_n hx hb dL_law_473 rfl (lv_at hl 0 rfl) ?_
  refine lv_iload hx hb dL_law_474 (lv_at hl 5 rfl) ?_
  refine lv_iconst (v := 2) hx hb dL_law_476 (by decide) ?_
  refine lv_iadd hx hb dL_law_477 ?_
  refine q_sld hx hb hL hw hf dL_law_478 (fun hf => ?_)
  refine lv_aload_n hx hb dL_law_479 rfl (lv_at hl 3 rfl) ?_
  refine q_eI hf hw (fun v τ h => q_rW (As := [.ref (ga Γ 0 0), .int (xs (Int32.toNatClampNeg (i + (1 : Int32)))), .int (xs (Int32.toNatClampNeg (i + (2 : Int32)))), .ref (ga Γ 180 0)]) (rest := []) X hK hw (kL_raise hfl h) mwL_raise lk_L_183 ⟨Nat.le_of_ble_eq_true rfl, Nat.le_of_ble_eq_true rfl⟩ rfl hl.1 rfl (Nat.le_of_ble_eq_true rfl) dL_law_480 ⟨rmC (cc := cc) (a := 4) hC (Nat.le_of_ble_eq_true rfl), rmS (ss := ss) (a := 24) hS (Nat.le_of_ble_eq_true rfl)⟩) (fun v2 σ1 H locs hf hw => ?_)
  refine lv_istore (lv' := [(6, .int v2), (0, .ref b), (1, .ref (ga Γ 0 0)), (2, .ref (ga Γ 8 0)), (3, .ref (ga Γ 180 0)), (4, .ref (ga Γ 181 0)), (5, .int i)]) hx hb dL_law_483 hl (by decide) rfl (fun ls hl => ?_)
  refine lv_aload_n hx hb dL_law_485 rfl (lv_at hl 3 rfl) ?_
  refine lv_aload_n hx hb dL_law_486 rfl (lv_at hl 1 rfl) ?_
  refine lv_iload hx hb dL_law_487 (lv_at hl 6 rfl) ?_
  refine lv_iconst (v := 1) hx hb dL_law_489 (by decide) ?_
  refine lv_iadd hx hb dL_law_490 ?_
  refine q_sld hx hb hL hw hf dL_law_491 (fun hf => ?_)
  refine lv_aload_n hx hb dL_law_492 rfl (lv_at hl 1 rfl) ?_
  refine lv_iload hx hb dL_law_493 (lv_at hl 6 rfl) ?_
  refine lv_iconst (v := 2) hx hb dL_law_495 (by decide) ?_
  refine lv_iadd hx hb dL_law_496 ?_
  refine q_sld hx hb hL hw hf dL_law_497 (fun hf => ?_)
  refine q_eI hf hw (fun v τ h => q_rV (As := [.int (xs (Int32.toNatClampNeg (i + (1 : Int32)))), .int (xs (Int32.toNatClampNeg (i + (2 : Int32))))]) (rest := []) (q := (RX8, TX8, 32)) X hK hw rfl (Nat.le_of_ble_eq_true rfl : 0 < cnt (gn Γ) 8) (rfl : vwCl[10]? = _) (kX8_raise h) mvX8_raise lk_L_186 ⟨Nat.le_of_ble_eq_true rfl, Nat.le_of_ble_eq_true rfl⟩ rfl hl.1 rfl (Nat.le_of_ble_eq_true rfl) dL_law_498 ⟨rmC (cc := cc) (a := 4) hC (Nat.le_of_ble_eq_true rfl), rmS (ss := ss) (a := 24) hS (Nat.le_of_ble_eq_true rfl)⟩) (fun v4 σ3 H locs hf hw => ?_)
  refine lv_istore (lv' := [(7, .int v4), (6, .int v2), (0, .ref b), (1, .ref (ga Γ 0 0)), (2, .ref (ga Γ 8 0)), (3, .ref (ga Γ 180 0)), (4, .ref (ga Γ 181 0)), (5, .int i)]) hx hb dL_law_501 hl (by decide) rfl (fun ls hl => ?_)
  refine lv_aload_n hx hb dL_law_503 rfl (lv_at hl 4 rfl) ?_
  refine q_pI hf hw (fun v h => q_rV (As := []) (rest := []) (q := (RX8, TX8, 32)) X hK hw rfl (Nat.le_of_ble_eq_true rfl : 0 < cnt (gn Γ) 8) (rfl : vwCl[10]? = _) (kX8_thrown h) mvX8_thrown lk_L_175 ⟨Nat.le_of_ble_eq_true rfl, Nat.le_of_ble_eq_true rfl⟩ rfl hl.1 rfl (Nat.le_of_ble_eq_true rfl) dL_law_504 ⟨rmC (cc := cc) (a := 4) hC (Nat.le_of_ble_eq_true rfl), rmS (ss := ss) (a := 24) hS (Nat.le_of_ble_eq_true rfl)⟩) (fun v5 H locs hf hw => ?_)
  refine lv_iload hx hb dL_law_507 (lv_at hl 1 rfl) ?_
  refine q_ic_eq (tgt := 514) hx hb hf dL_law_509 (by decide) (fun hf => ?_) (fun hf => ?_)
  · refine lv_iload hx hb dL_law_514 (lv_at hl 1 rfl) ?_
    refine q_if_ne (tgt := 531) hx hb hf dL_law_516 (by decide) (fun hf => ?_) (fun hf => ?_)
    · refine lv_goto (tgt := 3387) hx hb dL_law_531 (by decide) ?_
      exact W.widen (k := cc + 16) (n := ss + 256) (Nat.add_le_add_left (Nat.le_of_ble_eq_true rfl : 4 ≤ 16) cc) (Nat.add_le_add_left (Nat.le_of_ble_eq_true rfl : 24 ≤ 256) ss) (kk _ _ _ _ hf hw (lv_sub hl [2, 3, 4, 5, 6, 7] rfl))
    refine lv_aload_n hx hb dL_law_519 rfl (lv_at hl 5 rfl) ?_
    refine lv_iconst (v := 0) hx hb dL_law_520 (by decide) ?_
    refine q_lalo0 hx hb hK hw dL_law_521 ?_
    refine lv_iload hx hb dL_law_522 (lv_at hl 0 rfl) ?_
    refine lv_i2l hx hb dL_law_524 rfl ?_
    refine W.lcmp hx hb dL_law_525 ?_
    refine q_if_eq (tgt := 531) hx hb hf dL_law_526 (by decide) (fun hf => ?_) (fun hf => ?_)
    · refine lv_goto (tgt := 3387) hx hb dL_law_531 (by decide) ?_
      exact W.widen (k := cc + 16) (n := ss + 256) (Nat.add_le_add_left (Nat.le_of_ble_eq_true rfl : 4 ≤ 16) cc) (Nat.add_le_add_left (Nat.le_of_ble_eq_true rfl : 24 ≤ 256) ss) (kk _ _ _ _ hf hw (lv_sub hl [2, 3, 4, 5, 6, 7] rfl))
    refine lv_iconst (v := 0) hx hb dL_law_529 (by decide) ?_
    exact nomatch hf
  refine lv_iconst (v := 0) hx hb dL_law_512 (by decide) ?_
  exact nomatch hf
set_option maxRecDepth 100000 in
theorem cs_3 {p : Program} {l : Launch} {e : Env} {s : State} {m : MethodId} {args : Array Value} {below : List Frame} {meth : Method} {c : Code} {H : Heap} {locs : List Loc} {Q : State → Prop} {ls : Array Slot} {Γ : Gm} {b L N cc ss : Nat} {xs : Nat → Int32} {σ τ : St} {i : Int32} (hfl : l.stackTraces = false) (X : Fx p c cL_law 9 s m RL) (hK : KK Γ STR s.heap.size s) (hL : LX Γ s b L xs) (hC : cc + 16 ≤ 603072) (hS : ss + 256 ≤ 7223402) (hf : g_3 N xs L σ i = some (true, τ)) (hw : Sit Γ σ s H locs) (hl : lv_has ls 9 [(0, .ref b), (1, .ref (ga Γ 0 0)), (2, .ref (ga Γ 8 0)), (3, .ref (ga Γ 180 0)), (4, .ref (ga Γ 181 0)), (5, .int i)])
    (kk : ∀ (τ2 : St) (H : Heap) (locs : List Loc) (ls : Array Slot), some (true, τ2) = some (true, τ) → Sit Γ τ2 s H locs → lv_has ls 9 [(0, .ref b), (1, .ref (ga Γ 0 0)), (2, .ref (ga Γ 8 0)), (3, .ref (ga Γ 180 0)), (4, .ref (ga Γ 181 0)), (5, .int i)] → W p l e room_1 s m args below meth c H locs (cc + 16) (ss + 256) Q (F0 m 3387 ls [])) : W p l e room_1 s m args below meth c H locs cc ss Q (F0 m 534 ls []) := by
  unfold g_3 at hf
  have hx := X.1
  have hb := X.2.1
  refine lv_aload_n hx hb dL_law_534 rfl (lv_at hl 1 rfl) ?_
  refine lv_aload_n hx hb dL_law_535 rfl (lv_at hl 0 rfl) ?_
  refine lv_iload hx hb dL_law_536 (lv_at hl 5 rfl) ?_
  refine lv_iconst (v := 1) hx hb dL_law_538 (by decide) ?_
  refine lv_iadd hx hb dL_law_539 ?_
  refine q_sld hx hb hL hw hf dL_law_540 (fun hf => ?_)
  refine lv_aload_n hx hb dL_law_541 rfl (lv_at hl 0 rfl) ?_
  refine lv_iload hx hb dL_law_542 (lv_at hl 5 rfl) ?_
  refine lv_iconst (v := 2) hx hb dL_law_544 (by decide) ?_
  refine lv_iadd hx hb dL_law_545 ?_
  refine q_sld hx hb hL hw hf dL_law_546 (fun hf => ?_)
  refine lv_aload_n hx hb dL_law_547 rfl (lv_at hl 3 rfl) ?_
  refine q_eI hf hw (fun v τ h => q_rW (As := [.ref (ga Γ 0 0), .int (xs (Int32.toNatClampNeg (i + (1 : Int32)))), .int (xs (Int32.toNatClampNeg (i + (2 : Int32)))), .ref (ga Γ 180 0)]) (rest := []) X hK hw (kL_lower hfl h) mwL_lower lk_L_187 ⟨Nat.le_of_ble_eq_true rfl, Nat.le_of_ble_eq_true rfl⟩ rfl hl.1 rfl (Nat.le_of_ble_eq_true rfl) dL_law_548 ⟨rmC (cc := cc) (a := 4) hC (Nat.le_of_ble_eq_true rfl), rmS (ss := ss) (a := 24) hS (Nat.le_of_ble_eq_true rfl)⟩) (fun v2 σ1 H locs hf hw => ?_)
  refine lv_istore (lv' := [(6, .int v2), (0, .ref b), (1, .ref (ga Γ 0 0)), (2, .ref (ga Γ 8 0)), (3, .ref (ga Γ 180 0)), (4, .ref (ga Γ 181 0)), (5, .int i)]) hx hb dL_law_551 hl (by decide) rfl (fun ls hl => ?_)
  refine lv_aload_n hx hb dL_law_553 rfl (lv_at hl 3 rfl) ?_
  refine lv_aload_n hx hb dL_law_554 rfl (lv_at hl 1 rfl) ?_
  refine lv_iload hx hb dL_law_555 (lv_at hl 6 rfl) ?_
  refine lv_iconst (v := 1) hx hb dL_law_557 (by decide) ?_
  refine lv_iadd hx hb dL_law_558 ?_
  refine q_sld hx hb hL hw hf dL_law_559 (fun hf => ?_)
  refine lv_aload_n hx hb dL_law_560 rfl (lv_at hl 1 rfl) ?_
  refine lv_iload hx hb dL_law_561 (lv_at hl 6 rfl) ?_
  refine lv_iconst (v := 2) hx hb dL_law_563 (by decide) ?_
  refine lv_iadd hx hb dL_law_564 ?_
  refine q_sld hx hb hL hw hf dL_law_565 (fun hf => ?_)
  refine q_eI hf hw (fun v τ h => q_rV (As := [.int (xs (Int32.toNatClampNeg (i + (1 : Int32)))), .int (xs (Int32.toNatClampNeg (i + (2 : Int32))))]) (rest := []) (q := (RX8, TX8, 32)) X hK hw rfl (Nat.le_of_ble_eq_true rfl : 0 < cnt (gn Γ) 8) (rfl : vwCl[10]? = _) (kX8_lower h) mvX8_lower lk_L_189 ⟨Nat.le_of_ble_eq_true rfl, Nat.le_of_ble_eq_true rfl⟩ rfl hl.1 rfl (Nat.le_of_ble_eq_true rfl) dL_law_566 ⟨rmC (cc := cc) (a := 4) hC (Nat.le_of_ble_eq_true rfl), rmS (ss := ss) (a := 24) hS (Nat.le_of_ble_eq_true rfl)⟩) (fun v4 σ3 H locs hf hw => ?_)
  refine lv_istore (lv' := [(7, .int v4), (6, .int v2), (0, .ref b), (1, .ref (ga Γ 0 0)), (2, .ref (ga Γ 8 0)), (3, .ref (ga Γ 180 0)), (4, .ref (ga Γ 181 0)), (5, .int i)]) hx hb dL_law_569 hl (by decide) rfl (fun ls hl => ?_)
  refine lv_aload_n hx hb dL_law_571 rfl (lv_at hl 4 rfl) ?_
  refine q_pI hf hw (fun v h => q_rV (As := []) (rest := []) (q := (RX8, TX8, 32)) X hK hw rfl (Nat.le_of_ble_eq_true rfl : 0 < cnt (gn Γ) 8) (rfl : vwCl[10]? = _) (kX8_thrown h) mvX8_thrown lk_L_175 ⟨Nat.le_of_ble_eq_true rfl, Nat.le_of_ble_eq_true rfl⟩ rfl hl.1 rfl (Nat.le_of_ble_eq_true rfl) dL_law_572 ⟨rmC (cc := cc) (a := 4) hC (Nat.le_of_ble_eq_true rfl), rmS (ss := ss) (a := 24) hS (Nat.le_of_ble_eq_true rfl)⟩) (fun v5 H locs hf hw => ?_)
  refine lv_iload hx hb dL_law_575 (lv_at hl 1 rfl) ?_
  refine q_ic_eq (tgt := 582) hx hb hf dL_law_577 (by decide) (fun hf => ?_) (fun hf => ?_)
  · refine lv_iload hx hb dL_law_582 (lv_at hl 1 rfl) ?_
    refine q_if_ne (tgt := 599) hx hb hf dL_law_584 (by decide) (fun hf => ?_) (fun hf => ?_)
    · refine lv_goto (tgt := 3387) hx hb dL_law_599 (by decide) ?_
      exact W.widen (k := cc + 16) (n := ss + 256) (Nat.add_le_add_left (Nat.le_of_ble_eq_true rfl : 4 ≤ 16) cc) (Nat.add_le_add_left (Nat.le_of_ble_eq_true rfl : 24 ≤ 256) ss) (kk _ _ _ _ hf hw (lv_sub hl [2, 3, 4, 5, 6, 7] rfl))
    refine lv_aload_n hx hb dL_law_587 rfl (lv_at hl 5 rfl) ?_
    refine lv_iconst (v := 0) hx hb dL_law_588 (by decide) ?_
    refine q_lalo0 hx hb hK hw dL_law_589 ?_
    refine lv_iload hx hb dL_law_590 (lv_at hl 0 rfl) ?_
    refine lv_i2l hx hb dL_law_592 rfl ?_
    refine W.lcmp hx hb dL_law_593 ?_
    refine q_if_eq (tgt := 599) hx hb hf dL_law_594 (by decide) (fun hf => ?_) (fun hf => ?_)
    · refine lv_goto (tgt := 3387) hx hb dL_law_599 (by decide) ?_
      exact W.widen (k := cc + 16) (n := ss + 256) (Nat.add_le_add_left (Nat.le_of_ble_eq_true rfl : 4 ≤ 16) cc) (Nat.add_le_add_left (Nat.le_of_ble_eq_true rfl : 24 ≤ 256) ss) (kk _ _ _ _ hf hw (lv_sub hl [2, 3, 4, 5, 6, 7] rfl))
    refine lv_iconst (v := 0) hx hb dL_law_597 (by decide) ?_
    exact nomatch hf
  refine lv_iconst (v := 0) hx hb dL_law_580 (by decide) ?_
  exact nomatch hf
set_option maxRecDepth 100000 in
theorem cs_4 {p : Program} {l : Launch} {e : Env} {s : State} {m : MethodId} {args : Array Value} {below : List Frame} {meth : Method} {c : Code} {H : Heap} {locs : List Loc} {Q : State → Prop} {ls : Array Slot} {Γ : Gm} {b L N cc ss : Nat} {xs : Nat → Int32} {σ τ : St} {i : Int32} (hfl : l.stackTraces = false) (X : Fx p c cL_law 9 s m RL) (hK : KK Γ STR s.heap.size s) (hL : LX Γ s b L xs) (hC : cc + 16 ≤ 603072) (hS : ss + 256 ≤ 7223402) (hf : g_4 N xs L σ i = some (true, τ)) (hw : Sit Γ σ s H locs) (hl : lv_has ls 9 [(0, .ref b), (1, .ref (ga Γ 0 0)), (2, .ref (ga Γ 8 0)), (3, .ref (ga Γ 180 0)), (4, .ref (ga Γ 181 0)), (5, .int i)])
    (kk : ∀ (τ2 : St) (H : Heap) (locs : List Loc) (ls : Array Slot), some (true, τ2) = some (true, τ) → Sit Γ τ2 s H locs → lv_has ls 9 [(0, .ref b), (1, .ref (ga Γ 0 0)), (2, .ref (ga Γ 8 0)), (3, .ref (ga Γ 180 0)), (4, .ref (ga Γ 181 0)), (5, .int i)] → W p l e room_1 s m args below meth c H locs (cc + 16) (ss + 256) Q (F0 m 3387 ls [])) : W p l e room_1 s m args below meth c H locs cc ss Q (F0 m 602 ls []) := by
  unfold g_4 at hf
  have hx := X.1
  have hb := X.2.1
  refine lv_aload_n hx hb dL_law_602 rfl (lv_at hl 1 rfl) ?_
  refine lv_aload_n hx hb dL_law_603 rfl (lv_at hl 0 rfl) ?_
  refine lv_iload hx hb dL_law_604 (lv_at hl 5 rfl) ?_
  refine lv_iconst (v := 1) hx hb dL_law_606 (by decide) ?_
  refine lv_iadd hx hb dL_law_607 ?_
  refine q_sld hx hb hL hw hf dL_law_608 (fun hf => ?_)
  refine lv_aload_n hx hb dL_law_609 rfl (lv_at hl 0 rfl) ?_
  refine lv_iload hx hb dL_law_610 (lv_at hl 5 rfl) ?_
  refine lv_iconst (v := 2) hx hb dL_law_612 (by decide) ?_
  refine lv_iadd hx hb dL_law_613 ?_
  refine q_sld hx hb hL hw hf dL_law_614 (fun hf => ?_)
  refine lv_aload_n hx hb dL_law_615 rfl (lv_at hl 0 rfl) ?_
  refine lv_iload hx hb dL_law_616 (lv_at hl 5 rfl) ?_
  refine lv_iconst (v := 3) hx hb dL_law_618 (by decide) ?_
  refine lv_iadd hx hb dL_law_619 ?_
  refine q_sld hx hb hL hw hf dL_law_620 (fun hf => ?_)
  refine lv_aload_n hx hb dL_law_621 rfl (lv_at hl 3 rfl) ?_
  refine q_eI hf hw (fun v τ h => q_rW (As := [.ref (ga Γ 0 0), .int (xs (Int32.toNatClampNeg (i + (1 : Int32)))), .int (xs (Int32.toNatClampNeg (i + (2 : Int32)))), .int (xs (Int32.toNatClampNeg (i + (3 : Int32)))), .ref (ga Γ 180 0)]) (rest := []) X hK hw (kL_putAbove hfl h) mwL_putAbove lk_L_190 ⟨Nat.le_of_ble_eq_true rfl, Nat.le_of_ble_eq_true rfl⟩ rfl hl.1 rfl (Nat.le_of_ble_eq_true rfl) dL_law_622 ⟨rmC (cc := cc) (a := 7) hC (Nat.le_of_ble_eq_true rfl), rmS (ss := ss) (a := 42) hS (Nat.le_of_ble_eq_true rfl)⟩) (fun v2 σ1 H locs hf hw => ?_)
  refine lv_istore (lv' := [(6, .int v2), (0, .ref b), (1, .ref (ga Γ 0 0)), (2, .ref (ga Γ 8 0)), (3, .ref (ga Γ 180 0)), (4, .ref (ga Γ 181 0)), (5, .int i)]) hx hb dL_law_625 hl (by decide) rfl (fun ls hl => ?_)
  refine lv_aload_n hx hb dL_law_627 rfl (lv_at hl 3 rfl) ?_
  refine lv_aload_n hx hb dL_law_628 rfl (lv_at hl 1 rfl) ?_
  refine lv_iload hx hb dL_law_629 (lv_at hl 6 rfl) ?_
  refine lv_iconst (v := 1) hx hb dL_law_631 (by decide) ?_
  refine lv_iadd hx hb dL_law_632 ?_
  refine q_sld hx hb hL hw hf dL_law_633 (fun hf => ?_)
  refine lv_aload_n hx hb dL_law_634 rfl (lv_at hl 1 rfl) ?_
  refine lv_iload hx hb dL_law_635 (lv_at hl 6 rfl) ?_
  refine lv_iconst (v := 2) hx hb dL_law_637 (by decide) ?_
  refine lv_iadd hx hb dL_law_638 ?_
  refine q_sld hx hb hL hw hf dL_law_639 (fun hf => ?_)
  refine lv_aload_n hx hb dL_law_640 rfl (lv_at hl 1 rfl) ?_
  refine lv_iload hx hb dL_law_641 (lv_at hl 6 rfl) ?_
  refine lv_iconst (v := 3) hx hb dL_law_643 (by decide) ?_
  refine lv_iadd hx hb dL_law_644 ?_
  refine q_sld hx hb hL hw hf dL_law_645 (fun hf => ?_)
  refine q_eI hf hw (fun v τ h => q_rV (As := [.int (xs (Int32.toNatClampNeg (i + (1 : Int32)))), .int (xs (Int32.toNatClampNeg (i + (2 : Int32)))), .int (xs (Int32.toNatClampNeg (i + (3 : Int32))))]) (rest := []) (q := (RX8, TX8, 32)) X hK hw rfl (Nat.le_of_ble_eq_true rfl : 0 < cnt (gn Γ) 8) (rfl : vwCl[10]? = _) (kX8_putAbove h) mvX8_putAbove lk_L_193 ⟨Nat.le_of_ble_eq_true rfl, Nat.le_of_ble_eq_true rfl⟩ rfl hl.1 rfl (Nat.le_of_ble_eq_true rfl) dL_law_646 ⟨rmC (cc := cc) (a := 7) hC (Nat.le_of_ble_eq_true rfl), rmS (ss := ss) (a := 42) hS (Nat.le_of_ble_eq_true rfl)⟩) (fun v4 σ3 H locs hf hw => ?_)
  refine lv_istore (lv' := [(7, .int v4), (6, .int v2), (0, .ref b), (1, .ref (ga Γ 0 0)), (2, .ref (ga Γ 8 0)), (3, .ref (ga Γ 180 0)), (4, .ref (ga Γ 181 0)), (5, .int i)]) hx hb dL_law_649 hl (by decide) rfl (fun ls hl => ?_)
  refine lv_aload_n hx hb dL_law_651 rfl (lv_at hl 4 rfl) ?_
  refine q_pI hf hw (fun v h => q_rV (As := []) (rest := []) (q := (RX8, TX8, 32)) X hK hw rfl (Nat.le_of_ble_eq_true rfl : 0 < cnt (gn Γ) 8) (rfl : vwCl[10]? = _) (kX8_thrown h) mvX8_thrown lk_L_175 ⟨Nat.le_of_ble_eq_true rfl, Nat.le_of_ble_eq_true rfl⟩ rfl hl.1 rfl (Nat.le_of_ble_eq_true rfl) dL_law_652 ⟨rmC (cc := cc) (a := 7) hC (Nat.le_of_ble_eq_true rfl), rmS (ss := ss) (a := 42) hS (Nat.le_of_ble_eq_true rfl)⟩) (fun v5 H locs hf hw => ?_)
  refine lv_iload hx hb dL_law_655 (lv_at hl 1 rfl) ?_
  refine q_ic_eq (tgt := 662) hx hb hf dL_law_657 (by decide) (fun hf => ?_) (fun hf => ?_)
  · refine lv_iload hx hb dL_law_662 (lv_at hl 1 rfl) ?_
    refine q_if_ne (tgt := 679) hx hb hf dL_law_664 (by decide) (fun hf => ?_) (fun hf => ?_)
    · refine lv_goto (tgt := 3387) hx hb dL_law_679 (by decide) ?_
      exact W.widen (k := cc + 16) (n := ss + 256) (Nat.add_le_add_left (Nat.le_of_ble_eq_true rfl : 7 ≤ 16) cc) (Nat.add_le_add_left (Nat.le_of_ble_eq_true rfl : 42 ≤ 256) ss) (kk _ _ _ _ hf hw (lv_sub hl [2, 3, 4, 5, 6, 7] rfl))
    refine lv_aload_n hx hb dL_law_667 rfl (lv_at hl 5 rfl) ?_
    refine lv_iconst (v := 0) hx hb dL_law_668 (by decide) ?_
    refine q_lalo0 hx hb hK hw dL_law_669 ?_
    refine lv_iload hx hb dL_law_670 (lv_at hl 0 rfl) ?_
    refine lv_i2l hx hb dL_law_672 rfl ?_
    refine W.lcmp hx hb dL_law_673 ?_
    refine q_if_eq (tgt := 679) hx hb hf dL_law_674 (by decide) (fun hf => ?_) (fun hf => ?_)
    · refine lv_goto (tgt := 3387) hx hb dL_law_679 (by decide) ?_
      exact W.widen (k := cc + 16) (n := ss + 256) (Nat.add_le_add_left (Nat.le_of_ble_eq_true rfl : 7 ≤ 16) cc) (Nat.add_le_add_left (Nat.le_of_ble_eq_true rfl : 42 ≤ 256) ss) (kk _ _ _ _ hf hw (lv_sub hl [2, 3, 4, 5, 6, 7] rfl))
    refine lv_iconst (v := 0) hx hb dL_law_677 (by decide) ?_
    exact nomatch hf
  refine lv_iconst (v := 0) hx hb dL_law_660 (by decide) ?_
  exact nomatch hf
set_option maxRecDepth 100000 in
theorem cs_5 {p : Program} {l : Launch} {e : Env} {s : State} {m : MethodId} {args : Array Value} {below : List Frame} {meth : Method} {c : Code} {H : Heap} {locs : List Loc} {Q : State → Prop} {ls : Array Slot} {Γ : Gm} {b L N cc ss : Nat} {xs : Nat → Int32} {σ τ : St} {i : Int32} (hfl : l.stackTraces = false) (X : Fx p c cL_law 9 s m RL) (hK : KK Γ STR s.heap.size s) (hL : LX Γ s b L xs) (hC : cc + 16 ≤ 603072) (hS : ss + 256 ≤ 7223402) (hf : g_5 N xs L σ i = some (true, τ)) (hw : Sit Γ σ s H locs) (hl : lv_has ls 9 [(0, .ref b), (1, .ref (ga Γ 0 0)), (2, .ref (ga Γ 8 0)), (3, .ref (ga Γ 180 0)), (4, .ref (ga Γ 181 0)), (5, .int i)])
    (kk : ∀ (τ2 : St) (H : Heap) (locs : List Loc) (ls : Array Slot), some (true, τ2) = some (true, τ) → Sit Γ τ2 s H locs → lv_has ls 9 [(0, .ref b), (1, .ref (ga Γ 0 0)), (2, .ref (ga Γ 8 0)), (3, .ref (ga Γ 180 0)), (4, .ref (ga Γ 181 0)), (5, .int i)] → W p l e room_1 s m args below meth c H locs (cc + 16) (ss + 256) Q (F0 m 3387 ls [])) : W p l e room_1 s m args below meth c H locs cc ss Q (F0 m 682 ls []) := by
  unfold g_5 at hf
  have hx := X.1
  have hb := X.2.1
  refine lv_aload_n hx hb dL_law_682 rfl (lv_at hl 1 rfl) ?_
  refine lv_aload_n hx hb dL_law_683 rfl (lv_at hl 0 rfl) ?_
  refine lv_iload hx hb dL_law_684 (lv_at hl 5 rfl) ?_
  refine lv_iconst (v := 1) hx hb dL_law_686 (by decide) ?_
  refine lv_iadd hx hb dL_law_687 ?_
  refine q_sld hx hb hL hw hf dL_law_688 (fun hf => ?_)
  refine lv_aload_n hx hb dL_law_689 rfl (lv_at hl 0 rfl) ?_
  refine lv_iload hx hb dL_law_690 (lv_at hl 5 rfl) ?_
  refine lv_iconst (v := 2) hx hb dL_law_692 (by decide) ?_
  refine lv_iadd hx hb dL_law_693 ?_
  refine q_sld hx hb hL hw hf dL_law_694 (fun hf => ?_)
  refine lv_aload_n hx hb dL_law_695 rfl (lv_at hl 3 rfl) ?_
  refine q_eI hf hw (fun v τ h => q_rW (As := [.ref (ga Γ 0 0), .int (xs (Int32.toNatClampNeg (i + (1 : Int32)))), .int (xs (Int32.toNatClampNeg (i + (2 : Int32)))), .ref (ga Γ 180 0)]) (rest := []) X hK hw (kL_remove hfl h) mwL_remove lk_L_194 ⟨Nat.le_of_ble_eq_true rfl, Nat.le_of_ble_eq_true rfl⟩ rfl hl.1 rfl (Nat.le_of_ble_eq_true rfl) dL_law_696 ⟨rmC (cc := cc) (a := 4) hC (Nat.le_of_ble_eq_true rfl), rmS (ss := ss) (a := 24) hS (Nat.le_of_ble_eq_true rfl)⟩) (fun v2 σ1 H locs hf hw => ?_)
  refine lv_istore (lv' := [(6, .int v2), (0, .ref b), (1, .ref (ga Γ 0 0)), (2, .ref (ga Γ 8 0)), (3, .ref (ga Γ 180 0)), (4, .ref (ga Γ 181 0)), (5, .int i)]) hx hb dL_law_699 hl (by decide) rfl (fun ls hl => ?_)
  refine lv_aload_n hx hb dL_law_701 rfl (lv_at hl 3 rfl) ?_
  refine lv_aload_n hx hb dL_law_702 rfl (lv_at hl 1 rfl) ?_
  refine lv_iload hx hb dL_law_703 (lv_at hl 6 rfl) ?_
  refine lv_iconst (v := 1) hx hb dL_law_705 (by decide) ?_
  refine lv_iadd hx hb dL_law_706 ?_
  refine q_sld hx hb hL hw hf dL_law_707 (fun hf => ?_)
  refine lv_aload_n hx hb dL_law_708 rfl (lv_at hl 1 rfl) ?_
  refine lv_iload hx hb dL_law_709 (lv_at hl 6 rfl) ?_
  refine lv_iconst (v := 2) hx hb dL_law_711 (by decide) ?_
  refine lv_iadd hx hb dL_law_712 ?_
  refine q_sld hx hb hL hw hf dL_law_713 (fun hf => ?_)
  refine q_eI hf hw (fun v τ h => q_rV (As := [.int (xs (Int32.toNatClampNeg (i + (1 : Int32)))), .int (xs (Int32.toNatClampNeg (i + (2 : Int32))))]) (rest := []) (q := (RX8, TX8, 32)) X hK hw rfl (Nat.le_of_ble_eq_true rfl : 0 < cnt (gn Γ) 8) (rfl : vwCl[10]? = _) (kX8_remove h) mvX8_remove lk_L_196 ⟨Nat.le_of_ble_eq_true rfl, Nat.le_of_ble_eq_true rfl⟩ rfl hl.1 rfl (Nat.le_of_ble_eq_true rfl) dL_law_714 ⟨rmC (cc := cc) (a := 4) hC (Nat.le_of_ble_eq_true rfl), rmS (ss := ss) (a := 24) hS (Nat.le_of_ble_eq_true rfl)⟩) (fun v4 σ3 H locs hf hw => ?_)
  refine lv_istore (lv' := [(7, .int v4), (6, .int v2), (0, .ref b), (1, .ref (ga Γ 0 0)), (2, .ref (ga Γ 8 0)), (3, .ref (ga Γ 180 0)), (4, .ref (ga Γ 181 0)), (5, .int i)]) hx hb dL_law_717 hl (by decide) rfl (fun ls hl => ?_)
  refine lv_aload_n hx hb dL_law_719 rfl (lv_at hl 4 rfl) ?_
  refine q_pI hf hw (fun v h => q_rV (As := []) (rest := []) (q := (RX8, TX8, 32)) X hK hw rfl (Nat.le_of_ble_eq_true rfl : 0 < cnt (gn Γ) 8) (rfl : vwCl[10]? = _) (kX8_thrown h) mvX8_thrown lk_L_175 ⟨Nat.le_of_ble_eq_true rfl, Nat.le_of_ble_eq_true rfl⟩ rfl hl.1 rfl (Nat.le_of_ble_eq_true rfl) dL_law_720 ⟨rmC (cc := cc) (a := 4) hC (Nat.le_of_ble_eq_true rfl), rmS (ss := ss) (a := 24) hS (Nat.le_of_ble_eq_true rfl)⟩) (fun v5 H locs hf hw => ?_)
  refine lv_iload hx hb dL_law_723 (lv_at hl 1 rfl) ?_
  refine q_ic_eq (tgt := 730) hx hb hf dL_law_725 (by decide) (fun hf => ?_) (fun hf => ?_)
  · refine lv_iload hx hb dL_law_730 (lv_at hl 1 rfl) ?_
    refine q_if_ne (tgt := 747) hx hb hf dL_law_732 (by decide) (fun hf => ?_) (fun hf => ?_)
    · refine lv_goto (tgt := 3387) hx hb dL_law_747 (by decide) ?_
      exact W.widen (k := cc + 16) (n := ss + 256) (Nat.add_le_add_left (Nat.le_of_ble_eq_true rfl : 4 ≤ 16) cc) (Nat.add_le_add_left (Nat.le_of_ble_eq_true rfl : 24 ≤ 256) ss) (kk _ _ _ _ hf hw (lv_sub hl [2, 3, 4, 5, 6, 7] rfl))
    refine lv_aload_n hx hb dL_law_735 rfl (lv_at hl 5 rfl) ?_
    refine lv_iconst (v := 0) hx hb dL_law_736 (by decide) ?_
    refine q_lalo0 hx hb hK hw dL_law_737 ?_
    refine lv_iload hx hb dL_law_738 (lv_at hl 0 rfl) ?_
    refine lv_i2l hx hb dL_law_740 rfl ?_
    refine W.lcmp hx hb dL_law_741 ?_
    refine q_if_eq (tgt := 747) hx hb hf dL_law_742 (by decide) (fun hf => ?_) (fun hf => ?_)
    · refine lv_goto (tgt := 3387) hx hb dL_law_747 (by decide) ?_
      exact W.widen (k := cc + 16) (n := ss + 256) (Nat.add_le_add_left (Nat.le_of_ble_eq_true rfl : 4 ≤ 16) cc) (Nat.add_le_add_left (Nat.le_of_ble_eq_true rfl : 24 ≤ 256) ss) (kk _ _ _ _ hf hw (lv_sub hl [2, 3, 4, 5, 6, 7] rfl))
    refine lv_iconst (v := 0) hx hb dL_law_745 (by decide) ?_
    exact nomatch hf
  refine lv_iconst (v := 0) hx hb dL_law_728 (by decide) ?_
  exact nomatch hf
set_option maxRecDepth 100000 in
theorem cs_6 {p : Program} {l : Launch} {e : Env} {s : State} {m : MethodId} {args : Array Value} {below : List Frame} {meth : Method} {c : Code} {H : Heap} {locs : List Loc} {Q : State → Prop} {ls : Array Slot} {Γ : Gm} {b L N cc ss : Nat} {xs : Nat → Int32} {σ τ : St} {i : Int32} (hfl : l.stackTraces = false) (X : Fx p c cL_law 9 s m RL) (hK : KK Γ STR s.heap.size s) (hL : LX Γ s b L xs) (hC : cc + 16 ≤ 603072) (hS : ss + 256 ≤ 7223402) (hf : g_6 N xs L σ i = some (true, τ)) (hw : Sit Γ σ s H locs) (hl : lv_has ls 9 [(0, .ref b), (1, .ref (ga Γ 0 0)), (2, .ref (ga Γ 8 0)), (3, .ref (ga Γ 180 0)), (4, .ref (ga Γ 181 0)), (5, .int i)])
    (kk : ∀ (τ2 : St) (H : Heap) (locs : List Loc) (ls : Array Slot), some (true, τ2) = some (true, τ) → Sit Γ τ2 s H locs → lv_has ls 9 [(0, .ref b), (1, .ref (ga Γ 0 0)), (2, .ref (ga Γ 8 0)), (3, .ref (ga Γ 180 0)), (4, .ref (ga Γ 181 0)), (5, .int i)] → W p l e room_1 s m args below meth c H locs (cc + 16) (ss + 256) Q (F0 m 3387 ls [])) : W p l e room_1 s m args below meth c H locs cc ss Q (F0 m 750 ls []) := by
  unfold g_6 at hf
  have hx := X.1
  have hb := X.2.1
  refine lv_aload_n hx hb dL_law_750 rfl (lv_at hl 1 rfl) ?_
  refine lv_aload_n hx hb dL_law_751 rfl (lv_at hl 0 rfl) ?_
  refine lv_iload hx hb dL_law_752 (lv_at hl 5 rfl) ?_
  refine lv_iconst (v := 1) hx hb dL_law_754 (by decide) ?_
  refine lv_iadd hx hb dL_law_755 ?_
  refine q_sld hx hb hL hw hf dL_law_756 (fun hf => ?_)
  refine lv_aload_n hx hb dL_law_757 rfl (lv_at hl 0 rfl) ?_
  refine lv_iload hx hb dL_law_758 (lv_at hl 5 rfl) ?_
  refine lv_iconst (v := 2) hx hb dL_law_760 (by decide) ?_
  refine lv_iadd hx hb dL_law_761 ?_
  refine q_sld hx hb hL hw hf dL_law_762 (fun hf => ?_)
  refine lv_aload_n hx hb dL_law_763 rfl (lv_at hl 3 rfl) ?_
  refine q_eI hf hw (fun v τ h => q_rW (As := [.ref (ga Γ 0 0), .int (xs (Int32.toNatClampNeg (i + (1 : Int32)))), .int (xs (Int32.toNatClampNeg (i + (2 : Int32)))), .ref (ga Γ 180 0)]) (rest := []) X hK hw (kL_lock hfl h) mwL_lock lk_L_197 ⟨Nat.le_of_ble_eq_true rfl, Nat.le_of_ble_eq_true rfl⟩ rfl hl.1 rfl (Nat.le_of_ble_eq_true rfl) dL_law_764 ⟨rmC (cc := cc) (a := 4) hC (Nat.le_of_ble_eq_true rfl), rmS (ss := ss) (a := 24) hS (Nat.le_of_ble_eq_true rfl)⟩) (fun v2 σ1 H locs hf hw => ?_)
  refine lv_istore (lv' := [(6, .int v2), (0, .ref b), (1, .ref (ga Γ 0 0)), (2, .ref (ga Γ 8 0)), (3, .ref (ga Γ 180 0)), (4, .ref (ga Γ 181 0)), (5, .int i)]) hx hb dL_law_767 hl (by decide) rfl (fun ls hl => ?_)
  refine lv_aload_n hx hb dL_law_769 rfl (lv_at hl 3 rfl) ?_
  refine lv_aload_n hx hb dL_law_770 rfl (lv_at hl 1 rfl) ?_
  refine lv_iload hx hb dL_law_771 (lv_at hl 6 rfl) ?_
  refine lv_iconst (v := 1) hx hb dL_law_773 (by decide) ?_
  refine lv_iadd hx hb dL_law_774 ?_
  refine q_sld hx hb hL hw hf dL_law_775 (fun hf => ?_)
  refine lv_aload_n hx hb dL_law_776 rfl (lv_at hl 1 rfl) ?_
  refine lv_iload hx hb dL_law_777 (lv_at hl 6 rfl) ?_
  refine lv_iconst (v := 2) hx hb dL_law_779 (by decide) ?_
  refine lv_iadd hx hb dL_law_780 ?_
  refine q_sld hx hb hL hw hf dL_law_781 (fun hf => ?_)
  refine q_eI hf hw (fun v τ h => q_rV (As := [.int (xs (Int32.toNatClampNeg (i + (1 : Int32)))), .int (xs (Int32.toNatClampNeg (i + (2 : Int32))))]) (rest := []) (q := (RX8, TX8, 32)) X hK hw rfl (Nat.le_of_ble_eq_true rfl : 0 < cnt (gn Γ) 8) (rfl : vwCl[10]? = _) (kX8_lock h) mvX8_lock lk_L_199 ⟨Nat.le_of_ble_eq_true rfl, Nat.le_of_ble_eq_true rfl⟩ rfl hl.1 rfl (Nat.le_of_ble_eq_true rfl) dL_law_782 ⟨rmC (cc := cc) (a := 4) hC (Nat.le_of_ble_eq_true rfl), rmS (ss := ss) (a := 24) hS (Nat.le_of_ble_eq_true rfl)⟩) (fun v4 σ3 H locs hf hw => ?_)
  refine lv_istore (lv' := [(7, .int v4), (6, .int v2), (0, .ref b), (1, .ref (ga Γ 0 0)), (2, .ref (ga Γ 8 0)), (3, .ref (ga Γ 180 0)), (4, .ref (ga Γ 181 0)), (5, .int i)]) hx hb dL_law_785 hl (by decide) rfl (fun ls hl => ?_)
  refine lv_aload_n hx hb dL_law_787 rfl (lv_at hl 4 rfl) ?_
  refine q_pI hf hw (fun v h => q_rV (As := []) (rest := []) (q := (RX8, TX8, 32)) X hK hw rfl (Nat.le_of_ble_eq_true rfl : 0 < cnt (gn Γ) 8) (rfl : vwCl[10]? = _) (kX8_thrown h) mvX8_thrown lk_L_175 ⟨Nat.le_of_ble_eq_true rfl, Nat.le_of_ble_eq_true rfl⟩ rfl hl.1 rfl (Nat.le_of_ble_eq_true rfl) dL_law_788 ⟨rmC (cc := cc) (a := 4) hC (Nat.le_of_ble_eq_true rfl), rmS (ss := ss) (a := 24) hS (Nat.le_of_ble_eq_true rfl)⟩) (fun v5 H locs hf hw => ?_)
  refine lv_iload hx hb dL_law_791 (lv_at hl 1 rfl) ?_
  refine q_ic_eq (tgt := 798) hx hb hf dL_law_793 (by decide) (fun hf => ?_) (fun hf => ?_)
  · refine lv_iload hx hb dL_law_798 (lv_at hl 1 rfl) ?_
    refine q_if_ne (tgt := 815) hx hb hf dL_law_800 (by decide) (fun hf => ?_) (fun hf => ?_)
    · refine lv_goto (tgt := 3387) hx hb dL_law_815 (by decide) ?_
      exact W.widen (k := cc + 16) (n := ss + 256) (Nat.add_le_add_left (Nat.le_of_ble_eq_true rfl : 4 ≤ 16) cc) (Nat.add_le_add_left (Nat.le_of_ble_eq_true rfl : 24 ≤ 256) ss) (kk _ _ _ _ hf hw (lv_sub hl [2, 3, 4, 5, 6, 7] rfl))
    refine lv_aload_n hx hb dL_law_803 rfl (lv_at hl 5 rfl) ?_
    refine lv_iconst (v := 0) hx hb dL_law_804 (by decide) ?_
    refine q_lalo0 hx hb hK hw dL_law_805 ?_
    refine lv_iload hx hb dL_law_806 (lv_at hl 0 rfl) ?_
    refine lv_i2l hx hb dL_law_808 rfl ?_
    refine W.lcmp hx hb dL_law_809 ?_
    refine q_if_eq (tgt := 815) hx hb hf dL_law_810 (by decide) (fun hf => ?_) (fun hf => ?_)
    · refine lv_goto (tgt := 3387) hx hb dL_law_815 (by decide) ?_
      exact W.widen (k := cc + 16) (n := ss + 256) (Nat.add_le_add_left (Nat.le_of_ble_eq_true rfl : 4 ≤ 16) cc) (Nat.add_le_add_left (Nat.le_of_ble_eq_true rfl : 24 ≤ 256) ss) (kk _ _ _ _ hf hw (lv_sub hl [2, 3, 4, 5, 6, 7] rfl))
    refine lv_iconst (v := 0) hx hb dL_law_813 (by decide) ?_
    exact nomatch hf
  refine lv_iconst (v := 0) hx hb dL_law_796 (by decide) ?_
  exact nomatch hf
set_option maxRecDepth 100000 in
theorem cs_7 {p : Program} {l : Launch} {e : Env} {s : State} {m : MethodId} {args : Array Value} {below : List Frame} {meth : Method} {c : Code} {H : Heap} {locs : List Loc} {Q : State → Prop} {ls : Array Slot} {Γ : Gm} {b L N cc ss : Nat} {xs : Nat → Int32} {σ τ : St} {i : Int32} (hfl : l.stackTraces = false) (X : Fx p c cL_law 9 s m RL) (hK : KK Γ STR s.heap.size s) (hL : LX Γ s b L xs) (hC : cc + 16 ≤ 603072) (hS : ss + 256 ≤ 7223402) (hf : g_7 N xs L σ i = some (true, τ)) (hw : Sit Γ σ s H locs) (hl : lv_has ls 9 [(0, .ref b), (1, .ref (ga Γ 0 0)), (2, .ref (ga Γ 8 0)), (3, .ref (ga Γ 180 0)), (4, .ref (ga Γ 181 0)), (5, .int i)])
    (kk : ∀ (τ2 : St) (H : Heap) (locs : List Loc) (ls : Array Slot), some (true, τ2) = some (true, τ) → Sit Γ τ2 s H locs → lv_has ls 9 [(0, .ref b), (1, .ref (ga Γ 0 0)), (2, .ref (ga Γ 8 0)), (3, .ref (ga Γ 180 0)), (4, .ref (ga Γ 181 0)), (5, .int i)] → W p l e room_1 s m args below meth c H locs (cc + 16) (ss + 256) Q (F0 m 3387 ls [])) : W p l e room_1 s m args below meth c H locs cc ss Q (F0 m 818 ls []) := by
  unfold g_7 at hf
  have hx := X.1
  have hb := X.2.1
  refine lv_aload_n hx hb dL_law_818 rfl (lv_at hl 1 rfl) ?_
  refine lv_aload_n hx hb dL_law_819 rfl (lv_at hl 0 rfl) ?_
  refine lv_iload hx hb dL_law_820 (lv_at hl 5 rfl) ?_
  refine lv_iconst (v := 1) hx hb dL_law_822 (by decide) ?_
  refine lv_iadd hx hb dL_law_823 ?_
  refine q_sld hx hb hL hw hf dL_law_824 (fun hf => ?_)
  refine lv_aload_n hx hb dL_law_825 rfl (lv_at hl 0 rfl) ?_
  refine lv_iload hx hb dL_law_826 (lv_at hl 5 rfl) ?_
  refine lv_iconst (v := 2) hx hb dL_law_828 (by decide) ?_
  refine lv_iadd hx hb dL_law_829 ?_
  refine q_sld hx hb hL hw hf dL_law_830 (fun hf => ?_)
  refine lv_aload_n hx hb dL_law_831 rfl (lv_at hl 3 rfl) ?_
  refine q_eI hf hw (fun v τ h => q_rW (As := [.ref (ga Γ 0 0), .int (xs (Int32.toNatClampNeg (i + (1 : Int32)))), .int (xs (Int32.toNatClampNeg (i + (2 : Int32)))), .ref (ga Γ 180 0)]) (rest := []) X hK hw (kL_unlock hfl h) mwL_unlock lk_L_200 ⟨Nat.le_of_ble_eq_true rfl, Nat.le_of_ble_eq_true rfl⟩ rfl hl.1 rfl (Nat.le_of_ble_eq_true rfl) dL_law_832 ⟨rmC (cc := cc) (a := 4) hC (Nat.le_of_ble_eq_true rfl), rmS (ss := ss) (a := 24) hS (Nat.le_of_ble_eq_true rfl)⟩) (fun v2 σ1 H locs hf hw => ?_)
  refine lv_istore (lv' := [(6, .int v2), (0, .ref b), (1, .ref (ga Γ 0 0)), (2, .ref (ga Γ 8 0)), (3, .ref (ga Γ 180 0)), (4, .ref (ga Γ 181 0)), (5, .int i)]) hx hb dL_law_835 hl (by decide) rfl (fun ls hl => ?_)
  refine lv_aload_n hx hb dL_law_837 rfl (lv_at hl 3 rfl) ?_
  refine lv_aload_n hx hb dL_law_838 rfl (lv_at hl 1 rfl) ?_
  refine lv_iload hx hb dL_law_839 (lv_at hl 6 rfl) ?_
  refine lv_iconst (v := 1) hx hb dL_law_841 (by decide) ?_
  refine lv_iadd hx hb dL_law_842 ?_
  refine q_sld hx hb hL hw hf dL_law_843 (fun hf => ?_)
  refine lv_aload_n hx hb dL_law_844 rfl (lv_at hl 1 rfl) ?_
  refine lv_iload hx hb dL_law_845 (lv_at hl 6 rfl) ?_
  refine lv_iconst (v := 2) hx hb dL_law_847 (by decide) ?_
  refine lv_iadd hx hb dL_law_848 ?_
  refine q_sld hx hb hL hw hf dL_law_849 (fun hf => ?_)
  refine q_eI hf hw (fun v τ h => q_rV (As := [.int (xs (Int32.toNatClampNeg (i + (1 : Int32)))), .int (xs (Int32.toNatClampNeg (i + (2 : Int32))))]) (rest := []) (q := (RX8, TX8, 32)) X hK hw rfl (Nat.le_of_ble_eq_true rfl : 0 < cnt (gn Γ) 8) (rfl : vwCl[10]? = _) (kX8_unlock h) mvX8_unlock lk_L_202 ⟨Nat.le_of_ble_eq_true rfl, Nat.le_of_ble_eq_true rfl⟩ rfl hl.1 rfl (Nat.le_of_ble_eq_true rfl) dL_law_850 ⟨rmC (cc := cc) (a := 4) hC (Nat.le_of_ble_eq_true rfl), rmS (ss := ss) (a := 24) hS (Nat.le_of_ble_eq_true rfl)⟩) (fun v4 σ3 H locs hf hw => ?_)
  refine lv_istore (lv' := [(7, .int v4), (6, .int v2), (0, .ref b), (1, .ref (ga Γ 0 0)), (2, .ref (ga Γ 8 0)), (3, .ref (ga Γ 180 0)), (4, .ref (ga Γ 181 0)), (5, .int i)]) hx hb dL_law_853 hl (by decide) rfl (fun ls hl => ?_)
  refine lv_aload_n hx hb dL_law_855 rfl (lv_at hl 4 rfl) ?_
  refine q_pI hf hw (fun v h => q_rV (As := []) (rest := []) (q := (RX8, TX8, 32)) X hK hw rfl (Nat.le_of_ble_eq_true rfl : 0 < cnt (gn Γ) 8) (rfl : vwCl[10]? = _) (kX8_thrown h) mvX8_thrown lk_L_175 ⟨Nat.le_of_ble_eq_true rfl, Nat.le_of_ble_eq_true rfl⟩ rfl hl.1 rfl (Nat.le_of_ble_eq_true rfl) dL_law_856 ⟨rmC (cc := cc) (a := 4) hC (Nat.le_of_ble_eq_true rfl), rmS (ss := ss) (a := 24) hS (Nat.le_of_ble_eq_true rfl)⟩) (fun v5 H locs hf hw => ?_)
  refine lv_iload hx hb dL_law_859 (lv_at hl 1 rfl) ?_
  refine q_ic_eq (tgt := 866) hx hb hf dL_law_861 (by decide) (fun hf => ?_) (fun hf => ?_)
  · refine lv_iload hx hb dL_law_866 (lv_at hl 1 rfl) ?_
    refine q_if_ne (tgt := 883) hx hb hf dL_law_868 (by decide) (fun hf => ?_) (fun hf => ?_)
    · refine lv_goto (tgt := 3387) hx hb dL_law_883 (by decide) ?_
      exact W.widen (k := cc + 16) (n := ss + 256) (Nat.add_le_add_left (Nat.le_of_ble_eq_true rfl : 4 ≤ 16) cc) (Nat.add_le_add_left (Nat.le_of_ble_eq_true rfl : 24 ≤ 256) ss) (kk _ _ _ _ hf hw (lv_sub hl [2, 3, 4, 5, 6, 7] rfl))
    refine lv_aload_n hx hb dL_law_871 rfl (lv_at hl 5 rfl) ?_
    refine lv_iconst (v := 0) hx hb dL_law_872 (by decide) ?_
    refine q_lalo0 hx hb hK hw dL_law_873 ?_
    refine lv_iload hx hb dL_law_874 (lv_at hl 0 rfl) ?_
    refine lv_i2l hx hb dL_law_876 rfl ?_
    refine W.lcmp hx hb dL_law_877 ?_
    refine q_if_eq (tgt := 883) hx hb hf dL_law_878 (by decide) (fun hf => ?_) (fun hf => ?_)
    · refine lv_goto (tgt := 3387) hx hb dL_law_883 (by decide) ?_
      exact W.widen (k := cc + 16) (n := ss + 256) (Nat.add_le_add_left (Nat.le_of_ble_eq_true rfl : 4 ≤ 16) cc) (Nat.add_le_add_left (Nat.le_of_ble_eq_true rfl : 24 ≤ 256) ss) (kk _ _ _ _ hf hw (lv_sub hl [2, 3, 4, 5, 6, 7] rfl))
    refine lv_iconst (v := 0) hx hb dL_law_881 (by decide) ?_
    exact nomatch hf
  refine lv_iconst (v := 0) hx hb dL_law_864 (by decide) ?_
  exact nomatch hf
set_option maxRecDepth 100000 in
theorem cs_8 {p : Program} {l : Launch} {e : Env} {s : State} {m : MethodId} {args : Array Value} {below : List Frame} {meth : Method} {c : Code} {H : Heap} {locs : List Loc} {Q : State → Prop} {ls : Array Slot} {Γ : Gm} {b L N cc ss : Nat} {xs : Nat → Int32} {σ τ : St} {i : Int32} (hfl : l.stackTraces = false) (X : Fx p c cL_law 9 s m RL) (hK : KK Γ STR s.heap.size s) (hL : LX Γ s b L xs) (hC : cc + 16 ≤ 603072) (hS : ss + 256 ≤ 7223402) (hf : g_8 N xs L σ i = some (true, τ)) (hw : Sit Γ σ s H locs) (hl : lv_has ls 9 [(0, .ref b), (1, .ref (ga Γ 0 0)), (2, .ref (ga Γ 8 0)), (3, .ref (ga Γ 180 0)), (4, .ref (ga Γ 181 0)), (5, .int i)])
    (kk : ∀ (τ2 : St) (H : Heap) (locs : List Loc) (ls : Array Slot), some (true, τ2) = some (true, τ) → Sit Γ τ2 s H locs → lv_has ls 9 [(0, .ref b), (1, .ref (ga Γ 0 0)), (2, .ref (ga Γ 8 0)), (3, .ref (ga Γ 180 0)), (4, .ref (ga Γ 181 0)), (5, .int i)] → W p l e room_1 s m args below meth c H locs (cc + 16) (ss + 256) Q (F0 m 3387 ls [])) : W p l e room_1 s m args below meth c H locs cc ss Q (F0 m 886 ls []) := by
  unfold g_8 at hf
  have hx := X.1
  have hb := X.2.1
  refine lv_aload_n hx hb dL_law_886 rfl (lv_at hl 1 rfl) ?_
  refine lv_aload_n hx hb dL_law_887 rfl (lv_at hl 0 rfl) ?_
  refine lv_iload hx hb dL_law_888 (lv_at hl 5 rfl) ?_
  refine lv_iconst (v := 1) hx hb dL_law_890 (by decide) ?_
  refine lv_iadd hx hb dL_law_891 ?_
  refine q_sld hx hb hL hw hf dL_law_892 (fun hf => ?_)
  refine lv_aload_n hx hb dL_law_893 rfl (lv_at hl 0 rfl) ?_
  refine lv_iload hx hb dL_law_894 (lv_at hl 5 rfl) ?_
  refine lv_iconst (v := 2) hx hb dL_law_896 (by decide) ?_
  refine lv_iadd hx hb dL_law_897 ?_
  refine q_sld hx hb hL hw hf dL_law_898 (fun hf => ?_)
  refine lv_aload_n hx hb dL_law_899 rfl (lv_at hl 0 rfl) ?_
  refine lv_iload hx hb dL_law_900 (lv_at hl 5 rfl) ?_
  refine lv_iconst (v := 3) hx hb dL_law_902 (by decide) ?_
  refine lv_iadd hx hb dL_law_903 ?_
  refine q_sld hx hb hL hw hf dL_law_904 (fun hf => ?_)
  refine lv_i2c hx hb dL_law_905 rfl ?_
  refine lv_aload_n hx hb dL_law_906 rfl (lv_at hl 0 rfl) ?_
  refine lv_iload hx hb dL_law_907 (lv_at hl 5 rfl) ?_
  refine lv_iconst (v := 4) hx hb dL_law_909 (by decide) ?_
  refine lv_iadd hx hb dL_law_910 ?_
  refine q_sld hx hb hL hw hf dL_law_911 (fun hf => ?_)
  refine lv_aload_n hx hb dL_law_912 rfl (lv_at hl 0 rfl) ?_
  refine lv_iload hx hb dL_law_913 (lv_at hl 5 rfl) ?_
  refine lv_iconst (v := 5) hx hb dL_law_915 (by decide) ?_
  refine lv_iadd hx hb dL_law_916 ?_
  refine q_sld hx hb hL hw hf dL_law_917 (fun hf => ?_)
  refine lv_i2c hx hb dL_law_918 rfl ?_
  refine lv_aload_n hx hb dL_law_919 rfl (lv_at hl 3 rfl) ?_
  refine q_eI hf hw (fun v τ h => q_rW (As := [.ref (ga Γ 0 0), .int (xs (Int32.toNatClampNeg (i + (1 : Int32)))), .int (xs (Int32.toNatClampNeg (i + (2 : Int32)))), .int (Int32.toUInt32 (xs (Int32.toNatClampNeg (i + (3 : Int32)))) % 65536).toInt32, .int (xs (Int32.toNatClampNeg (i + (4 : Int32)))), .int (Int32.toUInt32 (xs (Int32.toNatClampNeg (i + (5 : Int32)))) % 65536).toInt32, .ref (ga Γ 180 0)]) (rest := []) X hK hw (kL_connect hfl h) mwL_connect lk_L_203 ⟨Nat.le_of_ble_eq_true rfl, Nat.le_of_ble_eq_true rfl⟩ rfl hl.1 rfl (Nat.le_of_ble_eq_true rfl) dL_law_920 ⟨rmC (cc := cc) (a := 6) hC (Nat.le_of_ble_eq_true rfl), rmS (ss := ss) (a := 36) hS (Nat.le_of_ble_eq_true rfl)⟩) (fun v2 σ1 H locs hf hw => ?_)
  refine lv_istore (lv' := [(6, .int v2), (0, .ref b), (1, .ref (ga Γ 0 0)), (2, .ref (ga Γ 8 0)), (3, .ref (ga Γ 180 0)), (4, .ref (ga Γ 181 0)), (5, .int i)]) hx hb dL_law_923 hl (by decide) rfl (fun ls hl => ?_)
  refine lv_aload_n hx hb dL_law_925 rfl (lv_at hl 3 rfl) ?_
  refine lv_aload_n hx hb dL_law_926 rfl (lv_at hl 1 rfl) ?_
  refine lv_iload hx hb dL_law_927 (lv_at hl 6 rfl) ?_
  refine lv_iconst (v := 1) hx hb dL_law_929 (by decide) ?_
  refine lv_iadd hx hb dL_law_930 ?_
  refine q_sld hx hb hL hw hf dL_law_931 (fun hf => ?_)
  refine lv_aload_n hx hb dL_law_932 rfl (lv_at hl 1 rfl) ?_
  refine lv_iload hx hb dL_law_933 (lv_at hl 6 rfl) ?_
  refine lv_iconst (v := 2) hx hb dL_law_935 (by decide) ?_
  refine lv_iadd hx hb dL_law_936 ?_
  refine q_sld hx hb hL hw hf dL_law_937 (fun hf => ?_)
  refine lv_aload_n hx hb dL_law_938 rfl (lv_at hl 1 rfl) ?_
  refine lv_iload hx hb dL_law_939 (lv_at hl 6 rfl) ?_
  refine lv_iconst (v := 3) hx hb dL_law_941 (by decide) ?_
  refine lv_iadd hx hb dL_law_942 ?_
  refine q_sld hx hb hL hw hf dL_law_943 (fun hf => ?_)
  refine lv_i2c hx hb dL_law_944 rfl ?_
  refine lv_aload_n hx hb dL_law_945 rfl (lv_at hl 1 rfl) ?_
  refine lv_iload hx hb dL_law_946 (lv_at hl 6 rfl) ?_
  refine lv_iconst (v := 4) hx hb dL_law_948 (by decide) ?_
  refine lv_iadd hx hb dL_law_949 ?_
  refine q_sld hx hb hL hw hf dL_law_950 (fun hf => ?_)
  refine lv_aload_n hx hb dL_law_951 rfl (lv_at hl 1 rfl) ?_
  refine lv_iload hx hb dL_law_952 (lv_at hl 6 rfl) ?_
  refine lv_iconst (v := 5) hx hb dL_law_954 (by decide) ?_
  refine lv_iadd hx hb dL_law_955 ?_
  refine q_sld hx hb hL hw hf dL_law_956 (fun hf => ?_)
  refine lv_i2c hx hb dL_law_957 rfl ?_
  refine q_eI hf hw (fun v τ h => q_rV (As := [.int (xs (Int32.toNatClampNeg (i + (1 : Int32)))), .int (xs (Int32.toNatClampNeg (i + (2 : Int32)))), .int (Int32.toUInt32 (xs (Int32.toNatClampNeg (i + (3 : Int32)))) % 65536).toInt32, .int (xs (Int32.toNatClampNeg (i + (4 : Int32)))), .int (Int32.toUInt32 (xs (Int32.toNatClampNeg (i + (5 : Int32)))) % 65536).toInt32]) (rest := []) (q := (RX8, TX8, 32)) X hK hw rfl (Nat.le_of_ble_eq_true rfl : 0 < cnt (gn Γ) 8) (rfl : vwCl[10]? = _) (kX8_connect h) mvX8_connect lk_L_206 ⟨Nat.le_of_ble_eq_true rfl, Nat.le_of_ble_eq_true rfl⟩ rfl hl.1 rfl (Nat.le_of_ble_eq_true rfl) dL_law_958 ⟨rmC (cc := cc) (a := 6) hC (Nat.le_of_ble_eq_true rfl), rmS (ss := ss) (a := 36) hS (Nat.le_of_ble_eq_true rfl)⟩) (fun v4 σ3 H locs hf hw => ?_)
  refine lv_istore (lv' := [(7, .int v4), (6, .int v2), (0, .ref b), (1, .ref (ga Γ 0 0)), (2, .ref (ga Γ 8 0)), (3, .ref (ga Γ 180 0)), (4, .ref (ga Γ 181 0)), (5, .int i)]) hx hb dL_law_961 hl (by decide) rfl (fun ls hl => ?_)
  refine lv_aload_n hx hb dL_law_963 rfl (lv_at hl 4 rfl) ?_
  refine q_pI hf hw (fun v h => q_rV (As := []) (rest := []) (q := (RX8, TX8, 32)) X hK hw rfl (Nat.le_of_ble_eq_true rfl : 0 < cnt (gn Γ) 8) (rfl : vwCl[10]? = _) (kX8_thrown h) mvX8_thrown lk_L_175 ⟨Nat.le_of_ble_eq_true rfl, Nat.le_of_ble_eq_true rfl⟩ rfl hl.1 rfl (Nat.le_of_ble_eq_true rfl) dL_law_964 ⟨rmC (cc := cc) (a := 6) hC (Nat.le_of_ble_eq_true rfl), rmS (ss := ss) (a := 36) hS (Nat.le_of_ble_eq_true rfl)⟩) (fun v5 H locs hf hw => ?_)
  refine lv_iload hx hb dL_law_967 (lv_at hl 1 rfl) ?_
  refine q_ic_eq (tgt := 974) hx hb hf dL_law_969 (by decide) (fun hf => ?_) (fun hf => ?_)
  · refine lv_iload hx hb dL_law_974 (lv_at hl 1 rfl) ?_
    refine q_if_ne (tgt := 991) hx hb hf dL_law_976 (by decide) (fun hf => ?_) (fun hf => ?_)
    · refine lv_goto (tgt := 3387) hx hb dL_law_991 (by decide) ?_
      exact W.widen (k := cc + 16) (n := ss + 256) (Nat.add_le_add_left (Nat.le_of_ble_eq_true rfl : 6 ≤ 16) cc) (Nat.add_le_add_left (Nat.le_of_ble_eq_true rfl : 36 ≤ 256) ss) (kk _ _ _ _ hf hw (lv_sub hl [2, 3, 4, 5, 6, 7] rfl))
    refine lv_aload_n hx hb dL_law_979 rfl (lv_at hl 5 rfl) ?_
    refine lv_iconst (v := 0) hx hb dL_law_980 (by decide) ?_
    refine q_lalo0 hx hb hK hw dL_law_981 ?_
    refine lv_iload hx hb dL_law_982 (lv_at hl 0 rfl) ?_
    refine lv_i2l hx hb dL_law_984 rfl ?_
    refine W.lcmp hx hb dL_law_985 ?_
    refine q_if_eq (tgt := 991) hx hb hf dL_law_986 (by decide) (fun hf => ?_) (fun hf => ?_)
    · refine lv_goto (tgt := 3387) hx hb dL_law_991 (by decide) ?_
      exact W.widen (k := cc + 16) (n := ss + 256) (Nat.add_le_add_left (Nat.le_of_ble_eq_true rfl : 6 ≤ 16) cc) (Nat.add_le_add_left (Nat.le_of_ble_eq_true rfl : 36 ≤ 256) ss) (kk _ _ _ _ hf hw (lv_sub hl [2, 3, 4, 5, 6, 7] rfl))
    refine lv_iconst (v := 0) hx hb dL_law_989 (by decide) ?_
    exact nomatch hf
  refine lv_iconst (v := 0) hx hb dL_law_972 (by decide) ?_
  exact nomatch hf
set_option maxRecDepth 100000 in
theorem cs_9 {p : Program} {l : Launch} {e : Env} {s : State} {m : MethodId} {args : Array Value} {below : List Frame} {meth : Method} {c : Code} {H : Heap} {locs : List Loc} {Q : State → Prop} {ls : Array Slot} {Γ : Gm} {b L N cc ss : Nat} {xs : Nat → Int32} {σ τ : St} {i : Int32} (hfl : l.stackTraces = false) (X : Fx p c cL_law 9 s m RL) (hK : KK Γ STR s.heap.size s) (hL : LX Γ s b L xs) (hC : cc + 16 ≤ 603072) (hS : ss + 256 ≤ 7223402) (hf : g_9 N xs L σ i = some (true, τ)) (hw : Sit Γ σ s H locs) (hl : lv_has ls 9 [(0, .ref b), (1, .ref (ga Γ 0 0)), (2, .ref (ga Γ 8 0)), (3, .ref (ga Γ 180 0)), (4, .ref (ga Γ 181 0)), (5, .int i)])
    (kk : ∀ (τ2 : St) (H : Heap) (locs : List Loc) (ls : Array Slot), some (true, τ2) = some (true, τ) → Sit Γ τ2 s H locs → lv_has ls 9 [(0, .ref b), (1, .ref (ga Γ 0 0)), (2, .ref (ga Γ 8 0)), (3, .ref (ga Γ 180 0)), (4, .ref (ga Γ 181 0)), (5, .int i)] → W p l e room_1 s m args below meth c H locs (cc + 16) (ss + 256) Q (F0 m 3387 ls [])) : W p l e room_1 s m args below meth c H locs cc ss Q (F0 m 994 ls []) := by
  unfold g_9 at hf
  have hx := X.1
  have hb := X.2.1
  refine lv_aload_n hx hb dL_law_994 rfl (lv_at hl 1 rfl) ?_
  refine lv_aload_n hx hb dL_law_995 rfl (lv_at hl 0 rfl) ?_
  refine lv_iload hx hb dL_law_996 (lv_at hl 5 rfl) ?_
  refine lv_iconst (v := 1) hx hb dL_law_998 (by decide) ?_
  refine lv_iadd hx hb dL_law_999 ?_
  refine q_sld hx hb hL hw hf dL_law_1000 (fun hf => ?_)
  refine lv_aload_n hx hb dL_law_1001 rfl (lv_at hl 0 rfl) ?_
  refine lv_iload hx hb dL_law_1002 (lv_at hl 5 rfl) ?_
  refine lv_iconst (v := 2) hx hb dL_law_1004 (by decide) ?_
  refine lv_iadd hx hb dL_law_1005 ?_
  refine q_sld hx hb hL hw hf dL_law_1006 (fun hf => ?_)
  refine lv_aload_n hx hb dL_law_1007 rfl (lv_at hl 3 rfl) ?_
  refine q_eI hf hw (fun v τ h => q_rW (As := [.ref (ga Γ 0 0), .int (xs (Int32.toNatClampNeg (i + (1 : Int32)))), .int (xs (Int32.toNatClampNeg (i + (2 : Int32)))), .ref (ga Γ 180 0)]) (rest := []) X hK hw (kL_disconnect hfl h) mwL_disconnect lk_L_207 ⟨Nat.le_of_ble_eq_true rfl, Nat.le_of_ble_eq_true rfl⟩ rfl hl.1 rfl (Nat.le_of_ble_eq_true rfl) dL_law_1008 ⟨rmC (cc := cc) (a := 3) hC (Nat.le_of_ble_eq_true rfl), rmS (ss := ss) (a := 18) hS (Nat.le_of_ble_eq_true rfl)⟩) (fun v2 σ1 H locs hf hw => ?_)
  refine lv_istore (lv' := [(6, .int v2), (0, .ref b), (1, .ref (ga Γ 0 0)), (2, .ref (ga Γ 8 0)), (3, .ref (ga Γ 180 0)), (4, .ref (ga Γ 181 0)), (5, .int i)]) hx hb dL_law_1011 hl (by decide) rfl (fun ls hl => ?_)
  refine lv_aload_n hx hb dL_law_1013 rfl (lv_at hl 3 rfl) ?_
  refine lv_aload_n hx hb dL_law_1014 rfl (lv_at hl 1 rfl) ?_
  refine lv_iload hx hb dL_law_1015 (lv_at hl 6 rfl) ?_
  refine lv_iconst (v := 1) hx hb dL_law_1017 (by decide) ?_
  refine lv_iadd hx hb dL_law_1018 ?_
  refine q_sld hx hb hL hw hf dL_law_1019 (fun hf => ?_)
  refine lv_aload_n hx hb dL_law_1020 rfl (lv_at hl 1 rfl) ?_
  refine lv_iload hx hb dL_law_1021 (lv_at hl 6 rfl) ?_
  refine lv_iconst (v := 2) hx hb dL_law_1023 (by decide) ?_
  refine lv_iadd hx hb dL_law_1024 ?_
  refine q_sld hx hb hL hw hf dL_law_1025 (fun hf => ?_)
  refine q_eI hf hw (fun v τ h => q_rV (As := [.int (xs (Int32.toNatClampNeg (i + (1 : Int32)))), .int (xs (Int32.toNatClampNeg (i + (2 : Int32))))]) (rest := []) (q := (RX8, TX8, 32)) X hK hw rfl (Nat.le_of_ble_eq_true rfl : 0 < cnt (gn Γ) 8) (rfl : vwCl[10]? = _) (kX8_disconnect h) mvX8_disconnect lk_L_209 ⟨Nat.le_of_ble_eq_true rfl, Nat.le_of_ble_eq_true rfl⟩ rfl hl.1 rfl (Nat.le_of_ble_eq_true rfl) dL_law_1026 ⟨rmC (cc := cc) (a := 3) hC (Nat.le_of_ble_eq_true rfl), rmS (ss := ss) (a := 18) hS (Nat.le_of_ble_eq_true rfl)⟩) (fun v4 σ3 H locs hf hw => ?_)
  refine lv_istore (lv' := [(7, .int v4), (6, .int v2), (0, .ref b), (1, .ref (ga Γ 0 0)), (2, .ref (ga Γ 8 0)), (3, .ref (ga Γ 180 0)), (4, .ref (ga Γ 181 0)), (5, .int i)]) hx hb dL_law_1029 hl (by decide) rfl (fun ls hl => ?_)
  refine lv_aload_n hx hb dL_law_1031 rfl (lv_at hl 4 rfl) ?_
  refine q_pI hf hw (fun v h => q_rV (As := []) (rest := []) (q := (RX8, TX8, 32)) X hK hw rfl (Nat.le_of_ble_eq_true rfl : 0 < cnt (gn Γ) 8) (rfl : vwCl[10]? = _) (kX8_thrown h) mvX8_thrown lk_L_175 ⟨Nat.le_of_ble_eq_true rfl, Nat.le_of_ble_eq_true rfl⟩ rfl hl.1 rfl (Nat.le_of_ble_eq_true rfl) dL_law_1032 ⟨rmC (cc := cc) (a := 3) hC (Nat.le_of_ble_eq_true rfl), rmS (ss := ss) (a := 18) hS (Nat.le_of_ble_eq_true rfl)⟩) (fun v5 H locs hf hw => ?_)
  refine lv_iload hx hb dL_law_1035 (lv_at hl 1 rfl) ?_
  refine q_ic_eq (tgt := 1042) hx hb hf dL_law_1037 (by decide) (fun hf => ?_) (fun hf => ?_)
  · refine lv_iload hx hb dL_law_1042 (lv_at hl 1 rfl) ?_
    refine q_if_ne (tgt := 1059) hx hb hf dL_law_1044 (by decide) (fun hf => ?_) (fun hf => ?_)
    · refine lv_goto (tgt := 3387) hx hb dL_law_1059 (by decide) ?_
      exact W.widen (k := cc + 16) (n := ss + 256) (Nat.add_le_add_left (Nat.le_of_ble_eq_true rfl : 3 ≤ 16) cc) (Nat.add_le_add_left (Nat.le_of_ble_eq_true rfl : 18 ≤ 256) ss) (kk _ _ _ _ hf hw (lv_sub hl [2, 3, 4, 5, 6, 7] rfl))
    refine lv_aload_n hx hb dL_law_1047 rfl (lv_at hl 5 rfl) ?_
    refine lv_iconst (v := 0) hx hb dL_law_1048 (by decide) ?_
    refine q_lalo0 hx hb hK hw dL_law_1049 ?_
    refine lv_iload hx hb dL_law_1050 (lv_at hl 0 rfl) ?_
    refine lv_i2l hx hb dL_law_1052 rfl ?_
    refine W.lcmp hx hb dL_law_1053 ?_
    refine q_if_eq (tgt := 1059) hx hb hf dL_law_1054 (by decide) (fun hf => ?_) (fun hf => ?_)
    · refine lv_goto (tgt := 3387) hx hb dL_law_1059 (by decide) ?_
      exact W.widen (k := cc + 16) (n := ss + 256) (Nat.add_le_add_left (Nat.le_of_ble_eq_true rfl : 3 ≤ 16) cc) (Nat.add_le_add_left (Nat.le_of_ble_eq_true rfl : 18 ≤ 256) ss) (kk _ _ _ _ hf hw (lv_sub hl [2, 3, 4, 5, 6, 7] rfl))
    refine lv_iconst (v := 0) hx hb dL_law_1057 (by decide) ?_
    exact nomatch hf
  refine lv_iconst (v := 0) hx hb dL_law_1040 (by decide) ?_
  exact nomatch hf
set_option maxRecDepth 100000 in
theorem cs_10 {p : Program} {l : Launch} {e : Env} {s : State} {m : MethodId} {args : Array Value} {below : List Frame} {meth : Method} {c : Code} {H : Heap} {locs : List Loc} {Q : State → Prop} {ls : Array Slot} {Γ : Gm} {b L N cc ss : Nat} {xs : Nat → Int32} {σ τ : St} {i : Int32} (hfl : l.stackTraces = false) (X : Fx p c cL_law 9 s m RL) (hK : KK Γ STR s.heap.size s) (hL : LX Γ s b L xs) (hC : cc + 16 ≤ 603072) (hS : ss + 256 ≤ 7223402) (hf : g_10 N xs L σ i = some (true, τ)) (hw : Sit Γ σ s H locs) (hl : lv_has ls 9 [(0, .ref b), (1, .ref (ga Γ 0 0)), (2, .ref (ga Γ 8 0)), (3, .ref (ga Γ 180 0)), (4, .ref (ga Γ 181 0)), (5, .int i)])
    (kk : ∀ (τ2 : St) (H : Heap) (locs : List Loc) (ls : Array Slot), some (true, τ2) = some (true, τ) → Sit Γ τ2 s H locs → lv_has ls 9 [(0, .ref b), (1, .ref (ga Γ 0 0)), (2, .ref (ga Γ 8 0)), (3, .ref (ga Γ 180 0)), (4, .ref (ga Γ 181 0)), (5, .int i)] → W p l e room_1 s m args below meth c H locs (cc + 16) (ss + 256) Q (F0 m 3387 ls [])) : W p l e room_1 s m args below meth c H locs cc ss Q (F0 m 1062 ls []) := by
  unfold g_10 at hf
  have hx := X.1
  have hb := X.2.1
  refine lv_aload_n hx hb dL_law_1062 rfl (lv_at hl 1 rfl) ?_
  refine lv_aload_n hx hb dL_law_1063 rfl (lv_at hl 0 rfl) ?_
  refine lv_iload hx hb dL_law_1064 (lv_at hl 5 rfl) ?_
  refine lv_iconst (v := 1) hx hb dL_law_1066 (by decide) ?_
  refine lv_iadd hx hb dL_law_1067 ?_
  refine q_sld hx hb hL hw hf dL_law_1068 (fun hf => ?_)
  refine lv_aload_n hx hb dL_law_1069 rfl (lv_at hl 0 rfl) ?_
  refine lv_iload hx hb dL_law_1070 (lv_at hl 5 rfl) ?_
  refine lv_iconst (v := 2) hx hb dL_law_1072 (by decide) ?_
  refine lv_iadd hx hb dL_law_1073 ?_
  refine q_sld hx hb hL hw hf dL_law_1074 (fun hf => ?_)
  refine lv_aload_n hx hb dL_law_1075 rfl (lv_at hl 0 rfl) ?_
  refine lv_iload hx hb dL_law_1076 (lv_at hl 5 rfl) ?_
  refine lv_iconst (v := 3) hx hb dL_law_1078 (by decide) ?_
  refine lv_iadd hx hb dL_law_1079 ?_
  refine q_sld hx hb hL hw hf dL_law_1080 (fun hf => ?_)
  refine lv_aload_n hx hb dL_law_1081 rfl (lv_at hl 3 rfl) ?_
  refine q_eI hf hw (fun v τ h => q_rW (As := [.ref (ga Γ 0 0), .int (xs (Int32.toNatClampNeg (i + (1 : Int32)))), .int (xs (Int32.toNatClampNeg (i + (2 : Int32)))), .int (xs (Int32.toNatClampNeg (i + (3 : Int32)))), .ref (ga Γ 180 0)]) (rest := []) X hK hw (kL_vote hfl h) mwL_vote lk_L_210 ⟨Nat.le_of_ble_eq_true rfl, Nat.le_of_ble_eq_true rfl⟩ rfl hl.1 rfl (Nat.le_of_ble_eq_true rfl) dL_law_1082 ⟨rmC (cc := cc) (a := 5) hC (Nat.le_of_ble_eq_true rfl), rmS (ss := ss) (a := 30) hS (Nat.le_of_ble_eq_true rfl)⟩) (fun v2 σ1 H locs hf hw => ?_)
  refine lv_istore (lv' := [(6, .int v2), (0, .ref b), (1, .ref (ga Γ 0 0)), (2, .ref (ga Γ 8 0)), (3, .ref (ga Γ 180 0)), (4, .ref (ga Γ 181 0)), (5, .int i)]) hx hb dL_law_1085 hl (by decide) rfl (fun ls hl => ?_)
  refine lv_aload_n hx hb dL_law_1087 rfl (lv_at hl 3 rfl) ?_
  refine lv_aload_n hx hb dL_law_1088 rfl (lv_at hl 1 rfl) ?_
  refine lv_iload hx hb dL_law_1089 (lv_at hl 6 rfl) ?_
  refine lv_iconst (v := 1) hx hb dL_law_1091 (by decide) ?_
  refine lv_iadd hx hb dL_law_1092 ?_
  refine q_sld hx hb hL hw hf dL_law_1093 (fun hf => ?_)
  refine lv_aload_n hx hb dL_law_1094 rfl (lv_at hl 1 rfl) ?_
  refine lv_iload hx hb dL_law_1095 (lv_at hl 6 rfl) ?_
  refine lv_iconst (v := 2) hx hb dL_law_1097 (by decide) ?_
  refine lv_iadd hx hb dL_law_1098 ?_
  refine q_sld hx hb hL hw hf dL_law_1099 (fun hf => ?_)
  refine lv_aload_n hx hb dL_law_1100 rfl (lv_at hl 1 rfl) ?_
  refine lv_iload hx hb dL_law_1101 (lv_at hl 6 rfl) ?_
  refine lv_iconst (v := 3) hx hb dL_law_1103 (by decide) ?_
  refine lv_iadd hx hb dL_law_1104 ?_
  refine q_sld hx hb hL hw hf dL_law_1105 (fun hf => ?_)
  refine q_eI hf hw (fun v τ h => q_rV (As := [.int (xs (Int32.toNatClampNeg (i + (1 : Int32)))), .int (xs (Int32.toNatClampNeg (i + (2 : Int32)))), .int (xs (Int32.toNatClampNeg (i + (3 : Int32))))]) (rest := []) (q := (RX8, TX8, 32)) X hK hw rfl (Nat.le_of_ble_eq_true rfl : 0 < cnt (gn Γ) 8) (rfl : vwCl[10]? = _) (kX8_vote h) mvX8_vote lk_L_212 ⟨Nat.le_of_ble_eq_true rfl, Nat.le_of_ble_eq_true rfl⟩ rfl hl.1 rfl (Nat.le_of_ble_eq_true rfl) dL_law_1106 ⟨rmC (cc := cc) (a := 5) hC (Nat.le_of_ble_eq_true rfl), rmS (ss := ss) (a := 30) hS (Nat.le_of_ble_eq_true rfl)⟩) (fun v4 σ3 H locs hf hw => ?_)
  refine lv_istore (lv' := [(7, .int v4), (6, .int v2), (0, .ref b), (1, .ref (ga Γ 0 0)), (2, .ref (ga Γ 8 0)), (3, .ref (ga Γ 180 0)), (4, .ref (ga Γ 181 0)), (5, .int i)]) hx hb dL_law_1109 hl (by decide) rfl (fun ls hl => ?_)
  refine lv_aload_n hx hb dL_law_1111 rfl (lv_at hl 4 rfl) ?_
  refine q_pI hf hw (fun v h => q_rV (As := []) (rest := []) (q := (RX8, TX8, 32)) X hK hw rfl (Nat.le_of_ble_eq_true rfl : 0 < cnt (gn Γ) 8) (rfl : vwCl[10]? = _) (kX8_thrown h) mvX8_thrown lk_L_175 ⟨Nat.le_of_ble_eq_true rfl, Nat.le_of_ble_eq_true rfl⟩ rfl hl.1 rfl (Nat.le_of_ble_eq_true rfl) dL_law_1112 ⟨rmC (cc := cc) (a := 5) hC (Nat.le_of_ble_eq_true rfl), rmS (ss := ss) (a := 30) hS (Nat.le_of_ble_eq_true rfl)⟩) (fun v5 H locs hf hw => ?_)
  refine lv_iload hx hb dL_law_1115 (lv_at hl 1 rfl) ?_
  refine q_ic_eq (tgt := 1122) hx hb hf dL_law_1117 (by decide) (fun hf => ?_) (fun hf => ?_)
  · refine lv_iload hx hb dL_law_1122 (lv_at hl 1 rfl) ?_
    refine q_if_ne (tgt := 1139) hx hb hf dL_law_1124 (by decide) (fun hf => ?_) (fun hf => ?_)
    · refine lv_goto (tgt := 3387) hx hb dL_law_1139 (by decide) ?_
      exact W.widen (k := cc + 16) (n := ss + 256) (Nat.add_le_add_left (Nat.le_of_ble_eq_true rfl : 5 ≤ 16) cc) (Nat.add_le_add_left (Nat.le_of_ble_eq_true rfl : 30 ≤ 256) ss) (kk _ _ _ _ hf hw (lv_sub hl [2, 3, 4, 5, 6, 7] rfl))
    refine lv_aload_n hx hb dL_law_1127 rfl (lv_at hl 5 rfl) ?_
    refine lv_iconst (v := 0) hx hb dL_law_1128 (by decide) ?_
    refine q_lalo0 hx hb hK hw dL_law_1129 ?_
    refine lv_iload hx hb dL_law_1130 (lv_at hl 0 rfl) ?_
    refine lv_i2l hx hb dL_law_1132 rfl ?_
    refine W.lcmp hx hb dL_law_1133 ?_
    refine q_if_eq (tgt := 1139) hx hb hf dL_law_1134 (by decide) (fun hf => ?_) (fun hf => ?_)
    · refine lv_goto (tgt := 3387) hx hb dL_law_1139 (by decide) ?_
      exact W.widen (k := cc + 16) (n := ss + 256) (Nat.add_le_add_left (Nat.le_of_ble_eq_true rfl : 5 ≤ 16) cc) (Nat.add_le_add_left (Nat.le_of_ble_eq_true rfl : 30 ≤ 256) ss) (kk _ _ _ _ hf hw (lv_sub hl [2, 3, 4, 5, 6, 7] rfl))
    refine lv_iconst (v := 0) hx hb dL_law_1137 (by decide) ?_
    exact nomatch hf
  refine lv_iconst (v := 0) hx hb dL_law_1120 (by decide) ?_
  exact nomatch hf
set_option maxRecDepth 100000 in
theorem cs_11 {p : Program} {l : Launch} {e : Env} {s : State} {m : MethodId} {args : Array Value} {below : List Frame} {meth : Method} {c : Code} {H : Heap} {locs : List Loc} {Q : State → Prop} {ls : Array Slot} {Γ : Gm} {b L N cc ss : Nat} {xs : Nat → Int32} {σ τ : St} {i : Int32} (hfl : l.stackTraces = false) (X : Fx p c cL_law 9 s m RL) (hK : KK Γ STR s.heap.size s) (hL : LX Γ s b L xs) (hC : cc + 16 ≤ 603072) (hS : ss + 256 ≤ 7223402) (hf : g_11 N xs L σ i = some (true, τ)) (hw : Sit Γ σ s H locs) (hl : lv_has ls 9 [(0, .ref b), (1, .ref (ga Γ 0 0)), (2, .ref (ga Γ 8 0)), (3, .ref (ga Γ 180 0)), (4, .ref (ga Γ 181 0)), (5, .int i)])
    (kk : ∀ (τ2 : St) (H : Heap) (locs : List Loc) (ls : Array Slot), some (true, τ2) = some (true, τ) → Sit Γ τ2 s H locs → lv_has ls 9 [(0, .ref b), (1, .ref (ga Γ 0 0)), (2, .ref (ga Γ 8 0)), (3, .ref (ga Γ 180 0)), (4, .ref (ga Γ 181 0)), (5, .int i)] → W p l e room_1 s m args below meth c H locs (cc + 16) (ss + 256) Q (F0 m 3387 ls [])) : W p l e room_1 s m args below meth c H locs cc ss Q (F0 m 1142 ls []) := by
  unfold g_11 at hf
  have hx := X.1
  have hb := X.2.1
  refine lv_aload_n hx hb dL_law_1142 rfl (lv_at hl 1 rfl) ?_
  refine lv_aload_n hx hb dL_law_1143 rfl (lv_at hl 0 rfl) ?_
  refine lv_iload hx hb dL_law_1144 (lv_at hl 5 rfl) ?_
  refine lv_iconst (v := 1) hx hb dL_law_1146 (by decide) ?_
  refine lv_iadd hx hb dL_law_1147 ?_
  refine q_sld hx hb hL hw hf dL_law_1148 (fun hf => ?_)
  refine lv_aload_n hx hb dL_law_1149 rfl (lv_at hl 0 rfl) ?_
  refine lv_iload hx hb dL_law_1150 (lv_at hl 5 rfl) ?_
  refine lv_iconst (v := 2) hx hb dL_law_1152 (by decide) ?_
  refine lv_iadd hx hb dL_law_1153 ?_
  refine q_sld hx hb hL hw hf dL_law_1154 (fun hf => ?_)
  refine q_if_eq (tgt := 1162) hx hb hf dL_law_1155 (by decide) (fun hf => ?_) (fun hf => ?_)
  · refine lv_iconst (v := 0) hx hb dL_law_1162 (by decide) ?_
    refine lv_aload_n hx hb dL_law_1163 rfl (lv_at hl 3 rfl) ?_
    refine q_eI hf hw (fun v τ h => q_rW (As := [.ref (ga Γ 0 0), .int (xs (Int32.toNatClampNeg (i + (1 : Int32)))), .int (0 : Int32), .ref (ga Γ 180 0)]) (rest := []) X hK hw (kL_show hfl h) mwL_show lk_L_213 ⟨Nat.le_of_ble_eq_true rfl, Nat.le_of_ble_eq_true rfl⟩ rfl hl.1 rfl (Nat.le_of_ble_eq_true rfl) dL_law_1164 ⟨rmC (cc := cc) (a := 2) hC (Nat.le_of_ble_eq_true rfl), rmS (ss := ss) (a := 12) hS (Nat.le_of_ble_eq_true rfl)⟩) (fun v2 σ1 H locs hf hw => ?_)
    refine lv_istore (lv' := [(6, .int v2), (0, .ref b), (1, .ref (ga Γ 0 0)), (2, .ref (ga Γ 8 0)), (3, .ref (ga Γ 180 0)), (4, .ref (ga Γ 181 0)), (5, .int i)]) hx hb dL_law_1167 hl (by decide) rfl (fun ls hl => ?_)
    refine lv_aload_n hx hb dL_law_1169 rfl (lv_at hl 3 rfl) ?_
    refine lv_aload_n hx hb dL_law_1170 rfl (lv_at hl 1 rfl) ?_
    refine lv_iload hx hb dL_law_1171 (lv_at hl 6 rfl) ?_
    refine lv_iconst (v := 1) hx hb dL_law_1173 (by decide) ?_
    refine lv_iadd hx hb dL_law_1174 ?_
    refine q_sld hx hb hL hw hf dL_law_1175 (fun hf => ?_)
    refine lv_aload_n hx hb dL_law_1176 rfl (lv_at hl 1 rfl) ?_
    refine lv_iload hx hb dL_law_1177 (lv_at hl 6 rfl) ?_
    refine lv_iconst (v := 2) hx hb dL_law_1179 (by decide) ?_
    refine lv_iadd hx hb dL_law_1180 ?_
    refine q_sld hx hb hL hw hf dL_law_1181 (fun hf => ?_)
    refine q_if_eq (tgt := 1189) hx hb hf dL_law_1182 (by decide) (fun hf => ?_) (fun hf => ?_)
    · refine lv_iconst (v := 0) hx hb dL_law_1189 (by decide) ?_
      refine q_eI hf hw (fun v τ h => q_rV (As := [.int (xs (Int32.toNatClampNeg (i + (1 : Int32)))), .int (0 : Int32)]) (rest := []) (q := (RX8, TX8, 32)) X hK hw rfl (Nat.le_of_ble_eq_true rfl : 0 < cnt (gn Γ) 8) (rfl : vwCl[10]? = _) (kX8_show h) mvX8_show lk_L_216 ⟨Nat.le_of_ble_eq_true rfl, Nat.le_of_ble_eq_true rfl⟩ rfl hl.1 rfl (Nat.le_of_ble_eq_true rfl) dL_law_1190 ⟨rmC (cc := cc) (a := 2) hC (Nat.le_of_ble_eq_true rfl), rmS (ss := ss) (a := 12) hS (Nat.le_of_ble_eq_true rfl)⟩) (fun v4 σ3 H locs hf hw => ?_)
      refine lv_istore (lv' := [(7, .int v4), (6, .int v2), (0, .ref b), (1, .ref (ga Γ 0 0)), (2, .ref (ga Γ 8 0)), (3, .ref (ga Γ 180 0)), (4, .ref (ga Γ 181 0)), (5, .int i)]) hx hb dL_law_1193 hl (by decide) rfl (fun ls hl => ?_)
      refine lv_aload_n hx hb dL_law_1195 rfl (lv_at hl 4 rfl) ?_
      refine q_pI hf hw (fun v h => q_rV (As := []) (rest := []) (q := (RX8, TX8, 32)) X hK hw rfl (Nat.le_of_ble_eq_true rfl : 0 < cnt (gn Γ) 8) (rfl : vwCl[10]? = _) (kX8_thrown h) mvX8_thrown lk_L_175 ⟨Nat.le_of_ble_eq_true rfl, Nat.le_of_ble_eq_true rfl⟩ rfl hl.1 rfl (Nat.le_of_ble_eq_true rfl) dL_law_1196 ⟨rmC (cc := cc) (a := 2) hC (Nat.le_of_ble_eq_true rfl), rmS (ss := ss) (a := 12) hS (Nat.le_of_ble_eq_true rfl)⟩) (fun v5 H locs hf hw => ?_)
      refine lv_iload hx hb dL_law_1199 (lv_at hl 1 rfl) ?_
      refine q_ic_eq (tgt := 1206) hx hb hf dL_law_1201 (by decide) (fun hf => ?_) (fun hf => ?_)
      · refine lv_iload hx hb dL_law_1206 (lv_at hl 1 rfl) ?_
        refine q_if_ne (tgt := 1230) hx hb hf dL_law_1208 (by decide) (fun hf => ?_) (fun hf => ?_)
        · refine lv_goto (tgt := 3387) hx hb dL_law_1230 (by decide) ?_
          exact W.widen (k := cc + 16) (n := ss + 256) (Nat.add_le_add_left (Nat.le_of_ble_eq_true rfl : 2 ≤ 16) cc) (Nat.add_le_add_left (Nat.le_of_ble_eq_true rfl : 12 ≤ 256) ss) (kk _ _ _ _ hf hw (lv_sub hl [2, 3, 4, 5, 6, 7] rfl))
        refine lv_aload_n hx hb dL_law_1211 rfl (lv_at hl 5 rfl) ?_
        refine lv_iconst (v := 0) hx hb dL_law_1212 (by decide) ?_
        refine q_lalo0 hx hb hK hw dL_law_1213 ?_
        refine lv_iload hx hb dL_law_1214 (lv_at hl 0 rfl) ?_
        refine q_if_eq (tgt := 1223) hx hb hf dL_law_1216 (by decide) (fun hf => ?_) (fun hf => ?_)
        · refine lv_lconst (v := 0) hx hb dL_law_1223 rfl ?_
          refine W.lcmp hx hb dL_law_1224 ?_
          refine q_if_eq (tgt := 1230) hx hb hf dL_law_1225 (by decide) (fun hf => ?_) (fun hf => ?_)
          · refine lv_goto (tgt := 3387) hx hb dL_law_1230 (by decide) ?_
            exact W.widen (k := cc + 16) (n := ss + 256) (Nat.add_le_add_left (Nat.le_of_ble_eq_true rfl : 2 ≤ 16) cc) (Nat.add_le_add_left (Nat.le_of_ble_eq_true rfl : 12 ≤ 256) ss) (kk _ _ _ _ hf hw (lv_sub hl [2, 3, 4, 5, 6, 7] rfl))
          refine lv_iconst (v := 0) hx hb dL_law_1228 (by decide) ?_
          exact nomatch hf
        refine lv_lconst (v := 1) hx hb dL_law_1219 rfl ?_
        refine lv_goto (tgt := 1224) hx hb dL_law_1220 (by decide) ?_
        refine W.lcmp hx hb dL_law_1224 ?_
        refine q_if_eq (tgt := 1230) hx hb hf dL_law_1225 (by decide) (fun hf => ?_) (fun hf => ?_)
        · refine lv_goto (tgt := 3387) hx hb dL_law_1230 (by decide) ?_
          exact W.widen (k := cc + 16) (n := ss + 256) (Nat.add_le_add_left (Nat.le_of_ble_eq_true rfl : 2 ≤ 16) cc) (Nat.add_le_add_left (Nat.le_of_ble_eq_true rfl : 12 ≤ 256) ss) (kk _ _ _ _ hf hw (lv_sub hl [2, 3, 4, 5, 6, 7] rfl))
        refine lv_iconst (v := 0) hx hb dL_law_1228 (by decide) ?_
        exact nomatch hf
      refine lv_iconst (v := 0) hx hb dL_law_1204 (by decide) ?_
      exact nomatch hf
    refine lv_iconst (v := 1) hx hb dL_law_1185 (by decide) ?_
    refine lv_goto (tgt := 1190) hx hb dL_law_1186 (by decide) ?_
    refine q_eI hf hw (fun v τ h => q_rV (As := [.int (xs (Int32.toNatClampNeg (i + (1 : Int32)))), .int (1 : Int32)]) (rest := []) (q := (RX8, TX8, 32)) X hK hw rfl (Nat.le_of_ble_eq_true rfl : 0 < cnt (gn Γ) 8) (rfl : vwCl[10]? = _) (kX8_show h) mvX8_show lk_L_216 ⟨Nat.le_of_ble_eq_true rfl, Nat.le_of_ble_eq_true rfl⟩ rfl hl.1 rfl (Nat.le_of_ble_eq_true rfl) dL_law_1190 ⟨rmC (cc := cc) (a := 2) hC (Nat.le_of_ble_eq_true rfl), rmS (ss := ss) (a := 12) hS (Nat.le_of_ble_eq_true rfl)⟩) (fun v7 σ6 H locs hf hw => ?_)
    refine lv_istore (lv' := [(7, .int v7), (6, .int v2), (0, .ref b), (1, .ref (ga Γ 0 0)), (2, .ref (ga Γ 8 0)), (3, .ref (ga Γ 180 0)), (4, .ref (ga Γ 181 0)), (5, .int i)]) hx hb dL_law_1193 hl (by decide) rfl (fun ls hl => ?_)
    refine lv_aload_n hx hb dL_law_1195 rfl (lv_at hl 4 rfl) ?_
    refine q_pI hf hw (fun v h => q_rV (As := []) (rest := []) (q := (RX8, TX8, 32)) X hK hw rfl (Nat.le_of_ble_eq_true rfl : 0 < cnt (gn Γ) 8) (rfl : vwCl[10]? = _) (kX8_thrown h) mvX8_thrown lk_L_175 ⟨Nat.le_of_ble_eq_true rfl, Nat.le_of_ble_eq_true rfl⟩ rfl hl.1 rfl (Nat.le_of_ble_eq_true rfl) dL_law_1196 ⟨rmC (cc := cc) (a := 2) hC (Nat.le_of_ble_eq_true rfl), rmS (ss := ss) (a := 12) hS (Nat.le_of_ble_eq_true rfl)⟩) (fun v8 H locs hf hw => ?_)
    refine lv_iload hx hb dL_law_1199 (lv_at hl 1 rfl) ?_
    refine q_ic_eq (tgt := 1206) hx hb hf dL_law_1201 (by decide) (fun hf => ?_) (fun hf => ?_)
    · refine lv_iload hx hb dL_law_1206 (lv_at hl 1 rfl) ?_
      refine q_if_ne (tgt := 1230) hx hb hf dL_law_1208 (by decide) (fun hf => ?_) (fun hf => ?_)
      · refine lv_goto (tgt := 3387) hx hb dL_law_1230 (by decide) ?_
        exact W.widen (k := cc + 16) (n := ss + 256) (Nat.add_le_add_left (Nat.le_of_ble_eq_true rfl : 2 ≤ 16) cc) (Nat.add_le_add_left (Nat.le_of_ble_eq_true rfl : 12 ≤ 256) ss) (kk _ _ _ _ hf hw (lv_sub hl [2, 3, 4, 5, 6, 7] rfl))
      refine lv_aload_n hx hb dL_law_1211 rfl (lv_at hl 5 rfl) ?_
      refine lv_iconst (v := 0) hx hb dL_law_1212 (by decide) ?_
      refine q_lalo0 hx hb hK hw dL_law_1213 ?_
      refine lv_iload hx hb dL_law_1214 (lv_at hl 0 rfl) ?_
      refine q_if_eq (tgt := 1223) hx hb hf dL_law_1216 (by decide) (fun hf => ?_) (fun hf => ?_)
      · refine lv_lconst (v := 0) hx hb dL_law_1223 rfl ?_
        refine W.lcmp hx hb dL_law_1224 ?_
        refine q_if_eq (tgt := 1230) hx hb hf dL_law_1225 (by decide) (fun hf => ?_) (fun hf => ?_)
        · refine lv_goto (tgt := 3387) hx hb dL_law_1230 (by decide) ?_
          exact W.widen (k := cc + 16) (n := ss + 256) (Nat.add_le_add_left (Nat.le_of_ble_eq_true rfl : 2 ≤ 16) cc) (Nat.add_le_add_left (Nat.le_of_ble_eq_true rfl : 12 ≤ 256) ss) (kk _ _ _ _ hf hw (lv_sub hl [2, 3, 4, 5, 6, 7] rfl))
        refine lv_iconst (v := 0) hx hb dL_law_1228 (by decide) ?_
        exact nomatch hf
      refine lv_lconst (v := 1) hx hb dL_law_1219 rfl ?_
      refine lv_goto (tgt := 1224) hx hb dL_law_1220 (by decide) ?_
      refine W.lcmp hx hb dL_law_1224 ?_
      refine q_if_eq (tgt := 1230) hx hb hf dL_law_1225 (by decide) (fun hf => ?_) (fun hf => ?_)
      · refine lv_goto (tgt := 3387) hx hb dL_law_1230 (by decide) ?_
        exact W.widen (k := cc + 16) (n := ss + 256) (Nat.add_le_add_left (Nat.le_of_ble_eq_true rfl : 2 ≤ 16) cc) (Nat.add_le_add_left (Nat.le_of_ble_eq_true rfl : 12 ≤ 256) ss) (kk _ _ _ _ hf hw (lv_sub hl [2, 3, 4, 5, 6, 7] rfl))
      refine lv_iconst (v := 0) hx hb dL_law_1228 (by decide) ?_
      exact nomatch hf
    refine lv_iconst (v := 0) hx hb dL_law_1204 (by decide) ?_
    exact nomatch hf
  refine lv_iconst (v := 1) hx hb dL_law_1158 (by decide) ?_
  refine lv_goto (tgt := 1163) hx hb dL_law_1159 (by decide) ?_
  refine lv_aload_n hx hb dL_law_1163 rfl (lv_at hl 3 rfl) ?_
  refine q_eI hf hw (fun v τ h => q_rW (As := [.ref (ga Γ 0 0), .int (xs (Int32.toNatClampNeg (i + (1 : Int32)))), .int (1 : Int32), .ref (ga Γ 180 0)]) (rest := []) X hK hw (kL_show hfl h) mwL_show lk_L_213 ⟨Nat.le_of_ble_eq_true rfl, Nat.le_of_ble_eq_true rfl⟩ rfl hl.1 rfl (Nat.le_of_ble_eq_true rfl) dL_law_1164 ⟨rmC (cc := cc) (a := 2) hC (Nat.le_of_ble_eq_true rfl), rmS (ss := ss) (a := 12) hS (Nat.le_of_ble_eq_true rfl)⟩) (fun v10 σ9 H locs hf hw => ?_)
  refine lv_istore (lv' := [(6, .int v10), (0, .ref b), (1, .ref (ga Γ 0 0)), (2, .ref (ga Γ 8 0)), (3, .ref (ga Γ 180 0)), (4, .ref (ga Γ 181 0)), (5, .int i)]) hx hb dL_law_1167 hl (by decide) rfl (fun ls hl => ?_)
  refine lv_aload_n hx hb dL_law_1169 rfl (lv_at hl 3 rfl) ?_
  refine lv_aload_n hx hb dL_law_1170 rfl (lv_at hl 1 rfl) ?_
  refine lv_iload hx hb dL_law_1171 (lv_at hl 6 rfl) ?_
  refine lv_iconst (v := 1) hx hb dL_law_1173 (by decide) ?_
  refine lv_iadd hx hb dL_law_1174 ?_
  refine q_sld hx hb hL hw hf dL_law_1175 (fun hf => ?_)
  refine lv_aload_n hx hb dL_law_1176 rfl (lv_at hl 1 rfl) ?_
  refine lv_iload hx hb dL_law_1177 (lv_at hl 6 rfl) ?_
  refine lv_iconst (v := 2) hx hb dL_law_1179 (by decide) ?_
  refine lv_iadd hx hb dL_law_1180 ?_
  refine q_sld hx hb hL hw hf dL_law_1181 (fun hf => ?_)
  refine q_if_eq (tgt := 1189) hx hb hf dL_law_1182 (by decide) (fun hf => ?_) (fun hf => ?_)
  · refine lv_iconst (v := 0) hx hb dL_law_1189 (by decide) ?_
    refine q_eI hf hw (fun v τ h => q_rV (As := [.int (xs (Int32.toNatClampNeg (i + (1 : Int32)))), .int (0 : Int32)]) (rest := []) (q := (RX8, TX8, 32)) X hK hw rfl (Nat.le_of_ble_eq_true rfl : 0 < cnt (gn Γ) 8) (rfl : vwCl[10]? = _) (kX8_show h) mvX8_show lk_L_216 ⟨Nat.le_of_ble_eq_true rfl, Nat.le_of_ble_eq_true rfl⟩ rfl hl.1 rfl (Nat.le_of_ble_eq_true rfl) dL_law_1190 ⟨rmC (cc := cc) (a := 2) hC (Nat.le_of_ble_eq_true rfl), rmS (ss := ss) (a := 12) hS (Nat.le_of_ble_eq_true rfl)⟩) (fun v12 σ11 H locs hf hw => ?_)
    refine lv_istore (lv' := [(7, .int v12), (6, .int v10), (0, .ref b), (1, .ref (ga Γ 0 0)), (2, .ref (ga Γ 8 0)), (3, .ref (ga Γ 180 0)), (4, .ref (ga Γ 181 0)), (5, .int i)]) hx hb dL_law_1193 hl (by decide) rfl (fun ls hl => ?_)
    refine lv_aload_n hx hb dL_law_1195 rfl (lv_at hl 4 rfl) ?_
    refine q_pI hf hw (fun v h => q_rV (As := []) (rest := []) (q := (RX8, TX8, 32)) X hK hw rfl (Nat.le_of_ble_eq_true rfl : 0 < cnt (gn Γ) 8) (rfl : vwCl[10]? = _) (kX8_thrown h) mvX8_thrown lk_L_175 ⟨Nat.le_of_ble_eq_true rfl, Nat.le_of_ble_eq_true rfl⟩ rfl hl.1 rfl (Nat.le_of_ble_eq_true rfl) dL_law_1196 ⟨rmC (cc := cc) (a := 2) hC (Nat.le_of_ble_eq_true rfl), rmS (ss := ss) (a := 12) hS (Nat.le_of_ble_eq_true rfl)⟩) (fun v13 H locs hf hw => ?_)
    refine lv_iload hx hb dL_law_1199 (lv_at hl 1 rfl) ?_
    refine q_ic_eq (tgt := 1206) hx hb hf dL_law_1201 (by decide) (fun hf => ?_) (fun hf => ?_)
    · refine lv_iload hx hb dL_law_1206 (lv_at hl 1 rfl) ?_
      refine q_if_ne (tgt := 1230) hx hb hf dL_law_1208 (by decide) (fun hf => ?_) (fun hf => ?_)
      · refine lv_goto (tgt := 3387) hx hb dL_law_1230 (by decide) ?_
        exact W.widen (k := cc + 16) (n := ss + 256) (Nat.add_le_add_left (Nat.le_of_ble_eq_true rfl : 2 ≤ 16) cc) (Nat.add_le_add_left (Nat.le_of_ble_eq_true rfl : 12 ≤ 256) ss) (kk _ _ _ _ hf hw (lv_sub hl [2, 3, 4, 5, 6, 7] rfl))
      refine lv_aload_n hx hb dL_law_1211 rfl (lv_at hl 5 rfl) ?_
      refine lv_iconst (v := 0) hx hb dL_law_1212 (by decide) ?_
      refine q_lalo0 hx hb hK hw dL_law_1213 ?_
      refine lv_iload hx hb dL_law_1214 (lv_at hl 0 rfl) ?_
      refine q_if_eq (tgt := 1223) hx hb hf dL_law_1216 (by decide) (fun hf => ?_) (fun hf => ?_)
      · refine lv_lconst (v := 0) hx hb dL_law_1223 rfl ?_
        refine W.lcmp hx hb dL_law_1224 ?_
        refine q_if_eq (tgt := 1230) hx hb hf dL_law_1225 (by decide) (fun hf => ?_) (fun hf => ?_)
        · refine lv_goto (tgt := 3387) hx hb dL_law_1230 (by decide) ?_
          exact W.widen (k := cc + 16) (n := ss + 256) (Nat.add_le_add_left (Nat.le_of_ble_eq_true rfl : 2 ≤ 16) cc) (Nat.add_le_add_left (Nat.le_of_ble_eq_true rfl : 12 ≤ 256) ss) (kk _ _ _ _ hf hw (lv_sub hl [2, 3, 4, 5, 6, 7] rfl))
        refine lv_iconst (v := 0) hx hb dL_law_1228 (by decide) ?_
        exact nomatch hf
      refine lv_lconst (v := 1) hx hb dL_law_1219 rfl ?_
      refine lv_goto (tgt := 1224) hx hb dL_law_1220 (by decide) ?_
      refine W.lcmp hx hb dL_law_1224 ?_
      refine q_if_eq (tgt := 1230) hx hb hf dL_law_1225 (by decide) (fun hf => ?_) (fun hf => ?_)
      · refine lv_goto (tgt := 3387) hx hb dL_law_1230 (by decide) ?_
        exact W.widen (k := cc + 16) (n := ss + 256) (Nat.add_le_add_left (Nat.le_of_ble_eq_true rfl : 2 ≤ 16) cc) (Nat.add_le_add_left (Nat.le_of_ble_eq_true rfl : 12 ≤ 256) ss) (kk _ _ _ _ hf hw (lv_sub hl [2, 3, 4, 5, 6, 7] rfl))
      refine lv_iconst (v := 0) hx hb dL_law_1228 (by decide) ?_
      exact nomatch hf
    refine lv_iconst (v := 0) hx hb dL_law_1204 (by decide) ?_
    exact nomatch hf
  refine lv_iconst (v := 1) hx hb dL_law_1185 (by decide) ?_
  refine lv_goto (tgt := 1190) hx hb dL_law_1186 (by decide) ?_
  refine q_eI hf hw (fun v τ h => q_rV (As := [.int (xs (Int32.toNatClampNeg (i + (1 : Int32)))), .int (1 : Int32)]) (rest := []) (q := (RX8, TX8, 32)) X hK hw rfl (Nat.le_of_ble_eq_true rfl : 0 < cnt (gn Γ) 8) (rfl : vwCl[10]? = _) (kX8_show h) mvX8_show lk_L_216 ⟨Nat.le_of_ble_eq_true rfl, Nat.le_of_ble_eq_true rfl⟩ rfl hl.1 rfl (Nat.le_of_ble_eq_true rfl) dL_law_1190 ⟨rmC (cc := cc) (a := 2) hC (Nat.le_of_ble_eq_true rfl), rmS (ss := ss) (a := 12) hS (Nat.le_of_ble_eq_true rfl)⟩) (fun v15 σ14 H locs hf hw => ?_)
  refine lv_istore (lv' := [(7, .int v15), (6, .int v10), (0, .ref b), (1, .ref (ga Γ 0 0)), (2, .ref (ga Γ 8 0)), (3, .ref (ga Γ 180 0)), (4, .ref (ga Γ 181 0)), (5, .int i)]) hx hb dL_law_1193 hl (by decide) rfl (fun ls hl => ?_)
  refine lv_aload_n hx hb dL_law_1195 rfl (lv_at hl 4 rfl) ?_
  refine q_pI hf hw (fun v h => q_rV (As := []) (rest := []) (q := (RX8, TX8, 32)) X hK hw rfl (Nat.le_of_ble_eq_true rfl : 0 < cnt (gn Γ) 8) (rfl : vwCl[10]? = _) (kX8_thrown h) mvX8_thrown lk_L_175 ⟨Nat.le_of_ble_eq_true rfl, Nat.le_of_ble_eq_true rfl⟩ rfl hl.1 rfl (Nat.le_of_ble_eq_true rfl) dL_law_1196 ⟨rmC (cc := cc) (a := 2) hC (Nat.le_of_ble_eq_true rfl), rmS (ss := ss) (a := 12) hS (Nat.le_of_ble_eq_true rfl)⟩) (fun v16 H locs hf hw => ?_)
  refine lv_iload hx hb dL_law_1199 (lv_at hl 1 rfl) ?_
  refine q_ic_eq (tgt := 1206) hx hb hf dL_law_1201 (by decide) (fun hf => ?_) (fun hf => ?_)
  · refine lv_iload hx hb dL_law_1206 (lv_at hl 1 rfl) ?_
    refine q_if_ne (tgt := 1230) hx hb hf dL_law_1208 (by decide) (fun hf => ?_) (fun hf => ?_)
    · refine lv_goto (tgt := 3387) hx hb dL_law_1230 (by decide) ?_
      exact W.widen (k := cc + 16) (n := ss + 256) (Nat.add_le_add_left (Nat.le_of_ble_eq_true rfl : 2 ≤ 16) cc) (Nat.add_le_add_left (Nat.le_of_ble_eq_true rfl : 12 ≤ 256) ss) (kk _ _ _ _ hf hw (lv_sub hl [2, 3, 4, 5, 6, 7] rfl))
    refine lv_aload_n hx hb dL_law_1211 rfl (lv_at hl 5 rfl) ?_
    refine lv_iconst (v := 0) hx hb dL_law_1212 (by decide) ?_
    refine q_lalo0 hx hb hK hw dL_law_1213 ?_
    refine lv_iload hx hb dL_law_1214 (lv_at hl 0 rfl) ?_
    refine q_if_eq (tgt := 1223) hx hb hf dL_law_1216 (by decide) (fun hf => ?_) (fun hf => ?_)
    · refine lv_lconst (v := 0) hx hb dL_law_1223 rfl ?_
      refine W.lcmp hx hb dL_law_1224 ?_
      refine q_if_eq (tgt := 1230) hx hb hf dL_law_1225 (by decide) (fun hf => ?_) (fun hf => ?_)
      · refine lv_goto (tgt := 3387) hx hb dL_law_1230 (by decide) ?_
        exact W.widen (k := cc + 16) (n := ss + 256) (Nat.add_le_add_left (Nat.le_of_ble_eq_true rfl : 2 ≤ 16) cc) (Nat.add_le_add_left (Nat.le_of_ble_eq_true rfl : 12 ≤ 256) ss) (kk _ _ _ _ hf hw (lv_sub hl [2, 3, 4, 5, 6, 7] rfl))
      refine lv_iconst (v := 0) hx hb dL_law_1228 (by decide) ?_
      exact nomatch hf
    refine lv_lconst (v := 1) hx hb dL_law_1219 rfl ?_
    refine lv_goto (tgt := 1224) hx hb dL_law_1220 (by decide) ?_
    refine W.lcmp hx hb dL_law_1224 ?_
    refine q_if_eq (tgt := 1230) hx hb hf dL_law_1225 (by decide) (fun hf => ?_) (fun hf => ?_)
    · refine lv_goto (tgt := 3387) hx hb dL_law_1230 (by decide) ?_
      exact W.widen (k := cc + 16) (n := ss + 256) (Nat.add_le_add_left (Nat.le_of_ble_eq_true rfl : 2 ≤ 16) cc) (Nat.add_le_add_left (Nat.le_of_ble_eq_true rfl : 12 ≤ 256) ss) (kk _ _ _ _ hf hw (lv_sub hl [2, 3, 4, 5, 6, 7] rfl))
    refine lv_iconst (v := 0) hx hb dL_law_1228 (by decide) ?_
    exact nomatch hf
  refine lv_iconst (v := 0) hx hb dL_law_1204 (by decide) ?_
  exact nomatch hf
set_option maxRecDepth 100000 in
theorem cs_12 {p : Program} {l : Launch} {e : Env} {s : State} {m : MethodId} {args : Array Value} {below : List Frame} {meth : Method} {c : Code} {H : Heap} {locs : List Loc} {Q : State → Prop} {ls : Array Slot} {Γ : Gm} {b L N cc ss : Nat} {xs : Nat → Int32} {σ τ : St} {i : Int32} (hfl : l.stackTraces = false) (X : Fx p c cL_law 9 s m RL) (hK : KK Γ STR s.heap.size s) (hL : LX Γ s b L xs) (hC : cc + 16 ≤ 603072) (hS : ss + 256 ≤ 7223402) (hf : g_12 N xs L σ i = some (true, τ)) (hw : Sit Γ σ s H locs) (hl : lv_has ls 9 [(0, .ref b), (1, .ref (ga Γ 0 0)), (2, .ref (ga Γ 8 0)), (3, .ref (ga Γ 180 0)), (4, .ref (ga Γ 181 0)), (5, .int i)])
    (kk : ∀ (τ2 : St) (H : Heap) (locs : List Loc) (ls : Array Slot), some (true, τ2) = some (true, τ) → Sit Γ τ2 s H locs → lv_has ls 9 [(0, .ref b), (1, .ref (ga Γ 0 0)), (2, .ref (ga Γ 8 0)), (3, .ref (ga Γ 180 0)), (4, .ref (ga Γ 181 0)), (5, .int i)] → W p l e room_1 s m args below meth c H locs (cc + 16) (ss + 256) Q (F0 m 3387 ls [])) : W p l e room_1 s m args below meth c H locs cc ss Q (F0 m 1233 ls []) := by
  unfold g_12 at hf
  have hx := X.1
  have hb := X.2.1
  refine lv_aload_n hx hb dL_law_1233 rfl (lv_at hl 1 rfl) ?_
  refine lv_aload_n hx hb dL_law_1234 rfl (lv_at hl 0 rfl) ?_
  refine lv_iload hx hb dL_law_1235 (lv_at hl 5 rfl) ?_
  refine lv_iconst (v := 1) hx hb dL_law_1237 (by decide) ?_
  refine lv_iadd hx hb dL_law_1238 ?_
  refine q_sld hx hb hL hw hf dL_law_1239 (fun hf => ?_)
  refine lv_aload_n hx hb dL_law_1240 rfl (lv_at hl 3 rfl) ?_
  refine q_eI hf hw (fun v τ h => q_rW (As := [.ref (ga Γ 0 0), .int (xs (Int32.toNatClampNeg (i + (1 : Int32)))), .ref (ga Γ 180 0)]) (rest := []) X hK hw (kL_takeBack hfl h) mwL_takeBack lk_L_217 ⟨Nat.le_of_ble_eq_true rfl, Nat.le_of_ble_eq_true rfl⟩ rfl hl.1 rfl (Nat.le_of_ble_eq_true rfl) dL_law_1241 ⟨rmC (cc := cc) (a := 3) hC (Nat.le_of_ble_eq_true rfl), rmS (ss := ss) (a := 18) hS (Nat.le_of_ble_eq_true rfl)⟩) (fun v2 σ1 H locs hf hw => ?_)
  refine lv_istore (lv' := [(6, .int v2), (0, .ref b), (1, .ref (ga Γ 0 0)), (2, .ref (ga Γ 8 0)), (3, .ref (ga Γ 180 0)), (4, .ref (ga Γ 181 0)), (5, .int i)]) hx hb dL_law_1244 hl (by decide) rfl (fun ls hl => ?_)
  refine lv_aload_n hx hb dL_law_1246 rfl (lv_at hl 3 rfl) ?_
  refine lv_aload_n hx hb dL_law_1247 rfl (lv_at hl 1 rfl) ?_
  refine lv_iload hx hb dL_law_1248 (lv_at hl 6 rfl) ?_
  refine lv_iconst (v := 1) hx hb dL_law_1250 (by decide) ?_
  refine lv_iadd hx hb dL_law_1251 ?_
  refine q_sld hx hb hL hw hf dL_law_1252 (fun hf => ?_)
  refine q_eI hf hw (fun v τ h => q_rV (As := [.int (xs (Int32.toNatClampNeg (i + (1 : Int32))))]) (rest := []) (q := (RX8, TX8, 32)) X hK hw rfl (Nat.le_of_ble_eq_true rfl : 0 < cnt (gn Γ) 8) (rfl : vwCl[10]? = _) (kX8_takeBack h) mvX8_takeBack lk_L_220 ⟨Nat.le_of_ble_eq_true rfl, Nat.le_of_ble_eq_true rfl⟩ rfl hl.1 rfl (Nat.le_of_ble_eq_true rfl) dL_law_1253 ⟨rmC (cc := cc) (a := 3) hC (Nat.le_of_ble_eq_true rfl), rmS (ss := ss) (a := 18) hS (Nat.le_of_ble_eq_true rfl)⟩) (fun v4 σ3 H locs hf hw => ?_)
  refine lv_istore (lv' := [(7, .int v4), (6, .int v2), (0, .ref b), (1, .ref (ga Γ 0 0)), (2, .ref (ga Γ 8 0)), (3, .ref (ga Γ 180 0)), (4, .ref (ga Γ 181 0)), (5, .int i)]) hx hb dL_law_1256 hl (by decide) rfl (fun ls hl => ?_)
  refine lv_aload_n hx hb dL_law_1258 rfl (lv_at hl 4 rfl) ?_
  refine q_pI hf hw (fun v h => q_rV (As := []) (rest := []) (q := (RX8, TX8, 32)) X hK hw rfl (Nat.le_of_ble_eq_true rfl : 0 < cnt (gn Γ) 8) (rfl : vwCl[10]? = _) (kX8_thrown h) mvX8_thrown lk_L_175 ⟨Nat.le_of_ble_eq_true rfl, Nat.le_of_ble_eq_true rfl⟩ rfl hl.1 rfl (Nat.le_of_ble_eq_true rfl) dL_law_1259 ⟨rmC (cc := cc) (a := 3) hC (Nat.le_of_ble_eq_true rfl), rmS (ss := ss) (a := 18) hS (Nat.le_of_ble_eq_true rfl)⟩) (fun v5 H locs hf hw => ?_)
  refine lv_iload hx hb dL_law_1262 (lv_at hl 1 rfl) ?_
  refine q_ic_eq (tgt := 1269) hx hb hf dL_law_1264 (by decide) (fun hf => ?_) (fun hf => ?_)
  · refine lv_iload hx hb dL_law_1269 (lv_at hl 1 rfl) ?_
    refine q_if_ne (tgt := 1286) hx hb hf dL_law_1271 (by decide) (fun hf => ?_) (fun hf => ?_)
    · refine lv_goto (tgt := 3387) hx hb dL_law_1286 (by decide) ?_
      exact W.widen (k := cc + 16) (n := ss + 256) (Nat.add_le_add_left (Nat.le_of_ble_eq_true rfl : 3 ≤ 16) cc) (Nat.add_le_add_left (Nat.le_of_ble_eq_true rfl : 18 ≤ 256) ss) (kk _ _ _ _ hf hw (lv_sub hl [2, 3, 4, 5, 6, 7] rfl))
    refine lv_aload_n hx hb dL_law_1274 rfl (lv_at hl 5 rfl) ?_
    refine lv_iconst (v := 0) hx hb dL_law_1275 (by decide) ?_
    refine q_lalo0 hx hb hK hw dL_law_1276 ?_
    refine lv_iload hx hb dL_law_1277 (lv_at hl 0 rfl) ?_
    refine lv_i2l hx hb dL_law_1279 rfl ?_
    refine W.lcmp hx hb dL_law_1280 ?_
    refine q_if_eq (tgt := 1286) hx hb hf dL_law_1281 (by decide) (fun hf => ?_) (fun hf => ?_)
    · refine lv_goto (tgt := 3387) hx hb dL_law_1286 (by decide) ?_
      exact W.widen (k := cc + 16) (n := ss + 256) (Nat.add_le_add_left (Nat.le_of_ble_eq_true rfl : 3 ≤ 16) cc) (Nat.add_le_add_left (Nat.le_of_ble_eq_true rfl : 18 ≤ 256) ss) (kk _ _ _ _ hf hw (lv_sub hl [2, 3, 4, 5, 6, 7] rfl))
    refine lv_iconst (v := 0) hx hb dL_law_1284 (by decide) ?_
    exact nomatch hf
  refine lv_iconst (v := 0) hx hb dL_law_1267 (by decide) ?_
  exact nomatch hf
set_option maxRecDepth 100000 in
theorem cs_13 {p : Program} {l : Launch} {e : Env} {s : State} {m : MethodId} {args : Array Value} {below : List Frame} {meth : Method} {c : Code} {H : Heap} {locs : List Loc} {Q : State → Prop} {ls : Array Slot} {Γ : Gm} {b L N cc ss : Nat} {xs : Nat → Int32} {σ τ : St} {i : Int32} (hfl : l.stackTraces = false) (X : Fx p c cL_law 9 s m RL) (hK : KK Γ STR s.heap.size s) (hL : LX Γ s b L xs) (hC : cc + 16 ≤ 603072) (hS : ss + 256 ≤ 7223402) (hf : g_13 N xs L σ i = some (true, τ)) (hw : Sit Γ σ s H locs) (hl : lv_has ls 9 [(0, .ref b), (1, .ref (ga Γ 0 0)), (2, .ref (ga Γ 8 0)), (3, .ref (ga Γ 180 0)), (4, .ref (ga Γ 181 0)), (5, .int i)])
    (kk : ∀ (τ2 : St) (H : Heap) (locs : List Loc) (ls : Array Slot), some (true, τ2) = some (true, τ) → Sit Γ τ2 s H locs → lv_has ls 9 [(0, .ref b), (1, .ref (ga Γ 0 0)), (2, .ref (ga Γ 8 0)), (3, .ref (ga Γ 180 0)), (4, .ref (ga Γ 181 0)), (5, .int i)] → W p l e room_1 s m args below meth c H locs (cc + 16) (ss + 256) Q (F0 m 3387 ls [])) : W p l e room_1 s m args below meth c H locs cc ss Q (F0 m 1289 ls []) := by
  unfold g_13 at hf
  have hx := X.1
  have hb := X.2.1
  refine lv_aload_n hx hb dL_law_1289 rfl (lv_at hl 1 rfl) ?_
  refine lv_aload_n hx hb dL_law_1290 rfl (lv_at hl 0 rfl) ?_
  refine lv_iload hx hb dL_law_1291 (lv_at hl 5 rfl) ?_
  refine lv_iconst (v := 1) hx hb dL_law_1293 (by decide) ?_
  refine lv_iadd hx hb dL_law_1294 ?_
  refine q_sld hx hb hL hw hf dL_law_1295 (fun hf => ?_)
  refine lv_aload_n hx hb dL_law_1296 rfl (lv_at hl 0 rfl) ?_
  refine lv_iload hx hb dL_law_1297 (lv_at hl 5 rfl) ?_
  refine lv_iconst (v := 2) hx hb dL_law_1299 (by decide) ?_
  refine lv_iadd hx hb dL_law_1300 ?_
  refine q_sld hx hb hL hw hf dL_law_1301 (fun hf => ?_)
  refine lv_aload_n hx hb dL_law_1302 rfl (lv_at hl 3 rfl) ?_
  refine q_eI hf hw (fun v τ h => q_rW (As := [.ref (ga Γ 0 0), .int (xs (Int32.toNatClampNeg (i + (1 : Int32)))), .int (xs (Int32.toNatClampNeg (i + (2 : Int32)))), .ref (ga Γ 180 0)]) (rest := []) X hK hw (kL_deliver hfl h) mwL_deliver lk_L_221 ⟨Nat.le_of_ble_eq_true rfl, Nat.le_of_ble_eq_true rfl⟩ rfl hl.1 rfl (Nat.le_of_ble_eq_true rfl) dL_law_1303 ⟨rmC (cc := cc) (a := 3) hC (Nat.le_of_ble_eq_true rfl), rmS (ss := ss) (a := 18) hS (Nat.le_of_ble_eq_true rfl)⟩) (fun v2 σ1 H locs hf hw => ?_)
  refine lv_istore (lv' := [(6, .int v2), (0, .ref b), (1, .ref (ga Γ 0 0)), (2, .ref (ga Γ 8 0)), (3, .ref (ga Γ 180 0)), (4, .ref (ga Γ 181 0)), (5, .int i)]) hx hb dL_law_1306 hl (by decide) rfl (fun ls hl => ?_)
  refine lv_aload_n hx hb dL_law_1308 rfl (lv_at hl 3 rfl) ?_
  refine lv_aload_n hx hb dL_law_1309 rfl (lv_at hl 1 rfl) ?_
  refine lv_iload hx hb dL_law_1310 (lv_at hl 6 rfl) ?_
  refine lv_iconst (v := 1) hx hb dL_law_1312 (by decide) ?_
  refine lv_iadd hx hb dL_law_1313 ?_
  refine q_sld hx hb hL hw hf dL_law_1314 (fun hf => ?_)
  refine lv_aload_n hx hb dL_law_1315 rfl (lv_at hl 1 rfl) ?_
  refine lv_iload hx hb dL_law_1316 (lv_at hl 6 rfl) ?_
  refine lv_iconst (v := 2) hx hb dL_law_1318 (by decide) ?_
  refine lv_iadd hx hb dL_law_1319 ?_
  refine q_sld hx hb hL hw hf dL_law_1320 (fun hf => ?_)
  refine q_eI hf hw (fun v τ h => q_rV (As := [.int (xs (Int32.toNatClampNeg (i + (1 : Int32)))), .int (xs (Int32.toNatClampNeg (i + (2 : Int32))))]) (rest := []) (q := (RX8, TX8, 32)) X hK hw rfl (Nat.le_of_ble_eq_true rfl : 0 < cnt (gn Γ) 8) (rfl : vwCl[10]? = _) (kX8_deliver h) mvX8_deliver lk_L_223 ⟨Nat.le_of_ble_eq_true rfl, Nat.le_of_ble_eq_true rfl⟩ rfl hl.1 rfl (Nat.le_of_ble_eq_true rfl) dL_law_1321 ⟨rmC (cc := cc) (a := 3) hC (Nat.le_of_ble_eq_true rfl), rmS (ss := ss) (a := 18) hS (Nat.le_of_ble_eq_true rfl)⟩) (fun v4 σ3 H locs hf hw => ?_)
  refine lv_istore (lv' := [(7, .int v4), (6, .int v2), (0, .ref b), (1, .ref (ga Γ 0 0)), (2, .ref (ga Γ 8 0)), (3, .ref (ga Γ 180 0)), (4, .ref (ga Γ 181 0)), (5, .int i)]) hx hb dL_law_1324 hl (by decide) rfl (fun ls hl => ?_)
  refine lv_aload_n hx hb dL_law_1326 rfl (lv_at hl 4 rfl) ?_
  refine q_pI hf hw (fun v h => q_rV (As := []) (rest := []) (q := (RX8, TX8, 32)) X hK hw rfl (Nat.le_of_ble_eq_true rfl : 0 < cnt (gn Γ) 8) (rfl : vwCl[10]? = _) (kX8_thrown h) mvX8_thrown lk_L_175 ⟨Nat.le_of_ble_eq_true rfl, Nat.le_of_ble_eq_true rfl⟩ rfl hl.1 rfl (Nat.le_of_ble_eq_true rfl) dL_law_1327 ⟨rmC (cc := cc) (a := 3) hC (Nat.le_of_ble_eq_true rfl), rmS (ss := ss) (a := 18) hS (Nat.le_of_ble_eq_true rfl)⟩) (fun v5 H locs hf hw => ?_)
  refine lv_iload hx hb dL_law_1330 (lv_at hl 1 rfl) ?_
  refine q_ic_eq (tgt := 1337) hx hb hf dL_law_1332 (by decide) (fun hf => ?_) (fun hf => ?_)
  · refine lv_iload hx hb dL_law_1337 (lv_at hl 1 rfl) ?_
    refine q_if_ne (tgt := 1354) hx hb hf dL_law_1339 (by decide) (fun hf => ?_) (fun hf => ?_)
    · refine lv_goto (tgt := 3387) hx hb dL_law_1354 (by decide) ?_
      exact W.widen (k := cc + 16) (n := ss + 256) (Nat.add_le_add_left (Nat.le_of_ble_eq_true rfl : 3 ≤ 16) cc) (Nat.add_le_add_left (Nat.le_of_ble_eq_true rfl : 18 ≤ 256) ss) (kk _ _ _ _ hf hw (lv_sub hl [2, 3, 4, 5, 6, 7] rfl))
    refine lv_aload_n hx hb dL_law_1342 rfl (lv_at hl 5 rfl) ?_
    refine lv_iconst (v := 0) hx hb dL_law_1343 (by decide) ?_
    refine q_lalo0 hx hb hK hw dL_law_1344 ?_
    refine lv_iload hx hb dL_law_1345 (lv_at hl 0 rfl) ?_
    refine lv_i2l hx hb dL_law_1347 rfl ?_
    refine W.lcmp hx hb dL_law_1348 ?_
    refine q_if_eq (tgt := 1354) hx hb hf dL_law_1349 (by decide) (fun hf => ?_) (fun hf => ?_)
    · refine lv_goto (tgt := 3387) hx hb dL_law_1354 (by decide) ?_
      exact W.widen (k := cc + 16) (n := ss + 256) (Nat.add_le_add_left (Nat.le_of_ble_eq_true rfl : 3 ≤ 16) cc) (Nat.add_le_add_left (Nat.le_of_ble_eq_true rfl : 18 ≤ 256) ss) (kk _ _ _ _ hf hw (lv_sub hl [2, 3, 4, 5, 6, 7] rfl))
    refine lv_iconst (v := 0) hx hb dL_law_1352 (by decide) ?_
    exact nomatch hf
  refine lv_iconst (v := 0) hx hb dL_law_1335 (by decide) ?_
  exact nomatch hf
set_option maxRecDepth 100000 in
theorem cs_14 {p : Program} {l : Launch} {e : Env} {s : State} {m : MethodId} {args : Array Value} {below : List Frame} {meth : Method} {c : Code} {H : Heap} {locs : List Loc} {Q : State → Prop} {ls : Array Slot} {Γ : Gm} {b L N cc ss : Nat} {xs : Nat → Int32} {σ τ : St} {i : Int32} (hfl : l.stackTraces = false) (X : Fx p c cL_law 9 s m RL) (hK : KK Γ STR s.heap.size s) (hL : LX Γ s b L xs) (hC : cc + 16 ≤ 603072) (hS : ss + 256 ≤ 7223402) (hf : g_14 N xs L σ i = some (true, τ)) (hw : Sit Γ σ s H locs) (hl : lv_has ls 9 [(0, .ref b), (1, .ref (ga Γ 0 0)), (2, .ref (ga Γ 8 0)), (3, .ref (ga Γ 180 0)), (4, .ref (ga Γ 181 0)), (5, .int i)])
    (kk : ∀ (τ2 : St) (H : Heap) (locs : List Loc) (ls : Array Slot), some (true, τ2) = some (true, τ) → Sit Γ τ2 s H locs → lv_has ls 9 [(0, .ref b), (1, .ref (ga Γ 0 0)), (2, .ref (ga Γ 8 0)), (3, .ref (ga Γ 180 0)), (4, .ref (ga Γ 181 0)), (5, .int i)] → W p l e room_1 s m args below meth c H locs (cc + 16) (ss + 256) Q (F0 m 3387 ls [])) : W p l e room_1 s m args below meth c H locs cc ss Q (F0 m 1357 ls []) := by
  unfold g_14 at hf
  have hx := X.1
  have hb := X.2.1
  refine lv_aload_n hx hb dL_law_1357 rfl (lv_at hl 1 rfl) ?_
  refine lv_aload_n hx hb dL_law_1358 rfl (lv_at hl 0 rfl) ?_
  refine lv_iload hx hb dL_law_1359 (lv_at hl 5 rfl) ?_
  refine lv_iconst (v := 1) hx hb dL_law_1361 (by decide) ?_
  refine lv_iadd hx hb dL_law_1362 ?_
  refine q_sld hx hb hL hw hf dL_law_1363 (fun hf => ?_)
  refine lv_aload_n hx hb dL_law_1364 rfl (lv_at hl 0 rfl) ?_
  refine lv_iload hx hb dL_law_1365 (lv_at hl 5 rfl) ?_
  refine lv_iconst (v := 2) hx hb dL_law_1367 (by decide) ?_
  refine lv_iadd hx hb dL_law_1368 ?_
  refine q_sld hx hb hL hw hf dL_law_1369 (fun hf => ?_)
  refine lv_aload_n hx hb dL_law_1370 rfl (lv_at hl 3 rfl) ?_
  refine q_eI hf hw (fun v τ h => q_rW (As := [.ref (ga Γ 0 0), .int (xs (Int32.toNatClampNeg (i + (1 : Int32)))), .int (xs (Int32.toNatClampNeg (i + (2 : Int32)))), .ref (ga Γ 180 0)]) (rest := []) X hK hw (kL_sync hfl h) mwL_sync lk_L_224 ⟨Nat.le_of_ble_eq_true rfl, Nat.le_of_ble_eq_true rfl⟩ rfl hl.1 rfl (Nat.le_of_ble_eq_true rfl) dL_law_1371 ⟨rmC (cc := cc) (a := 3) hC (Nat.le_of_ble_eq_true rfl), rmS (ss := ss) (a := 18) hS (Nat.le_of_ble_eq_true rfl)⟩) (fun v2 σ1 H locs hf hw => ?_)
  refine lv_istore (lv' := [(6, .int v2), (0, .ref b), (1, .ref (ga Γ 0 0)), (2, .ref (ga Γ 8 0)), (3, .ref (ga Γ 180 0)), (4, .ref (ga Γ 181 0)), (5, .int i)]) hx hb dL_law_1374 hl (by decide) rfl (fun ls hl => ?_)
  refine lv_aload_n hx hb dL_law_1376 rfl (lv_at hl 3 rfl) ?_
  refine lv_aload_n hx hb dL_law_1377 rfl (lv_at hl 1 rfl) ?_
  refine lv_iload hx hb dL_law_1378 (lv_at hl 6 rfl) ?_
  refine lv_iconst (v := 1) hx hb dL_law_1380 (by decide) ?_
  refine lv_iadd hx hb dL_law_1381 ?_
  refine q_sld hx hb hL hw hf dL_law_1382 (fun hf => ?_)
  refine lv_aload_n hx hb dL_law_1383 rfl (lv_at hl 1 rfl) ?_
  refine lv_iload hx hb dL_law_1384 (lv_at hl 6 rfl) ?_
  refine lv_iconst (v := 2) hx hb dL_law_1386 (by decide) ?_
  refine lv_iadd hx hb dL_law_1387 ?_
  refine q_sld hx hb hL hw hf dL_law_1388 (fun hf => ?_)
  refine q_eI hf hw (fun v τ h => q_rV (As := [.int (xs (Int32.toNatClampNeg (i + (1 : Int32)))), .int (xs (Int32.toNatClampNeg (i + (2 : Int32))))]) (rest := []) (q := (RX8, TX8, 32)) X hK hw rfl (Nat.le_of_ble_eq_true rfl : 0 < cnt (gn Γ) 8) (rfl : vwCl[10]? = _) (kX8_sync h) mvX8_sync lk_L_226 ⟨Nat.le_of_ble_eq_true rfl, Nat.le_of_ble_eq_true rfl⟩ rfl hl.1 rfl (Nat.le_of_ble_eq_true rfl) dL_law_1389 ⟨rmC (cc := cc) (a := 3) hC (Nat.le_of_ble_eq_true rfl), rmS (ss := ss) (a := 18) hS (Nat.le_of_ble_eq_true rfl)⟩) (fun v4 σ3 H locs hf hw => ?_)
  refine lv_istore (lv' := [(7, .int v4), (6, .int v2), (0, .ref b), (1, .ref (ga Γ 0 0)), (2, .ref (ga Γ 8 0)), (3, .ref (ga Γ 180 0)), (4, .ref (ga Γ 181 0)), (5, .int i)]) hx hb dL_law_1392 hl (by decide) rfl (fun ls hl => ?_)
  refine lv_aload_n hx hb dL_law_1394 rfl (lv_at hl 4 rfl) ?_
  refine q_pI hf hw (fun v h => q_rV (As := []) (rest := []) (q := (RX8, TX8, 32)) X hK hw rfl (Nat.le_of_ble_eq_true rfl : 0 < cnt (gn Γ) 8) (rfl : vwCl[10]? = _) (kX8_thrown h) mvX8_thrown lk_L_175 ⟨Nat.le_of_ble_eq_true rfl, Nat.le_of_ble_eq_true rfl⟩ rfl hl.1 rfl (Nat.le_of_ble_eq_true rfl) dL_law_1395 ⟨rmC (cc := cc) (a := 3) hC (Nat.le_of_ble_eq_true rfl), rmS (ss := ss) (a := 18) hS (Nat.le_of_ble_eq_true rfl)⟩) (fun v5 H locs hf hw => ?_)
  refine lv_iload hx hb dL_law_1398 (lv_at hl 1 rfl) ?_
  refine q_ic_eq (tgt := 1405) hx hb hf dL_law_1400 (by decide) (fun hf => ?_) (fun hf => ?_)
  · refine lv_iload hx hb dL_law_1405 (lv_at hl 1 rfl) ?_
    refine q_if_ne (tgt := 1422) hx hb hf dL_law_1407 (by decide) (fun hf => ?_) (fun hf => ?_)
    · refine lv_goto (tgt := 3387) hx hb dL_law_1422 (by decide) ?_
      exact W.widen (k := cc + 16) (n := ss + 256) (Nat.add_le_add_left (Nat.le_of_ble_eq_true rfl : 3 ≤ 16) cc) (Nat.add_le_add_left (Nat.le_of_ble_eq_true rfl : 18 ≤ 256) ss) (kk _ _ _ _ hf hw (lv_sub hl [2, 3, 4, 5, 6, 7] rfl))
    refine lv_aload_n hx hb dL_law_1410 rfl (lv_at hl 5 rfl) ?_
    refine lv_iconst (v := 0) hx hb dL_law_1411 (by decide) ?_
    refine q_lalo0 hx hb hK hw dL_law_1412 ?_
    refine lv_iload hx hb dL_law_1413 (lv_at hl 0 rfl) ?_
    refine lv_i2l hx hb dL_law_1415 rfl ?_
    refine W.lcmp hx hb dL_law_1416 ?_
    refine q_if_eq (tgt := 1422) hx hb hf dL_law_1417 (by decide) (fun hf => ?_) (fun hf => ?_)
    · refine lv_goto (tgt := 3387) hx hb dL_law_1422 (by decide) ?_
      exact W.widen (k := cc + 16) (n := ss + 256) (Nat.add_le_add_left (Nat.le_of_ble_eq_true rfl : 3 ≤ 16) cc) (Nat.add_le_add_left (Nat.le_of_ble_eq_true rfl : 18 ≤ 256) ss) (kk _ _ _ _ hf hw (lv_sub hl [2, 3, 4, 5, 6, 7] rfl))
    refine lv_iconst (v := 0) hx hb dL_law_1420 (by decide) ?_
    exact nomatch hf
  refine lv_iconst (v := 0) hx hb dL_law_1403 (by decide) ?_
  exact nomatch hf
