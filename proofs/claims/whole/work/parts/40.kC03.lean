/-! Contracts, by program. -/
set_option maxRecDepth 100000 in
theorem kX8_bends {Γ : Gm} {S : List (String × Nat × String)} {l : Launch} {N : Nat} {σ τ : St} {x1 : Int32} {x2 : Int32} {r : Int32}  (hf : fX8_bends N σ x1 x2 = some (r, τ)) : CT Γ S l yX8_bends cX8_bends 3 (some (.int)) 5 126 0 0 [.ref (ga Γ 8 0), .int x1, .int x2] (some (.int r)) σ τ := by
  unfold fX8_bends at hf
  refine ct_body (lv := [(0, .ref (ga Γ 8 0)), (1, .int x1), (2, .int x2)]) (by decide +kernel) rfl (Nat.le_of_ble_eq_true rfl) ?_
  intro p e s m below meth c ls X hr hk hK hw hl
  have hx := X.1
  have hb := X.2.1
  have hown := X.2.2.2
  refine lv_aload_n hx hb dX8_bends_0 rfl (lv_at hl 0 rfl) ?_
  refine lv_iload_n hx hb dX8_bends_1 rfl (lv_at hl 1 rfl) ?_
  refine lv_iload_n hx hb dX8_bends_2 rfl (lv_at hl 2 rfl) ?_
  refine q_eI hf hw (fun v τ h => q_rV (As := [.int x1, .int x2]) (rest := []) (q := (RX8, TX8, 32)) X hK hw rfl (Nat.le_of_ble_eq_true rfl : 0 < cnt (gn Γ) 8) (rfl : vwCl[10]? = _) (kX8_asked h) mvX8_asked lk_X8_264 ⟨Nat.le_of_ble_eq_true rfl, Nat.le_of_ble_eq_true rfl⟩ rfl hl.1 rfl (Nat.le_of_ble_eq_true rfl) dX8_bends_3 ⟨Nat.le_of_ble_eq_true rfl, Nat.le_of_ble_eq_true rfl⟩) (fun v2 σ1 H locs hf hw => ?_)
  refine lv_sipush (v := 1000) hx hb dX8_bends_6 (by decide) ?_
  refine lv_idiv hx hb dX8_bends_9 (by decide) ?_
  exact q_eiret hf hx hb hr rfl hk hw dX8_bends_10 (Nat.le_of_ble_eq_true rfl) (Nat.le_of_ble_eq_true rfl)
set_option maxRecDepth 100000 in
theorem kX8_bendsByRounds {Γ : Gm} {S : List (String × Nat × String)} {l : Launch} {N : Nat} {σ τ : St} {x1 : Int32} {x2 : Int32} {r : Int32}  (hf : fX8_bendsByRounds N σ x1 x2 = some (r, τ)) : CT Γ S l yX8_bendsByRounds cX8_bendsByRounds 3 (some (.int)) 6 148 0 0 [.ref (ga Γ 8 0), .int x1, .int x2] (some (.int r)) σ τ := by
  unfold fX8_bendsByRounds at hf
  refine ct_body (lv := [(0, .ref (ga Γ 8 0)), (1, .int x1), (2, .int x2)]) (by decide +kernel) rfl (Nat.le_of_ble_eq_true rfl) ?_
  intro p e s m below meth c ls X hr hk hK hw hl
  have hx := X.1
  have hb := X.2.1
  have hown := X.2.2.2
  refine lv_aload_n hx hb dX8_bendsByRounds_0 rfl (lv_at hl 0 rfl) ?_
  refine lv_iload_n hx hb dX8_bendsByRounds_1 rfl (lv_at hl 1 rfl) ?_
  refine lv_iload_n hx hb dX8_bendsByRounds_2 rfl (lv_at hl 2 rfl) ?_
  refine q_eI hf hw (fun v τ h => q_rV (As := [.int x1, .int x2]) (rest := []) (q := (RX8, TX8, 32)) X hK hw rfl (Nat.le_of_ble_eq_true rfl : 0 < cnt (gn Γ) 8) (rfl : vwCl[10]? = _) (kX8_bends h) mvX8_bends lk_X8_267 ⟨Nat.le_of_ble_eq_true rfl, Nat.le_of_ble_eq_true rfl⟩ rfl hl.1 rfl (Nat.le_of_ble_eq_true rfl) dX8_bendsByRounds_3 ⟨Nat.le_of_ble_eq_true rfl, Nat.le_of_ble_eq_true rfl⟩) (fun v2 σ1 H locs hf hw => ?_)
  exact q_eiret hf hx hb hr rfl hk hw dX8_bendsByRounds_6 (Nat.le_of_ble_eq_true rfl) (Nat.le_of_ble_eq_true rfl)
set_option maxRecDepth 100000 in
theorem kX8_routeLength {Γ : Gm} {S : List (String × Nat × String)} {l : Launch} {N : Nat} {σ τ : St} {x1 : Int32} {x2 : Int32} {r : Int32}  (hf : fX8_routeLength N σ x1 x2 = some (r, τ)) : CT Γ S l yX8_routeLength cX8_routeLength 3 (some (.int)) 5 126 0 0 [.ref (ga Γ 8 0), .int x1, .int x2] (some (.int r)) σ τ := by
  unfold fX8_routeLength at hf
  refine ct_body (lv := [(0, .ref (ga Γ 8 0)), (1, .int x1), (2, .int x2)]) (by decide +kernel) rfl (Nat.le_of_ble_eq_true rfl) ?_
  intro p e s m below meth c ls X hr hk hK hw hl
  have hx := X.1
  have hb := X.2.1
  have hown := X.2.2.2
  refine lv_aload_n hx hb dX8_routeLength_0 rfl (lv_at hl 0 rfl) ?_
  refine lv_iload_n hx hb dX8_routeLength_1 rfl (lv_at hl 1 rfl) ?_
  refine lv_iload_n hx hb dX8_routeLength_2 rfl (lv_at hl 2 rfl) ?_
  refine q_eI hf hw (fun v τ h => q_rV (As := [.int x1, .int x2]) (rest := []) (q := (RX8, TX8, 32)) X hK hw rfl (Nat.le_of_ble_eq_true rfl : 0 < cnt (gn Γ) 8) (rfl : vwCl[10]? = _) (kX8_asked h) mvX8_asked lk_X8_264 ⟨Nat.le_of_ble_eq_true rfl, Nat.le_of_ble_eq_true rfl⟩ rfl hl.1 rfl (Nat.le_of_ble_eq_true rfl) dX8_routeLength_3 ⟨Nat.le_of_ble_eq_true rfl, Nat.le_of_ble_eq_true rfl⟩) (fun v2 σ1 H locs hf hw => ?_)
  refine lv_sipush (v := 1000) hx hb dX8_routeLength_6 (by decide) ?_
  refine lv_irem hx hb dX8_routeLength_9 (by decide) ?_
  exact q_eiret hf hx hb hr rfl hk hw dX8_routeLength_10 (Nat.le_of_ble_eq_true rfl) (Nat.le_of_ble_eq_true rfl)
set_option maxRecDepth 100000 in
theorem kX8_ownVotes {Γ : Gm} {S : List (String × Nat × String)} {l : Launch} {N : Nat} {σ τ : St} {x1 : Int32} {x2 : Int32} {r : Int32}  (hf : fX8_ownVotes N σ x1 x2 = some (r, τ)) : CT Γ S l yX8_ownVotes cX8_ownVotes 3 (some (.int)) 5 109 0 0 [.ref (ga Γ 8 0), .int x1, .int x2] (some (.int r)) σ τ := by
  unfold fX8_ownVotes at hf
  refine ct_body (lv := [(0, .ref (ga Γ 8 0)), (1, .int x1), (2, .int x2)]) (by decide +kernel) rfl (Nat.le_of_ble_eq_true rfl) ?_
  intro p e s m below meth c ls X hr hk hK hw hl
  have hx := X.1
  have hb := X.2.1
  have hown := X.2.2.2
  refine lv_aload_n hx hb dX8_ownVotes_0 rfl (lv_at hl 0 rfl) ?_
  refine lv_iload_n hx hb dX8_ownVotes_1 rfl (lv_at hl 1 rfl) ?_
  refine lv_iload_n hx hb dX8_ownVotes_2 rfl (lv_at hl 2 rfl) ?_
  refine q_eI hf hw (fun v τ h => q_rV (As := [.int x1, .int x2]) (rest := []) (q := (RX8, TX8, 32)) X hK hw rfl (Nat.le_of_ble_eq_true rfl : 0 < cnt (gn Γ) 8) (rfl : vwCl[10]? = _) (kX8_isUnseen h) mvX8_isUnseen lk_X8_231 ⟨Nat.le_of_ble_eq_true rfl, Nat.le_of_ble_eq_true rfl⟩ rfl hl.1 rfl (Nat.le_of_ble_eq_true rfl) dX8_ownVotes_3 ⟨Nat.le_of_ble_eq_true rfl, Nat.le_of_ble_eq_true rfl⟩) (fun v2 σ1 H locs hf hw => ?_)
  refine q_if_eq (tgt := 13) hx hb hf dX8_ownVotes_6 (by decide) (fun hf => ?_) (fun hf => ?_)
  · refine lv_aload_n hx hb dX8_ownVotes_13 rfl (lv_at hl 0 rfl) ?_
    refine q_get (v := .ref (ga Γ 157 0)) hx hb hK hw hown in_X8 ins_X8 (rfl : vwCl[10]? = some (RX8, TX8, 32)) rfl (Nat.le_of_ble_eq_true rfl : 0 < cnt (gn Γ) 8) 21 (by decide) 1375 fl_X8_67 rfl rfl dX8_ownVotes_14 ?_
    refine lv_bipush (v := 56) hx hb dX8_ownVotes_17 (by decide) ?_
    refine lv_bipush (v := 12) hx hb dX8_ownVotes_19 (by decide) ?_
    refine lv_iload_n hx hb dX8_ownVotes_21 rfl (lv_at hl 1 rfl) ?_
    refine lv_imul hx hb dX8_ownVotes_22 ?_
    refine lv_iadd hx hb dX8_ownVotes_23 ?_
    refine lv_iload_n hx hb dX8_ownVotes_24 rfl (lv_at hl 2 rfl) ?_
    refine lv_iadd hx hb dX8_ownVotes_25 ?_
    refine q_iald hx hb hK hw (k := 157) (o := 0) (fun _ _ _ => rfl) (Nat.le_of_ble_eq_true rfl : 0 < cnt (gn Γ) 157) hf dX8_ownVotes_26 (fun hf => ?_)
    exact q_eiret hf hx hb hr rfl hk hw dX8_ownVotes_27 (Nat.le_of_ble_eq_true rfl) (Nat.le_of_ble_eq_true rfl)
  refine lv_iconst (v := 0) hx hb dX8_ownVotes_9 (by decide) ?_
  refine lv_goto (tgt := 27) hx hb dX8_ownVotes_10 (by decide) ?_
  exact q_eiret hf hx hb hr rfl hk hw dX8_ownVotes_27 (Nat.le_of_ble_eq_true rfl) (Nat.le_of_ble_eq_true rfl)
set_option maxRecDepth 100000 in
theorem kX8_votes {Γ : Gm} {S : List (String × Nat × String)} {l : Launch} {N : Nat} {σ : St} {x1 : Int32} {r : Int32}  (hf : fX8_votes N σ x1 = some r) : CT Γ S l yX8_votes cX8_votes 4 (some (.int)) 0 0 0 0 [.ref (ga Γ 8 0), .int x1] (some (.int r)) σ σ := by
  unfold fX8_votes at hf
  refine ct_body (lv := [(0, .ref (ga Γ 8 0)), (1, .int x1)]) (by decide +kernel) rfl (Nat.le_of_ble_eq_true rfl) ?_
  intro p e s m below meth c ls X hr hk hK hw hl
  have hx := X.1
  have hb := X.2.1
  have hown := X.2.2.2
  refine lv_iconst (v := 0) hx hb dX8_votes_0 (by decide) ?_
  refine lv_istore_n (lv' := [(2, .int (0 : Int32)), (0, .ref (ga Γ 8 0)), (1, .int x1)]) hx hb dX8_votes_1 rfl hl (by decide) rfl (fun ls hl => ?_)
  refine lv_iconst (v := 0) hx hb dX8_votes_2 (by decide) ?_
  refine lv_istore_n (lv' := [(3, .int (0 : Int32)), (2, .int (0 : Int32)), (0, .ref (ga Γ 8 0)), (1, .int x1)]) hx hb dX8_votes_3 rfl hl (by decide) rfl (fun ls hl => ?_)
  have L4 : ∀ (K : Int32 → Int32 → Option (Int32)) (hkk : ∀ (y2 : Int32) (y3 : Int32) (H : Heap) (locs : List Loc) (ls : Array Slot), K y2 y3 = some r → Sit Γ σ s H locs → lv_has ls 4 [(2, .int y2)] → W p l e { frames := 0, cells := 0, slots := 0, locals := 0 } s m [.ref (ga Γ 8 0), .int x1].toArray below meth c H locs 0 0 (MQ below (Qg Γ (some (.int r)) σ (AA Γ s.heap.size)) [.ref (ga Γ 8 0), .int x1].toArray s 0 0 (AA Γ s.heap.size)) (F0 m 32 ls [])) (n : Nat) (v1 : Int32) (v2 : Int32) (H : Heap) (locs : List Loc) (ls : Array Slot), fX8_votes_L4 K N σ x1 n v1 v2 = some r → Sit Γ σ s H locs → lv_has ls 4 [(0, .ref (ga Γ 8 0)), (1, .int x1), (2, .int v1), (3, .int v2)] → W p l e { frames := 0, cells := 0, slots := 0, locals := 0 } s m [.ref (ga Γ 8 0), .int x1].toArray below meth c H locs 0 0 (MQ below (Qg Γ (some (.int r)) σ (AA Γ s.heap.size)) [.ref (ga Γ 8 0), .int x1].toArray s 0 0 (AA Γ s.heap.size)) (F0 m 4 ls []) := by
    intro K hkk n
    induction n with
    | zero =>
      intro _ _ _ _ _ hf
      exact nomatch hf
    | succ n ih =>
      intro v1 v2 H locs ls hf hw hl
      refine lv_iload_n hx hb dX8_votes_4 rfl (lv_at hl 3 rfl) ?_
      refine lv_iconst (v := 3) hx hb dX8_votes_5 (by decide) ?_
      refine q_ic_ge (tgt := 32) hx hb hf dX8_votes_6 (by decide) (fun hf => ?_) (fun hf => ?_)
      · exact hkk _ _ _ _ _ hf hw (lv_sub hl [2] rfl)
      refine lv_iload_n hx hb dX8_votes_9 rfl (lv_at hl 2 rfl) ?_
      refine lv_aload_n hx hb dX8_votes_10 rfl (lv_at hl 0 rfl) ?_
      refine q_get (v := .ref (ga Γ 157 0)) hx hb hK hw hown in_X8 ins_X8 (rfl : vwCl[10]? = some (RX8, TX8, 32)) rfl (Nat.le_of_ble_eq_true rfl : 0 < cnt (gn Γ) 8) 21 (by decide) 1375 fl_X8_67 rfl rfl dX8_votes_11 ?_
      refine lv_bipush (v := 56) hx hb dX8_votes_14 (by decide) ?_
      refine lv_bipush (v := 12) hx hb dX8_votes_16 (by decide) ?_
      refine lv_iload_n hx hb dX8_votes_18 rfl (lv_at hl 3 rfl) ?_
      refine lv_imul hx hb dX8_votes_19 ?_
      refine lv_iadd hx hb dX8_votes_20 ?_
      refine lv_iload_n hx hb dX8_votes_21 rfl (lv_at hl 1 rfl) ?_
      refine lv_iadd hx hb dX8_votes_22 ?_
      refine q_iald hx hb hK hw (k := 157) (o := 0) (fun _ _ _ => rfl) (Nat.le_of_ble_eq_true rfl : 0 < cnt (gn Γ) 157) hf dX8_votes_23 (fun hf => ?_)
      refine lv_iadd hx hb dX8_votes_24 ?_
      refine q_istore_n (lv1 := [(0, .ref (ga Γ 8 0)), (1, .int x1), (3, .int v2)]) hx hb hf dX8_votes_25 rfl hl (by decide) rfl (fun v3 ls hf hl => ?_)
      refine q_iinc (lv1 := [(2, .int v3), (0, .ref (ga Γ 8 0)), (1, .int x1)]) (d := 1) hx hb hf dX8_votes_26 hl (k := 3) rfl (by decide) (by decide) rfl (fun v4 ls hf hl => ?_)
      refine lv_goto (tgt := 4) hx hb dX8_votes_29 (by decide) ?_
      exact ih _ _ _ _ _ hf hw (lv_sub hl [2, 3, 1, 0] rfl)
  refine L4 _ (fun v5 _ H locs ls hf hw hl => ?_) N (0 : Int32) (0 : Int32) _ _ _ hf hw (lv_sub hl [2, 3, 1, 0] rfl)
  refine lv_iload_n hx hb dX8_votes_32 rfl (lv_at hl 0 rfl) ?_
  exact q_iret hf hx hb hr rfl hk hw dX8_votes_33 (Nat.le_of_ble_eq_true rfl) (Nat.le_of_ble_eq_true rfl)
set_option maxRecDepth 100000 in
theorem kX8_votesFor {Γ : Gm} {S : List (String × Nat × String)} {l : Launch} {N : Nat} {σ τ : St} {x1 : Int32} {x2 : Int32} {r : Int32}  (hf : fX8_votesFor N σ x1 x2 = some (r, τ)) : CT Γ S l yX8_votesFor cX8_votesFor 3 (some (.int)) 5 109 0 0 [.ref (ga Γ 8 0), .int x1, .int x2] (some (.int r)) σ τ := by
  unfold fX8_votesFor at hf
  refine ct_body (lv := [(0, .ref (ga Γ 8 0)), (1, .int x1), (2, .int x2)]) (by decide +kernel) rfl (Nat.le_of_ble_eq_true rfl) ?_
  intro p e s m below meth c ls X hr hk hK hw hl
  have hx := X.1
  have hb := X.2.1
  have hown := X.2.2.2
  refine lv_aload_n hx hb dX8_votesFor_0 rfl (lv_at hl 0 rfl) ?_
  refine lv_iload_n hx hb dX8_votesFor_1 rfl (lv_at hl 1 rfl) ?_
  refine lv_iload_n hx hb dX8_votesFor_2 rfl (lv_at hl 2 rfl) ?_
  refine q_eI hf hw (fun v τ h => q_rV (As := [.int x1, .int x2]) (rest := []) (q := (RX8, TX8, 32)) X hK hw rfl (Nat.le_of_ble_eq_true rfl : 0 < cnt (gn Γ) 8) (rfl : vwCl[10]? = _) (kX8_isUnseen h) mvX8_isUnseen lk_X8_231 ⟨Nat.le_of_ble_eq_true rfl, Nat.le_of_ble_eq_true rfl⟩ rfl hl.1 rfl (Nat.le_of_ble_eq_true rfl) dX8_votesFor_3 ⟨Nat.le_of_ble_eq_true rfl, Nat.le_of_ble_eq_true rfl⟩) (fun v2 σ1 H locs hf hw => ?_)
  refine q_if_eq (tgt := 11) hx hb hf dX8_votesFor_6 (by decide) (fun hf => ?_) (fun hf => ?_)
  · refine lv_aload_n hx hb dX8_votesFor_11 rfl (lv_at hl 0 rfl) ?_
    refine q_get (v := .ref (ga Γ 157 0)) hx hb hK hw hown in_X8 ins_X8 (rfl : vwCl[10]? = some (RX8, TX8, 32)) rfl (Nat.le_of_ble_eq_true rfl : 0 < cnt (gn Γ) 8) 21 (by decide) 1375 fl_X8_67 rfl rfl dX8_votesFor_12 ?_
    refine lv_bipush (v := 92) hx hb dX8_votesFor_15 (by decide) ?_
    refine q_iald hx hb hK hw (k := 157) (o := 0) (fun _ _ _ => rfl) (Nat.le_of_ble_eq_true rfl : 0 < cnt (gn Γ) 157) hf dX8_votesFor_17 (fun hf => ?_)
    refine lv_iconst (v := 1) hx hb dX8_votesFor_18 (by decide) ?_
    refine q_ic_ne (tgt := 30) hx hb hf dX8_votesFor_19 (by decide) (fun hf => ?_) (fun hf => ?_)
    · refine lv_aload_n hx hb dX8_votesFor_30 rfl (lv_at hl 0 rfl) ?_
      refine lv_iconst (v := 3) hx hb dX8_votesFor_31 (by decide) ?_
      refine q_eI hf hw (fun v τ h => q_rV (As := [.int (3 : Int32)]) (rest := []) (q := (RX8, TX8, 32)) X hK hw rfl (Nat.le_of_ble_eq_true rfl : 0 < cnt (gn Γ) 8) (rfl : vwCl[10]? = _) (kX8_fails h) mvX8_fails lk_X8_172 ⟨Nat.le_of_ble_eq_true rfl, Nat.le_of_ble_eq_true rfl⟩ rfl hl.1 rfl (Nat.le_of_ble_eq_true rfl) dX8_votesFor_32 ⟨Nat.le_of_ble_eq_true rfl, Nat.le_of_ble_eq_true rfl⟩) (fun v4 σ3 H locs hf hw => ?_)
      exact q_eiret hf hx hb hr rfl hk hw dX8_votesFor_35 (Nat.le_of_ble_eq_true rfl) (Nat.le_of_ble_eq_true rfl)
    refine lv_aload_n hx hb dX8_votesFor_22 rfl (lv_at hl 0 rfl) ?_
    refine lv_iload_n hx hb dX8_votesFor_23 rfl (lv_at hl 2 rfl) ?_
    refine q_pI hf hw (fun v h => q_rV (As := [.int x2]) (rest := []) (q := (RX8, TX8, 32)) X hK hw rfl (Nat.le_of_ble_eq_true rfl : 0 < cnt (gn Γ) 8) (rfl : vwCl[10]? = _) (kX8_votes h) mvX8_votes lk_X8_270 ⟨Nat.le_of_ble_eq_true rfl, Nat.le_of_ble_eq_true rfl⟩ rfl hl.1 rfl (Nat.le_of_ble_eq_true rfl) dX8_votesFor_24 ⟨Nat.le_of_ble_eq_true rfl, Nat.le_of_ble_eq_true rfl⟩) (fun v5 H locs hf hw => ?_)
    refine lv_goto (tgt := 35) hx hb dX8_votesFor_27 (by decide) ?_
    exact q_eiret hf hx hb hr rfl hk hw dX8_votesFor_35 (Nat.le_of_ble_eq_true rfl) (Nat.le_of_ble_eq_true rfl)
  refine lv_iconst (v := 0) hx hb dX8_votesFor_9 (by decide) ?_
  exact q_eiret hf hx hb hr rfl hk hw dX8_votesFor_10 (Nat.le_of_ble_eq_true rfl) (Nat.le_of_ble_eq_true rfl)
set_option maxRecDepth 100000 in
theorem kX8_winner {Γ : Gm} {S : List (String × Nat × String)} {l : Launch} {N : Nat} {σ τ : St} {x1 : Int32} {r : Int32}  (hf : fX8_winner N σ x1 = some (r, τ)) : CT Γ S l yX8_winner cX8_winner 4 (some (.int)) 4 87 0 0 [.ref (ga Γ 8 0), .int x1] (some (.int r)) σ τ := by
  unfold fX8_winner at hf
  refine ct_body (lv := [(0, .ref (ga Γ 8 0)), (1, .int x1)]) (by decide +kernel) rfl (Nat.le_of_ble_eq_true rfl) ?_
  intro p e s m below meth c ls X hr hk hK hw hl
  have hx := X.1
  have hb := X.2.1
  have hown := X.2.2.2
  refine lv_aload_n hx hb dX8_winner_0 rfl (lv_at hl 0 rfl) ?_
  refine lv_iload_n hx hb dX8_winner_1 rfl (lv_at hl 1 rfl) ?_
  refine q_eI hf hw (fun v τ h => q_rV (As := [.int x1]) (rest := []) (q := (RX8, TX8, 32)) X hK hw rfl (Nat.le_of_ble_eq_true rfl : 0 < cnt (gn Γ) 8) (rfl : vwCl[10]? = _) (kX8_isNobody h) mvX8_isNobody lk_X8_228 ⟨Nat.le_of_ble_eq_true rfl, Nat.le_of_ble_eq_true rfl⟩ rfl hl.1 rfl (Nat.le_of_ble_eq_true rfl) dX8_winner_2 ⟨Nat.le_of_ble_eq_true rfl, Nat.le_of_ble_eq_true rfl⟩) (fun v2 σ1 H locs hf hw => ?_)
  refine q_if_eq (tgt := 10) hx hb hf dX8_winner_5 (by decide) (fun hf => ?_) (fun hf => ?_)
  · refine lv_aload_n hx hb dX8_winner_10 rfl (lv_at hl 0 rfl) ?_
    refine q_get (v := .ref (ga Γ 157 0)) hx hb hK hw hown in_X8 ins_X8 (rfl : vwCl[10]? = some (RX8, TX8, 32)) rfl (Nat.le_of_ble_eq_true rfl : 0 < cnt (gn Γ) 8) 21 (by decide) 1375 fl_X8_67 rfl rfl dX8_winner_11 ?_
    refine lv_bipush (v := 92) hx hb dX8_winner_14 (by decide) ?_
    refine q_iald hx hb hK hw (k := 157) (o := 0) (fun _ _ _ => rfl) (Nat.le_of_ble_eq_true rfl : 0 < cnt (gn Γ) 157) hf dX8_winner_16 (fun hf => ?_)
    refine q_if_ne (tgt := 26) hx hb hf dX8_winner_17 (by decide) (fun hf => ?_) (fun hf => ?_)
    · refine lv_iconst (v := (-1)) hx hb dX8_winner_26 (by decide) ?_
      refine q_istore_n (lv1 := [(0, .ref (ga Γ 8 0)), (1, .int x1)]) hx hb hf dX8_winner_27 rfl hl (by decide) rfl (fun v3 ls hf hl => ?_)
      refine lv_iconst (v := 0) hx hb dX8_winner_28 (by decide) ?_
      refine lv_istore_n (lv' := [(3, .int (0 : Int32)), (2, .int v3), (0, .ref (ga Γ 8 0)), (1, .int x1)]) hx hb dX8_winner_29 rfl hl (by decide) rfl (fun ls hl => ?_)
      have L30 : ∀ (K : Int32 → Int32 → Option ((Int32 × St))) (hkk : ∀ (y2 : Int32) (y3 : Int32) (H : Heap) (locs : List Loc) (ls : Array Slot), K y2 y3 = some (r, τ) → Sit Γ σ1 s H locs → lv_has ls 4 [(0, .ref (ga Γ 8 0)), (2, .int y2)] → W p l e { frames := 4, cells := 0, slots := 0, locals := 87 } s m [.ref (ga Γ 8 0), .int x1].toArray below meth c H locs 0 0 (MQ below (Qg Γ (some (.int r)) τ (AA Γ s.heap.size)) [.ref (ga Γ 8 0), .int x1].toArray s 0 0 (AA Γ s.heap.size)) (F0 m 79 ls [])) (n : Nat) (v4 : Int32) (v5 : Int32) (H : Heap) (locs : List Loc) (ls : Array Slot), fX8_winner_L30 K N σ1 n v4 v5 = some (r, τ) → Sit Γ σ1 s H locs → lv_has ls 4 [(0, .ref (ga Γ 8 0)), (2, .int v4), (3, .int v5)] → W p l e { frames := 4, cells := 0, slots := 0, locals := 87 } s m [.ref (ga Γ 8 0), .int x1].toArray below meth c H locs 0 0 (MQ below (Qg Γ (some (.int r)) τ (AA Γ s.heap.size)) [.ref (ga Γ 8 0), .int x1].toArray s 0 0 (AA Γ s.heap.size)) (F0 m 30 ls []) := by
        intro K hkk n
        induction n with
        | zero =>
          intro _ _ _ _ _ hf
          exact nomatch hf
        | succ n ih =>
          intro v4 v5 H locs ls hf hw hl
          refine lv_iload_n hx hb dX8_winner_30 rfl (lv_at hl 2 rfl) ?_
          refine lv_aload_n hx hb dX8_winner_31 rfl (lv_at hl 0 rfl) ?_
          refine q_get (v := .int (gI σ1 8 0 8)) hx hb hK hw hown in_X8 ins_X8 (rfl : vwCl[10]? = some (RX8, TX8, 32)) rfl (Nat.le_of_ble_eq_true rfl : 0 < cnt (gn Γ) 8) 8 (by decide) 1362 fl_X8_119 rfl rfl dX8_winner_32 ?_
          refine q_ic_ge (tgt := 79) hx hb hf dX8_winner_35 (by decide) (fun hf => ?_) (fun hf => ?_)
          · exact hkk _ _ _ _ _ hf hw (lv_sub hl [0, 1] rfl)
          refine lv_aload_n hx hb dX8_winner_38 rfl (lv_at hl 0 rfl) ?_
          refine lv_iload_n hx hb dX8_winner_39 rfl (lv_at hl 2 rfl) ?_
          refine q_pI hf hw (fun v h => q_rV (As := [.int v5]) (rest := []) (q := (RX8, TX8, 32)) X hK hw rfl (Nat.le_of_ble_eq_true rfl : 0 < cnt (gn Γ) 8) (rfl : vwCl[10]? = _) (kX8_isSeen h) mvX8_isSeen lk_X8_125 ⟨Nat.le_of_ble_eq_true rfl, Nat.le_of_ble_eq_true rfl⟩ rfl hl.1 rfl (Nat.le_of_ble_eq_true rfl) dX8_winner_40 ⟨Nat.le_of_ble_eq_true rfl, Nat.le_of_ble_eq_true rfl⟩) (fun v6 H locs hf hw => ?_)
          refine q_if_eq (tgt := 71) hx hb hf dX8_winner_43 (by decide) (fun hf => ?_) (fun hf => ?_)
          · refine lv_iload_n hx hb dX8_winner_71 rfl (lv_at hl 1 rfl) ?_
            refine lv_istore_n (lv' := [(2, .int v4), (0, .ref (ga Γ 8 0)), (3, .int v5)]) hx hb dX8_winner_72 rfl hl (by decide) rfl (fun ls hl => ?_)
            refine q_iinc (lv1 := [(2, .int v4), (0, .ref (ga Γ 8 0))]) (d := 1) hx hb hf dX8_winner_73 hl (k := 2) rfl (by decide) (by decide) rfl (fun v7 ls hf hl => ?_)
            refine lv_goto (tgt := 30) hx hb dX8_winner_76 (by decide) ?_
            exact ih _ _ _ _ _ hf hw (lv_sub hl [2, 1, 0] rfl)
          refine lv_aload_n hx hb dX8_winner_46 rfl (lv_at hl 0 rfl) ?_
          refine lv_iload_n hx hb dX8_winner_47 rfl (lv_at hl 2 rfl) ?_
          refine q_pI hf hw (fun v h => q_rV (As := [.int v5]) (rest := []) (q := (RX8, TX8, 32)) X hK hw rfl (Nat.le_of_ble_eq_true rfl : 0 < cnt (gn Γ) 8) (rfl : vwCl[10]? = _) (kX8_votes h) mvX8_votes lk_X8_270 ⟨Nat.le_of_ble_eq_true rfl, Nat.le_of_ble_eq_true rfl⟩ rfl hl.1 rfl (Nat.le_of_ble_eq_true rfl) dX8_winner_48 ⟨Nat.le_of_ble_eq_true rfl, Nat.le_of_ble_eq_true rfl⟩) (fun v8 H locs hf hw => ?_)
          refine lv_iload_n hx hb dX8_winner_51 rfl (lv_at hl 1 rfl) ?_
          refine q_if_ge (tgt := 59) hx hb hf dX8_winner_52 (by decide) (fun hf => ?_) (fun hf => ?_)
          · refine lv_aload_n hx hb dX8_winner_59 rfl (lv_at hl 0 rfl) ?_
            refine lv_iload_n hx hb dX8_winner_60 rfl (lv_at hl 1 rfl) ?_
            refine q_pI hf hw (fun v h => q_rV (As := [.int v4]) (rest := [.int v8]) (q := (RX8, TX8, 32)) X hK hw rfl (Nat.le_of_ble_eq_true rfl : 0 < cnt (gn Γ) 8) (rfl : vwCl[10]? = _) (kX8_votes h) mvX8_votes lk_X8_270 ⟨Nat.le_of_ble_eq_true rfl, Nat.le_of_ble_eq_true rfl⟩ rfl hl.1 rfl (Nat.le_of_ble_eq_true rfl) dX8_winner_61 ⟨Nat.le_of_ble_eq_true rfl, Nat.le_of_ble_eq_true rfl⟩) (fun v9 H locs hf hw => ?_)
            refine q_ic_le (tgt := 71) hx hb hf dX8_winner_64 (by decide) (fun hf => ?_) (fun hf => ?_)
            · refine lv_iload_n hx hb dX8_winner_71 rfl (lv_at hl 1 rfl) ?_
              refine lv_istore_n (lv' := [(2, .int v4), (0, .ref (ga Γ 8 0)), (3, .int v5)]) hx hb dX8_winner_72 rfl hl (by decide) rfl (fun ls hl => ?_)
              refine q_iinc (lv1 := [(2, .int v4), (0, .ref (ga Γ 8 0))]) (d := 1) hx hb hf dX8_winner_73 hl (k := 2) rfl (by decide) (by decide) rfl (fun v10 ls hf hl => ?_)
              refine lv_goto (tgt := 30) hx hb dX8_winner_76 (by decide) ?_
              exact ih _ _ _ _ _ hf hw (lv_sub hl [2, 1, 0] rfl)
            refine lv_iload_n hx hb dX8_winner_67 rfl (lv_at hl 2 rfl) ?_
            refine lv_goto (tgt := 72) hx hb dX8_winner_68 (by decide) ?_
            refine lv_istore_n (lv' := [(2, .int v5), (0, .ref (ga Γ 8 0)), (3, .int v5)]) hx hb dX8_winner_72 rfl hl (by decide) rfl (fun ls hl => ?_)
            refine q_iinc (lv1 := [(2, .int v5), (0, .ref (ga Γ 8 0))]) (d := 1) hx hb hf dX8_winner_73 hl (k := 2) rfl (by decide) (by decide) rfl (fun v11 ls hf hl => ?_)
            refine lv_goto (tgt := 30) hx hb dX8_winner_76 (by decide) ?_
            exact ih _ _ _ _ _ hf hw (lv_sub hl [2, 1, 0] rfl)
          refine lv_iconst (v := 0) hx hb dX8_winner_55 (by decide) ?_
          refine lv_goto (tgt := 64) hx hb dX8_winner_56 (by decide) ?_
          refine q_ic_le (tgt := 71) hx hb hf dX8_winner_64 (by decide) (fun hf => ?_) (fun hf => ?_)
          · refine lv_iload_n hx hb dX8_winner_71 rfl (lv_at hl 1 rfl) ?_
            refine lv_istore_n (lv' := [(2, .int v4), (0, .ref (ga Γ 8 0)), (3, .int v5)]) hx hb dX8_winner_72 rfl hl (by decide) rfl (fun ls hl => ?_)
            refine q_iinc (lv1 := [(2, .int v4), (0, .ref (ga Γ 8 0))]) (d := 1) hx hb hf dX8_winner_73 hl (k := 2) rfl (by decide) (by decide) rfl (fun v12 ls hf hl => ?_)
            refine lv_goto (tgt := 30) hx hb dX8_winner_76 (by decide) ?_
            exact ih _ _ _ _ _ hf hw (lv_sub hl [2, 1, 0] rfl)
          refine lv_iload_n hx hb dX8_winner_67 rfl (lv_at hl 2 rfl) ?_
          refine lv_goto (tgt := 72) hx hb dX8_winner_68 (by decide) ?_
          refine lv_istore_n (lv' := [(2, .int v5), (0, .ref (ga Γ 8 0)), (3, .int v5)]) hx hb dX8_winner_72 rfl hl (by decide) rfl (fun ls hl => ?_)
          refine q_iinc (lv1 := [(2, .int v5), (0, .ref (ga Γ 8 0))]) (d := 1) hx hb hf dX8_winner_73 hl (k := 2) rfl (by decide) (by decide) rfl (fun v13 ls hf hl => ?_)
          refine lv_goto (tgt := 30) hx hb dX8_winner_76 (by decide) ?_
          exact ih _ _ _ _ _ hf hw (lv_sub hl [2, 1, 0] rfl)
      refine L30 _ (fun v14 _ H locs ls hf hw hl => ?_) N v3 (0 : Int32) _ _ _ hf hw (lv_sub hl [2, 1, 0] rfl)
      refine lv_iload_n hx hb dX8_winner_79 rfl (lv_at hl 1 rfl) ?_
      refine q_if_ge (tgt := 91) hx hb hf dX8_winner_80 (by decide) (fun hf => ?_) (fun hf => ?_)
      · refine lv_iload_n hx hb dX8_winner_91 rfl (lv_at hl 1 rfl) ?_
        exact q_eiret hf hx hb hr rfl hk hw dX8_winner_92 (Nat.le_of_ble_eq_true rfl) (Nat.le_of_ble_eq_true rfl)
      refine lv_aload_n hx hb dX8_winner_83 rfl (lv_at hl 0 rfl) ?_
      refine lv_iconst (v := 3) hx hb dX8_winner_84 (by decide) ?_
      refine q_eI hf hw (fun v τ h => q_rV (As := [.int (3 : Int32)]) (rest := []) (q := (RX8, TX8, 32)) X hK hw rfl (Nat.le_of_ble_eq_true rfl : 0 < cnt (gn Γ) 8) (rfl : vwCl[10]? = _) (kX8_fails h) mvX8_fails lk_X8_172 ⟨Nat.le_of_ble_eq_true rfl, Nat.le_of_ble_eq_true rfl⟩ rfl hl.1 rfl (Nat.le_of_ble_eq_true rfl) dX8_winner_85 ⟨Nat.le_of_ble_eq_true rfl, Nat.le_of_ble_eq_true rfl⟩) (fun v16 σ15 H locs hf hw => ?_)
      refine lv_goto (tgt := 92) hx hb dX8_winner_88 (by decide) ?_
      exact q_eiret hf hx hb hr rfl hk hw dX8_winner_92 (Nat.le_of_ble_eq_true rfl) (Nat.le_of_ble_eq_true rfl)
    refine lv_aload_n hx hb dX8_winner_20 rfl (lv_at hl 0 rfl) ?_
    refine lv_iconst (v := 2) hx hb dX8_winner_21 (by decide) ?_
    refine q_eI hf hw (fun v τ h => q_rV (As := [.int (2 : Int32)]) (rest := []) (q := (RX8, TX8, 32)) X hK hw rfl (Nat.le_of_ble_eq_true rfl : 0 < cnt (gn Γ) 8) (rfl : vwCl[10]? = _) (kX8_fails h) mvX8_fails lk_X8_172 ⟨Nat.le_of_ble_eq_true rfl, Nat.le_of_ble_eq_true rfl⟩ rfl hl.1 rfl (Nat.le_of_ble_eq_true rfl) dX8_winner_22 ⟨Nat.le_of_ble_eq_true rfl, Nat.le_of_ble_eq_true rfl⟩) (fun v18 σ17 H locs hf hw => ?_)
    exact q_eiret hf hx hb hr rfl hk hw dX8_winner_25 (Nat.le_of_ble_eq_true rfl) (Nat.le_of_ble_eq_true rfl)
  refine lv_iconst (v := 0) hx hb dX8_winner_8 (by decide) ?_
  exact q_eiret hf hx hb hr rfl hk hw dX8_winner_9 (Nat.le_of_ble_eq_true rfl) (Nat.le_of_ble_eq_true rfl)
set_option maxRecDepth 100000 in
theorem kX8_joins {Γ : Gm} {S : List (String × Nat × String)} {l : Launch} {N : Nat} {σ : St} {x1 : Int32} {x2 : Int32} {r : Int32}  (hf : fX8_joins N σ x1 x2 = some r) : CT Γ S l yX8_joins cX8_joins 3 (some (.int)) 0 0 0 0 [.ref (ga Γ 8 0), .int x1, .int x2] (some (.int r)) σ σ := by
  unfold fX8_joins at hf
  refine ct_body (lv := [(0, .ref (ga Γ 8 0)), (1, .int x1), (2, .int x2)]) (by decide +kernel) rfl (Nat.le_of_ble_eq_true rfl) ?_
  intro p e s m below meth c ls X hr hk hK hw hl
  have hx := X.1
  have hb := X.2.1
  have hown := X.2.2.2
  refine lv_bipush (v := 31) hx hb dX8_joins_0 (by decide) ?_
  refine lv_iload_n hx hb dX8_joins_2 rfl (lv_at hl 1 rfl) ?_
  refine lv_imul hx hb dX8_joins_3 ?_
  refine lv_iload_n hx hb dX8_joins_4 rfl (lv_at hl 2 rfl) ?_
  refine lv_iadd hx hb dX8_joins_5 ?_
  refine lv_iconst (v := 1) hx hb dX8_joins_6 (by decide) ?_
  refine lv_iadd hx hb dX8_joins_7 ?_
  refine lv_ldcw (v := 1000003) hx hb hown (kw_at hK.2.2.2.2.1 1796 (by decide +kernel) rfl) dX8_joins_8 ?_
  refine lv_irem hx hb dX8_joins_11 (by decide) ?_
  exact q_iret hf hx hb hr rfl hk hw dX8_joins_12 (Nat.le_of_ble_eq_true rfl) (Nat.le_of_ble_eq_true rfl)
set_option maxRecDepth 100000 in
theorem kX8_outcomeNow {Γ : Gm} {S : List (String × Nat × String)} {l : Launch} {N : Nat} {σ : St} {r : Int32}  (hf : fX8_outcomeNow N σ = some r) : CT Γ S l yX8_outcomeNow cX8_outcomeNow 3 (some (.int)) 3 104 0 0 [.ref (ga Γ 8 0)] (some (.int r)) σ σ := by
  unfold fX8_outcomeNow at hf
  refine ct_body (lv := [(0, .ref (ga Γ 8 0))]) (by decide +kernel) rfl (Nat.le_of_ble_eq_true rfl) ?_
  intro p e s m below meth c ls X hr hk hK hw hl
  have hx := X.1
  have hb := X.2.1
  have hown := X.2.2.2
  refine lv_iconst (v := 0) hx hb dX8_outcomeNow_0 (by decide) ?_
  refine lv_istore_n (lv' := [(1, .int (0 : Int32)), (0, .ref (ga Γ 8 0))]) hx hb dX8_outcomeNow_1 rfl hl (by decide) rfl (fun ls hl => ?_)
  refine lv_iconst (v := 0) hx hb dX8_outcomeNow_2 (by decide) ?_
  refine lv_istore_n (lv' := [(2, .int (0 : Int32)), (1, .int (0 : Int32)), (0, .ref (ga Γ 8 0))]) hx hb dX8_outcomeNow_3 rfl hl (by decide) rfl (fun ls hl => ?_)
  have L4 : ∀ (K : Int32 → Int32 → Option (Int32)) (hkk : ∀ (y1 : Int32) (y2 : Int32) (H : Heap) (locs : List Loc) (ls : Array Slot), K y1 y2 = some r → Sit Γ σ s H locs → lv_has ls 3 [(1, .int y1)] → W p l e { frames := 3, cells := 0, slots := 0, locals := 104 } s m [.ref (ga Γ 8 0)].toArray below meth c H locs 0 0 (MQ below (Qg Γ (some (.int r)) σ (AA Γ s.heap.size)) [.ref (ga Γ 8 0)].toArray s 0 0 (AA Γ s.heap.size)) (F0 m 63 ls [])) (n : Nat) (v1 : Int32) (v2 : Int32) (H : Heap) (locs : List Loc) (ls : Array Slot), fX8_outcomeNow_L4 K N σ n v1 v2 = some r → Sit Γ σ s H locs → lv_has ls 3 [(0, .ref (ga Γ 8 0)), (1, .int v1), (2, .int v2)] → W p l e { frames := 3, cells := 0, slots := 0, locals := 104 } s m [.ref (ga Γ 8 0)].toArray below meth c H locs 0 0 (MQ below (Qg Γ (some (.int r)) σ (AA Γ s.heap.size)) [.ref (ga Γ 8 0)].toArray s 0 0 (AA Γ s.heap.size)) (F0 m 4 ls []) := by
    intro K hkk n
    induction n with
    | zero =>
      intro _ _ _ _ _ hf
      exact nomatch hf
    | succ n ih =>
      intro v1 v2 H locs ls hf hw hl
      refine lv_iload_n hx hb dX8_outcomeNow_4 rfl (lv_at hl 2 rfl) ?_
      refine lv_aload_n hx hb dX8_outcomeNow_5 rfl (lv_at hl 0 rfl) ?_
      refine q_get (v := .int (gI σ 8 0 8)) hx hb hK hw hown in_X8 ins_X8 (rfl : vwCl[10]? = some (RX8, TX8, 32)) rfl (Nat.le_of_ble_eq_true rfl : 0 < cnt (gn Γ) 8) 8 (by decide) 1362 fl_X8_119 rfl rfl dX8_outcomeNow_6 ?_
      refine q_ic_ge (tgt := 63) hx hb hf dX8_outcomeNow_9 (by decide) (fun hf => ?_) (fun hf => ?_)
      · exact hkk _ _ _ _ _ hf hw (lv_sub hl [1] rfl)
      refine lv_aload_n hx hb dX8_outcomeNow_12 rfl (lv_at hl 0 rfl) ?_
      refine lv_iload_n hx hb dX8_outcomeNow_13 rfl (lv_at hl 2 rfl) ?_
      refine q_pI hf hw (fun v h => q_rV (As := [.int v2]) (rest := []) (q := (RX8, TX8, 32)) X hK hw rfl (Nat.le_of_ble_eq_true rfl : 0 < cnt (gn Γ) 8) (rfl : vwCl[10]? = _) (kX8_isSeen h) mvX8_isSeen lk_X8_125 ⟨Nat.le_of_ble_eq_true rfl, Nat.le_of_ble_eq_true rfl⟩ rfl hl.1 rfl (Nat.le_of_ble_eq_true rfl) dX8_outcomeNow_14 ⟨Nat.le_of_ble_eq_true rfl, Nat.le_of_ble_eq_true rfl⟩) (fun v3 H locs hf hw => ?_)
      refine q_if_ne (tgt := 23) hx hb hf dX8_outcomeNow_17 (by decide) (fun hf => ?_) (fun hf => ?_)
      · refine lv_aload_n hx hb dX8_outcomeNow_23 rfl (lv_at hl 0 rfl) ?_
        refine lv_aload_n hx hb dX8_outcomeNow_24 rfl (lv_at hl 0 rfl) ?_
        refine lv_aload_n hx hb dX8_outcomeNow_25 rfl (lv_at hl 0 rfl) ?_
        refine lv_aload_n hx hb dX8_outcomeNow_26 rfl (lv_at hl 0 rfl) ?_
        refine lv_iload_n hx hb dX8_outcomeNow_27 rfl (lv_at hl 1 rfl) ?_
        refine lv_iload_n hx hb dX8_outcomeNow_28 rfl (lv_at hl 2 rfl) ?_
        refine q_pI hf hw (fun v h => q_rV (As := [.int v1, .int v2]) (rest := [.ref (ga Γ 8 0), .ref (ga Γ 8 0), .ref (ga Γ 8 0)]) (q := (RX8, TX8, 32)) X hK hw rfl (Nat.le_of_ble_eq_true rfl : 0 < cnt (gn Γ) 8) (rfl : vwCl[10]? = _) (kX8_joins h) mvX8_joins lk_X8_274 ⟨Nat.le_of_ble_eq_true rfl, Nat.le_of_ble_eq_true rfl⟩ rfl hl.1 rfl (Nat.le_of_ble_eq_true rfl) dX8_outcomeNow_29 ⟨Nat.le_of_ble_eq_true rfl, Nat.le_of_ble_eq_true rfl⟩) (fun v4 H locs hf hw => ?_)
        refine lv_aload_n hx hb dX8_outcomeNow_32 rfl (lv_at hl 0 rfl) ?_
        refine lv_iload_n hx hb dX8_outcomeNow_33 rfl (lv_at hl 2 rfl) ?_
        refine q_pI hf hw (fun v h => q_rV (As := [.int v2]) (rest := [.int v4, .ref (ga Γ 8 0), .ref (ga Γ 8 0), .ref (ga Γ 8 0)]) (q := (RX8, TX8, 32)) X hK hw rfl (Nat.le_of_ble_eq_true rfl : 0 < cnt (gn Γ) 8) (rfl : vwCl[10]? = _) (kX8_column h) mvX8_column lk_X8_141 ⟨Nat.le_of_ble_eq_true rfl, Nat.le_of_ble_eq_true rfl⟩ rfl hl.1 rfl (Nat.le_of_ble_eq_true rfl) dX8_outcomeNow_34 ⟨Nat.le_of_ble_eq_true rfl, Nat.le_of_ble_eq_true rfl⟩) (fun v5 H locs hf hw => ?_)
        refine q_pI hf hw (fun v h => q_rV (As := [.int v4, .int v5]) (rest := [.ref (ga Γ 8 0), .ref (ga Γ 8 0)]) (q := (RX8, TX8, 32)) X hK hw rfl (Nat.le_of_ble_eq_true rfl : 0 < cnt (gn Γ) 8) (rfl : vwCl[10]? = _) (kX8_joins h) mvX8_joins lk_X8_274 ⟨Nat.le_of_ble_eq_true rfl, Nat.le_of_ble_eq_true rfl⟩ rfl hl.1 rfl (Nat.le_of_ble_eq_true rfl) dX8_outcomeNow_37 ⟨Nat.le_of_ble_eq_true rfl, Nat.le_of_ble_eq_true rfl⟩) (fun v6 H locs hf hw => ?_)
        refine lv_aload_n hx hb dX8_outcomeNow_40 rfl (lv_at hl 0 rfl) ?_
        refine lv_iload_n hx hb dX8_outcomeNow_41 rfl (lv_at hl 2 rfl) ?_
        refine q_pI hf hw (fun v h => q_rV (As := [.int v2]) (rest := [.int v6, .ref (ga Γ 8 0), .ref (ga Γ 8 0)]) (q := (RX8, TX8, 32)) X hK hw rfl (Nat.le_of_ble_eq_true rfl : 0 < cnt (gn Γ) 8) (rfl : vwCl[10]? = _) (kX8_row h) mvX8_row lk_X8_145 ⟨Nat.le_of_ble_eq_true rfl, Nat.le_of_ble_eq_true rfl⟩ rfl hl.1 rfl (Nat.le_of_ble_eq_true rfl) dX8_outcomeNow_42 ⟨Nat.le_of_ble_eq_true rfl, Nat.le_of_ble_eq_true rfl⟩) (fun v7 H locs hf hw => ?_)
        refine q_pI hf hw (fun v h => q_rV (As := [.int v6, .int v7]) (rest := [.ref (ga Γ 8 0)]) (q := (RX8, TX8, 32)) X hK hw rfl (Nat.le_of_ble_eq_true rfl : 0 < cnt (gn Γ) 8) (rfl : vwCl[10]? = _) (kX8_joins h) mvX8_joins lk_X8_274 ⟨Nat.le_of_ble_eq_true rfl, Nat.le_of_ble_eq_true rfl⟩ rfl hl.1 rfl (Nat.le_of_ble_eq_true rfl) dX8_outcomeNow_45 ⟨Nat.le_of_ble_eq_true rfl, Nat.le_of_ble_eq_true rfl⟩) (fun v8 H locs hf hw => ?_)
        refine lv_aload_n hx hb dX8_outcomeNow_48 rfl (lv_at hl 0 rfl) ?_
        refine lv_iload_n hx hb dX8_outcomeNow_49 rfl (lv_at hl 2 rfl) ?_
        refine q_pI hf hw (fun v h => q_rV (As := [.int v2]) (rest := [.int v8, .ref (ga Γ 8 0)]) (q := (RX8, TX8, 32)) X hK hw rfl (Nat.le_of_ble_eq_true rfl : 0 < cnt (gn Γ) 8) (rfl : vwCl[10]? = _) (kX8_rank h) mvX8_rank lk_X8_199 ⟨Nat.le_of_ble_eq_true rfl, Nat.le_of_ble_eq_true rfl⟩ rfl hl.1 rfl (Nat.le_of_ble_eq_true rfl) dX8_outcomeNow_50 ⟨Nat.le_of_ble_eq_true rfl, Nat.le_of_ble_eq_true rfl⟩) (fun v9 H locs hf hw => ?_)
        refine q_pI hf hw (fun v h => q_rV (As := [.int v8, .int v9]) (rest := []) (q := (RX8, TX8, 32)) X hK hw rfl (Nat.le_of_ble_eq_true rfl : 0 < cnt (gn Γ) 8) (rfl : vwCl[10]? = _) (kX8_joins h) mvX8_joins lk_X8_274 ⟨Nat.le_of_ble_eq_true rfl, Nat.le_of_ble_eq_true rfl⟩ rfl hl.1 rfl (Nat.le_of_ble_eq_true rfl) dX8_outcomeNow_53 ⟨Nat.le_of_ble_eq_true rfl, Nat.le_of_ble_eq_true rfl⟩) (fun v10 H locs hf hw => ?_)
        refine lv_istore_n (lv' := [(1, .int v10), (0, .ref (ga Γ 8 0)), (2, .int v2)]) hx hb dX8_outcomeNow_56 rfl hl (by decide) rfl (fun ls hl => ?_)
        refine q_iinc (lv1 := [(1, .int v10), (0, .ref (ga Γ 8 0))]) (d := 1) hx hb hf dX8_outcomeNow_57 hl (k := 2) rfl (by decide) (by decide) rfl (fun v11 ls hf hl => ?_)
        refine lv_goto (tgt := 4) hx hb dX8_outcomeNow_60 (by decide) ?_
        exact ih _ _ _ _ _ hf hw (lv_sub hl [2, 1, 0] rfl)
      refine lv_goto (tgt := 57) hx hb dX8_outcomeNow_20 (by decide) ?_
      refine q_iinc (lv1 := [(0, .ref (ga Γ 8 0)), (1, .int v1)]) (d := 1) hx hb hf dX8_outcomeNow_57 hl (k := 2) rfl (by decide) (by decide) rfl (fun v12 ls hf hl => ?_)
      refine lv_goto (tgt := 4) hx hb dX8_outcomeNow_60 (by decide) ?_
      exact ih _ _ _ _ _ hf hw (lv_sub hl [1, 2, 0] rfl)
  refine L4 _ (fun v13 _ H locs ls hf hw hl => ?_) N (0 : Int32) (0 : Int32) _ _ _ hf hw (lv_sub hl [2, 1, 0] rfl)
  refine lv_iload_n hx hb dX8_outcomeNow_63 rfl (lv_at hl 0 rfl) ?_
  exact q_iret hf hx hb hr rfl hk hw dX8_outcomeNow_64 (Nat.le_of_ble_eq_true rfl) (Nat.le_of_ble_eq_true rfl)
set_option maxRecDepth 100000 in
theorem kX8_outcome {Γ : Gm} {S : List (String × Nat × String)} {l : Launch} {N : Nat} {σ τ : St} {x1 : Int32} {r : Int32}  (hf : fX8_outcome N σ x1 = some (r, τ)) : CT Γ S l yX8_outcome cX8_outcome 2 (some (.int)) 4 126 0 0 [.ref (ga Γ 8 0), .int x1] (some (.int r)) σ τ := by
  unfold fX8_outcome at hf
  refine ct_body (lv := [(0, .ref (ga Γ 8 0)), (1, .int x1)]) (by decide +kernel) rfl (Nat.le_of_ble_eq_true rfl) ?_
  intro p e s m below meth c ls X hr hk hK hw hl
  have hx := X.1
  have hb := X.2.1
  have hown := X.2.2.2
  refine lv_aload_n hx hb dX8_outcome_0 rfl (lv_at hl 0 rfl) ?_
  refine lv_iload_n hx hb dX8_outcome_1 rfl (lv_at hl 1 rfl) ?_
  refine q_eI hf hw (fun v τ h => q_rV (As := [.int x1]) (rest := []) (q := (RX8, TX8, 32)) X hK hw rfl (Nat.le_of_ble_eq_true rfl : 0 < cnt (gn Γ) 8) (rfl : vwCl[10]? = _) (kX8_isNobody h) mvX8_isNobody lk_X8_228 ⟨Nat.le_of_ble_eq_true rfl, Nat.le_of_ble_eq_true rfl⟩ rfl hl.1 rfl (Nat.le_of_ble_eq_true rfl) dX8_outcome_2 ⟨Nat.le_of_ble_eq_true rfl, Nat.le_of_ble_eq_true rfl⟩) (fun v2 σ1 H locs hf hw => ?_)
  refine q_if_eq (tgt := 12) hx hb hf dX8_outcome_5 (by decide) (fun hf => ?_) (fun hf => ?_)
  · refine lv_aload_n hx hb dX8_outcome_12 rfl (lv_at hl 0 rfl) ?_
    refine q_pI hf hw (fun v h => q_rV (As := []) (rest := []) (q := (RX8, TX8, 32)) X hK hw rfl (Nat.le_of_ble_eq_true rfl : 0 < cnt (gn Γ) 8) (rfl : vwCl[10]? = _) (kX8_outcomeNow h) mvX8_outcomeNow lk_X8_277 ⟨Nat.le_of_ble_eq_true rfl, Nat.le_of_ble_eq_true rfl⟩ rfl hl.1 rfl (Nat.le_of_ble_eq_true rfl) dX8_outcome_13 ⟨Nat.le_of_ble_eq_true rfl, Nat.le_of_ble_eq_true rfl⟩) (fun v3 H locs hf hw => ?_)
    exact q_eiret hf hx hb hr rfl hk hw dX8_outcome_16 (Nat.le_of_ble_eq_true rfl) (Nat.le_of_ble_eq_true rfl)
  refine lv_iconst (v := 0) hx hb dX8_outcome_8 (by decide) ?_
  refine lv_goto (tgt := 16) hx hb dX8_outcome_9 (by decide) ?_
  exact q_eiret hf hx hb hr rfl hk hw dX8_outcome_16 (Nat.le_of_ble_eq_true rfl) (Nat.le_of_ble_eq_true rfl)
set_option maxRecDepth 100000 in
theorem kX8_outcomeAnew {Γ : Gm} {S : List (String × Nat × String)} {l : Launch} {N : Nat} {σ τ : St} {x1 : Int32} {r : Int32}  (hf : fX8_outcomeAnew N σ x1 = some (r, τ)) : CT Γ S l yX8_outcomeAnew cX8_outcomeAnew 2 (some (.int)) 5 147 0 0 [.ref (ga Γ 8 0), .int x1] (some (.int r)) σ τ := by
  unfold fX8_outcomeAnew at hf
  refine ct_body (lv := [(0, .ref (ga Γ 8 0)), (1, .int x1)]) (by decide +kernel) rfl (Nat.le_of_ble_eq_true rfl) ?_
  intro p e s m below meth c ls X hr hk hK hw hl
  have hx := X.1
  have hb := X.2.1
  have hown := X.2.2.2
  refine lv_aload_n hx hb dX8_outcomeAnew_0 rfl (lv_at hl 0 rfl) ?_
  refine lv_iload_n hx hb dX8_outcomeAnew_1 rfl (lv_at hl 1 rfl) ?_
  refine q_eI hf hw (fun v τ h => q_rV (As := [.int x1]) (rest := []) (q := (RX8, TX8, 32)) X hK hw rfl (Nat.le_of_ble_eq_true rfl : 0 < cnt (gn Γ) 8) (rfl : vwCl[10]? = _) (kX8_outcome h) mvX8_outcome lk_X8_280 ⟨Nat.le_of_ble_eq_true rfl, Nat.le_of_ble_eq_true rfl⟩ rfl hl.1 rfl (Nat.le_of_ble_eq_true rfl) dX8_outcomeAnew_2 ⟨Nat.le_of_ble_eq_true rfl, Nat.le_of_ble_eq_true rfl⟩) (fun v2 σ1 H locs hf hw => ?_)
  exact q_eiret hf hx hb hr rfl hk hw dX8_outcomeAnew_5 (Nat.le_of_ble_eq_true rfl) (Nat.le_of_ble_eq_true rfl)
set_option maxRecDepth 100000 in
theorem kX8_outcomes {Γ : Gm} {S : List (String × Nat × String)} {l : Launch} {N : Nat} {σ τ : St} {x1 : Int32} {x2 : Int32} {r : Int32}  (hf : fX8_outcomes N σ x1 x2 = some (r, τ)) : CT Γ S l yX8_outcomes cX8_outcomes 3 (some (.int)) 2 42 0 0 [.ref (ga Γ 8 0), .int x1, .int x2] (some (.int r)) σ τ := by
  unfold fX8_outcomes at hf
  refine ct_body (lv := [(0, .ref (ga Γ 8 0)), (1, .int x1), (2, .int x2)]) (by decide +kernel) rfl (Nat.le_of_ble_eq_true rfl) ?_
  intro p e s m below meth c ls X hr hk hK hw hl
  have hx := X.1
  have hb := X.2.1
  have hown := X.2.2.2
  refine lv_aload_n hx hb dX8_outcomes_0 rfl (lv_at hl 0 rfl) ?_
  refine lv_iconst (v := 0) hx hb dX8_outcomes_1 (by decide) ?_
  refine q_puti (v := (0 : Int32)) hx hb hK hw hown in_X8 ins_X8 tyX8 tyX8_ok nmX8 (rfl : vwCl[10]? = some (RX8, TX8, 32)) (fun _ _ _ => rfl) (Nat.le_of_ble_eq_true rfl : 0 < cnt (gn Γ) 8) 0 (by decide) 1354 fl_X8_97 rfl rfl rfl (fun _ _ _ => Nat.le_of_ble_eq_true rfl) (fun _ _ _ => rfl) hf dX8_outcomes_2 (fun σ1 H locs hf hw => ?_)
  refine lv_iload_n hx hb dX8_outcomes_5 rfl (lv_at hl 1 rfl) ?_
  refine q_pI hf hw (fun v h => q_rS (As := [.int x1]) (rest := []) X hK hw (kX8_isUser h) msX8_isUser lk_X8_165 ⟨Nat.le_of_ble_eq_true rfl, Nat.le_of_ble_eq_true rfl⟩ rfl hl.1 rfl (Nat.le_of_ble_eq_true rfl) dX8_outcomes_6 ⟨Nat.le_of_ble_eq_true rfl, Nat.le_of_ble_eq_true rfl⟩) (fun v2 H locs hf hw => ?_)
  refine q_if_eq (tgt := 25) hx hb hf dX8_outcomes_9 (by decide) (fun hf => ?_) (fun hf => ?_)
  · refine lv_aload_n hx hb dX8_outcomes_25 rfl (lv_at hl 0 rfl) ?_
    refine lv_iconst (v := 1) hx hb dX8_outcomes_26 (by decide) ?_
    refine q_eI hf hw (fun v τ h => q_rV (As := [.int (1 : Int32)]) (rest := []) (q := (RX8, TX8, 32)) X hK hw rfl (Nat.le_of_ble_eq_true rfl : 0 < cnt (gn Γ) 8) (rfl : vwCl[10]? = _) (kX8_fails h) mvX8_fails lk_X8_172 ⟨Nat.le_of_ble_eq_true rfl, Nat.le_of_ble_eq_true rfl⟩ rfl hl.1 rfl (Nat.le_of_ble_eq_true rfl) dX8_outcomes_27 ⟨Nat.le_of_ble_eq_true rfl, Nat.le_of_ble_eq_true rfl⟩) (fun v4 σ3 H locs hf hw => ?_)
    exact q_eiret hf hx hb hr rfl hk hw dX8_outcomes_30 (Nat.le_of_ble_eq_true rfl) (Nat.le_of_ble_eq_true rfl)
  refine lv_iload_n hx hb dX8_outcomes_12 rfl (lv_at hl 2 rfl) ?_
  refine lv_iconst (v := 0) hx hb dX8_outcomes_13 (by decide) ?_
  refine lv_iconst (v := 4) hx hb dX8_outcomes_14 (by decide) ?_
  refine q_pI hf hw (fun v h => q_rS (As := [.int x2, .int (0 : Int32), .int (4 : Int32)]) (rest := []) X hK hw (kX8_isBetween h) msX8_isBetween lk_X8_101 ⟨Nat.le_of_ble_eq_true rfl, Nat.le_of_ble_eq_true rfl⟩ rfl hl.1 rfl (Nat.le_of_ble_eq_true rfl) dX8_outcomes_15 ⟨Nat.le_of_ble_eq_true rfl, Nat.le_of_ble_eq_true rfl⟩) (fun v5 H locs hf hw => ?_)
  refine q_if_eq (tgt := 25) hx hb hf dX8_outcomes_18 (by decide) (fun hf => ?_) (fun hf => ?_)
  · refine lv_aload_n hx hb dX8_outcomes_25 rfl (lv_at hl 0 rfl) ?_
    refine lv_iconst (v := 1) hx hb dX8_outcomes_26 (by decide) ?_
    refine q_eI hf hw (fun v τ h => q_rV (As := [.int (1 : Int32)]) (rest := []) (q := (RX8, TX8, 32)) X hK hw rfl (Nat.le_of_ble_eq_true rfl : 0 < cnt (gn Γ) 8) (rfl : vwCl[10]? = _) (kX8_fails h) mvX8_fails lk_X8_172 ⟨Nat.le_of_ble_eq_true rfl, Nat.le_of_ble_eq_true rfl⟩ rfl hl.1 rfl (Nat.le_of_ble_eq_true rfl) dX8_outcomes_27 ⟨Nat.le_of_ble_eq_true rfl, Nat.le_of_ble_eq_true rfl⟩) (fun v7 σ6 H locs hf hw => ?_)
    exact q_eiret hf hx hb hr rfl hk hw dX8_outcomes_30 (Nat.le_of_ble_eq_true rfl) (Nat.le_of_ble_eq_true rfl)
  refine lv_iconst (v := 1) hx hb dX8_outcomes_21 (by decide) ?_
  refine lv_goto (tgt := 30) hx hb dX8_outcomes_22 (by decide) ?_
  exact q_eiret hf hx hb hr rfl hk hw dX8_outcomes_30 (Nat.le_of_ble_eq_true rfl) (Nat.le_of_ble_eq_true rfl)
set_option maxRecDepth 100000 in
theorem kX8_frameShare {Γ : Gm} {S : List (String × Nat × String)} {l : Launch} {N : Nat} {σ τ : St} {x1 : Int32} {r : UInt32}  (hf : fX8_frameShare N σ x1 = some (r, τ)) : CT Γ S l yX8_frameShare cX8_frameShare 4 (some (.float)) 4 87 0 0 [.ref (ga Γ 8 0), .int x1] (some (.float r)) σ τ := by
  unfold fX8_frameShare at hf
  refine ct_body (lv := [(0, .ref (ga Γ 8 0)), (1, .int x1)]) (by decide +kernel) rfl (Nat.le_of_ble_eq_true rfl) ?_
  intro p e s m below meth c ls X hr hk hK hw hl
  have hx := X.1
  have hb := X.2.1
  have hown := X.2.2.2
  refine lv_aload_n hx hb dX8_frameShare_0 rfl (lv_at hl 0 rfl) ?_
  refine lv_iload_n hx hb dX8_frameShare_1 rfl (lv_at hl 1 rfl) ?_
  refine q_eI hf hw (fun v τ h => q_rV (As := [.int x1]) (rest := []) (q := (RX8, TX8, 32)) X hK hw rfl (Nat.le_of_ble_eq_true rfl : 0 < cnt (gn Γ) 8) (rfl : vwCl[10]? = _) (kX8_isNobody h) mvX8_isNobody lk_X8_228 ⟨Nat.le_of_ble_eq_true rfl, Nat.le_of_ble_eq_true rfl⟩ rfl hl.1 rfl (Nat.le_of_ble_eq_true rfl) dX8_frameShare_2 ⟨Nat.le_of_ble_eq_true rfl, Nat.le_of_ble_eq_true rfl⟩) (fun v2 σ1 H locs hf hw => ?_)
  refine q_if_eq (tgt := 10) hx hb hf dX8_frameShare_5 (by decide) (fun hf => ?_) (fun hf => ?_)
  · refine lv_iconst (v := 0) hx hb dX8_frameShare_10 (by decide) ?_
    refine lv_istore_n (lv' := [(2, .int (0 : Int32)), (0, .ref (ga Γ 8 0)), (1, .int x1)]) hx hb dX8_frameShare_11 rfl hl (by decide) rfl (fun ls hl => ?_)
    refine lv_iconst (v := 0) hx hb dX8_frameShare_12 (by decide) ?_
    refine lv_istore_n (lv' := [(3, .int (0 : Int32)), (2, .int (0 : Int32)), (0, .ref (ga Γ 8 0)), (1, .int x1)]) hx hb dX8_frameShare_13 rfl hl (by decide) rfl (fun ls hl => ?_)
    have L14 : ∀ (K : Int32 → Int32 → Option ((UInt32 × St))) (hkk : ∀ (y2 : Int32) (y3 : Int32) (H : Heap) (locs : List Loc) (ls : Array Slot), K y2 y3 = some (r, τ) → Sit Γ σ1 s H locs → lv_has ls 4 [(0, .ref (ga Γ 8 0)), (2, .int y2)] → W p l e { frames := 4, cells := 0, slots := 0, locals := 87 } s m [.ref (ga Γ 8 0), .int x1].toArray below meth c H locs 0 0 (MQ below (Qg Γ (some (.float r)) τ (AA Γ s.heap.size)) [.ref (ga Γ 8 0), .int x1].toArray s 0 0 (AA Γ s.heap.size)) (F0 m 53 ls [])) (n : Nat) (v3 : Int32) (v4 : Int32) (H : Heap) (locs : List Loc) (ls : Array Slot), fX8_frameShare_L14 K N σ1 n v3 v4 = some (r, τ) → Sit Γ σ1 s H locs → lv_has ls 4 [(0, .ref (ga Γ 8 0)), (2, .int v3), (3, .int v4)] → W p l e { frames := 4, cells := 0, slots := 0, locals := 87 } s m [.ref (ga Γ 8 0), .int x1].toArray below meth c H locs 0 0 (MQ below (Qg Γ (some (.float r)) τ (AA Γ s.heap.size)) [.ref (ga Γ 8 0), .int x1].toArray s 0 0 (AA Γ s.heap.size)) (F0 m 14 ls []) := by
      intro K hkk n
      induction n with
      | zero =>
        intro _ _ _ _ _ hf
        exact nomatch hf
      | succ n ih =>
        intro v3 v4 H locs ls hf hw hl
        refine lv_iload_n hx hb dX8_frameShare_14 rfl (lv_at hl 2 rfl) ?_
        refine lv_aload_n hx hb dX8_frameShare_15 rfl (lv_at hl 0 rfl) ?_
        refine q_get (v := .int (gI σ1 8 0 8)) hx hb hK hw hown in_X8 ins_X8 (rfl : vwCl[10]? = some (RX8, TX8, 32)) rfl (Nat.le_of_ble_eq_true rfl : 0 < cnt (gn Γ) 8) 8 (by decide) 1362 fl_X8_119 rfl rfl dX8_frameShare_16 ?_
        refine q_ic_ge (tgt := 53) hx hb hf dX8_frameShare_19 (by decide) (fun hf => ?_) (fun hf => ?_)
        · exact hkk _ _ _ _ _ hf hw (lv_sub hl [0, 1] rfl)
        refine lv_iload_n hx hb dX8_frameShare_22 rfl (lv_at hl 1 rfl) ?_
        refine lv_aload_n hx hb dX8_frameShare_23 rfl (lv_at hl 0 rfl) ?_
        refine lv_iload_n hx hb dX8_frameShare_24 rfl (lv_at hl 2 rfl) ?_
        refine q_pI hf hw (fun v h => q_rV (As := [.int v4]) (rest := [.int v3]) (q := (RX8, TX8, 32)) X hK hw rfl (Nat.le_of_ble_eq_true rfl : 0 < cnt (gn Γ) 8) (rfl : vwCl[10]? = _) (kX8_isSeen h) mvX8_isSeen lk_X8_125 ⟨Nat.le_of_ble_eq_true rfl, Nat.le_of_ble_eq_true rfl⟩ rfl hl.1 rfl (Nat.le_of_ble_eq_true rfl) dX8_frameShare_25 ⟨Nat.le_of_ble_eq_true rfl, Nat.le_of_ble_eq_true rfl⟩) (fun v5 H locs hf hw => ?_)
        refine q_if_eq (tgt := 44) hx hb hf dX8_frameShare_28 (by decide) (fun hf => ?_) (fun hf => ?_)
        · refine lv_iconst (v := 0) hx hb dX8_frameShare_44 (by decide) ?_
          refine lv_iadd hx hb dX8_frameShare_45 ?_
          refine q_istore_n (lv1 := [(0, .ref (ga Γ 8 0)), (3, .int v4)]) hx hb hf dX8_frameShare_46 rfl hl (by decide) rfl (fun v6 ls hf hl => ?_)
          refine q_iinc (lv1 := [(2, .int v6), (0, .ref (ga Γ 8 0))]) (d := 1) hx hb hf dX8_frameShare_47 hl (k := 2) rfl (by decide) (by decide) rfl (fun v7 ls hf hl => ?_)
          refine lv_goto (tgt := 14) hx hb dX8_frameShare_50 (by decide) ?_
          exact ih _ _ _ _ _ hf hw (lv_sub hl [2, 1, 0] rfl)
        refine lv_aload_n hx hb dX8_frameShare_31 rfl (lv_at hl 0 rfl) ?_
        refine q_get (v := .ref (ga Γ 144 0)) hx hb hK hw hown in_X8 ins_X8 (rfl : vwCl[10]? = some (RX8, TX8, 32)) rfl (Nat.le_of_ble_eq_true rfl : 0 < cnt (gn Γ) 8) 5 (by decide) 1359 fl_X8_22 rfl rfl dX8_frameShare_32 ?_
        refine lv_iload_n hx hb dX8_frameShare_35 rfl (lv_at hl 2 rfl) ?_
        refine q_zald hx hb hK hw (k := 144) (o := 0) (fun _ _ _ => rfl) (Nat.le_of_ble_eq_true rfl : 0 < cnt (gn Γ) 144) hf dX8_frameShare_36 (fun hf => ?_)
        refine q_if_eq (tgt := 44) hx hb hf dX8_frameShare_37 (by decide) (fun hf => ?_) (fun hf => ?_)
        · refine lv_iconst (v := 0) hx hb dX8_frameShare_44 (by decide) ?_
          refine lv_iadd hx hb dX8_frameShare_45 ?_
          refine q_istore_n (lv1 := [(0, .ref (ga Γ 8 0)), (3, .int v4)]) hx hb hf dX8_frameShare_46 rfl hl (by decide) rfl (fun v8 ls hf hl => ?_)
          refine q_iinc (lv1 := [(2, .int v8), (0, .ref (ga Γ 8 0))]) (d := 1) hx hb hf dX8_frameShare_47 hl (k := 2) rfl (by decide) (by decide) rfl (fun v9 ls hf hl => ?_)
          refine lv_goto (tgt := 14) hx hb dX8_frameShare_50 (by decide) ?_
          exact ih _ _ _ _ _ hf hw (lv_sub hl [2, 1, 0] rfl)
        refine lv_iconst (v := 1) hx hb dX8_frameShare_40 (by decide) ?_
        refine lv_goto (tgt := 45) hx hb dX8_frameShare_41 (by decide) ?_
        refine lv_iadd hx hb dX8_frameShare_45 ?_
        refine q_istore_n (lv1 := [(0, .ref (ga Γ 8 0)), (3, .int v4)]) hx hb hf dX8_frameShare_46 rfl hl (by decide) rfl (fun v10 ls hf hl => ?_)
        refine q_iinc (lv1 := [(2, .int v10), (0, .ref (ga Γ 8 0))]) (d := 1) hx hb hf dX8_frameShare_47 hl (k := 2) rfl (by decide) (by decide) rfl (fun v11 ls hf hl => ?_)
        refine lv_goto (tgt := 14) hx hb dX8_frameShare_50 (by decide) ?_
        exact ih _ _ _ _ _ hf hw (lv_sub hl [2, 1, 0] rfl)
    refine L14 _ (fun v12 _ H locs ls hf hw hl => ?_) N (0 : Int32) (0 : Int32) _ _ _ hf hw (lv_sub hl [2, 1, 0] rfl)
    refine lv_aload_n hx hb dX8_frameShare_53 rfl (lv_at hl 0 rfl) ?_
    refine q_pI hf hw (fun v h => q_rV (As := []) (rest := []) (q := (RX8, TX8, 32)) X hK hw rfl (Nat.le_of_ble_eq_true rfl : 0 < cnt (gn Γ) 8) (rfl : vwCl[10]? = _) (kX8_seenMany h) mvX8_seenMany lk_X8_209 ⟨Nat.le_of_ble_eq_true rfl, Nat.le_of_ble_eq_true rfl⟩ rfl hl.1 rfl (Nat.le_of_ble_eq_true rfl) dX8_frameShare_54 ⟨Nat.le_of_ble_eq_true rfl, Nat.le_of_ble_eq_true rfl⟩) (fun v13 H locs hf hw => ?_)
    refine q_if_ne (tgt := 69) hx hb hf dX8_frameShare_57 (by decide) (fun hf => ?_) (fun hf => ?_)
    · refine lv_iload_n hx hb dX8_frameShare_69 rfl (lv_at hl 1 rfl) ?_
      refine lv_i2f hx hb dX8_frameShare_70 ?_
      refine lv_aload_n hx hb dX8_frameShare_71 rfl (lv_at hl 0 rfl) ?_
      refine q_pI hf hw (fun v h => q_rV (As := []) (rest := [.float (FP.i2f v12)]) (q := (RX8, TX8, 32)) X hK hw rfl (Nat.le_of_ble_eq_true rfl : 0 < cnt (gn Γ) 8) (rfl : vwCl[10]? = _) (kX8_seenMany h) mvX8_seenMany lk_X8_209 ⟨Nat.le_of_ble_eq_true rfl, Nat.le_of_ble_eq_true rfl⟩ rfl hl.1 rfl (Nat.le_of_ble_eq_true rfl) dX8_frameShare_72 ⟨Nat.le_of_ble_eq_true rfl, Nat.le_of_ble_eq_true rfl⟩) (fun v14 H locs hf hw => ?_)
      refine lv_i2f hx hb dX8_frameShare_75 ?_
      refine q_fdiv hx hb hf dX8_frameShare_76 (fun hf => ?_)
      exact q_efret hf hx hb hr hk hw dX8_frameShare_77 (Nat.le_of_ble_eq_true rfl) (Nat.le_of_ble_eq_true rfl)
    refine lv_aload_n hx hb dX8_frameShare_60 rfl (lv_at hl 0 rfl) ?_
    refine lv_iconst (v := 2) hx hb dX8_frameShare_61 (by decide) ?_
    refine q_eI hf hw (fun v τ h => q_rV (As := [.int (2 : Int32)]) (rest := []) (q := (RX8, TX8, 32)) X hK hw rfl (Nat.le_of_ble_eq_true rfl : 0 < cnt (gn Γ) 8) (rfl : vwCl[10]? = _) (kX8_fails h) mvX8_fails lk_X8_172 ⟨Nat.le_of_ble_eq_true rfl, Nat.le_of_ble_eq_true rfl⟩ rfl hl.1 rfl (Nat.le_of_ble_eq_true rfl) dX8_frameShare_62 ⟨Nat.le_of_ble_eq_true rfl, Nat.le_of_ble_eq_true rfl⟩) (fun v16 σ15 H locs hf hw => ?_)
    refine lv_i2f hx hb dX8_frameShare_65 ?_
    refine lv_goto (tgt := 77) hx hb dX8_frameShare_66 (by decide) ?_
    exact q_efret hf hx hb hr hk hw dX8_frameShare_77 (Nat.le_of_ble_eq_true rfl) (Nat.le_of_ble_eq_true rfl)
  refine lv_fconst0 hx hb dX8_frameShare_8 ?_
  exact q_efret hf hx hb hr hk hw dX8_frameShare_9 (Nat.le_of_ble_eq_true rfl) (Nat.le_of_ble_eq_true rfl)
set_option maxRecDepth 100000 in
theorem kX8_meanRoute {Γ : Gm} {S : List (String × Nat × String)} {l : Launch} {N : Nat} {σ τ : St} {x1 : Int32} {r : UInt64}  (hf : fX8_meanRoute N σ x1 = some (r, τ)) : CT Γ S l yX8_meanRoute cX8_meanRoute 6 (some (.double)) 4 103 0 0 [.ref (ga Γ 8 0), .int x1] (some (.double r)) σ τ := by
  unfold fX8_meanRoute at hf
  refine ct_body (lv := [(0, .ref (ga Γ 8 0)), (1, .int x1)]) (by decide +kernel) rfl (Nat.le_of_ble_eq_true rfl) ?_
  intro p e s m below meth c ls X hr hk hK hw hl
  have hx := X.1
  have hb := X.2.1
  have hown := X.2.2.2
  refine lv_aload_n hx hb dX8_meanRoute_0 rfl (lv_at hl 0 rfl) ?_
  refine lv_iload_n hx hb dX8_meanRoute_1 rfl (lv_at hl 1 rfl) ?_
  refine q_eI hf hw (fun v τ h => q_rV (As := [.int x1]) (rest := []) (q := (RX8, TX8, 32)) X hK hw rfl (Nat.le_of_ble_eq_true rfl : 0 < cnt (gn Γ) 8) (rfl : vwCl[10]? = _) (kX8_isNobody h) mvX8_isNobody lk_X8_228 ⟨Nat.le_of_ble_eq_true rfl, Nat.le_of_ble_eq_true rfl⟩ rfl hl.1 rfl (Nat.le_of_ble_eq_true rfl) dX8_meanRoute_2 ⟨Nat.le_of_ble_eq_true rfl, Nat.le_of_ble_eq_true rfl⟩) (fun v2 σ1 H locs hf hw => ?_)
  refine q_if_eq (tgt := 10) hx hb hf dX8_meanRoute_5 (by decide) (fun hf => ?_) (fun hf => ?_)
  · refine lv_iconst (v := 0) hx hb dX8_meanRoute_10 (by decide) ?_
    refine lv_istore_n (lv' := [(2, .int (0 : Int32)), (0, .ref (ga Γ 8 0)), (1, .int x1)]) hx hb dX8_meanRoute_11 rfl hl (by decide) rfl (fun ls hl => ?_)
    refine lv_iconst (v := 0) hx hb dX8_meanRoute_12 (by decide) ?_
    refine lv_istore_n (lv' := [(3, .int (0 : Int32)), (2, .int (0 : Int32)), (0, .ref (ga Γ 8 0)), (1, .int x1)]) hx hb dX8_meanRoute_13 rfl hl (by decide) rfl (fun ls hl => ?_)
    refine lv_iconst (v := 0) hx hb dX8_meanRoute_14 (by decide) ?_
    refine lv_istore (lv' := [(4, .int (0 : Int32)), (3, .int (0 : Int32)), (2, .int (0 : Int32)), (0, .ref (ga Γ 8 0)), (1, .int x1)]) hx hb dX8_meanRoute_15 hl (by decide) rfl (fun ls hl => ?_)
    have L17 : ∀ (K : Int32 → Int32 → Int32 → St → Option ((UInt64 × St))) (hkk : ∀ (y2 : Int32) (y3 : Int32) (y4 : Int32) (σq : St) (H : Heap) (locs : List Loc) (ls : Array Slot), K y2 y3 y4 σq = some (r, τ) → Sit Γ σq s H locs → lv_has ls 6 [(0, .ref (ga Γ 8 0)), (2, .int y2), (3, .int y3)] → W p l e { frames := 4, cells := 0, slots := 0, locals := 103 } s m [.ref (ga Γ 8 0), .int x1].toArray below meth c H locs 0 0 (MQ below (Qg Γ (some (.double r)) τ (AA Γ s.heap.size)) [.ref (ga Γ 8 0), .int x1].toArray s 0 0 (AA Γ s.heap.size)) (F0 m 76 ls [])) (n : Nat) (v3 : Int32) (v4 : Int32) (v5 : Int32) (σ6 : St) (H : Heap) (locs : List Loc) (ls : Array Slot), fX8_meanRoute_L17 K N n v3 v4 v5 σ6 = some (r, τ) → Sit Γ σ6 s H locs → lv_has ls 6 [(0, .ref (ga Γ 8 0)), (2, .int v3), (3, .int v4), (4, .int v5)] → W p l e { frames := 4, cells := 0, slots := 0, locals := 103 } s m [.ref (ga Γ 8 0), .int x1].toArray below meth c H locs 0 0 (MQ below (Qg Γ (some (.double r)) τ (AA Γ s.heap.size)) [.ref (ga Γ 8 0), .int x1].toArray s 0 0 (AA Γ s.heap.size)) (F0 m 17 ls []) := by
      intro K hkk n
      induction n with
      | zero =>
        intro _ _ _ _ _ _ _ hf
        exact nomatch hf
      | succ n ih =>
        intro v3 v4 v5 σ6 H locs ls hf hw hl
        refine lv_iload hx hb dX8_meanRoute_17 (lv_at hl 3 rfl) ?_
        refine lv_aload_n hx hb dX8_meanRoute_19 rfl (lv_at hl 0 rfl) ?_
        refine q_get (v := .int (gI σ6 8 0 9)) hx hb hK hw hown in_X8 ins_X8 (rfl : vwCl[10]? = some (RX8, TX8, 32)) rfl (Nat.le_of_ble_eq_true rfl : 0 < cnt (gn Γ) 8) 9 (by decide) 1363 fl_X8_122 rfl rfl dX8_meanRoute_20 ?_
        refine q_ic_ge (tgt := 76) hx hb hf dX8_meanRoute_23 (by decide) (fun hf => ?_) (fun hf => ?_)
        · exact hkk _ _ _ _ _ _ _ hf hw (lv_sub hl [0, 1, 2] rfl)
        refine lv_aload_n hx hb dX8_meanRoute_26 rfl (lv_at hl 0 rfl) ?_
        refine lv_iload hx hb dX8_meanRoute_27 (lv_at hl 3 rfl) ?_
        refine q_pI hf hw (fun v h => q_rV (As := [.int v5]) (rest := []) (q := (RX8, TX8, 32)) X hK hw rfl (Nat.le_of_ble_eq_true rfl : 0 < cnt (gn Γ) 8) (rfl : vwCl[10]? = _) (kX8_isJoined h) mvX8_isJoined lk_X8_135 ⟨Nat.le_of_ble_eq_true rfl, Nat.le_of_ble_eq_true rfl⟩ rfl hl.1 rfl (Nat.le_of_ble_eq_true rfl) dX8_meanRoute_29 ⟨Nat.le_of_ble_eq_true rfl, Nat.le_of_ble_eq_true rfl⟩) (fun v7 H locs hf hw => ?_)
        refine q_if_eq (tgt := 44) hx hb hf dX8_meanRoute_32 (by decide) (fun hf => ?_) (fun hf => ?_)
        · refine lv_ldc (v := 1000000000) hx hb hown (kw_at hK.2.2.2.2.1 1751 (by decide +kernel) rfl) dX8_meanRoute_44 ?_
          refine lv_istore (lv' := [(5, .int (1000000000 : Int32)), (0, .ref (ga Γ 8 0)), (2, .int v3), (3, .int v4), (4, .int v5)]) hx hb dX8_meanRoute_46 hl (by decide) rfl (fun ls hl => ?_)
          refine lv_iload hx hb dX8_meanRoute_48 (lv_at hl 0 rfl) ?_
          refine lv_ldc (v := 1000000000) hx hb hown (kw_at hK.2.2.2.2.1 1751 (by decide +kernel) rfl) dX8_meanRoute_50 ?_
          refine q_ic_ne (tgt := 58) hx hb hf dX8_meanRoute_52 (by decide) (fun hf => ?_) (fun hf => ?_)
          · refine q_iinc (lv1 := [(5, .int (1000000000 : Int32)), (0, .ref (ga Γ 8 0)), (3, .int v4), (4, .int v5)]) (d := 1) hx hb hf dX8_meanRoute_58 hl (k := 2) rfl (by decide) (by decide) rfl (fun v8 ls hf hl => ?_)
            refine lv_iload_n hx hb dX8_meanRoute_61 rfl (lv_at hl 3 rfl) ?_
            refine lv_iload hx hb dX8_meanRoute_62 (lv_at hl 1 rfl) ?_
            refine lv_sipush (v := 1000) hx hb dX8_meanRoute_64 (by decide) ?_
            refine lv_irem hx hb dX8_meanRoute_67 (by decide) ?_
            refine lv_iadd hx hb dX8_meanRoute_68 ?_
            refine q_istore_n (lv1 := [(2, .int v8), (5, .int (1000000000 : Int32)), (0, .ref (ga Γ 8 0)), (4, .int v5)]) hx hb hf dX8_meanRoute_69 rfl hl (by decide) rfl (fun v9 ls hf hl => ?_)
            refine q_iinc (lv1 := [(3, .int v9), (2, .int v8), (5, .int (1000000000 : Int32)), (0, .ref (ga Γ 8 0))]) (d := 1) hx hb hf dX8_meanRoute_70 hl (k := 4) rfl (by decide) (by decide) rfl (fun v10 ls hf hl => ?_)
            refine lv_goto (tgt := 17) hx hb dX8_meanRoute_73 (by decide) ?_
            exact ih _ _ _ _ _ _ _ hf hw (lv_sub hl [4, 2, 1, 0] rfl)
          refine lv_goto (tgt := 70) hx hb dX8_meanRoute_55 (by decide) ?_
          refine q_iinc (lv1 := [(5, .int (1000000000 : Int32)), (0, .ref (ga Γ 8 0)), (2, .int v3), (3, .int v4)]) (d := 1) hx hb hf dX8_meanRoute_70 hl (k := 4) rfl (by decide) (by decide) rfl (fun v11 ls hf hl => ?_)
          refine lv_goto (tgt := 17) hx hb dX8_meanRoute_73 (by decide) ?_
          exact ih _ _ _ _ _ _ _ hf hw (lv_sub hl [2, 3, 4, 0] rfl)
        refine lv_aload_n hx hb dX8_meanRoute_35 rfl (lv_at hl 0 rfl) ?_
        refine lv_iload hx hb dX8_meanRoute_36 (lv_at hl 3 rfl) ?_
        refine q_eI hf hw (fun v τ h => q_rV (As := [.int v5]) (rest := []) (q := (RX8, TX8, 32)) X hK hw rfl (Nat.le_of_ble_eq_true rfl : 0 < cnt (gn Γ) 8) (rfl : vwCl[10]? = _) (kX8_route h) mvX8_route lk_X8_261 ⟨Nat.le_of_ble_eq_true rfl, Nat.le_of_ble_eq_true rfl⟩ rfl hl.1 rfl (Nat.le_of_ble_eq_true rfl) dX8_meanRoute_38 ⟨Nat.le_of_ble_eq_true rfl, Nat.le_of_ble_eq_true rfl⟩) (fun v13 σ12 H locs hf hw => ?_)
        refine lv_goto (tgt := 46) hx hb dX8_meanRoute_41 (by decide) ?_
        refine lv_istore (lv' := [(5, .int v13), (0, .ref (ga Γ 8 0)), (2, .int v3), (3, .int v4), (4, .int v5)]) hx hb dX8_meanRoute_46 hl (by decide) rfl (fun ls hl => ?_)
        refine lv_iload hx hb dX8_meanRoute_48 (lv_at hl 0 rfl) ?_
        refine lv_ldc (v := 1000000000) hx hb hown (kw_at hK.2.2.2.2.1 1751 (by decide +kernel) rfl) dX8_meanRoute_50 ?_
        refine q_ic_ne (tgt := 58) hx hb hf dX8_meanRoute_52 (by decide) (fun hf => ?_) (fun hf => ?_)
        · refine q_iinc (lv1 := [(5, .int v13), (0, .ref (ga Γ 8 0)), (3, .int v4), (4, .int v5)]) (d := 1) hx hb hf dX8_meanRoute_58 hl (k := 2) rfl (by decide) (by decide) rfl (fun v14 ls hf hl => ?_)
          refine lv_iload_n hx hb dX8_meanRoute_61 rfl (lv_at hl 3 rfl) ?_
          refine lv_iload hx hb dX8_meanRoute_62 (lv_at hl 1 rfl) ?_
          refine lv_sipush (v := 1000) hx hb dX8_meanRoute_64 (by decide) ?_
          refine lv_irem hx hb dX8_meanRoute_67 (by decide) ?_
          refine lv_iadd hx hb dX8_meanRoute_68 ?_
          refine q_istore_n (lv1 := [(2, .int v14), (5, .int v13), (0, .ref (ga Γ 8 0)), (4, .int v5)]) hx hb hf dX8_meanRoute_69 rfl hl (by decide) rfl (fun v15 ls hf hl => ?_)
          refine q_iinc (lv1 := [(3, .int v15), (2, .int v14), (5, .int v13), (0, .ref (ga Γ 8 0))]) (d := 1) hx hb hf dX8_meanRoute_70 hl (k := 4) rfl (by decide) (by decide) rfl (fun v16 ls hf hl => ?_)
          refine lv_goto (tgt := 17) hx hb dX8_meanRoute_73 (by decide) ?_
          exact ih _ _ _ _ _ _ _ hf hw (lv_sub hl [4, 2, 1, 0] rfl)
        refine lv_goto (tgt := 70) hx hb dX8_meanRoute_55 (by decide) ?_
        refine q_iinc (lv1 := [(5, .int v13), (0, .ref (ga Γ 8 0)), (2, .int v3), (3, .int v4)]) (d := 1) hx hb hf dX8_meanRoute_70 hl (k := 4) rfl (by decide) (by decide) rfl (fun v17 ls hf hl => ?_)
        refine lv_goto (tgt := 17) hx hb dX8_meanRoute_73 (by decide) ?_
        exact ih _ _ _ _ _ _ _ hf hw (lv_sub hl [2, 3, 4, 0] rfl)
    refine L17 _ (fun v18 v19 _ σ20 H locs ls hf hw hl => ?_) N (0 : Int32) (0 : Int32) (0 : Int32) σ1 _ _ _ hf hw (lv_sub hl [3, 2, 1, 0] rfl)
    refine lv_iload_n hx hb dX8_meanRoute_76 rfl (lv_at hl 1 rfl) ?_
    refine q_if_ne (tgt := 89) hx hb hf dX8_meanRoute_77 (by decide) (fun hf => ?_) (fun hf => ?_)
    · refine lv_iload_n hx hb dX8_meanRoute_89 rfl (lv_at hl 2 rfl) ?_
      refine lv_i2d hx hb dX8_meanRoute_90 ?_
      refine lv_iload_n hx hb dX8_meanRoute_91 rfl (lv_at hl 1 rfl) ?_
      refine lv_i2d hx hb dX8_meanRoute_92 ?_
      refine q_ddiv hx hb hf dX8_meanRoute_93 (fun hf => ?_)
      exact q_edret hf hx hb hr hk hw dX8_meanRoute_94 (Nat.le_of_ble_eq_true rfl) (Nat.le_of_ble_eq_true rfl)
    refine lv_aload_n hx hb dX8_meanRoute_80 rfl (lv_at hl 0 rfl) ?_
    refine lv_iconst (v := 2) hx hb dX8_meanRoute_81 (by decide) ?_
    refine q_eI hf hw (fun v τ h => q_rV (As := [.int (2 : Int32)]) (rest := []) (q := (RX8, TX8, 32)) X hK hw rfl (Nat.le_of_ble_eq_true rfl : 0 < cnt (gn Γ) 8) (rfl : vwCl[10]? = _) (kX8_fails h) mvX8_fails lk_X8_172 ⟨Nat.le_of_ble_eq_true rfl, Nat.le_of_ble_eq_true rfl⟩ rfl hl.1 rfl (Nat.le_of_ble_eq_true rfl) dX8_meanRoute_82 ⟨Nat.le_of_ble_eq_true rfl, Nat.le_of_ble_eq_true rfl⟩) (fun v22 σ21 H locs hf hw => ?_)
    refine lv_i2d hx hb dX8_meanRoute_85 ?_
    refine lv_goto (tgt := 94) hx hb dX8_meanRoute_86 (by decide) ?_
    exact q_edret hf hx hb hr hk hw dX8_meanRoute_94 (Nat.le_of_ble_eq_true rfl) (Nat.le_of_ble_eq_true rfl)
  refine lv_dconst0 hx hb dX8_meanRoute_8 ?_
  exact q_edret hf hx hb hr hk hw dX8_meanRoute_9 (Nat.le_of_ble_eq_true rfl) (Nat.le_of_ble_eq_true rfl)
set_option maxRecDepth 100000 in
theorem kX8_area {Γ : Gm} {S : List (String × Nat × String)} {l : Launch} {N : Nat} {σ τ : St} {x1 : Int32} {r : Int64}  (hf : fX8_area N σ x1 = some (r, τ)) : CT Γ S l yX8_area cX8_area 5 (some (.long)) 4 87 0 0 [.ref (ga Γ 8 0), .int x1] (some (.long r)) σ τ := by
  unfold fX8_area at hf
  refine ct_body (lv := [(0, .ref (ga Γ 8 0)), (1, .int x1)]) (by decide +kernel) rfl (Nat.le_of_ble_eq_true rfl) ?_
  intro p e s m below meth c ls X hr hk hK hw hl
  have hx := X.1
  have hb := X.2.1
  have hown := X.2.2.2
  refine lv_aload_n hx hb dX8_area_0 rfl (lv_at hl 0 rfl) ?_
  refine lv_iload_n hx hb dX8_area_1 rfl (lv_at hl 1 rfl) ?_
  refine q_eI hf hw (fun v τ h => q_rV (As := [.int x1]) (rest := []) (q := (RX8, TX8, 32)) X hK hw rfl (Nat.le_of_ble_eq_true rfl : 0 < cnt (gn Γ) 8) (rfl : vwCl[10]? = _) (kX8_isNobody h) mvX8_isNobody lk_X8_228 ⟨Nat.le_of_ble_eq_true rfl, Nat.le_of_ble_eq_true rfl⟩ rfl hl.1 rfl (Nat.le_of_ble_eq_true rfl) dX8_area_2 ⟨Nat.le_of_ble_eq_true rfl, Nat.le_of_ble_eq_true rfl⟩) (fun v2 σ1 H locs hf hw => ?_)
  refine q_if_eq (tgt := 10) hx hb hf dX8_area_5 (by decide) (fun hf => ?_) (fun hf => ?_)
  · refine lv_lconst (v := 0) hx hb dX8_area_10 rfl ?_
    refine lv_lstore_n (lv' := [(2, .long (0 : Int64)), (0, .ref (ga Γ 8 0)), (1, .int x1)]) hx hb dX8_area_11 rfl hl (by decide) rfl (fun ls hl => ?_)
    refine lv_iconst (v := 0) hx hb dX8_area_12 (by decide) ?_
    refine lv_istore (lv' := [(4, .int (0 : Int32)), (2, .long (0 : Int64)), (0, .ref (ga Γ 8 0)), (1, .int x1)]) hx hb dX8_area_13 hl (by decide) rfl (fun ls hl => ?_)
    have L15 : ∀ (K : Int64 → Int32 → Option ((Int64 × St))) (hkk : ∀ (y2 : Int64) (y4 : Int32) (H : Heap) (locs : List Loc) (ls : Array Slot), K y2 y4 = some (r, τ) → Sit Γ σ1 s H locs → lv_has ls 5 [(2, .long y2)] → W p l e { frames := 4, cells := 0, slots := 0, locals := 87 } s m [.ref (ga Γ 8 0), .int x1].toArray below meth c H locs 0 0 (MQ below (Qg Γ (some (.long r)) τ (AA Γ s.heap.size)) [.ref (ga Γ 8 0), .int x1].toArray s 0 0 (AA Γ s.heap.size)) (F0 m 62 ls [])) (n : Nat) (v3 : Int64) (v4 : Int32) (H : Heap) (locs : List Loc) (ls : Array Slot), fX8_area_L15 K N σ1 n v3 v4 = some (r, τ) → Sit Γ σ1 s H locs → lv_has ls 5 [(0, .ref (ga Γ 8 0)), (2, .long v3), (4, .int v4)] → W p l e { frames := 4, cells := 0, slots := 0, locals := 87 } s m [.ref (ga Γ 8 0), .int x1].toArray below meth c H locs 0 0 (MQ below (Qg Γ (some (.long r)) τ (AA Γ s.heap.size)) [.ref (ga Γ 8 0), .int x1].toArray s 0 0 (AA Γ s.heap.size)) (F0 m 15 ls []) := by
      intro K hkk n
      induction n with
      | zero =>
        intro _ _ _ _ _ hf
        exact nomatch hf
      | succ n ih =>
        intro v3 v4 H locs ls hf hw hl
        refine lv_iload hx hb dX8_area_15 (lv_at hl 2 rfl) ?_
        refine lv_aload_n hx hb dX8_area_17 rfl (lv_at hl 0 rfl) ?_
        refine q_get (v := .int (gI σ1 8 0 8)) hx hb hK hw hown in_X8 ins_X8 (rfl : vwCl[10]? = some (RX8, TX8, 32)) rfl (Nat.le_of_ble_eq_true rfl : 0 < cnt (gn Γ) 8) 8 (by decide) 1362 fl_X8_119 rfl rfl dX8_area_18 ?_
        refine q_ic_ge (tgt := 62) hx hb hf dX8_area_21 (by decide) (fun hf => ?_) (fun hf => ?_)
        · exact hkk _ _ _ _ _ hf hw (lv_sub hl [1] rfl)
        refine lv_lload_n hx hb dX8_area_24 rfl (lv_at hl 1 rfl) ?_
        refine lv_aload_n hx hb dX8_area_25 rfl (lv_at hl 0 rfl) ?_
        refine lv_iload hx hb dX8_area_26 (lv_at hl 2 rfl) ?_
        refine q_pI hf hw (fun v h => q_rV (As := [.int v4]) (rest := [.long v3]) (q := (RX8, TX8, 32)) X hK hw rfl (Nat.le_of_ble_eq_true rfl : 0 < cnt (gn Γ) 8) (rfl : vwCl[10]? = _) (kX8_isSeen h) mvX8_isSeen lk_X8_125 ⟨Nat.le_of_ble_eq_true rfl, Nat.le_of_ble_eq_true rfl⟩ rfl hl.1 rfl (Nat.le_of_ble_eq_true rfl) dX8_area_28 ⟨Nat.le_of_ble_eq_true rfl, Nat.le_of_ble_eq_true rfl⟩) (fun v5 H locs hf hw => ?_)
        refine q_if_eq (tgt := 53) hx hb hf dX8_area_31 (by decide) (fun hf => ?_) (fun hf => ?_)
        · refine lv_lconst (v := 0) hx hb dX8_area_53 rfl ?_
          refine lv_ladd hx hb dX8_area_54 ?_
          refine q_lstore_n (lv1 := [(0, .ref (ga Γ 8 0)), (4, .int v4)]) hx hb hf dX8_area_55 rfl hl (by decide) rfl (fun v6 ls hf hl => ?_)
          refine q_iinc (lv1 := [(2, .long v6), (0, .ref (ga Γ 8 0))]) (d := 1) hx hb hf dX8_area_56 hl (k := 2) rfl (by decide) (by decide) rfl (fun v7 ls hf hl => ?_)
          refine lv_goto (tgt := 15) hx hb dX8_area_59 (by decide) ?_
          exact ih _ _ _ _ _ hf hw (lv_sub hl [2, 1, 0] rfl)
        refine lv_aload_n hx hb dX8_area_34 rfl (lv_at hl 0 rfl) ?_
        refine q_get (v := .ref (ga Γ 140 0)) hx hb hK hw hown in_X8 ins_X8 (rfl : vwCl[10]? = some (RX8, TX8, 32)) rfl (Nat.le_of_ble_eq_true rfl : 0 < cnt (gn Γ) 8) 1 (by decide) 1355 fl_X8_9 rfl rfl dX8_area_35 ?_
        refine lv_iload hx hb dX8_area_38 (lv_at hl 2 rfl) ?_
        refine q_iald hx hb hK hw (k := 140) (o := 0) (fun _ _ _ => rfl) (Nat.le_of_ble_eq_true rfl : 0 < cnt (gn Γ) 140) hf dX8_area_40 (fun hf => ?_)
        refine lv_aload_n hx hb dX8_area_41 rfl (lv_at hl 0 rfl) ?_
        refine q_get (v := .ref (ga Γ 141 0)) hx hb hK hw hown in_X8 ins_X8 (rfl : vwCl[10]? = some (RX8, TX8, 32)) rfl (Nat.le_of_ble_eq_true rfl : 0 < cnt (gn Γ) 8) 2 (by decide) 1356 fl_X8_13 rfl rfl dX8_area_42 ?_
        refine lv_iload hx hb dX8_area_45 (lv_at hl 2 rfl) ?_
        refine q_iald hx hb hK hw (k := 141) (o := 0) (fun _ _ _ => rfl) (Nat.le_of_ble_eq_true rfl : 0 < cnt (gn Γ) 141) hf dX8_area_47 (fun hf => ?_)
        refine lv_imul hx hb dX8_area_48 ?_
        refine lv_i2l hx hb dX8_area_49 rfl ?_
        refine lv_goto (tgt := 54) hx hb dX8_area_50 (by decide) ?_
        refine lv_ladd hx hb dX8_area_54 ?_
        refine q_lstore_n (lv1 := [(0, .ref (ga Γ 8 0)), (4, .int v4)]) hx hb hf dX8_area_55 rfl hl (by decide) rfl (fun v8 ls hf hl => ?_)
        refine q_iinc (lv1 := [(2, .long v8), (0, .ref (ga Γ 8 0))]) (d := 1) hx hb hf dX8_area_56 hl (k := 2) rfl (by decide) (by decide) rfl (fun v9 ls hf hl => ?_)
        refine lv_goto (tgt := 15) hx hb dX8_area_59 (by decide) ?_
        exact ih _ _ _ _ _ hf hw (lv_sub hl [2, 1, 0] rfl)
    refine L15 _ (fun v10 _ H locs ls hf hw hl => ?_) N (0 : Int64) (0 : Int32) _ _ _ hf hw (lv_sub hl [2, 1, 0] rfl)
    refine lv_lload_n hx hb dX8_area_62 rfl (lv_at hl 0 rfl) ?_
    exact q_elret hf hx hb hr hk hw dX8_area_63 (Nat.le_of_ble_eq_true rfl) (Nat.le_of_ble_eq_true rfl)
  refine lv_lconst (v := 0) hx hb dX8_area_8 rfl ?_
  exact q_elret hf hx hb hr hk hw dX8_area_9 (Nat.le_of_ble_eq_true rfl) (Nat.le_of_ble_eq_true rfl)
