/-! Contracts, by program. -/
set_option maxRecDepth 100000 in
theorem kL_keyBits {Γ : Gm} {l : Launch} (hfl : l.stackTraces = false) {N : Nat} {σ τ : St} {x2 : Int32} {x3 : Int32} {r : Int32}  (hf : fL_keyBits N σ x2 x3 = some (r, τ)) : CW Γ STR l yL_keyBits cL_keyBits 5 (some (.int)) hL_keyBits 11 170 2 12 [.ref (ga Γ 0 0), .int x2, .int x3, .ref (ga Γ 180 0)] (some (.int r)) σ τ := by
  unfold fL_keyBits at hf
  refine cw_body (lv := [(0, .ref (ga Γ 0 0)), (1, .int x2), (2, .int x3), (3, .ref (ga Γ 180 0))]) (by decide +kernel) rfl (Nat.le_of_ble_eq_true rfl) ?_
  intro p e s m below meth c ls X hr hk hK hw hl htab
  have hx := X.1
  have hb := X.2.1
  have hown := X.2.2.2
  refine lv_aload_n hx hb dL_keyBits_0 rfl (lv_at hl 3 rfl) ?_
  refine lv_iconst (v := 0) hx hb dL_keyBits_1 (by decide) ?_
  refine lv_aload_n hx hb dL_keyBits_2 rfl (lv_at hl 0 rfl) ?_
  refine lv_iload_n hx hb dL_keyBits_3 rfl (lv_at hl 1 rfl) ?_
  refine lv_iload_n hx hb dL_keyBits_4 rfl (lv_at hl 2 rfl) ?_
  refine q_hg (rs1 := rsI) (f := fun v => some (.int v)) (fun _ _ => rfl) (fun _ _ => rfl) hf hw (fun u h => q_rxV (As := [.int x2, .int x3]) (rest := [.int (0 : Int32), .ref (ga Γ 180 0)]) (q := (RX7, TX7, 5)) X hK hw rfl (Nat.le_of_ble_eq_true rfl : 0 < cnt (gn Γ) 0) (rfl : vwCl[9]? = _) (kX7_keyBits hfl h) mvX7_keyBits lk_L_103 ⟨Nat.le_of_ble_eq_true rfl, Nat.le_of_ble_eq_true rfl⟩ rfl hl.1 rfl (Nat.le_of_ble_eq_true rfl) dL_keyBits_5 ⟨Nat.le_of_ble_eq_true rfl, Nat.le_of_ble_eq_true rfl⟩) (fun E5 σ3 ce q4 H locs hf hw g1 g2 g3 => ?_) (fun v1 σ2 H locs hf hw => ?_)
  · refine q_ch hf (fun hE hf => ?_) (fun hf => ?_)
    · subst hE
      refine q_catch (tgt := 13) X hK [] ⟨0, 10, 13, 13⟩ [⟨0, 10, 17, 21⟩] (htab.trans rfl) ps_nil (by decide) (by decide) cl_L_13 ca_IllegalArgument g1 g2 g3 rfl ?_
      refine lv_astore (lv' := [(4, .ref q4), (0, .ref (ga Γ 0 0)), (1, .int x2), (2, .int x3), (3, .ref (ga Γ 180 0))]) hx hb dL_keyBits_13 hl (by decide) rfl (fun ls hl => ?_)
      refine lv_iconst (v := 1) hx hb dL_keyBits_15 (by decide) ?_
      exact q_eiret hf hx hb hr rfl hk hw dL_keyBits_16 (Nat.le_of_ble_eq_true rfl) (Nat.le_of_ble_eq_true rfl)
    · refine q_ch hf (fun hE hf => ?_) (fun hf => ?_)
      · subst hE
        refine q_catch (tgt := 17) X hK [⟨0, 10, 13, 13⟩] ⟨0, 10, 17, 21⟩ [] (htab.trans rfl) (ps_cons hK (by decide) cl_L_13 (List.mem_of_getElem? (i := 10) rfl) ps_nil) (by decide) (by decide) cl_L_21 ca_NoSuchElement g1 g2 g3 rfl ?_
        refine lv_astore (lv' := [(4, .ref q4), (0, .ref (ga Γ 0 0)), (1, .int x2), (2, .int x3), (3, .ref (ga Γ 180 0))]) hx hb dL_keyBits_17 hl (by decide) rfl (fun ls hl => ?_)
        refine lv_iconst (v := 2) hx hb dL_keyBits_19 (by decide) ?_
        exact q_eiret hf hx hb hr rfl hk hw dL_keyBits_20 (Nat.le_of_ble_eq_true rfl) (Nat.le_of_ble_eq_true rfl)
      · exact nomatch hf
  refine lv_i2l hx hb dL_keyBits_8 rfl ?_
  refine q_last0 hx hb hK hw hf dL_keyBits_9 (fun σ6 H locs hf hw => ?_)
  refine lv_goto (tgt := 21) hx hb dL_keyBits_10 (by decide) ?_
  refine lv_iconst (v := 0) hx hb dL_keyBits_21 (by decide) ?_
  exact q_eiret hf hx hb hr rfl hk hw dL_keyBits_22 (Nat.le_of_ble_eq_true rfl) (Nat.le_of_ble_eq_true rfl)
set_option maxRecDepth 100000 in
theorem kL_keyCut {Γ : Gm} {l : Launch} (hfl : l.stackTraces = false) {N : Nat} {σ τ : St} {x2 : Int32} {x3 : Int32} {r : Int32}  (hf : fL_keyCut N σ x2 x3 = some (r, τ)) : CW Γ STR l yL_keyCut cL_keyCut 5 (some (.int)) hL_keyCut 11 170 2 12 [.ref (ga Γ 0 0), .int x2, .int x3, .ref (ga Γ 180 0)] (some (.int r)) σ τ := by
  unfold fL_keyCut at hf
  refine cw_body (lv := [(0, .ref (ga Γ 0 0)), (1, .int x2), (2, .int x3), (3, .ref (ga Γ 180 0))]) (by decide +kernel) rfl (Nat.le_of_ble_eq_true rfl) ?_
  intro p e s m below meth c ls X hr hk hK hw hl htab
  have hx := X.1
  have hb := X.2.1
  have hown := X.2.2.2
  refine lv_aload_n hx hb dL_keyCut_0 rfl (lv_at hl 3 rfl) ?_
  refine lv_iconst (v := 0) hx hb dL_keyCut_1 (by decide) ?_
  refine lv_aload_n hx hb dL_keyCut_2 rfl (lv_at hl 0 rfl) ?_
  refine lv_iload_n hx hb dL_keyCut_3 rfl (lv_at hl 1 rfl) ?_
  refine lv_iload_n hx hb dL_keyCut_4 rfl (lv_at hl 2 rfl) ?_
  refine q_hg (rs1 := rsI) (f := fun v => some (.int v)) (fun _ _ => rfl) (fun _ _ => rfl) hf hw (fun u h => q_rxV (As := [.int x2, .int x3]) (rest := [.int (0 : Int32), .ref (ga Γ 180 0)]) (q := (RX7, TX7, 5)) X hK hw rfl (Nat.le_of_ble_eq_true rfl : 0 < cnt (gn Γ) 0) (rfl : vwCl[9]? = _) (kX7_keyCut hfl h) mvX7_keyCut lk_L_106 ⟨Nat.le_of_ble_eq_true rfl, Nat.le_of_ble_eq_true rfl⟩ rfl hl.1 rfl (Nat.le_of_ble_eq_true rfl) dL_keyCut_5 ⟨Nat.le_of_ble_eq_true rfl, Nat.le_of_ble_eq_true rfl⟩) (fun E5 σ3 ce q4 H locs hf hw g1 g2 g3 => ?_) (fun v1 σ2 H locs hf hw => ?_)
  · refine q_ch hf (fun hE hf => ?_) (fun hf => ?_)
    · subst hE
      refine q_catch (tgt := 13) X hK [] ⟨0, 10, 13, 13⟩ [⟨0, 10, 17, 21⟩] (htab.trans rfl) ps_nil (by decide) (by decide) cl_L_13 ca_IllegalArgument g1 g2 g3 rfl ?_
      refine lv_astore (lv' := [(4, .ref q4), (0, .ref (ga Γ 0 0)), (1, .int x2), (2, .int x3), (3, .ref (ga Γ 180 0))]) hx hb dL_keyCut_13 hl (by decide) rfl (fun ls hl => ?_)
      refine lv_iconst (v := 1) hx hb dL_keyCut_15 (by decide) ?_
      exact q_eiret hf hx hb hr rfl hk hw dL_keyCut_16 (Nat.le_of_ble_eq_true rfl) (Nat.le_of_ble_eq_true rfl)
    · refine q_ch hf (fun hE hf => ?_) (fun hf => ?_)
      · subst hE
        refine q_catch (tgt := 17) X hK [⟨0, 10, 13, 13⟩] ⟨0, 10, 17, 21⟩ [] (htab.trans rfl) (ps_cons hK (by decide) cl_L_13 (List.mem_of_getElem? (i := 10) rfl) ps_nil) (by decide) (by decide) cl_L_21 ca_NoSuchElement g1 g2 g3 rfl ?_
        refine lv_astore (lv' := [(4, .ref q4), (0, .ref (ga Γ 0 0)), (1, .int x2), (2, .int x3), (3, .ref (ga Γ 180 0))]) hx hb dL_keyCut_17 hl (by decide) rfl (fun ls hl => ?_)
        refine lv_iconst (v := 2) hx hb dL_keyCut_19 (by decide) ?_
        exact q_eiret hf hx hb hr rfl hk hw dL_keyCut_20 (Nat.le_of_ble_eq_true rfl) (Nat.le_of_ble_eq_true rfl)
      · exact nomatch hf
  refine lv_i2l hx hb dL_keyCut_8 rfl ?_
  refine q_last0 hx hb hK hw hf dL_keyCut_9 (fun σ6 H locs hf hw => ?_)
  refine lv_goto (tgt := 21) hx hb dL_keyCut_10 (by decide) ?_
  refine lv_iconst (v := 0) hx hb dL_keyCut_21 (by decide) ?_
  exact q_eiret hf hx hb hr rfl hk hw dL_keyCut_22 (Nat.le_of_ble_eq_true rfl) (Nat.le_of_ble_eq_true rfl)
set_option maxRecDepth 100000 in
theorem kL_topAt {Γ : Gm} {l : Launch} (hfl : l.stackTraces = false) {N : Nat} {σ τ : St} {x2 : Int32} {x3 : Int32} {x4 : Int32} {r : Int32}  (hf : fL_topAt N σ x2 x3 x4 = some (r, τ)) : CW Γ STR l yL_topAt cL_topAt 6 (some (.int)) hL_topAt 10 150 3 18 [.ref (ga Γ 0 0), .int x2, .int x3, .int x4, .ref (ga Γ 180 0)] (some (.int r)) σ τ := by
  unfold fL_topAt at hf
  refine cw_body (lv := [(0, .ref (ga Γ 0 0)), (1, .int x2), (2, .int x3), (3, .int x4), (4, .ref (ga Γ 180 0))]) (by decide +kernel) rfl (Nat.le_of_ble_eq_true rfl) ?_
  intro p e s m below meth c ls X hr hk hK hw hl htab
  have hx := X.1
  have hb := X.2.1
  have hown := X.2.2.2
  refine lv_aload hx hb dL_topAt_0 (lv_at hl 4 rfl) ?_
  refine lv_iconst (v := 0) hx hb dL_topAt_2 (by decide) ?_
  refine lv_aload_n hx hb dL_topAt_3 rfl (lv_at hl 0 rfl) ?_
  refine lv_iload_n hx hb dL_topAt_4 rfl (lv_at hl 1 rfl) ?_
  refine lv_iload_n hx hb dL_topAt_5 rfl (lv_at hl 2 rfl) ?_
  refine lv_iload_n hx hb dL_topAt_6 rfl (lv_at hl 3 rfl) ?_
  refine q_hg (rs1 := rsI) (f := fun v => some (.int v)) (fun _ _ => rfl) (fun _ _ => rfl) hf hw (fun u h => q_rxV (As := [.int x2, .int x3, .int x4]) (rest := [.int (0 : Int32), .ref (ga Γ 180 0)]) (q := (RX7, TX7, 5)) X hK hw rfl (Nat.le_of_ble_eq_true rfl : 0 < cnt (gn Γ) 0) (rfl : vwCl[9]? = _) (kX7_topAt hfl h) mvX7_topAt lk_L_109 ⟨Nat.le_of_ble_eq_true rfl, Nat.le_of_ble_eq_true rfl⟩ rfl hl.1 rfl (Nat.le_of_ble_eq_true rfl) dL_topAt_7 ⟨Nat.le_of_ble_eq_true rfl, Nat.le_of_ble_eq_true rfl⟩) (fun E5 σ3 ce q4 H locs hf hw g1 g2 g3 => ?_) (fun v1 σ2 H locs hf hw => ?_)
  · refine q_ch hf (fun hE hf => ?_) (fun hf => ?_)
    · subst hE
      refine q_catch (tgt := 15) X hK [] ⟨0, 12, 15, 13⟩ [⟨0, 12, 19, 21⟩] (htab.trans rfl) ps_nil (by decide) (by decide) cl_L_13 ca_IllegalArgument g1 g2 g3 rfl ?_
      refine lv_astore (lv' := [(5, .ref q4), (0, .ref (ga Γ 0 0)), (1, .int x2), (2, .int x3), (3, .int x4), (4, .ref (ga Γ 180 0))]) hx hb dL_topAt_15 hl (by decide) rfl (fun ls hl => ?_)
      refine lv_iconst (v := 1) hx hb dL_topAt_17 (by decide) ?_
      exact q_eiret hf hx hb hr rfl hk hw dL_topAt_18 (Nat.le_of_ble_eq_true rfl) (Nat.le_of_ble_eq_true rfl)
    · refine q_ch hf (fun hE hf => ?_) (fun hf => ?_)
      · subst hE
        refine q_catch (tgt := 19) X hK [⟨0, 12, 15, 13⟩] ⟨0, 12, 19, 21⟩ [] (htab.trans rfl) (ps_cons hK (by decide) cl_L_13 (List.mem_of_getElem? (i := 10) rfl) ps_nil) (by decide) (by decide) cl_L_21 ca_NoSuchElement g1 g2 g3 rfl ?_
        refine lv_astore (lv' := [(5, .ref q4), (0, .ref (ga Γ 0 0)), (1, .int x2), (2, .int x3), (3, .int x4), (4, .ref (ga Γ 180 0))]) hx hb dL_topAt_19 hl (by decide) rfl (fun ls hl => ?_)
        refine lv_iconst (v := 2) hx hb dL_topAt_21 (by decide) ?_
        exact q_eiret hf hx hb hr rfl hk hw dL_topAt_22 (Nat.le_of_ble_eq_true rfl) (Nat.le_of_ble_eq_true rfl)
      · exact nomatch hf
  refine lv_i2l hx hb dL_topAt_10 rfl ?_
  refine q_last0 hx hb hK hw hf dL_topAt_11 (fun σ6 H locs hf hw => ?_)
  refine lv_goto (tgt := 23) hx hb dL_topAt_12 (by decide) ?_
  refine lv_iconst (v := 0) hx hb dL_topAt_23 (by decide) ?_
  exact q_eiret hf hx hb hr rfl hk hw dL_topAt_24 (Nat.le_of_ble_eq_true rfl) (Nat.le_of_ble_eq_true rfl)
set_option maxRecDepth 100000 in
theorem kL_lockedBy {Γ : Gm} {l : Launch} (hfl : l.stackTraces = false) {N : Nat} {σ τ : St} {x2 : Int32} {x3 : Int32} {r : Int32}  (hf : fL_lockedBy N σ x2 x3 = some (r, τ)) : CW Γ STR l yL_lockedBy cL_lockedBy 5 (some (.int)) hL_lockedBy 11 170 2 12 [.ref (ga Γ 0 0), .int x2, .int x3, .ref (ga Γ 180 0)] (some (.int r)) σ τ := by
  unfold fL_lockedBy at hf
  refine cw_body (lv := [(0, .ref (ga Γ 0 0)), (1, .int x2), (2, .int x3), (3, .ref (ga Γ 180 0))]) (by decide +kernel) rfl (Nat.le_of_ble_eq_true rfl) ?_
  intro p e s m below meth c ls X hr hk hK hw hl htab
  have hx := X.1
  have hb := X.2.1
  have hown := X.2.2.2
  refine lv_aload_n hx hb dL_lockedBy_0 rfl (lv_at hl 3 rfl) ?_
  refine lv_iconst (v := 0) hx hb dL_lockedBy_1 (by decide) ?_
  refine lv_aload_n hx hb dL_lockedBy_2 rfl (lv_at hl 0 rfl) ?_
  refine lv_iload_n hx hb dL_lockedBy_3 rfl (lv_at hl 1 rfl) ?_
  refine lv_iload_n hx hb dL_lockedBy_4 rfl (lv_at hl 2 rfl) ?_
  refine q_hg (rs1 := rsI) (f := fun v => some (.int v)) (fun _ _ => rfl) (fun _ _ => rfl) hf hw (fun u h => q_rxV (As := [.int x2, .int x3]) (rest := [.int (0 : Int32), .ref (ga Γ 180 0)]) (q := (RX7, TX7, 5)) X hK hw rfl (Nat.le_of_ble_eq_true rfl : 0 < cnt (gn Γ) 0) (rfl : vwCl[9]? = _) (kX7_lockedBy hfl h) mvX7_lockedBy lk_L_112 ⟨Nat.le_of_ble_eq_true rfl, Nat.le_of_ble_eq_true rfl⟩ rfl hl.1 rfl (Nat.le_of_ble_eq_true rfl) dL_lockedBy_5 ⟨Nat.le_of_ble_eq_true rfl, Nat.le_of_ble_eq_true rfl⟩) (fun E5 σ3 ce q4 H locs hf hw g1 g2 g3 => ?_) (fun v1 σ2 H locs hf hw => ?_)
  · refine q_ch hf (fun hE hf => ?_) (fun hf => ?_)
    · subst hE
      refine q_catch (tgt := 13) X hK [] ⟨0, 10, 13, 13⟩ [⟨0, 10, 17, 21⟩] (htab.trans rfl) ps_nil (by decide) (by decide) cl_L_13 ca_IllegalArgument g1 g2 g3 rfl ?_
      refine lv_astore (lv' := [(4, .ref q4), (0, .ref (ga Γ 0 0)), (1, .int x2), (2, .int x3), (3, .ref (ga Γ 180 0))]) hx hb dL_lockedBy_13 hl (by decide) rfl (fun ls hl => ?_)
      refine lv_iconst (v := 1) hx hb dL_lockedBy_15 (by decide) ?_
      exact q_eiret hf hx hb hr rfl hk hw dL_lockedBy_16 (Nat.le_of_ble_eq_true rfl) (Nat.le_of_ble_eq_true rfl)
    · refine q_ch hf (fun hE hf => ?_) (fun hf => ?_)
      · subst hE
        refine q_catch (tgt := 17) X hK [⟨0, 10, 13, 13⟩] ⟨0, 10, 17, 21⟩ [] (htab.trans rfl) (ps_cons hK (by decide) cl_L_13 (List.mem_of_getElem? (i := 10) rfl) ps_nil) (by decide) (by decide) cl_L_21 ca_NoSuchElement g1 g2 g3 rfl ?_
        refine lv_astore (lv' := [(4, .ref q4), (0, .ref (ga Γ 0 0)), (1, .int x2), (2, .int x3), (3, .ref (ga Γ 180 0))]) hx hb dL_lockedBy_17 hl (by decide) rfl (fun ls hl => ?_)
        refine lv_iconst (v := 2) hx hb dL_lockedBy_19 (by decide) ?_
        exact q_eiret hf hx hb hr rfl hk hw dL_lockedBy_20 (Nat.le_of_ble_eq_true rfl) (Nat.le_of_ble_eq_true rfl)
      · exact nomatch hf
  refine lv_i2l hx hb dL_lockedBy_8 rfl ?_
  refine q_last0 hx hb hK hw hf dL_lockedBy_9 (fun σ6 H locs hf hw => ?_)
  refine lv_goto (tgt := 21) hx hb dL_lockedBy_10 (by decide) ?_
  refine lv_iconst (v := 0) hx hb dL_lockedBy_21 (by decide) ?_
  exact q_eiret hf hx hb hr rfl hk hw dL_lockedBy_22 (Nat.le_of_ble_eq_true rfl) (Nat.le_of_ble_eq_true rfl)
set_option maxRecDepth 100000 in
theorem kL_inside {Γ : Gm} {l : Launch} (hfl : l.stackTraces = false) {N : Nat} {σ τ : St} {x2 : Int32} {x3 : Int32} {r : Int32}  (hf : fL_inside N σ x2 x3 = some (r, τ)) : CW Γ STR l yL_inside cL_inside 5 (some (.int)) hL_inside 11 170 2 12 [.ref (ga Γ 0 0), .int x2, .int x3, .ref (ga Γ 180 0)] (some (.int r)) σ τ := by
  unfold fL_inside at hf
  refine cw_body (lv := [(0, .ref (ga Γ 0 0)), (1, .int x2), (2, .int x3), (3, .ref (ga Γ 180 0))]) (by decide +kernel) rfl (Nat.le_of_ble_eq_true rfl) ?_
  intro p e s m below meth c ls X hr hk hK hw hl htab
  have hx := X.1
  have hb := X.2.1
  have hown := X.2.2.2
  refine lv_aload_n hx hb dL_inside_0 rfl (lv_at hl 3 rfl) ?_
  refine lv_iconst (v := 0) hx hb dL_inside_1 (by decide) ?_
  refine lv_aload_n hx hb dL_inside_2 rfl (lv_at hl 0 rfl) ?_
  refine lv_iload_n hx hb dL_inside_3 rfl (lv_at hl 1 rfl) ?_
  refine lv_iload_n hx hb dL_inside_4 rfl (lv_at hl 2 rfl) ?_
  refine q_hg (rs1 := rsI) (f := fun v => some (.int v)) (fun _ _ => rfl) (fun _ _ => rfl) hf hw (fun u h => q_rxV (As := [.int x2, .int x3]) (rest := [.int (0 : Int32), .ref (ga Γ 180 0)]) (q := (RX7, TX7, 5)) X hK hw rfl (Nat.le_of_ble_eq_true rfl : 0 < cnt (gn Γ) 0) (rfl : vwCl[9]? = _) (kX7_inside hfl h) mvX7_inside lk_L_115 ⟨Nat.le_of_ble_eq_true rfl, Nat.le_of_ble_eq_true rfl⟩ rfl hl.1 rfl (Nat.le_of_ble_eq_true rfl) dL_inside_5 ⟨Nat.le_of_ble_eq_true rfl, Nat.le_of_ble_eq_true rfl⟩) (fun E5 σ3 ce q4 H locs hf hw g1 g2 g3 => ?_) (fun v1 σ2 H locs hf hw => ?_)
  · refine q_ch hf (fun hE hf => ?_) (fun hf => ?_)
    · subst hE
      refine q_catch (tgt := 13) X hK [] ⟨0, 10, 13, 13⟩ [⟨0, 10, 17, 21⟩] (htab.trans rfl) ps_nil (by decide) (by decide) cl_L_13 ca_IllegalArgument g1 g2 g3 rfl ?_
      refine lv_astore (lv' := [(4, .ref q4), (0, .ref (ga Γ 0 0)), (1, .int x2), (2, .int x3), (3, .ref (ga Γ 180 0))]) hx hb dL_inside_13 hl (by decide) rfl (fun ls hl => ?_)
      refine lv_iconst (v := 1) hx hb dL_inside_15 (by decide) ?_
      exact q_eiret hf hx hb hr rfl hk hw dL_inside_16 (Nat.le_of_ble_eq_true rfl) (Nat.le_of_ble_eq_true rfl)
    · refine q_ch hf (fun hE hf => ?_) (fun hf => ?_)
      · subst hE
        refine q_catch (tgt := 17) X hK [⟨0, 10, 13, 13⟩] ⟨0, 10, 17, 21⟩ [] (htab.trans rfl) (ps_cons hK (by decide) cl_L_13 (List.mem_of_getElem? (i := 10) rfl) ps_nil) (by decide) (by decide) cl_L_21 ca_NoSuchElement g1 g2 g3 rfl ?_
        refine lv_astore (lv' := [(4, .ref q4), (0, .ref (ga Γ 0 0)), (1, .int x2), (2, .int x3), (3, .ref (ga Γ 180 0))]) hx hb dL_inside_17 hl (by decide) rfl (fun ls hl => ?_)
        refine lv_iconst (v := 2) hx hb dL_inside_19 (by decide) ?_
        exact q_eiret hf hx hb hr rfl hk hw dL_inside_20 (Nat.le_of_ble_eq_true rfl) (Nat.le_of_ble_eq_true rfl)
      · exact nomatch hf
  refine lv_i2l hx hb dL_inside_8 rfl ?_
  refine q_last0 hx hb hK hw hf dL_inside_9 (fun σ6 H locs hf hw => ?_)
  refine lv_goto (tgt := 21) hx hb dL_inside_10 (by decide) ?_
  refine lv_iconst (v := 0) hx hb dL_inside_21 (by decide) ?_
  exact q_eiret hf hx hb hr rfl hk hw dL_inside_22 (Nat.le_of_ble_eq_true rfl) (Nat.le_of_ble_eq_true rfl)
set_option maxRecDepth 100000 in
theorem kL_connectors {Γ : Gm} {l : Launch} (hfl : l.stackTraces = false) {N : Nat} {σ τ : St} {x2 : Int32} {r : Int32}  (hf : fL_connectors N σ x2 = some (r, τ)) : CW Γ STR l yL_connectors cL_connectors 4 (some (.int)) hL_connectors 10 146 1 6 [.ref (ga Γ 0 0), .int x2, .ref (ga Γ 180 0)] (some (.int r)) σ τ := by
  unfold fL_connectors at hf
  refine cw_body (lv := [(0, .ref (ga Γ 0 0)), (1, .int x2), (2, .ref (ga Γ 180 0))]) (by decide +kernel) rfl (Nat.le_of_ble_eq_true rfl) ?_
  intro p e s m below meth c ls X hr hk hK hw hl htab
  have hx := X.1
  have hb := X.2.1
  have hown := X.2.2.2
  refine lv_aload_n hx hb dL_connectors_0 rfl (lv_at hl 2 rfl) ?_
  refine lv_iconst (v := 0) hx hb dL_connectors_1 (by decide) ?_
  refine lv_aload_n hx hb dL_connectors_2 rfl (lv_at hl 0 rfl) ?_
  refine lv_iload_n hx hb dL_connectors_3 rfl (lv_at hl 1 rfl) ?_
  refine q_hg (rs1 := rsI) (f := fun v => some (.int v)) (fun _ _ => rfl) (fun _ _ => rfl) hf hw (fun u h => q_rxV (As := [.int x2]) (rest := [.int (0 : Int32), .ref (ga Γ 180 0)]) (q := (RX7, TX7, 5)) X hK hw rfl (Nat.le_of_ble_eq_true rfl : 0 < cnt (gn Γ) 0) (rfl : vwCl[9]? = _) (kX7_connectors hfl h) mvX7_connectors lk_L_118 ⟨Nat.le_of_ble_eq_true rfl, Nat.le_of_ble_eq_true rfl⟩ rfl hl.1 rfl (Nat.le_of_ble_eq_true rfl) dL_connectors_4 ⟨Nat.le_of_ble_eq_true rfl, Nat.le_of_ble_eq_true rfl⟩) (fun E5 σ3 ce q4 H locs hf hw g1 g2 g3 => ?_) (fun v1 σ2 H locs hf hw => ?_)
  · refine q_ch hf (fun hE hf => ?_) (fun hf => ?_)
    · subst hE
      refine q_catch (tgt := 12) X hK [] ⟨0, 9, 12, 13⟩ [] (htab.trans rfl) ps_nil (by decide) (by decide) cl_L_13 ca_IllegalArgument g1 g2 g3 rfl ?_
      refine lv_astore_n (lv' := [(3, .ref q4), (0, .ref (ga Γ 0 0)), (1, .int x2), (2, .ref (ga Γ 180 0))]) hx hb dL_connectors_12 rfl hl (by decide) rfl (fun ls hl => ?_)
      refine lv_iconst (v := 1) hx hb dL_connectors_13 (by decide) ?_
      exact q_eiret hf hx hb hr rfl hk hw dL_connectors_14 (Nat.le_of_ble_eq_true rfl) (Nat.le_of_ble_eq_true rfl)
    · exact nomatch hf
  refine lv_i2l hx hb dL_connectors_7 rfl ?_
  refine q_last0 hx hb hK hw hf dL_connectors_8 (fun σ6 H locs hf hw => ?_)
  refine lv_goto (tgt := 15) hx hb dL_connectors_9 (by decide) ?_
  refine lv_iconst (v := 0) hx hb dL_connectors_15 (by decide) ?_
  exact q_eiret hf hx hb hr rfl hk hw dL_connectors_16 (Nat.le_of_ble_eq_true rfl) (Nat.le_of_ble_eq_true rfl)
set_option maxRecDepth 100000 in
theorem kL_bends {Γ : Gm} {l : Launch} (hfl : l.stackTraces = false) {N : Nat} {σ τ : St} {x2 : Int32} {x3 : Int32} {r : Int32}  (hf : fL_bends N σ x2 x3 = some (r, τ)) : CW Γ STR l yL_bends cL_bends 5 (some (.int)) hL_bends 11 170 3 18 [.ref (ga Γ 0 0), .int x2, .int x3, .ref (ga Γ 180 0)] (some (.int r)) σ τ := by
  unfold fL_bends at hf
  refine cw_body (lv := [(0, .ref (ga Γ 0 0)), (1, .int x2), (2, .int x3), (3, .ref (ga Γ 180 0))]) (by decide +kernel) rfl (Nat.le_of_ble_eq_true rfl) ?_
  intro p e s m below meth c ls X hr hk hK hw hl htab
  have hx := X.1
  have hb := X.2.1
  have hown := X.2.2.2
  refine lv_aload_n hx hb dL_bends_0 rfl (lv_at hl 3 rfl) ?_
  refine lv_iconst (v := 0) hx hb dL_bends_1 (by decide) ?_
  refine lv_aload_n hx hb dL_bends_2 rfl (lv_at hl 0 rfl) ?_
  refine lv_iload_n hx hb dL_bends_3 rfl (lv_at hl 1 rfl) ?_
  refine lv_iload_n hx hb dL_bends_4 rfl (lv_at hl 2 rfl) ?_
  refine q_hg (rs1 := rsI) (f := fun v => some (.int v)) (fun _ _ => rfl) (fun _ _ => rfl) hf hw (fun u h => q_rxV (As := [.int x2, .int x3]) (rest := [.int (0 : Int32), .ref (ga Γ 180 0)]) (q := (RX7, TX7, 5)) X hK hw rfl (Nat.le_of_ble_eq_true rfl : 0 < cnt (gn Γ) 0) (rfl : vwCl[9]? = _) (kX7_bends hfl h) mvX7_bends lk_L_121 ⟨Nat.le_of_ble_eq_true rfl, Nat.le_of_ble_eq_true rfl⟩ rfl hl.1 rfl (Nat.le_of_ble_eq_true rfl) dL_bends_5 ⟨Nat.le_of_ble_eq_true rfl, Nat.le_of_ble_eq_true rfl⟩) (fun E5 σ3 ce q4 H locs hf hw g1 g2 g3 => ?_) (fun v1 σ2 H locs hf hw => ?_)
  · refine q_ch hf (fun hE hf => ?_) (fun hf => ?_)
    · subst hE
      refine q_catch (tgt := 13) X hK [] ⟨0, 10, 13, 13⟩ [⟨0, 10, 17, 21⟩, ⟨0, 10, 21, 23⟩] (htab.trans rfl) ps_nil (by decide) (by decide) cl_L_13 ca_IllegalArgument g1 g2 g3 rfl ?_
      refine lv_astore (lv' := [(4, .ref q4), (0, .ref (ga Γ 0 0)), (1, .int x2), (2, .int x3), (3, .ref (ga Γ 180 0))]) hx hb dL_bends_13 hl (by decide) rfl (fun ls hl => ?_)
      refine lv_iconst (v := 1) hx hb dL_bends_15 (by decide) ?_
      exact q_eiret hf hx hb hr rfl hk hw dL_bends_16 (Nat.le_of_ble_eq_true rfl) (Nat.le_of_ble_eq_true rfl)
    · refine q_ch hf (fun hE hf => ?_) (fun hf => ?_)
      · subst hE
        refine q_catch (tgt := 17) X hK [⟨0, 10, 13, 13⟩] ⟨0, 10, 17, 21⟩ [⟨0, 10, 21, 23⟩] (htab.trans rfl) (ps_cons hK (by decide) cl_L_13 (List.mem_of_getElem? (i := 10) rfl) ps_nil) (by decide) (by decide) cl_L_21 ca_NoSuchElement g1 g2 g3 rfl ?_
        refine lv_astore (lv' := [(4, .ref q4), (0, .ref (ga Γ 0 0)), (1, .int x2), (2, .int x3), (3, .ref (ga Γ 180 0))]) hx hb dL_bends_17 hl (by decide) rfl (fun ls hl => ?_)
        refine lv_iconst (v := 2) hx hb dL_bends_19 (by decide) ?_
        exact q_eiret hf hx hb hr rfl hk hw dL_bends_20 (Nat.le_of_ble_eq_true rfl) (Nat.le_of_ble_eq_true rfl)
      · refine q_ch hf (fun hE hf => ?_) (fun hf => ?_)
        · subst hE
          refine q_catch (tgt := 21) X hK [⟨0, 10, 13, 13⟩, ⟨0, 10, 17, 21⟩] ⟨0, 10, 21, 23⟩ [] (htab.trans rfl) (ps_cons hK (by decide) cl_L_13 (List.mem_of_getElem? (i := 15) rfl) (ps_cons hK (by decide) cl_L_21 (List.mem_of_getElem? (i := 17) rfl) ps_nil)) (by decide) (by decide) cl_L_23 ca_UnsupportedOperation g1 g2 g3 rfl ?_
          refine lv_astore (lv' := [(4, .ref q4), (0, .ref (ga Γ 0 0)), (1, .int x2), (2, .int x3), (3, .ref (ga Γ 180 0))]) hx hb dL_bends_21 hl (by decide) rfl (fun ls hl => ?_)
          refine lv_iconst (v := 3) hx hb dL_bends_23 (by decide) ?_
          exact q_eiret hf hx hb hr rfl hk hw dL_bends_24 (Nat.le_of_ble_eq_true rfl) (Nat.le_of_ble_eq_true rfl)
        · exact nomatch hf
  refine lv_i2l hx hb dL_bends_8 rfl ?_
  refine q_last0 hx hb hK hw hf dL_bends_9 (fun σ6 H locs hf hw => ?_)
  refine lv_goto (tgt := 25) hx hb dL_bends_10 (by decide) ?_
  refine lv_iconst (v := 0) hx hb dL_bends_25 (by decide) ?_
  exact q_eiret hf hx hb hr rfl hk hw dL_bends_26 (Nat.le_of_ble_eq_true rfl) (Nat.le_of_ble_eq_true rfl)
set_option maxRecDepth 100000 in
theorem kL_bendsByRounds {Γ : Gm} {l : Launch} (hfl : l.stackTraces = false) {N : Nat} {σ τ : St} {x2 : Int32} {x3 : Int32} {r : Int32}  (hf : fL_bendsByRounds N σ x2 x3 = some (r, τ)) : CW Γ STR l yL_bendsByRounds cL_bendsByRounds 5 (some (.int)) hL_bendsByRounds 11 170 3 18 [.ref (ga Γ 0 0), .int x2, .int x3, .ref (ga Γ 180 0)] (some (.int r)) σ τ := by
  unfold fL_bendsByRounds at hf
  refine cw_body (lv := [(0, .ref (ga Γ 0 0)), (1, .int x2), (2, .int x3), (3, .ref (ga Γ 180 0))]) (by decide +kernel) rfl (Nat.le_of_ble_eq_true rfl) ?_
  intro p e s m below meth c ls X hr hk hK hw hl htab
  have hx := X.1
  have hb := X.2.1
  have hown := X.2.2.2
  refine lv_aload_n hx hb dL_bendsByRounds_0 rfl (lv_at hl 3 rfl) ?_
  refine lv_iconst (v := 0) hx hb dL_bendsByRounds_1 (by decide) ?_
  refine lv_aload_n hx hb dL_bendsByRounds_2 rfl (lv_at hl 0 rfl) ?_
  refine lv_iload_n hx hb dL_bendsByRounds_3 rfl (lv_at hl 1 rfl) ?_
  refine lv_iload_n hx hb dL_bendsByRounds_4 rfl (lv_at hl 2 rfl) ?_
  refine q_hg (rs1 := rsI) (f := fun v => some (.int v)) (fun _ _ => rfl) (fun _ _ => rfl) hf hw (fun u h => q_rxV (As := [.int x2, .int x3]) (rest := [.int (0 : Int32), .ref (ga Γ 180 0)]) (q := (RX7, TX7, 5)) X hK hw rfl (Nat.le_of_ble_eq_true rfl : 0 < cnt (gn Γ) 0) (rfl : vwCl[9]? = _) (kX7_bendsByRounds hfl h) mvX7_bendsByRounds lk_L_124 ⟨Nat.le_of_ble_eq_true rfl, Nat.le_of_ble_eq_true rfl⟩ rfl hl.1 rfl (Nat.le_of_ble_eq_true rfl) dL_bendsByRounds_5 ⟨Nat.le_of_ble_eq_true rfl, Nat.le_of_ble_eq_true rfl⟩) (fun E5 σ3 ce q4 H locs hf hw g1 g2 g3 => ?_) (fun v1 σ2 H locs hf hw => ?_)
  · refine q_ch hf (fun hE hf => ?_) (fun hf => ?_)
    · subst hE
      refine q_catch (tgt := 13) X hK [] ⟨0, 10, 13, 13⟩ [⟨0, 10, 17, 21⟩, ⟨0, 10, 21, 23⟩] (htab.trans rfl) ps_nil (by decide) (by decide) cl_L_13 ca_IllegalArgument g1 g2 g3 rfl ?_
      refine lv_astore (lv' := [(4, .ref q4), (0, .ref (ga Γ 0 0)), (1, .int x2), (2, .int x3), (3, .ref (ga Γ 180 0))]) hx hb dL_bendsByRounds_13 hl (by decide) rfl (fun ls hl => ?_)
      refine lv_iconst (v := 1) hx hb dL_bendsByRounds_15 (by decide) ?_
      exact q_eiret hf hx hb hr rfl hk hw dL_bendsByRounds_16 (Nat.le_of_ble_eq_true rfl) (Nat.le_of_ble_eq_true rfl)
    · refine q_ch hf (fun hE hf => ?_) (fun hf => ?_)
      · subst hE
        refine q_catch (tgt := 17) X hK [⟨0, 10, 13, 13⟩] ⟨0, 10, 17, 21⟩ [⟨0, 10, 21, 23⟩] (htab.trans rfl) (ps_cons hK (by decide) cl_L_13 (List.mem_of_getElem? (i := 10) rfl) ps_nil) (by decide) (by decide) cl_L_21 ca_NoSuchElement g1 g2 g3 rfl ?_
        refine lv_astore (lv' := [(4, .ref q4), (0, .ref (ga Γ 0 0)), (1, .int x2), (2, .int x3), (3, .ref (ga Γ 180 0))]) hx hb dL_bendsByRounds_17 hl (by decide) rfl (fun ls hl => ?_)
        refine lv_iconst (v := 2) hx hb dL_bendsByRounds_19 (by decide) ?_
        exact q_eiret hf hx hb hr rfl hk hw dL_bendsByRounds_20 (Nat.le_of_ble_eq_true rfl) (Nat.le_of_ble_eq_true rfl)
      · refine q_ch hf (fun hE hf => ?_) (fun hf => ?_)
        · subst hE
          refine q_catch (tgt := 21) X hK [⟨0, 10, 13, 13⟩, ⟨0, 10, 17, 21⟩] ⟨0, 10, 21, 23⟩ [] (htab.trans rfl) (ps_cons hK (by decide) cl_L_13 (List.mem_of_getElem? (i := 15) rfl) (ps_cons hK (by decide) cl_L_21 (List.mem_of_getElem? (i := 17) rfl) ps_nil)) (by decide) (by decide) cl_L_23 ca_UnsupportedOperation g1 g2 g3 rfl ?_
          refine lv_astore (lv' := [(4, .ref q4), (0, .ref (ga Γ 0 0)), (1, .int x2), (2, .int x3), (3, .ref (ga Γ 180 0))]) hx hb dL_bendsByRounds_21 hl (by decide) rfl (fun ls hl => ?_)
          refine lv_iconst (v := 3) hx hb dL_bendsByRounds_23 (by decide) ?_
          exact q_eiret hf hx hb hr rfl hk hw dL_bendsByRounds_24 (Nat.le_of_ble_eq_true rfl) (Nat.le_of_ble_eq_true rfl)
        · exact nomatch hf
  refine lv_i2l hx hb dL_bendsByRounds_8 rfl ?_
  refine q_last0 hx hb hK hw hf dL_bendsByRounds_9 (fun σ6 H locs hf hw => ?_)
  refine lv_goto (tgt := 25) hx hb dL_bendsByRounds_10 (by decide) ?_
  refine lv_iconst (v := 0) hx hb dL_bendsByRounds_25 (by decide) ?_
  exact q_eiret hf hx hb hr rfl hk hw dL_bendsByRounds_26 (Nat.le_of_ble_eq_true rfl) (Nat.le_of_ble_eq_true rfl)
set_option maxRecDepth 100000 in
theorem kL_routeLength {Γ : Gm} {l : Launch} (hfl : l.stackTraces = false) {N : Nat} {σ τ : St} {x2 : Int32} {x3 : Int32} {r : Int32}  (hf : fL_routeLength N σ x2 x3 = some (r, τ)) : CW Γ STR l yL_routeLength cL_routeLength 5 (some (.int)) hL_routeLength 11 170 3 18 [.ref (ga Γ 0 0), .int x2, .int x3, .ref (ga Γ 180 0)] (some (.int r)) σ τ := by
  unfold fL_routeLength at hf
  refine cw_body (lv := [(0, .ref (ga Γ 0 0)), (1, .int x2), (2, .int x3), (3, .ref (ga Γ 180 0))]) (by decide +kernel) rfl (Nat.le_of_ble_eq_true rfl) ?_
  intro p e s m below meth c ls X hr hk hK hw hl htab
  have hx := X.1
  have hb := X.2.1
  have hown := X.2.2.2
  refine lv_aload_n hx hb dL_routeLength_0 rfl (lv_at hl 3 rfl) ?_
  refine lv_iconst (v := 0) hx hb dL_routeLength_1 (by decide) ?_
  refine lv_aload_n hx hb dL_routeLength_2 rfl (lv_at hl 0 rfl) ?_
  refine lv_iload_n hx hb dL_routeLength_3 rfl (lv_at hl 1 rfl) ?_
  refine lv_iload_n hx hb dL_routeLength_4 rfl (lv_at hl 2 rfl) ?_
  refine q_hg (rs1 := rsI) (f := fun v => some (.int v)) (fun _ _ => rfl) (fun _ _ => rfl) hf hw (fun u h => q_rxV (As := [.int x2, .int x3]) (rest := [.int (0 : Int32), .ref (ga Γ 180 0)]) (q := (RX7, TX7, 5)) X hK hw rfl (Nat.le_of_ble_eq_true rfl : 0 < cnt (gn Γ) 0) (rfl : vwCl[9]? = _) (kX7_routeLength hfl h) mvX7_routeLength lk_L_127 ⟨Nat.le_of_ble_eq_true rfl, Nat.le_of_ble_eq_true rfl⟩ rfl hl.1 rfl (Nat.le_of_ble_eq_true rfl) dL_routeLength_5 ⟨Nat.le_of_ble_eq_true rfl, Nat.le_of_ble_eq_true rfl⟩) (fun E5 σ3 ce q4 H locs hf hw g1 g2 g3 => ?_) (fun v1 σ2 H locs hf hw => ?_)
  · refine q_ch hf (fun hE hf => ?_) (fun hf => ?_)
    · subst hE
      refine q_catch (tgt := 13) X hK [] ⟨0, 10, 13, 13⟩ [⟨0, 10, 17, 21⟩, ⟨0, 10, 21, 23⟩] (htab.trans rfl) ps_nil (by decide) (by decide) cl_L_13 ca_IllegalArgument g1 g2 g3 rfl ?_
      refine lv_astore (lv' := [(4, .ref q4), (0, .ref (ga Γ 0 0)), (1, .int x2), (2, .int x3), (3, .ref (ga Γ 180 0))]) hx hb dL_routeLength_13 hl (by decide) rfl (fun ls hl => ?_)
      refine lv_iconst (v := 1) hx hb dL_routeLength_15 (by decide) ?_
      exact q_eiret hf hx hb hr rfl hk hw dL_routeLength_16 (Nat.le_of_ble_eq_true rfl) (Nat.le_of_ble_eq_true rfl)
    · refine q_ch hf (fun hE hf => ?_) (fun hf => ?_)
      · subst hE
        refine q_catch (tgt := 17) X hK [⟨0, 10, 13, 13⟩] ⟨0, 10, 17, 21⟩ [⟨0, 10, 21, 23⟩] (htab.trans rfl) (ps_cons hK (by decide) cl_L_13 (List.mem_of_getElem? (i := 10) rfl) ps_nil) (by decide) (by decide) cl_L_21 ca_NoSuchElement g1 g2 g3 rfl ?_
        refine lv_astore (lv' := [(4, .ref q4), (0, .ref (ga Γ 0 0)), (1, .int x2), (2, .int x3), (3, .ref (ga Γ 180 0))]) hx hb dL_routeLength_17 hl (by decide) rfl (fun ls hl => ?_)
        refine lv_iconst (v := 2) hx hb dL_routeLength_19 (by decide) ?_
        exact q_eiret hf hx hb hr rfl hk hw dL_routeLength_20 (Nat.le_of_ble_eq_true rfl) (Nat.le_of_ble_eq_true rfl)
      · refine q_ch hf (fun hE hf => ?_) (fun hf => ?_)
        · subst hE
          refine q_catch (tgt := 21) X hK [⟨0, 10, 13, 13⟩, ⟨0, 10, 17, 21⟩] ⟨0, 10, 21, 23⟩ [] (htab.trans rfl) (ps_cons hK (by decide) cl_L_13 (List.mem_of_getElem? (i := 15) rfl) (ps_cons hK (by decide) cl_L_21 (List.mem_of_getElem? (i := 17) rfl) ps_nil)) (by decide) (by decide) cl_L_23 ca_UnsupportedOperation g1 g2 g3 rfl ?_
          refine lv_astore (lv' := [(4, .ref q4), (0, .ref (ga Γ 0 0)), (1, .int x2), (2, .int x3), (3, .ref (ga Γ 180 0))]) hx hb dL_routeLength_21 hl (by decide) rfl (fun ls hl => ?_)
          refine lv_iconst (v := 3) hx hb dL_routeLength_23 (by decide) ?_
          exact q_eiret hf hx hb hr rfl hk hw dL_routeLength_24 (Nat.le_of_ble_eq_true rfl) (Nat.le_of_ble_eq_true rfl)
        · exact nomatch hf
  refine lv_i2l hx hb dL_routeLength_8 rfl ?_
  refine q_last0 hx hb hK hw hf dL_routeLength_9 (fun σ6 H locs hf hw => ?_)
  refine lv_goto (tgt := 25) hx hb dL_routeLength_10 (by decide) ?_
  refine lv_iconst (v := 0) hx hb dL_routeLength_25 (by decide) ?_
  exact q_eiret hf hx hb hr rfl hk hw dL_routeLength_26 (Nat.le_of_ble_eq_true rfl) (Nat.le_of_ble_eq_true rfl)
set_option maxRecDepth 100000 in
theorem kL_ownVotes {Γ : Gm} {l : Launch} (hfl : l.stackTraces = false) {N : Nat} {σ τ : St} {x2 : Int32} {x3 : Int32} {r : Int32}  (hf : fL_ownVotes N σ x2 x3 = some (r, τ)) : CW Γ STR l yL_ownVotes cL_ownVotes 5 (some (.int)) hL_ownVotes 11 170 2 12 [.ref (ga Γ 0 0), .int x2, .int x3, .ref (ga Γ 180 0)] (some (.int r)) σ τ := by
  unfold fL_ownVotes at hf
  refine cw_body (lv := [(0, .ref (ga Γ 0 0)), (1, .int x2), (2, .int x3), (3, .ref (ga Γ 180 0))]) (by decide +kernel) rfl (Nat.le_of_ble_eq_true rfl) ?_
  intro p e s m below meth c ls X hr hk hK hw hl htab
  have hx := X.1
  have hb := X.2.1
  have hown := X.2.2.2
  refine lv_aload_n hx hb dL_ownVotes_0 rfl (lv_at hl 3 rfl) ?_
  refine lv_iconst (v := 0) hx hb dL_ownVotes_1 (by decide) ?_
  refine lv_aload_n hx hb dL_ownVotes_2 rfl (lv_at hl 0 rfl) ?_
  refine lv_iload_n hx hb dL_ownVotes_3 rfl (lv_at hl 1 rfl) ?_
  refine lv_iload_n hx hb dL_ownVotes_4 rfl (lv_at hl 2 rfl) ?_
  refine q_hg (rs1 := rsI) (f := fun v => some (.int v)) (fun _ _ => rfl) (fun _ _ => rfl) hf hw (fun u h => q_rxV (As := [.int x2, .int x3]) (rest := [.int (0 : Int32), .ref (ga Γ 180 0)]) (q := (RX7, TX7, 5)) X hK hw rfl (Nat.le_of_ble_eq_true rfl : 0 < cnt (gn Γ) 0) (rfl : vwCl[9]? = _) (kX7_ownVotes hfl h) mvX7_ownVotes lk_L_130 ⟨Nat.le_of_ble_eq_true rfl, Nat.le_of_ble_eq_true rfl⟩ rfl hl.1 rfl (Nat.le_of_ble_eq_true rfl) dL_ownVotes_5 ⟨Nat.le_of_ble_eq_true rfl, Nat.le_of_ble_eq_true rfl⟩) (fun E5 σ3 ce q4 H locs hf hw g1 g2 g3 => ?_) (fun v1 σ2 H locs hf hw => ?_)
  · refine q_ch hf (fun hE hf => ?_) (fun hf => ?_)
    · subst hE
      refine q_catch (tgt := 13) X hK [] ⟨0, 10, 13, 13⟩ [⟨0, 10, 17, 21⟩] (htab.trans rfl) ps_nil (by decide) (by decide) cl_L_13 ca_IllegalArgument g1 g2 g3 rfl ?_
      refine lv_astore (lv' := [(4, .ref q4), (0, .ref (ga Γ 0 0)), (1, .int x2), (2, .int x3), (3, .ref (ga Γ 180 0))]) hx hb dL_ownVotes_13 hl (by decide) rfl (fun ls hl => ?_)
      refine lv_iconst (v := 1) hx hb dL_ownVotes_15 (by decide) ?_
      exact q_eiret hf hx hb hr rfl hk hw dL_ownVotes_16 (Nat.le_of_ble_eq_true rfl) (Nat.le_of_ble_eq_true rfl)
    · refine q_ch hf (fun hE hf => ?_) (fun hf => ?_)
      · subst hE
        refine q_catch (tgt := 17) X hK [⟨0, 10, 13, 13⟩] ⟨0, 10, 17, 21⟩ [] (htab.trans rfl) (ps_cons hK (by decide) cl_L_13 (List.mem_of_getElem? (i := 10) rfl) ps_nil) (by decide) (by decide) cl_L_21 ca_NoSuchElement g1 g2 g3 rfl ?_
        refine lv_astore (lv' := [(4, .ref q4), (0, .ref (ga Γ 0 0)), (1, .int x2), (2, .int x3), (3, .ref (ga Γ 180 0))]) hx hb dL_ownVotes_17 hl (by decide) rfl (fun ls hl => ?_)
        refine lv_iconst (v := 2) hx hb dL_ownVotes_19 (by decide) ?_
        exact q_eiret hf hx hb hr rfl hk hw dL_ownVotes_20 (Nat.le_of_ble_eq_true rfl) (Nat.le_of_ble_eq_true rfl)
      · exact nomatch hf
  refine lv_i2l hx hb dL_ownVotes_8 rfl ?_
  refine q_last0 hx hb hK hw hf dL_ownVotes_9 (fun σ6 H locs hf hw => ?_)
  refine lv_goto (tgt := 21) hx hb dL_ownVotes_10 (by decide) ?_
  refine lv_iconst (v := 0) hx hb dL_ownVotes_21 (by decide) ?_
  exact q_eiret hf hx hb hr rfl hk hw dL_ownVotes_22 (Nat.le_of_ble_eq_true rfl) (Nat.le_of_ble_eq_true rfl)
set_option maxRecDepth 100000 in
theorem kL_votesFor {Γ : Gm} {l : Launch} (hfl : l.stackTraces = false) {N : Nat} {σ τ : St} {x2 : Int32} {x3 : Int32} {r : Int32}  (hf : fL_votesFor N σ x2 x3 = some (r, τ)) : CW Γ STR l yL_votesFor cL_votesFor 5 (some (.int)) hL_votesFor 11 171 3 18 [.ref (ga Γ 0 0), .int x2, .int x3, .ref (ga Γ 180 0)] (some (.int r)) σ τ := by
  unfold fL_votesFor at hf
  refine cw_body (lv := [(0, .ref (ga Γ 0 0)), (1, .int x2), (2, .int x3), (3, .ref (ga Γ 180 0))]) (by decide +kernel) rfl (Nat.le_of_ble_eq_true rfl) ?_
  intro p e s m below meth c ls X hr hk hK hw hl htab
  have hx := X.1
  have hb := X.2.1
  have hown := X.2.2.2
  refine lv_aload_n hx hb dL_votesFor_0 rfl (lv_at hl 3 rfl) ?_
  refine lv_iconst (v := 0) hx hb dL_votesFor_1 (by decide) ?_
  refine lv_aload_n hx hb dL_votesFor_2 rfl (lv_at hl 0 rfl) ?_
  refine lv_iload_n hx hb dL_votesFor_3 rfl (lv_at hl 1 rfl) ?_
  refine lv_iload_n hx hb dL_votesFor_4 rfl (lv_at hl 2 rfl) ?_
  refine q_hg (rs1 := rsI) (f := fun v => some (.int v)) (fun _ _ => rfl) (fun _ _ => rfl) hf hw (fun u h => q_rxV (As := [.int x2, .int x3]) (rest := [.int (0 : Int32), .ref (ga Γ 180 0)]) (q := (RX7, TX7, 5)) X hK hw rfl (Nat.le_of_ble_eq_true rfl : 0 < cnt (gn Γ) 0) (rfl : vwCl[9]? = _) (kX7_votesFor hfl h) mvX7_votesFor lk_L_133 ⟨Nat.le_of_ble_eq_true rfl, Nat.le_of_ble_eq_true rfl⟩ rfl hl.1 rfl (Nat.le_of_ble_eq_true rfl) dL_votesFor_5 ⟨Nat.le_of_ble_eq_true rfl, Nat.le_of_ble_eq_true rfl⟩) (fun E5 σ3 ce q4 H locs hf hw g1 g2 g3 => ?_) (fun v1 σ2 H locs hf hw => ?_)
  · refine q_ch hf (fun hE hf => ?_) (fun hf => ?_)
    · subst hE
      refine q_catch (tgt := 13) X hK [] ⟨0, 10, 13, 13⟩ [⟨0, 10, 17, 21⟩, ⟨0, 10, 21, 23⟩] (htab.trans rfl) ps_nil (by decide) (by decide) cl_L_13 ca_IllegalArgument g1 g2 g3 rfl ?_
      refine lv_astore (lv' := [(4, .ref q4), (0, .ref (ga Γ 0 0)), (1, .int x2), (2, .int x3), (3, .ref (ga Γ 180 0))]) hx hb dL_votesFor_13 hl (by decide) rfl (fun ls hl => ?_)
      refine lv_iconst (v := 1) hx hb dL_votesFor_15 (by decide) ?_
      exact q_eiret hf hx hb hr rfl hk hw dL_votesFor_16 (Nat.le_of_ble_eq_true rfl) (Nat.le_of_ble_eq_true rfl)
    · refine q_ch hf (fun hE hf => ?_) (fun hf => ?_)
      · subst hE
        refine q_catch (tgt := 17) X hK [⟨0, 10, 13, 13⟩] ⟨0, 10, 17, 21⟩ [⟨0, 10, 21, 23⟩] (htab.trans rfl) (ps_cons hK (by decide) cl_L_13 (List.mem_of_getElem? (i := 10) rfl) ps_nil) (by decide) (by decide) cl_L_21 ca_NoSuchElement g1 g2 g3 rfl ?_
        refine lv_astore (lv' := [(4, .ref q4), (0, .ref (ga Γ 0 0)), (1, .int x2), (2, .int x3), (3, .ref (ga Γ 180 0))]) hx hb dL_votesFor_17 hl (by decide) rfl (fun ls hl => ?_)
        refine lv_iconst (v := 2) hx hb dL_votesFor_19 (by decide) ?_
        exact q_eiret hf hx hb hr rfl hk hw dL_votesFor_20 (Nat.le_of_ble_eq_true rfl) (Nat.le_of_ble_eq_true rfl)
      · refine q_ch hf (fun hE hf => ?_) (fun hf => ?_)
        · subst hE
          refine q_catch (tgt := 21) X hK [⟨0, 10, 13, 13⟩, ⟨0, 10, 17, 21⟩] ⟨0, 10, 21, 23⟩ [] (htab.trans rfl) (ps_cons hK (by decide) cl_L_13 (List.mem_of_getElem? (i := 15) rfl) (ps_cons hK (by decide) cl_L_21 (List.mem_of_getElem? (i := 17) rfl) ps_nil)) (by decide) (by decide) cl_L_23 ca_UnsupportedOperation g1 g2 g3 rfl ?_
          refine lv_astore (lv' := [(4, .ref q4), (0, .ref (ga Γ 0 0)), (1, .int x2), (2, .int x3), (3, .ref (ga Γ 180 0))]) hx hb dL_votesFor_21 hl (by decide) rfl (fun ls hl => ?_)
          refine lv_iconst (v := 3) hx hb dL_votesFor_23 (by decide) ?_
          exact q_eiret hf hx hb hr rfl hk hw dL_votesFor_24 (Nat.le_of_ble_eq_true rfl) (Nat.le_of_ble_eq_true rfl)
        · exact nomatch hf
  refine lv_i2l hx hb dL_votesFor_8 rfl ?_
  refine q_last0 hx hb hK hw hf dL_votesFor_9 (fun σ6 H locs hf hw => ?_)
  refine lv_goto (tgt := 25) hx hb dL_votesFor_10 (by decide) ?_
  refine lv_iconst (v := 0) hx hb dL_votesFor_25 (by decide) ?_
  exact q_eiret hf hx hb hr rfl hk hw dL_votesFor_26 (Nat.le_of_ble_eq_true rfl) (Nat.le_of_ble_eq_true rfl)
set_option maxRecDepth 100000 in
theorem kL_winner {Γ : Gm} {l : Launch} (hfl : l.stackTraces = false) {N : Nat} {σ τ : St} {x2 : Int32} {r : Int32}  (hf : fL_winner N σ x2 = some (r, τ)) : CW Γ STR l yL_winner cL_winner 4 (some (.int)) hL_winner 10 148 3 18 [.ref (ga Γ 0 0), .int x2, .ref (ga Γ 180 0)] (some (.int r)) σ τ := by
  unfold fL_winner at hf
  refine cw_body (lv := [(0, .ref (ga Γ 0 0)), (1, .int x2), (2, .ref (ga Γ 180 0))]) (by decide +kernel) rfl (Nat.le_of_ble_eq_true rfl) ?_
  intro p e s m below meth c ls X hr hk hK hw hl htab
  have hx := X.1
  have hb := X.2.1
  have hown := X.2.2.2
  refine lv_aload_n hx hb dL_winner_0 rfl (lv_at hl 2 rfl) ?_
  refine lv_iconst (v := 0) hx hb dL_winner_1 (by decide) ?_
  refine lv_aload_n hx hb dL_winner_2 rfl (lv_at hl 0 rfl) ?_
  refine lv_iload_n hx hb dL_winner_3 rfl (lv_at hl 1 rfl) ?_
  refine q_hg (rs1 := rsI) (f := fun v => some (.int v)) (fun _ _ => rfl) (fun _ _ => rfl) hf hw (fun u h => q_rxV (As := [.int x2]) (rest := [.int (0 : Int32), .ref (ga Γ 180 0)]) (q := (RX7, TX7, 5)) X hK hw rfl (Nat.le_of_ble_eq_true rfl : 0 < cnt (gn Γ) 0) (rfl : vwCl[9]? = _) (kX7_winner hfl h) mvX7_winner lk_L_136 ⟨Nat.le_of_ble_eq_true rfl, Nat.le_of_ble_eq_true rfl⟩ rfl hl.1 rfl (Nat.le_of_ble_eq_true rfl) dL_winner_4 ⟨Nat.le_of_ble_eq_true rfl, Nat.le_of_ble_eq_true rfl⟩) (fun E5 σ3 ce q4 H locs hf hw g1 g2 g3 => ?_) (fun v1 σ2 H locs hf hw => ?_)
  · refine q_ch hf (fun hE hf => ?_) (fun hf => ?_)
    · subst hE
      refine q_catch (tgt := 12) X hK [] ⟨0, 9, 12, 13⟩ [⟨0, 9, 15, 23⟩, ⟨0, 9, 18, 21⟩] (htab.trans rfl) ps_nil (by decide) (by decide) cl_L_13 ca_IllegalArgument g1 g2 g3 rfl ?_
      refine lv_astore_n (lv' := [(3, .ref q4), (0, .ref (ga Γ 0 0)), (1, .int x2), (2, .ref (ga Γ 180 0))]) hx hb dL_winner_12 rfl hl (by decide) rfl (fun ls hl => ?_)
      refine lv_iconst (v := 1) hx hb dL_winner_13 (by decide) ?_
      exact q_eiret hf hx hb hr rfl hk hw dL_winner_14 (Nat.le_of_ble_eq_true rfl) (Nat.le_of_ble_eq_true rfl)
    · refine q_ch hf (fun hE hf => ?_) (fun hf => ?_)
      · subst hE
        refine q_catch (tgt := 15) X hK [⟨0, 9, 12, 13⟩] ⟨0, 9, 15, 23⟩ [⟨0, 9, 18, 21⟩] (htab.trans rfl) (ps_cons hK (by decide) cl_L_13 (List.mem_of_getElem? (i := 15) rfl) ps_nil) (by decide) (by decide) cl_L_23 ca_UnsupportedOperation g1 g2 g3 rfl ?_
        refine lv_astore_n (lv' := [(3, .ref q4), (0, .ref (ga Γ 0 0)), (1, .int x2), (2, .ref (ga Γ 180 0))]) hx hb dL_winner_15 rfl hl (by decide) rfl (fun ls hl => ?_)
        refine lv_iconst (v := 2) hx hb dL_winner_16 (by decide) ?_
        exact q_eiret hf hx hb hr rfl hk hw dL_winner_17 (Nat.le_of_ble_eq_true rfl) (Nat.le_of_ble_eq_true rfl)
      · refine q_ch hf (fun hE hf => ?_) (fun hf => ?_)
        · subst hE
          refine q_catch (tgt := 18) X hK [⟨0, 9, 12, 13⟩, ⟨0, 9, 15, 23⟩] ⟨0, 9, 18, 21⟩ [] (htab.trans rfl) (ps_cons hK (by decide) cl_L_13 (List.mem_of_getElem? (i := 10) rfl) (ps_cons hK (by decide) cl_L_23 (List.mem_of_getElem? (i := 12) rfl) ps_nil)) (by decide) (by decide) cl_L_21 ca_NoSuchElement g1 g2 g3 rfl ?_
          refine lv_astore_n (lv' := [(3, .ref q4), (0, .ref (ga Γ 0 0)), (1, .int x2), (2, .ref (ga Γ 180 0))]) hx hb dL_winner_18 rfl hl (by decide) rfl (fun ls hl => ?_)
          refine lv_iconst (v := 3) hx hb dL_winner_19 (by decide) ?_
          exact q_eiret hf hx hb hr rfl hk hw dL_winner_20 (Nat.le_of_ble_eq_true rfl) (Nat.le_of_ble_eq_true rfl)
        · exact nomatch hf
  refine lv_i2l hx hb dL_winner_7 rfl ?_
  refine q_last0 hx hb hK hw hf dL_winner_8 (fun σ6 H locs hf hw => ?_)
  refine lv_goto (tgt := 21) hx hb dL_winner_9 (by decide) ?_
  refine lv_iconst (v := 0) hx hb dL_winner_21 (by decide) ?_
  exact q_eiret hf hx hb hr rfl hk hw dL_winner_22 (Nat.le_of_ble_eq_true rfl) (Nat.le_of_ble_eq_true rfl)
set_option maxRecDepth 100000 in
theorem kL_outcome {Γ : Gm} {l : Launch} (hfl : l.stackTraces = false) {N : Nat} {σ τ : St} {x2 : Int32} {r : Int32}  (hf : fL_outcome N σ x2 = some (r, τ)) : CW Γ STR l yL_outcome cL_outcome 4 (some (.int)) hL_outcome 10 146 1 6 [.ref (ga Γ 0 0), .int x2, .ref (ga Γ 180 0)] (some (.int r)) σ τ := by
  unfold fL_outcome at hf
  refine cw_body (lv := [(0, .ref (ga Γ 0 0)), (1, .int x2), (2, .ref (ga Γ 180 0))]) (by decide +kernel) rfl (Nat.le_of_ble_eq_true rfl) ?_
  intro p e s m below meth c ls X hr hk hK hw hl htab
  have hx := X.1
  have hb := X.2.1
  have hown := X.2.2.2
  refine lv_aload_n hx hb dL_outcome_0 rfl (lv_at hl 2 rfl) ?_
  refine lv_iconst (v := 0) hx hb dL_outcome_1 (by decide) ?_
  refine lv_aload_n hx hb dL_outcome_2 rfl (lv_at hl 0 rfl) ?_
  refine lv_iload_n hx hb dL_outcome_3 rfl (lv_at hl 1 rfl) ?_
  refine q_hg (rs1 := rsI) (f := fun v => some (.int v)) (fun _ _ => rfl) (fun _ _ => rfl) hf hw (fun u h => q_rxV (As := [.int x2]) (rest := [.int (0 : Int32), .ref (ga Γ 180 0)]) (q := (RX7, TX7, 5)) X hK hw rfl (Nat.le_of_ble_eq_true rfl : 0 < cnt (gn Γ) 0) (rfl : vwCl[9]? = _) (kX7_outcome hfl h) mvX7_outcome lk_L_139 ⟨Nat.le_of_ble_eq_true rfl, Nat.le_of_ble_eq_true rfl⟩ rfl hl.1 rfl (Nat.le_of_ble_eq_true rfl) dL_outcome_4 ⟨Nat.le_of_ble_eq_true rfl, Nat.le_of_ble_eq_true rfl⟩) (fun E5 σ3 ce q4 H locs hf hw g1 g2 g3 => ?_) (fun v1 σ2 H locs hf hw => ?_)
  · refine q_ch hf (fun hE hf => ?_) (fun hf => ?_)
    · subst hE
      refine q_catch (tgt := 12) X hK [] ⟨0, 9, 12, 13⟩ [] (htab.trans rfl) ps_nil (by decide) (by decide) cl_L_13 ca_IllegalArgument g1 g2 g3 rfl ?_
      refine lv_astore_n (lv' := [(3, .ref q4), (0, .ref (ga Γ 0 0)), (1, .int x2), (2, .ref (ga Γ 180 0))]) hx hb dL_outcome_12 rfl hl (by decide) rfl (fun ls hl => ?_)
      refine lv_iconst (v := 1) hx hb dL_outcome_13 (by decide) ?_
      exact q_eiret hf hx hb hr rfl hk hw dL_outcome_14 (Nat.le_of_ble_eq_true rfl) (Nat.le_of_ble_eq_true rfl)
    · exact nomatch hf
  refine lv_i2l hx hb dL_outcome_7 rfl ?_
  refine q_last0 hx hb hK hw hf dL_outcome_8 (fun σ6 H locs hf hw => ?_)
  refine lv_goto (tgt := 15) hx hb dL_outcome_9 (by decide) ?_
  refine lv_iconst (v := 0) hx hb dL_outcome_15 (by decide) ?_
  exact q_eiret hf hx hb hr rfl hk hw dL_outcome_16 (Nat.le_of_ble_eq_true rfl) (Nat.le_of_ble_eq_true rfl)
set_option maxRecDepth 100000 in
theorem kL_outcomeAnew {Γ : Gm} {l : Launch} (hfl : l.stackTraces = false) {N : Nat} {σ τ : St} {x2 : Int32} {r : Int32}  (hf : fL_outcomeAnew N σ x2 = some (r, τ)) : CW Γ STR l yL_outcomeAnew cL_outcomeAnew 4 (some (.int)) hL_outcomeAnew 10 154 1 6 [.ref (ga Γ 0 0), .int x2, .ref (ga Γ 180 0)] (some (.int r)) σ τ := by
  unfold fL_outcomeAnew at hf
  refine cw_body (lv := [(0, .ref (ga Γ 0 0)), (1, .int x2), (2, .ref (ga Γ 180 0))]) (by decide +kernel) rfl (Nat.le_of_ble_eq_true rfl) ?_
  intro p e s m below meth c ls X hr hk hK hw hl htab
  have hx := X.1
  have hb := X.2.1
  have hown := X.2.2.2
  refine lv_aload_n hx hb dL_outcomeAnew_0 rfl (lv_at hl 2 rfl) ?_
  refine lv_iconst (v := 0) hx hb dL_outcomeAnew_1 (by decide) ?_
  refine lv_aload_n hx hb dL_outcomeAnew_2 rfl (lv_at hl 0 rfl) ?_
  refine lv_iload_n hx hb dL_outcomeAnew_3 rfl (lv_at hl 1 rfl) ?_
  refine q_hg (rs1 := rsI) (f := fun v => some (.int v)) (fun _ _ => rfl) (fun _ _ => rfl) hf hw (fun u h => q_rxV (As := [.int x2]) (rest := [.int (0 : Int32), .ref (ga Γ 180 0)]) (q := (RX7, TX7, 5)) X hK hw rfl (Nat.le_of_ble_eq_true rfl : 0 < cnt (gn Γ) 0) (rfl : vwCl[9]? = _) (kX7_outcomeAnew hfl h) mvX7_outcomeAnew lk_L_142 ⟨Nat.le_of_ble_eq_true rfl, Nat.le_of_ble_eq_true rfl⟩ rfl hl.1 rfl (Nat.le_of_ble_eq_true rfl) dL_outcomeAnew_4 ⟨Nat.le_of_ble_eq_true rfl, Nat.le_of_ble_eq_true rfl⟩) (fun E5 σ3 ce q4 H locs hf hw g1 g2 g3 => ?_) (fun v1 σ2 H locs hf hw => ?_)
  · refine q_ch hf (fun hE hf => ?_) (fun hf => ?_)
    · subst hE
      refine q_catch (tgt := 12) X hK [] ⟨0, 9, 12, 13⟩ [] (htab.trans rfl) ps_nil (by decide) (by decide) cl_L_13 ca_IllegalArgument g1 g2 g3 rfl ?_
      refine lv_astore_n (lv' := [(3, .ref q4), (0, .ref (ga Γ 0 0)), (1, .int x2), (2, .ref (ga Γ 180 0))]) hx hb dL_outcomeAnew_12 rfl hl (by decide) rfl (fun ls hl => ?_)
      refine lv_iconst (v := 1) hx hb dL_outcomeAnew_13 (by decide) ?_
      exact q_eiret hf hx hb hr rfl hk hw dL_outcomeAnew_14 (Nat.le_of_ble_eq_true rfl) (Nat.le_of_ble_eq_true rfl)
    · exact nomatch hf
  refine lv_i2l hx hb dL_outcomeAnew_7 rfl ?_
  refine q_last0 hx hb hK hw hf dL_outcomeAnew_8 (fun σ6 H locs hf hw => ?_)
  refine lv_goto (tgt := 15) hx hb dL_outcomeAnew_9 (by decide) ?_
  refine lv_iconst (v := 0) hx hb dL_outcomeAnew_15 (by decide) ?_
  exact q_eiret hf hx hb hr rfl hk hw dL_outcomeAnew_16 (Nat.le_of_ble_eq_true rfl) (Nat.le_of_ble_eq_true rfl)
set_option maxRecDepth 100000 in
theorem kL_outcomes {Γ : Gm} {l : Launch} (hfl : l.stackTraces = false) {N : Nat} {σ τ : St} {x2 : Int32} {x3 : Int32} {r : Int32}  (hf : fL_outcomes N σ x2 x3 = some (r, τ)) : CW Γ STR l yL_outcomes cL_outcomes 5 (some (.int)) hL_outcomes 10 160 2 12 [.ref (ga Γ 0 0), .int x2, .int x3, .ref (ga Γ 180 0)] (some (.int r)) σ τ := by
  unfold fL_outcomes at hf
  refine cw_body (lv := [(0, .ref (ga Γ 0 0)), (1, .int x2), (2, .int x3), (3, .ref (ga Γ 180 0))]) (by decide +kernel) rfl (Nat.le_of_ble_eq_true rfl) ?_
  intro p e s m below meth c ls X hr hk hK hw hl htab
  have hx := X.1
  have hb := X.2.1
  have hown := X.2.2.2
  refine lv_aload_n hx hb dL_outcomes_0 rfl (lv_at hl 3 rfl) ?_
  refine lv_iconst (v := 0) hx hb dL_outcomes_1 (by decide) ?_
  refine lv_aload_n hx hb dL_outcomes_2 rfl (lv_at hl 0 rfl) ?_
  refine lv_iload_n hx hb dL_outcomes_3 rfl (lv_at hl 1 rfl) ?_
  refine lv_iload_n hx hb dL_outcomes_4 rfl (lv_at hl 2 rfl) ?_
  refine q_hg (rs1 := rsI) (f := fun v => some (.int v)) (fun _ _ => rfl) (fun _ _ => rfl) hf hw (fun u h => q_rxV (As := [.int x2, .int x3]) (rest := [.int (0 : Int32), .ref (ga Γ 180 0)]) (q := (RX7, TX7, 5)) X hK hw rfl (Nat.le_of_ble_eq_true rfl : 0 < cnt (gn Γ) 0) (rfl : vwCl[9]? = _) (kX7_outcomes hfl h) mvX7_outcomes lk_L_145 ⟨Nat.le_of_ble_eq_true rfl, Nat.le_of_ble_eq_true rfl⟩ rfl hl.1 rfl (Nat.le_of_ble_eq_true rfl) dL_outcomes_5 ⟨Nat.le_of_ble_eq_true rfl, Nat.le_of_ble_eq_true rfl⟩) (fun E5 σ3 ce q4 H locs hf hw g1 g2 g3 => ?_) (fun v1 σ2 H locs hf hw => ?_)
  · refine q_ch hf (fun hE hf => ?_) (fun hf => ?_)
    · subst hE
      refine q_catch (tgt := 13) X hK [] ⟨0, 10, 13, 13⟩ [] (htab.trans rfl) ps_nil (by decide) (by decide) cl_L_13 ca_IllegalArgument g1 g2 g3 rfl ?_
      refine lv_astore (lv' := [(4, .ref q4), (0, .ref (ga Γ 0 0)), (1, .int x2), (2, .int x3), (3, .ref (ga Γ 180 0))]) hx hb dL_outcomes_13 hl (by decide) rfl (fun ls hl => ?_)
      refine lv_iconst (v := 1) hx hb dL_outcomes_15 (by decide) ?_
      exact q_eiret hf hx hb hr rfl hk hw dL_outcomes_16 (Nat.le_of_ble_eq_true rfl) (Nat.le_of_ble_eq_true rfl)
    · exact nomatch hf
  refine lv_i2l hx hb dL_outcomes_8 rfl ?_
  refine q_last0 hx hb hK hw hf dL_outcomes_9 (fun σ6 H locs hf hw => ?_)
  refine lv_goto (tgt := 17) hx hb dL_outcomes_10 (by decide) ?_
  refine lv_iconst (v := 0) hx hb dL_outcomes_17 (by decide) ?_
  exact q_eiret hf hx hb hr rfl hk hw dL_outcomes_18 (Nat.le_of_ble_eq_true rfl) (Nat.le_of_ble_eq_true rfl)
set_option maxRecDepth 100000 in
theorem kL_areAlike {Γ : Gm} {l : Launch} (hfl : l.stackTraces = false) {N : Nat} {σ τ : St} {x2 : Int32} {x3 : Int32} {r : Int32}  (hf : fL_areAlike N σ x2 x3 = some (r, τ)) : CW Γ STR l yL_areAlike cL_areAlike 5 (some (.int)) hL_areAlike 10 149 2 12 [.ref (ga Γ 0 0), .int x2, .int x3, .ref (ga Γ 180 0)] (some (.int r)) σ τ := by
  unfold fL_areAlike at hf
  refine cw_body (lv := [(0, .ref (ga Γ 0 0)), (1, .int x2), (2, .int x3), (3, .ref (ga Γ 180 0))]) (by decide +kernel) rfl (Nat.le_of_ble_eq_true rfl) ?_
  intro p e s m below meth c ls X hr hk hK hw hl htab
  have hx := X.1
  have hb := X.2.1
  have hown := X.2.2.2
  refine lv_aload_n hx hb dL_areAlike_0 rfl (lv_at hl 3 rfl) ?_
  refine lv_iconst (v := 0) hx hb dL_areAlike_1 (by decide) ?_
  refine lv_aload_n hx hb dL_areAlike_2 rfl (lv_at hl 0 rfl) ?_
  refine lv_iload_n hx hb dL_areAlike_3 rfl (lv_at hl 1 rfl) ?_
  refine lv_iload_n hx hb dL_areAlike_4 rfl (lv_at hl 2 rfl) ?_
  refine q_hg (rs1 := rsI) (f := fun v => some (.int v)) (fun _ _ => rfl) (fun _ _ => rfl) hf hw (fun u h => q_rxV (As := [.int x2, .int x3]) (rest := [.int (0 : Int32), .ref (ga Γ 180 0)]) (q := (RX7, TX7, 5)) X hK hw rfl (Nat.le_of_ble_eq_true rfl : 0 < cnt (gn Γ) 0) (rfl : vwCl[9]? = _) (kX7_areAlike hfl h) mvX7_areAlike lk_L_148 ⟨Nat.le_of_ble_eq_true rfl, Nat.le_of_ble_eq_true rfl⟩ rfl hl.1 rfl (Nat.le_of_ble_eq_true rfl) dL_areAlike_5 ⟨Nat.le_of_ble_eq_true rfl, Nat.le_of_ble_eq_true rfl⟩) (fun E5 σ3 ce q4 H locs hf hw g1 g2 g3 => ?_) (fun v1 σ2 H locs hf hw => ?_)
  · refine q_ch hf (fun hE hf => ?_) (fun hf => ?_)
    · subst hE
      refine q_catch (tgt := 20) X hK [] ⟨0, 17, 20, 13⟩ [] (htab.trans rfl) ps_nil (by decide) (by decide) cl_L_13 ca_IllegalArgument g1 g2 g3 rfl ?_
      refine lv_astore (lv' := [(4, .ref q4), (0, .ref (ga Γ 0 0)), (1, .int x2), (2, .int x3), (3, .ref (ga Γ 180 0))]) hx hb dL_areAlike_20 hl (by decide) rfl (fun ls hl => ?_)
      refine lv_iconst (v := 1) hx hb dL_areAlike_22 (by decide) ?_
      exact q_eiret hf hx hb hr rfl hk hw dL_areAlike_23 (Nat.le_of_ble_eq_true rfl) (Nat.le_of_ble_eq_true rfl)
    · exact nomatch hf
  refine q_if_eq (tgt := 15) hx hb hf dL_areAlike_8 (by decide) (fun hf => ?_) (fun hf => ?_)
  · refine lv_lconst (v := 0) hx hb dL_areAlike_15 rfl ?_
    refine q_last0 hx hb hK hw hf dL_areAlike_16 (fun σ6 H locs hf hw => ?_)
    refine lv_goto (tgt := 24) hx hb dL_areAlike_17 (by decide) ?_
    refine lv_iconst (v := 0) hx hb dL_areAlike_24 (by decide) ?_
    exact q_eiret hf hx hb hr rfl hk hw dL_areAlike_25 (Nat.le_of_ble_eq_true rfl) (Nat.le_of_ble_eq_true rfl)
  refine lv_lconst (v := 1) hx hb dL_areAlike_11 rfl ?_
  refine lv_goto (tgt := 16) hx hb dL_areAlike_12 (by decide) ?_
  refine q_last0 hx hb hK hw hf dL_areAlike_16 (fun σ7 H locs hf hw => ?_)
  refine lv_goto (tgt := 24) hx hb dL_areAlike_17 (by decide) ?_
  refine lv_iconst (v := 0) hx hb dL_areAlike_24 (by decide) ?_
  exact q_eiret hf hx hb hr rfl hk hw dL_areAlike_25 (Nat.le_of_ble_eq_true rfl) (Nat.le_of_ble_eq_true rfl)
set_option maxRecDepth 100000 in
theorem kL_frameShare {Γ : Gm} {l : Launch} (hfl : l.stackTraces = false) {N : Nat} {σ τ : St} {x2 : Int32} {r : Int32}  (hf : fL_frameShare N σ x2 = some (r, τ)) : CW Γ STR l yL_frameShare cL_frameShare 4 (some (.int)) hL_frameShare 10 148 2 12 [.ref (ga Γ 0 0), .int x2, .ref (ga Γ 181 0)] (some (.int r)) σ τ := by
  unfold fL_frameShare at hf
  refine cw_body (lv := [(0, .ref (ga Γ 0 0)), (1, .int x2), (2, .ref (ga Γ 181 0))]) (by decide +kernel) rfl (Nat.le_of_ble_eq_true rfl) ?_
  intro p e s m below meth c ls X hr hk hK hw hl htab
  have hx := X.1
  have hb := X.2.1
  have hown := X.2.2.2
  refine lv_aload_n hx hb dL_frameShare_0 rfl (lv_at hl 2 rfl) ?_
  refine lv_iconst (v := 0) hx hb dL_frameShare_1 (by decide) ?_
  refine lv_aload_n hx hb dL_frameShare_2 rfl (lv_at hl 0 rfl) ?_
  refine lv_iload_n hx hb dL_frameShare_3 rfl (lv_at hl 1 rfl) ?_
  refine q_hg (rs1 := rsF) (f := fun v => some (.float v)) (fun _ _ => rfl) (fun _ _ => rfl) hf hw (fun u h => q_rxV (As := [.int x2]) (rest := [.int (0 : Int32), .ref (ga Γ 181 0)]) (q := (RX7, TX7, 5)) X hK hw rfl (Nat.le_of_ble_eq_true rfl : 0 < cnt (gn Γ) 0) (rfl : vwCl[9]? = _) (kX7_frameShare hfl h) mvX7_frameShare lk_L_151 ⟨Nat.le_of_ble_eq_true rfl, Nat.le_of_ble_eq_true rfl⟩ rfl hl.1 rfl (Nat.le_of_ble_eq_true rfl) dL_frameShare_4 ⟨Nat.le_of_ble_eq_true rfl, Nat.le_of_ble_eq_true rfl⟩) (fun E5 σ3 ce q4 H locs hf hw g1 g2 g3 => ?_) (fun v1 σ2 H locs hf hw => ?_)
  · refine q_ch hf (fun hE hf => ?_) (fun hf => ?_)
    · subst hE
      refine q_catch (tgt := 12) X hK [] ⟨0, 9, 12, 13⟩ [⟨0, 9, 15, 155⟩] (htab.trans rfl) ps_nil (by decide) (by decide) cl_L_13 ca_IllegalArgument g1 g2 g3 rfl ?_
      refine lv_astore_n (lv' := [(3, .ref q4), (0, .ref (ga Γ 0 0)), (1, .int x2), (2, .ref (ga Γ 181 0))]) hx hb dL_frameShare_12 rfl hl (by decide) rfl (fun ls hl => ?_)
      refine lv_iconst (v := 1) hx hb dL_frameShare_13 (by decide) ?_
      exact q_eiret hf hx hb hr rfl hk hw dL_frameShare_14 (Nat.le_of_ble_eq_true rfl) (Nat.le_of_ble_eq_true rfl)
    · refine q_ch hf (fun hE hf => ?_) (fun hf => ?_)
      · subst hE
        refine q_catch (tgt := 15) X hK [⟨0, 9, 12, 13⟩] ⟨0, 9, 15, 155⟩ [] (htab.trans rfl) (ps_cons hK (by decide) cl_L_13 (List.mem_of_getElem? (i := 25) rfl) ps_nil) (by decide) (by decide) cl_L_155 ca_Arithmetic g1 g2 g3 rfl ?_
        refine lv_astore_n (lv' := [(3, .ref q4), (0, .ref (ga Γ 0 0)), (1, .int x2), (2, .ref (ga Γ 181 0))]) hx hb dL_frameShare_15 rfl hl (by decide) rfl (fun ls hl => ?_)
        refine lv_iconst (v := 2) hx hb dL_frameShare_16 (by decide) ?_
        exact q_eiret hf hx hb hr rfl hk hw dL_frameShare_17 (Nat.le_of_ble_eq_true rfl) (Nat.le_of_ble_eq_true rfl)
      · exact nomatch hf
  refine q_f2d hx hb hf dL_frameShare_7 (fun hf => ?_)
  refine q_dast0 hx hb hK hw hf dL_frameShare_8 (fun σ6 H locs hf hw => ?_)
  refine lv_goto (tgt := 18) hx hb dL_frameShare_9 (by decide) ?_
  refine lv_iconst (v := 0) hx hb dL_frameShare_18 (by decide) ?_
  exact q_eiret hf hx hb hr rfl hk hw dL_frameShare_19 (Nat.le_of_ble_eq_true rfl) (Nat.le_of_ble_eq_true rfl)
set_option maxRecDepth 100000 in
theorem kL_meanRoute {Γ : Gm} {l : Launch} (hfl : l.stackTraces = false) {N : Nat} {σ τ : St} {x2 : Int32} {r : Int32}  (hf : fL_meanRoute N σ x2 = some (r, τ)) : CW Γ STR l yL_meanRoute cL_meanRoute 4 (some (.int)) hL_meanRoute 10 163 2 12 [.ref (ga Γ 0 0), .int x2, .ref (ga Γ 181 0)] (some (.int r)) σ τ := by
  unfold fL_meanRoute at hf
  refine cw_body (lv := [(0, .ref (ga Γ 0 0)), (1, .int x2), (2, .ref (ga Γ 181 0))]) (by decide +kernel) rfl (Nat.le_of_ble_eq_true rfl) ?_
  intro p e s m below meth c ls X hr hk hK hw hl htab
  have hx := X.1
  have hb := X.2.1
  have hown := X.2.2.2
  refine lv_aload_n hx hb dL_meanRoute_0 rfl (lv_at hl 2 rfl) ?_
  refine lv_iconst (v := 0) hx hb dL_meanRoute_1 (by decide) ?_
  refine lv_aload_n hx hb dL_meanRoute_2 rfl (lv_at hl 0 rfl) ?_
  refine lv_iload_n hx hb dL_meanRoute_3 rfl (lv_at hl 1 rfl) ?_
  refine q_hg (rs1 := rsD) (f := fun v => some (.double v)) (fun _ _ => rfl) (fun _ _ => rfl) hf hw (fun u h => q_rxV (As := [.int x2]) (rest := [.int (0 : Int32), .ref (ga Γ 181 0)]) (q := (RX7, TX7, 5)) X hK hw rfl (Nat.le_of_ble_eq_true rfl : 0 < cnt (gn Γ) 0) (rfl : vwCl[9]? = _) (kX7_meanRoute hfl h) mvX7_meanRoute lk_L_157 ⟨Nat.le_of_ble_eq_true rfl, Nat.le_of_ble_eq_true rfl⟩ rfl hl.1 rfl (Nat.le_of_ble_eq_true rfl) dL_meanRoute_4 ⟨Nat.le_of_ble_eq_true rfl, Nat.le_of_ble_eq_true rfl⟩) (fun E5 σ3 ce q4 H locs hf hw g1 g2 g3 => ?_) (fun v1 σ2 H locs hf hw => ?_)
  · refine q_ch hf (fun hE hf => ?_) (fun hf => ?_)
    · subst hE
      refine q_catch (tgt := 11) X hK [] ⟨0, 8, 11, 13⟩ [⟨0, 8, 14, 155⟩] (htab.trans rfl) ps_nil (by decide) (by decide) cl_L_13 ca_IllegalArgument g1 g2 g3 rfl ?_
      refine lv_astore_n (lv' := [(3, .ref q4), (0, .ref (ga Γ 0 0)), (1, .int x2), (2, .ref (ga Γ 181 0))]) hx hb dL_meanRoute_11 rfl hl (by decide) rfl (fun ls hl => ?_)
      refine lv_iconst (v := 1) hx hb dL_meanRoute_12 (by decide) ?_
      exact q_eiret hf hx hb hr rfl hk hw dL_meanRoute_13 (Nat.le_of_ble_eq_true rfl) (Nat.le_of_ble_eq_true rfl)
    · refine q_ch hf (fun hE hf => ?_) (fun hf => ?_)
      · subst hE
        refine q_catch (tgt := 14) X hK [⟨0, 8, 11, 13⟩] ⟨0, 8, 14, 155⟩ [] (htab.trans rfl) (ps_cons hK (by decide) cl_L_13 (List.mem_of_getElem? (i := 25) rfl) ps_nil) (by decide) (by decide) cl_L_155 ca_Arithmetic g1 g2 g3 rfl ?_
        refine lv_astore_n (lv' := [(3, .ref q4), (0, .ref (ga Γ 0 0)), (1, .int x2), (2, .ref (ga Γ 181 0))]) hx hb dL_meanRoute_14 rfl hl (by decide) rfl (fun ls hl => ?_)
        refine lv_iconst (v := 2) hx hb dL_meanRoute_15 (by decide) ?_
        exact q_eiret hf hx hb hr rfl hk hw dL_meanRoute_16 (Nat.le_of_ble_eq_true rfl) (Nat.le_of_ble_eq_true rfl)
      · exact nomatch hf
  refine q_dast0 hx hb hK hw hf dL_meanRoute_7 (fun σ6 H locs hf hw => ?_)
  refine lv_goto (tgt := 17) hx hb dL_meanRoute_8 (by decide) ?_
  refine lv_iconst (v := 0) hx hb dL_meanRoute_17 (by decide) ?_
  exact q_eiret hf hx hb hr rfl hk hw dL_meanRoute_18 (Nat.le_of_ble_eq_true rfl) (Nat.le_of_ble_eq_true rfl)
set_option maxRecDepth 100000 in
theorem kL_area {Γ : Gm} {l : Launch} (hfl : l.stackTraces = false) {N : Nat} {σ τ : St} {x2 : Int32} {r : Int32}  (hf : fL_area N σ x2 = some (r, τ)) : CW Γ STR l yL_area cL_area 4 (some (.int)) hL_area 10 146 1 6 [.ref (ga Γ 0 0), .int x2, .ref (ga Γ 180 0)] (some (.int r)) σ τ := by
  unfold fL_area at hf
  refine cw_body (lv := [(0, .ref (ga Γ 0 0)), (1, .int x2), (2, .ref (ga Γ 180 0))]) (by decide +kernel) rfl (Nat.le_of_ble_eq_true rfl) ?_
  intro p e s m below meth c ls X hr hk hK hw hl htab
  have hx := X.1
  have hb := X.2.1
  have hown := X.2.2.2
  refine lv_aload_n hx hb dL_area_0 rfl (lv_at hl 2 rfl) ?_
  refine lv_iconst (v := 0) hx hb dL_area_1 (by decide) ?_
  refine lv_aload_n hx hb dL_area_2 rfl (lv_at hl 0 rfl) ?_
  refine lv_iload_n hx hb dL_area_3 rfl (lv_at hl 1 rfl) ?_
  refine q_hg (rs1 := rsJ) (f := fun v => some (.long v)) (fun _ _ => rfl) (fun _ _ => rfl) hf hw (fun u h => q_rxV (As := [.int x2]) (rest := [.int (0 : Int32), .ref (ga Γ 180 0)]) (q := (RX7, TX7, 5)) X hK hw rfl (Nat.le_of_ble_eq_true rfl : 0 < cnt (gn Γ) 0) (rfl : vwCl[9]? = _) (kX7_area hfl h) mvX7_area lk_L_161 ⟨Nat.le_of_ble_eq_true rfl, Nat.le_of_ble_eq_true rfl⟩ rfl hl.1 rfl (Nat.le_of_ble_eq_true rfl) dL_area_4 ⟨Nat.le_of_ble_eq_true rfl, Nat.le_of_ble_eq_true rfl⟩) (fun E5 σ3 ce q4 H locs hf hw g1 g2 g3 => ?_) (fun v1 σ2 H locs hf hw => ?_)
  · refine q_ch hf (fun hE hf => ?_) (fun hf => ?_)
    · subst hE
      refine q_catch (tgt := 11) X hK [] ⟨0, 8, 11, 13⟩ [] (htab.trans rfl) ps_nil (by decide) (by decide) cl_L_13 ca_IllegalArgument g1 g2 g3 rfl ?_
      refine lv_astore_n (lv' := [(3, .ref q4), (0, .ref (ga Γ 0 0)), (1, .int x2), (2, .ref (ga Γ 180 0))]) hx hb dL_area_11 rfl hl (by decide) rfl (fun ls hl => ?_)
      refine lv_iconst (v := 1) hx hb dL_area_12 (by decide) ?_
      exact q_eiret hf hx hb hr rfl hk hw dL_area_13 (Nat.le_of_ble_eq_true rfl) (Nat.le_of_ble_eq_true rfl)
    · exact nomatch hf
  refine q_last0 hx hb hK hw hf dL_area_7 (fun σ6 H locs hf hw => ?_)
  refine lv_goto (tgt := 14) hx hb dL_area_8 (by decide) ?_
  refine lv_iconst (v := 0) hx hb dL_area_14 (by decide) ?_
  exact q_eiret hf hx hb hr rfl hk hw dL_area_15 (Nat.le_of_ble_eq_true rfl) (Nat.le_of_ble_eq_true rfl)
