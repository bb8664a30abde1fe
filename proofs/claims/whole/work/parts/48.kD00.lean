/-! Contracts, by program. -/
set_option maxRecDepth 100000 in
theorem kL_addShape {Γ : Gm} {l : Launch} (hfl : l.stackTraces = false) {N : Nat} {σ τ : St} {x2 : Int32} {x3 : Int32} {x4 : Int32} {x5 : Int32} {x6 : Int32} {x7 : Int32} {r : Int32}  (hf : fL_addShape N σ x2 x3 x4 x5 x6 x7 = some (r, τ)) : CW Γ STR l yL_addShape cL_addShape 9 (some (.int)) hL_addShape 10 161 4 24 [.ref (ga Γ 0 0), .int x2, .int x3, .int x4, .int x5, .int x6, .int x7, .ref (ga Γ 180 0)] (some (.int r)) σ τ := by
  unfold fL_addShape at hf
  refine cw_body (lv := [(0, .ref (ga Γ 0 0)), (1, .int x2), (2, .int x3), (3, .int x4), (4, .int x5), (5, .int x6), (6, .int x7), (7, .ref (ga Γ 180 0))]) (by decide +kernel) rfl (Nat.le_of_ble_eq_true rfl) ?_
  intro p e s m below meth c ls X hr hk hK hw hl htab
  have hx := X.1
  have hb := X.2.1
  have hown := X.2.2.2
  refine lv_aload hx hb dL_addShape_0 (lv_at hl 7 rfl) ?_
  refine lv_iconst (v := 0) hx hb dL_addShape_2 (by decide) ?_
  refine lv_aload_n hx hb dL_addShape_3 rfl (lv_at hl 0 rfl) ?_
  refine lv_iload_n hx hb dL_addShape_4 rfl (lv_at hl 1 rfl) ?_
  refine lv_iload_n hx hb dL_addShape_5 rfl (lv_at hl 2 rfl) ?_
  refine lv_iload_n hx hb dL_addShape_6 rfl (lv_at hl 3 rfl) ?_
  refine lv_iload hx hb dL_addShape_7 (lv_at hl 4 rfl) ?_
  refine lv_iload hx hb dL_addShape_9 (lv_at hl 5 rfl) ?_
  refine lv_iload hx hb dL_addShape_11 (lv_at hl 6 rfl) ?_
  refine q_hg (rs1 := rsI) (f := fun v => some (.int v)) (fun _ _ => rfl) (fun _ _ => rfl) hf hw (fun u h => q_rxV (As := [.int x2, .int x3, .int x4, .int x5, .int x6, .int x7]) (rest := [.int (0 : Int32), .ref (ga Γ 180 0)]) (q := (RX7, TX7, 5)) X hK hw rfl (Nat.le_of_ble_eq_true rfl : 0 < cnt (gn Γ) 0) (rfl : vwCl[9]? = _) (kX7_addShape hfl h) mvX7_addShape lk_L_7 ⟨Nat.le_of_ble_eq_true rfl, Nat.le_of_ble_eq_true rfl⟩ rfl hl.1 rfl (Nat.le_of_ble_eq_true rfl) dL_addShape_13 ⟨Nat.le_of_ble_eq_true rfl, Nat.le_of_ble_eq_true rfl⟩) (fun E5 σ3 ce q4 H locs hf hw g1 g2 g3 => ?_) (fun v1 σ2 H locs hf hw => ?_)
  · refine q_ch hf (fun hE hf => ?_) (fun hf => ?_)
    · subst hE
      refine q_catch (tgt := 21) X hK [] ⟨0, 18, 21, 13⟩ [⟨0, 18, 25, 15⟩] (htab.trans rfl) ps_nil (by decide) (by decide) cl_L_13 ca_IllegalArgument g1 g2 g3 rfl ?_
      refine lv_astore (lv' := [(8, .ref q4), (0, .ref (ga Γ 0 0)), (1, .int x2), (2, .int x3), (3, .int x4), (4, .int x5), (5, .int x6), (6, .int x7), (7, .ref (ga Γ 180 0))]) hx hb dL_addShape_21 hl (by decide) rfl (fun ls hl => ?_)
      refine lv_iconst (v := 1) hx hb dL_addShape_23 (by decide) ?_
      exact q_eiret hf hx hb hr rfl hk hw dL_addShape_24 (Nat.le_of_ble_eq_true rfl) (Nat.le_of_ble_eq_true rfl)
    · refine q_ch hf (fun hE hf => ?_) (fun hf => ?_)
      · subst hE
        refine q_catch (tgt := 25) X hK [⟨0, 18, 21, 13⟩] ⟨0, 18, 25, 15⟩ [] (htab.trans rfl) (ps_cons hK (by decide) cl_L_13 (List.mem_of_getElem? (i := 5) rfl) ps_nil) (by decide) (by decide) cl_L_15 ca_IllegalState g1 g2 g3 rfl ?_
        refine lv_astore (lv' := [(8, .ref q4), (0, .ref (ga Γ 0 0)), (1, .int x2), (2, .int x3), (3, .int x4), (4, .int x5), (5, .int x6), (6, .int x7), (7, .ref (ga Γ 180 0))]) hx hb dL_addShape_25 hl (by decide) rfl (fun ls hl => ?_)
        refine lv_iconst (v := 2) hx hb dL_addShape_27 (by decide) ?_
        exact q_eiret hf hx hb hr rfl hk hw dL_addShape_28 (Nat.le_of_ble_eq_true rfl) (Nat.le_of_ble_eq_true rfl)
      · exact nomatch hf
  refine lv_i2l hx hb dL_addShape_16 rfl ?_
  refine q_last0 hx hb hK hw hf dL_addShape_17 (fun σ6 H locs hf hw => ?_)
  refine lv_goto (tgt := 29) hx hb dL_addShape_18 (by decide) ?_
  refine lv_iconst (v := 0) hx hb dL_addShape_29 (by decide) ?_
  exact q_eiret hf hx hb hr rfl hk hw dL_addShape_30 (Nat.le_of_ble_eq_true rfl) (Nat.le_of_ble_eq_true rfl)
set_option maxRecDepth 100000 in
theorem kL_move {Γ : Gm} {l : Launch} (hfl : l.stackTraces = false) {N : Nat} {σ τ : St} {x2 : Int32} {x3 : Int32} {x4 : Int32} {x5 : Int32} {r : Int32}  (hf : fL_move N σ x2 x3 x4 x5 = some (r, τ)) : CW Γ STR l yL_move cL_move 7 (some (.int)) hL_move 11 170 5 30 [.ref (ga Γ 0 0), .int x2, .int x3, .int x4, .int x5, .ref (ga Γ 180 0)] (some (.int r)) σ τ := by
  unfold fL_move at hf
  refine cw_body (lv := [(0, .ref (ga Γ 0 0)), (1, .int x2), (2, .int x3), (3, .int x4), (4, .int x5), (5, .ref (ga Γ 180 0))]) (by decide +kernel) rfl (Nat.le_of_ble_eq_true rfl) ?_
  intro p e s m below meth c ls X hr hk hK hw hl htab
  have hx := X.1
  have hb := X.2.1
  have hown := X.2.2.2
  refine lv_aload hx hb dL_move_0 (lv_at hl 5 rfl) ?_
  refine lv_iconst (v := 0) hx hb dL_move_2 (by decide) ?_
  refine lv_aload_n hx hb dL_move_3 rfl (lv_at hl 0 rfl) ?_
  refine lv_iload_n hx hb dL_move_4 rfl (lv_at hl 1 rfl) ?_
  refine lv_iload_n hx hb dL_move_5 rfl (lv_at hl 2 rfl) ?_
  refine lv_iload_n hx hb dL_move_6 rfl (lv_at hl 3 rfl) ?_
  refine lv_iload hx hb dL_move_7 (lv_at hl 4 rfl) ?_
  refine q_hg (rs1 := rsI) (f := fun v => some (.int v)) (fun _ _ => rfl) (fun _ _ => rfl) hf hw (fun u h => q_rxV (As := [.int x2, .int x3, .int x4, .int x5]) (rest := [.int (0 : Int32), .ref (ga Γ 180 0)]) (q := (RX7, TX7, 5)) X hK hw rfl (Nat.le_of_ble_eq_true rfl : 0 < cnt (gn Γ) 0) (rfl : vwCl[9]? = _) (kX7_move hfl h) mvX7_move lk_L_17 ⟨Nat.le_of_ble_eq_true rfl, Nat.le_of_ble_eq_true rfl⟩ rfl hl.1 rfl (Nat.le_of_ble_eq_true rfl) dL_move_9 ⟨Nat.le_of_ble_eq_true rfl, Nat.le_of_ble_eq_true rfl⟩) (fun E5 σ3 ce q4 H locs hf hw g1 g2 g3 => ?_) (fun v1 σ2 H locs hf hw => ?_)
  · refine q_ch hf (fun hE hf => ?_) (fun hf => ?_)
    · subst hE
      refine q_catch (tgt := 17) X hK [] ⟨0, 14, 17, 13⟩ [⟨0, 14, 21, 21⟩, ⟨0, 14, 25, 23⟩, ⟨0, 14, 29, 15⟩] (htab.trans rfl) ps_nil (by decide) (by decide) cl_L_13 ca_IllegalArgument g1 g2 g3 rfl ?_
      refine lv_astore (lv' := [(6, .ref q4), (0, .ref (ga Γ 0 0)), (1, .int x2), (2, .int x3), (3, .int x4), (4, .int x5), (5, .ref (ga Γ 180 0))]) hx hb dL_move_17 hl (by decide) rfl (fun ls hl => ?_)
      refine lv_iconst (v := 1) hx hb dL_move_19 (by decide) ?_
      exact q_eiret hf hx hb hr rfl hk hw dL_move_20 (Nat.le_of_ble_eq_true rfl) (Nat.le_of_ble_eq_true rfl)
    · refine q_ch hf (fun hE hf => ?_) (fun hf => ?_)
      · subst hE
        refine q_catch (tgt := 21) X hK [⟨0, 14, 17, 13⟩] ⟨0, 14, 21, 21⟩ [⟨0, 14, 25, 23⟩, ⟨0, 14, 29, 15⟩] (htab.trans rfl) (ps_cons hK (by decide) cl_L_13 (List.mem_of_getElem? (i := 10) rfl) ps_nil) (by decide) (by decide) cl_L_21 ca_NoSuchElement g1 g2 g3 rfl ?_
        refine lv_astore (lv' := [(6, .ref q4), (0, .ref (ga Γ 0 0)), (1, .int x2), (2, .int x3), (3, .int x4), (4, .int x5), (5, .ref (ga Γ 180 0))]) hx hb dL_move_21 hl (by decide) rfl (fun ls hl => ?_)
        refine lv_iconst (v := 2) hx hb dL_move_23 (by decide) ?_
        exact q_eiret hf hx hb hr rfl hk hw dL_move_24 (Nat.le_of_ble_eq_true rfl) (Nat.le_of_ble_eq_true rfl)
      · refine q_ch hf (fun hE hf => ?_) (fun hf => ?_)
        · subst hE
          refine q_catch (tgt := 25) X hK [⟨0, 14, 17, 13⟩, ⟨0, 14, 21, 21⟩] ⟨0, 14, 25, 23⟩ [⟨0, 14, 29, 15⟩] (htab.trans rfl) (ps_cons hK (by decide) cl_L_13 (List.mem_of_getElem? (i := 15) rfl) (ps_cons hK (by decide) cl_L_21 (List.mem_of_getElem? (i := 17) rfl) ps_nil)) (by decide) (by decide) cl_L_23 ca_UnsupportedOperation g1 g2 g3 rfl ?_
          refine lv_astore (lv' := [(6, .ref q4), (0, .ref (ga Γ 0 0)), (1, .int x2), (2, .int x3), (3, .int x4), (4, .int x5), (5, .ref (ga Γ 180 0))]) hx hb dL_move_25 hl (by decide) rfl (fun ls hl => ?_)
          refine lv_iconst (v := 3) hx hb dL_move_27 (by decide) ?_
          exact q_eiret hf hx hb hr rfl hk hw dL_move_28 (Nat.le_of_ble_eq_true rfl) (Nat.le_of_ble_eq_true rfl)
        · refine q_ch hf (fun hE hf => ?_) (fun hf => ?_)
          · subst hE
            refine q_catch (tgt := 29) X hK [⟨0, 14, 17, 13⟩, ⟨0, 14, 21, 21⟩, ⟨0, 14, 25, 23⟩] ⟨0, 14, 29, 15⟩ [] (htab.trans rfl) (ps_cons hK (by decide) cl_L_13 (List.mem_of_getElem? (i := 5) rfl) (ps_cons hK (by decide) cl_L_21 (List.mem_of_getElem? (i := 6) rfl) (ps_cons hK (by decide) cl_L_23 (List.mem_of_getElem? (i := 7) rfl) ps_nil))) (by decide) (by decide) cl_L_15 ca_IllegalState g1 g2 g3 rfl ?_
            refine lv_astore (lv' := [(6, .ref q4), (0, .ref (ga Γ 0 0)), (1, .int x2), (2, .int x3), (3, .int x4), (4, .int x5), (5, .ref (ga Γ 180 0))]) hx hb dL_move_29 hl (by decide) rfl (fun ls hl => ?_)
            refine lv_iconst (v := 4) hx hb dL_move_31 (by decide) ?_
            exact q_eiret hf hx hb hr rfl hk hw dL_move_32 (Nat.le_of_ble_eq_true rfl) (Nat.le_of_ble_eq_true rfl)
          · exact nomatch hf
  refine lv_i2l hx hb dL_move_12 rfl ?_
  refine q_last0 hx hb hK hw hf dL_move_13 (fun σ6 H locs hf hw => ?_)
  refine lv_goto (tgt := 33) hx hb dL_move_14 (by decide) ?_
  refine lv_iconst (v := 0) hx hb dL_move_33 (by decide) ?_
  exact q_eiret hf hx hb hr rfl hk hw dL_move_34 (Nat.le_of_ble_eq_true rfl) (Nat.le_of_ble_eq_true rfl)
set_option maxRecDepth 100000 in
theorem kL_raise {Γ : Gm} {l : Launch} (hfl : l.stackTraces = false) {N : Nat} {σ τ : St} {x2 : Int32} {x3 : Int32} {r : Int32}  (hf : fL_raise N σ x2 x3 = some (r, τ)) : CW Γ STR l yL_raise cL_raise 5 (some (.int)) hL_raise 11 168 4 24 [.ref (ga Γ 0 0), .int x2, .int x3, .ref (ga Γ 180 0)] (some (.int r)) σ τ := by
  unfold fL_raise at hf
  refine cw_body (lv := [(0, .ref (ga Γ 0 0)), (1, .int x2), (2, .int x3), (3, .ref (ga Γ 180 0))]) (by decide +kernel) rfl (Nat.le_of_ble_eq_true rfl) ?_
  intro p e s m below meth c ls X hr hk hK hw hl htab
  have hx := X.1
  have hb := X.2.1
  have hown := X.2.2.2
  refine lv_aload_n hx hb dL_raise_0 rfl (lv_at hl 3 rfl) ?_
  refine lv_iconst (v := 0) hx hb dL_raise_1 (by decide) ?_
  refine lv_aload_n hx hb dL_raise_2 rfl (lv_at hl 0 rfl) ?_
  refine lv_iload_n hx hb dL_raise_3 rfl (lv_at hl 1 rfl) ?_
  refine lv_iload_n hx hb dL_raise_4 rfl (lv_at hl 2 rfl) ?_
  refine q_hg (rs1 := rsI) (f := fun v => some (.int v)) (fun _ _ => rfl) (fun _ _ => rfl) hf hw (fun u h => q_rxV (As := [.int x2, .int x3]) (rest := [.int (0 : Int32), .ref (ga Γ 180 0)]) (q := (RX7, TX7, 5)) X hK hw rfl (Nat.le_of_ble_eq_true rfl : 0 < cnt (gn Γ) 0) (rfl : vwCl[9]? = _) (kX7_raise hfl h) mvX7_raise lk_L_25 ⟨Nat.le_of_ble_eq_true rfl, Nat.le_of_ble_eq_true rfl⟩ rfl hl.1 rfl (Nat.le_of_ble_eq_true rfl) dL_raise_5 ⟨Nat.le_of_ble_eq_true rfl, Nat.le_of_ble_eq_true rfl⟩) (fun E5 σ3 ce q4 H locs hf hw g1 g2 g3 => ?_) (fun v1 σ2 H locs hf hw => ?_)
  · refine q_ch hf (fun hE hf => ?_) (fun hf => ?_)
    · subst hE
      refine q_catch (tgt := 13) X hK [] ⟨0, 10, 13, 13⟩ [⟨0, 10, 17, 21⟩, ⟨0, 10, 21, 23⟩, ⟨0, 10, 25, 15⟩] (htab.trans rfl) ps_nil (by decide) (by decide) cl_L_13 ca_IllegalArgument g1 g2 g3 rfl ?_
      refine lv_astore (lv' := [(4, .ref q4), (0, .ref (ga Γ 0 0)), (1, .int x2), (2, .int x3), (3, .ref (ga Γ 180 0))]) hx hb dL_raise_13 hl (by decide) rfl (fun ls hl => ?_)
      refine lv_iconst (v := 1) hx hb dL_raise_15 (by decide) ?_
      exact q_eiret hf hx hb hr rfl hk hw dL_raise_16 (Nat.le_of_ble_eq_true rfl) (Nat.le_of_ble_eq_true rfl)
    · refine q_ch hf (fun hE hf => ?_) (fun hf => ?_)
      · subst hE
        refine q_catch (tgt := 17) X hK [⟨0, 10, 13, 13⟩] ⟨0, 10, 17, 21⟩ [⟨0, 10, 21, 23⟩, ⟨0, 10, 25, 15⟩] (htab.trans rfl) (ps_cons hK (by decide) cl_L_13 (List.mem_of_getElem? (i := 10) rfl) ps_nil) (by decide) (by decide) cl_L_21 ca_NoSuchElement g1 g2 g3 rfl ?_
        refine lv_astore (lv' := [(4, .ref q4), (0, .ref (ga Γ 0 0)), (1, .int x2), (2, .int x3), (3, .ref (ga Γ 180 0))]) hx hb dL_raise_17 hl (by decide) rfl (fun ls hl => ?_)
        refine lv_iconst (v := 2) hx hb dL_raise_19 (by decide) ?_
        exact q_eiret hf hx hb hr rfl hk hw dL_raise_20 (Nat.le_of_ble_eq_true rfl) (Nat.le_of_ble_eq_true rfl)
      · refine q_ch hf (fun hE hf => ?_) (fun hf => ?_)
        · subst hE
          refine q_catch (tgt := 21) X hK [⟨0, 10, 13, 13⟩, ⟨0, 10, 17, 21⟩] ⟨0, 10, 21, 23⟩ [⟨0, 10, 25, 15⟩] (htab.trans rfl) (ps_cons hK (by decide) cl_L_13 (List.mem_of_getElem? (i := 15) rfl) (ps_cons hK (by decide) cl_L_21 (List.mem_of_getElem? (i := 17) rfl) ps_nil)) (by decide) (by decide) cl_L_23 ca_UnsupportedOperation g1 g2 g3 rfl ?_
          refine lv_astore (lv' := [(4, .ref q4), (0, .ref (ga Γ 0 0)), (1, .int x2), (2, .int x3), (3, .ref (ga Γ 180 0))]) hx hb dL_raise_21 hl (by decide) rfl (fun ls hl => ?_)
          refine lv_iconst (v := 3) hx hb dL_raise_23 (by decide) ?_
          exact q_eiret hf hx hb hr rfl hk hw dL_raise_24 (Nat.le_of_ble_eq_true rfl) (Nat.le_of_ble_eq_true rfl)
        · refine q_ch hf (fun hE hf => ?_) (fun hf => ?_)
          · subst hE
            refine q_catch (tgt := 25) X hK [⟨0, 10, 13, 13⟩, ⟨0, 10, 17, 21⟩, ⟨0, 10, 21, 23⟩] ⟨0, 10, 25, 15⟩ [] (htab.trans rfl) (ps_cons hK (by decide) cl_L_13 (List.mem_of_getElem? (i := 5) rfl) (ps_cons hK (by decide) cl_L_21 (List.mem_of_getElem? (i := 6) rfl) (ps_cons hK (by decide) cl_L_23 (List.mem_of_getElem? (i := 7) rfl) ps_nil))) (by decide) (by decide) cl_L_15 ca_IllegalState g1 g2 g3 rfl ?_
            refine lv_astore (lv' := [(4, .ref q4), (0, .ref (ga Γ 0 0)), (1, .int x2), (2, .int x3), (3, .ref (ga Γ 180 0))]) hx hb dL_raise_25 hl (by decide) rfl (fun ls hl => ?_)
            refine lv_iconst (v := 4) hx hb dL_raise_27 (by decide) ?_
            exact q_eiret hf hx hb hr rfl hk hw dL_raise_28 (Nat.le_of_ble_eq_true rfl) (Nat.le_of_ble_eq_true rfl)
          · exact nomatch hf
  refine lv_i2l hx hb dL_raise_8 rfl ?_
  refine q_last0 hx hb hK hw hf dL_raise_9 (fun σ6 H locs hf hw => ?_)
  refine lv_goto (tgt := 29) hx hb dL_raise_10 (by decide) ?_
  refine lv_iconst (v := 0) hx hb dL_raise_29 (by decide) ?_
  exact q_eiret hf hx hb hr rfl hk hw dL_raise_30 (Nat.le_of_ble_eq_true rfl) (Nat.le_of_ble_eq_true rfl)
set_option maxRecDepth 100000 in
theorem kL_lower {Γ : Gm} {l : Launch} (hfl : l.stackTraces = false) {N : Nat} {σ τ : St} {x2 : Int32} {x3 : Int32} {r : Int32}  (hf : fL_lower N σ x2 x3 = some (r, τ)) : CW Γ STR l yL_lower cL_lower 5 (some (.int)) hL_lower 11 168 4 24 [.ref (ga Γ 0 0), .int x2, .int x3, .ref (ga Γ 180 0)] (some (.int r)) σ τ := by
  unfold fL_lower at hf
  refine cw_body (lv := [(0, .ref (ga Γ 0 0)), (1, .int x2), (2, .int x3), (3, .ref (ga Γ 180 0))]) (by decide +kernel) rfl (Nat.le_of_ble_eq_true rfl) ?_
  intro p e s m below meth c ls X hr hk hK hw hl htab
  have hx := X.1
  have hb := X.2.1
  have hown := X.2.2.2
  refine lv_aload_n hx hb dL_lower_0 rfl (lv_at hl 3 rfl) ?_
  refine lv_iconst (v := 0) hx hb dL_lower_1 (by decide) ?_
  refine lv_aload_n hx hb dL_lower_2 rfl (lv_at hl 0 rfl) ?_
  refine lv_iload_n hx hb dL_lower_3 rfl (lv_at hl 1 rfl) ?_
  refine lv_iload_n hx hb dL_lower_4 rfl (lv_at hl 2 rfl) ?_
  refine q_hg (rs1 := rsI) (f := fun v => some (.int v)) (fun _ _ => rfl) (fun _ _ => rfl) hf hw (fun u h => q_rxV (As := [.int x2, .int x3]) (rest := [.int (0 : Int32), .ref (ga Γ 180 0)]) (q := (RX7, TX7, 5)) X hK hw rfl (Nat.le_of_ble_eq_true rfl : 0 < cnt (gn Γ) 0) (rfl : vwCl[9]? = _) (kX7_lower hfl h) mvX7_lower lk_L_29 ⟨Nat.le_of_ble_eq_true rfl, Nat.le_of_ble_eq_true rfl⟩ rfl hl.1 rfl (Nat.le_of_ble_eq_true rfl) dL_lower_5 ⟨Nat.le_of_ble_eq_true rfl, Nat.le_of_ble_eq_true rfl⟩) (fun E5 σ3 ce q4 H locs hf hw g1 g2 g3 => ?_) (fun v1 σ2 H locs hf hw => ?_)
  · refine q_ch hf (fun hE hf => ?_) (fun hf => ?_)
    · subst hE
      refine q_catch (tgt := 13) X hK [] ⟨0, 10, 13, 13⟩ [⟨0, 10, 17, 21⟩, ⟨0, 10, 21, 23⟩, ⟨0, 10, 25, 15⟩] (htab.trans rfl) ps_nil (by decide) (by decide) cl_L_13 ca_IllegalArgument g1 g2 g3 rfl ?_
      refine lv_astore (lv' := [(4, .ref q4), (0, .ref (ga Γ 0 0)), (1, .int x2), (2, .int x3), (3, .ref (ga Γ 180 0))]) hx hb dL_lower_13 hl (by decide) rfl (fun ls hl => ?_)
      refine lv_iconst (v := 1) hx hb dL_lower_15 (by decide) ?_
      exact q_eiret hf hx hb hr rfl hk hw dL_lower_16 (Nat.le_of_ble_eq_true rfl) (Nat.le_of_ble_eq_true rfl)
    · refine q_ch hf (fun hE hf => ?_) (fun hf => ?_)
      · subst hE
        refine q_catch (tgt := 17) X hK [⟨0, 10, 13, 13⟩] ⟨0, 10, 17, 21⟩ [⟨0, 10, 21, 23⟩, ⟨0, 10, 25, 15⟩] (htab.trans rfl) (ps_cons hK (by decide) cl_L_13 (List.mem_of_getElem? (i := 10) rfl) ps_nil) (by decide) (by decide) cl_L_21 ca_NoSuchElement g1 g2 g3 rfl ?_
        refine lv_astore (lv' := [(4, .ref q4), (0, .ref (ga Γ 0 0)), (1, .int x2), (2, .int x3), (3, .ref (ga Γ 180 0))]) hx hb dL_lower_17 hl (by decide) rfl (fun ls hl => ?_)
        refine lv_iconst (v := 2) hx hb dL_lower_19 (by decide) ?_
        exact q_eiret hf hx hb hr rfl hk hw dL_lower_20 (Nat.le_of_ble_eq_true rfl) (Nat.le_of_ble_eq_true rfl)
      · refine q_ch hf (fun hE hf => ?_) (fun hf => ?_)
        · subst hE
          refine q_catch (tgt := 21) X hK [⟨0, 10, 13, 13⟩, ⟨0, 10, 17, 21⟩] ⟨0, 10, 21, 23⟩ [⟨0, 10, 25, 15⟩] (htab.trans rfl) (ps_cons hK (by decide) cl_L_13 (List.mem_of_getElem? (i := 15) rfl) (ps_cons hK (by decide) cl_L_21 (List.mem_of_getElem? (i := 17) rfl) ps_nil)) (by decide) (by decide) cl_L_23 ca_UnsupportedOperation g1 g2 g3 rfl ?_
          refine lv_astore (lv' := [(4, .ref q4), (0, .ref (ga Γ 0 0)), (1, .int x2), (2, .int x3), (3, .ref (ga Γ 180 0))]) hx hb dL_lower_21 hl (by decide) rfl (fun ls hl => ?_)
          refine lv_iconst (v := 3) hx hb dL_lower_23 (by decide) ?_
          exact q_eiret hf hx hb hr rfl hk hw dL_lower_24 (Nat.le_of_ble_eq_true rfl) (Nat.le_of_ble_eq_true rfl)
        · refine q_ch hf (fun hE hf => ?_) (fun hf => ?_)
          · subst hE
            refine q_catch (tgt := 25) X hK [⟨0, 10, 13, 13⟩, ⟨0, 10, 17, 21⟩, ⟨0, 10, 21, 23⟩] ⟨0, 10, 25, 15⟩ [] (htab.trans rfl) (ps_cons hK (by decide) cl_L_13 (List.mem_of_getElem? (i := 5) rfl) (ps_cons hK (by decide) cl_L_21 (List.mem_of_getElem? (i := 6) rfl) (ps_cons hK (by decide) cl_L_23 (List.mem_of_getElem? (i := 7) rfl) ps_nil))) (by decide) (by decide) cl_L_15 ca_IllegalState g1 g2 g3 rfl ?_
            refine lv_astore (lv' := [(4, .ref q4), (0, .ref (ga Γ 0 0)), (1, .int x2), (2, .int x3), (3, .ref (ga Γ 180 0))]) hx hb dL_lower_25 hl (by decide) rfl (fun ls hl => ?_)
            refine lv_iconst (v := 4) hx hb dL_lower_27 (by decide) ?_
            exact q_eiret hf hx hb hr rfl hk hw dL_lower_28 (Nat.le_of_ble_eq_true rfl) (Nat.le_of_ble_eq_true rfl)
          · exact nomatch hf
  refine lv_i2l hx hb dL_lower_8 rfl ?_
  refine q_last0 hx hb hK hw hf dL_lower_9 (fun σ6 H locs hf hw => ?_)
  refine lv_goto (tgt := 29) hx hb dL_lower_10 (by decide) ?_
  refine lv_iconst (v := 0) hx hb dL_lower_29 (by decide) ?_
  exact q_eiret hf hx hb hr rfl hk hw dL_lower_30 (Nat.le_of_ble_eq_true rfl) (Nat.le_of_ble_eq_true rfl)
set_option maxRecDepth 100000 in
theorem kL_putAbove {Γ : Gm} {l : Launch} (hfl : l.stackTraces = false) {N : Nat} {σ τ : St} {x2 : Int32} {x3 : Int32} {x4 : Int32} {r : Int32}  (hf : fL_putAbove N σ x2 x3 x4 = some (r, τ)) : CW Γ STR l yL_putAbove cL_putAbove 6 (some (.int)) hL_putAbove 11 170 7 42 [.ref (ga Γ 0 0), .int x2, .int x3, .int x4, .ref (ga Γ 180 0)] (some (.int r)) σ τ := by
  unfold fL_putAbove at hf
  refine cw_body (lv := [(0, .ref (ga Γ 0 0)), (1, .int x2), (2, .int x3), (3, .int x4), (4, .ref (ga Γ 180 0))]) (by decide +kernel) rfl (Nat.le_of_ble_eq_true rfl) ?_
  intro p e s m below meth c ls X hr hk hK hw hl htab
  have hx := X.1
  have hb := X.2.1
  have hown := X.2.2.2
  refine lv_aload hx hb dL_putAbove_0 (lv_at hl 4 rfl) ?_
  refine lv_iconst (v := 0) hx hb dL_putAbove_2 (by decide) ?_
  refine lv_aload_n hx hb dL_putAbove_3 rfl (lv_at hl 0 rfl) ?_
  refine lv_iload_n hx hb dL_putAbove_4 rfl (lv_at hl 1 rfl) ?_
  refine lv_iload_n hx hb dL_putAbove_5 rfl (lv_at hl 2 rfl) ?_
  refine lv_iload_n hx hb dL_putAbove_6 rfl (lv_at hl 3 rfl) ?_
  refine q_hg (rs1 := rsI) (f := fun v => some (.int v)) (fun _ _ => rfl) (fun _ _ => rfl) hf hw (fun u h => q_rxV (As := [.int x2, .int x3, .int x4]) (rest := [.int (0 : Int32), .ref (ga Γ 180 0)]) (q := (RX7, TX7, 5)) X hK hw rfl (Nat.le_of_ble_eq_true rfl : 0 < cnt (gn Γ) 0) (rfl : vwCl[9]? = _) (kX7_putAbove hfl h) mvX7_putAbove lk_L_32 ⟨Nat.le_of_ble_eq_true rfl, Nat.le_of_ble_eq_true rfl⟩ rfl hl.1 rfl (Nat.le_of_ble_eq_true rfl) dL_putAbove_7 ⟨Nat.le_of_ble_eq_true rfl, Nat.le_of_ble_eq_true rfl⟩) (fun E5 σ3 ce q4 H locs hf hw g1 g2 g3 => ?_) (fun v1 σ2 H locs hf hw => ?_)
  · refine q_ch hf (fun hE hf => ?_) (fun hf => ?_)
    · subst hE
      refine q_catch (tgt := 15) X hK [] ⟨0, 12, 15, 13⟩ [⟨0, 12, 19, 21⟩, ⟨0, 12, 23, 23⟩, ⟨0, 12, 27, 15⟩] (htab.trans rfl) ps_nil (by decide) (by decide) cl_L_13 ca_IllegalArgument g1 g2 g3 rfl ?_
      refine lv_astore (lv' := [(5, .ref q4), (0, .ref (ga Γ 0 0)), (1, .int x2), (2, .int x3), (3, .int x4), (4, .ref (ga Γ 180 0))]) hx hb dL_putAbove_15 hl (by decide) rfl (fun ls hl => ?_)
      refine lv_iconst (v := 1) hx hb dL_putAbove_17 (by decide) ?_
      exact q_eiret hf hx hb hr rfl hk hw dL_putAbove_18 (Nat.le_of_ble_eq_true rfl) (Nat.le_of_ble_eq_true rfl)
    · refine q_ch hf (fun hE hf => ?_) (fun hf => ?_)
      · subst hE
        refine q_catch (tgt := 19) X hK [⟨0, 12, 15, 13⟩] ⟨0, 12, 19, 21⟩ [⟨0, 12, 23, 23⟩, ⟨0, 12, 27, 15⟩] (htab.trans rfl) (ps_cons hK (by decide) cl_L_13 (List.mem_of_getElem? (i := 10) rfl) ps_nil) (by decide) (by decide) cl_L_21 ca_NoSuchElement g1 g2 g3 rfl ?_
        refine lv_astore (lv' := [(5, .ref q4), (0, .ref (ga Γ 0 0)), (1, .int x2), (2, .int x3), (3, .int x4), (4, .ref (ga Γ 180 0))]) hx hb dL_putAbove_19 hl (by decide) rfl (fun ls hl => ?_)
        refine lv_iconst (v := 2) hx hb dL_putAbove_21 (by decide) ?_
        exact q_eiret hf hx hb hr rfl hk hw dL_putAbove_22 (Nat.le_of_ble_eq_true rfl) (Nat.le_of_ble_eq_true rfl)
      · refine q_ch hf (fun hE hf => ?_) (fun hf => ?_)
        · subst hE
          refine q_catch (tgt := 23) X hK [⟨0, 12, 15, 13⟩, ⟨0, 12, 19, 21⟩] ⟨0, 12, 23, 23⟩ [⟨0, 12, 27, 15⟩] (htab.trans rfl) (ps_cons hK (by decide) cl_L_13 (List.mem_of_getElem? (i := 15) rfl) (ps_cons hK (by decide) cl_L_21 (List.mem_of_getElem? (i := 17) rfl) ps_nil)) (by decide) (by decide) cl_L_23 ca_UnsupportedOperation g1 g2 g3 rfl ?_
          refine lv_astore (lv' := [(5, .ref q4), (0, .ref (ga Γ 0 0)), (1, .int x2), (2, .int x3), (3, .int x4), (4, .ref (ga Γ 180 0))]) hx hb dL_putAbove_23 hl (by decide) rfl (fun ls hl => ?_)
          refine lv_iconst (v := 3) hx hb dL_putAbove_25 (by decide) ?_
          exact q_eiret hf hx hb hr rfl hk hw dL_putAbove_26 (Nat.le_of_ble_eq_true rfl) (Nat.le_of_ble_eq_true rfl)
        · refine q_ch hf (fun hE hf => ?_) (fun hf => ?_)
          · subst hE
            refine q_catch (tgt := 27) X hK [⟨0, 12, 15, 13⟩, ⟨0, 12, 19, 21⟩, ⟨0, 12, 23, 23⟩] ⟨0, 12, 27, 15⟩ [] (htab.trans rfl) (ps_cons hK (by decide) cl_L_13 (List.mem_of_getElem? (i := 5) rfl) (ps_cons hK (by decide) cl_L_21 (List.mem_of_getElem? (i := 6) rfl) (ps_cons hK (by decide) cl_L_23 (List.mem_of_getElem? (i := 7) rfl) ps_nil))) (by decide) (by decide) cl_L_15 ca_IllegalState g1 g2 g3 rfl ?_
            refine lv_astore (lv' := [(5, .ref q4), (0, .ref (ga Γ 0 0)), (1, .int x2), (2, .int x3), (3, .int x4), (4, .ref (ga Γ 180 0))]) hx hb dL_putAbove_27 hl (by decide) rfl (fun ls hl => ?_)
            refine lv_iconst (v := 4) hx hb dL_putAbove_29 (by decide) ?_
            exact q_eiret hf hx hb hr rfl hk hw dL_putAbove_30 (Nat.le_of_ble_eq_true rfl) (Nat.le_of_ble_eq_true rfl)
          · exact nomatch hf
  refine lv_i2l hx hb dL_putAbove_10 rfl ?_
  refine q_last0 hx hb hK hw hf dL_putAbove_11 (fun σ6 H locs hf hw => ?_)
  refine lv_goto (tgt := 31) hx hb dL_putAbove_12 (by decide) ?_
  refine lv_iconst (v := 0) hx hb dL_putAbove_31 (by decide) ?_
  exact q_eiret hf hx hb hr rfl hk hw dL_putAbove_32 (Nat.le_of_ble_eq_true rfl) (Nat.le_of_ble_eq_true rfl)
set_option maxRecDepth 100000 in
theorem kL_remove {Γ : Gm} {l : Launch} (hfl : l.stackTraces = false) {N : Nat} {σ τ : St} {x2 : Int32} {x3 : Int32} {r : Int32}  (hf : fL_remove N σ x2 x3 = some (r, τ)) : CW Γ STR l yL_remove cL_remove 5 (some (.int)) hL_remove 11 168 4 24 [.ref (ga Γ 0 0), .int x2, .int x3, .ref (ga Γ 180 0)] (some (.int r)) σ τ := by
  unfold fL_remove at hf
  refine cw_body (lv := [(0, .ref (ga Γ 0 0)), (1, .int x2), (2, .int x3), (3, .ref (ga Γ 180 0))]) (by decide +kernel) rfl (Nat.le_of_ble_eq_true rfl) ?_
  intro p e s m below meth c ls X hr hk hK hw hl htab
  have hx := X.1
  have hb := X.2.1
  have hown := X.2.2.2
  refine lv_aload_n hx hb dL_remove_0 rfl (lv_at hl 3 rfl) ?_
  refine lv_iconst (v := 0) hx hb dL_remove_1 (by decide) ?_
  refine lv_aload_n hx hb dL_remove_2 rfl (lv_at hl 0 rfl) ?_
  refine lv_iload_n hx hb dL_remove_3 rfl (lv_at hl 1 rfl) ?_
  refine lv_iload_n hx hb dL_remove_4 rfl (lv_at hl 2 rfl) ?_
  refine q_hg (rs1 := rsI) (f := fun v => some (.int v)) (fun _ _ => rfl) (fun _ _ => rfl) hf hw (fun u h => q_rxV (As := [.int x2, .int x3]) (rest := [.int (0 : Int32), .ref (ga Γ 180 0)]) (q := (RX7, TX7, 5)) X hK hw rfl (Nat.le_of_ble_eq_true rfl : 0 < cnt (gn Γ) 0) (rfl : vwCl[9]? = _) (kX7_remove hfl h) mvX7_remove lk_L_36 ⟨Nat.le_of_ble_eq_true rfl, Nat.le_of_ble_eq_true rfl⟩ rfl hl.1 rfl (Nat.le_of_ble_eq_true rfl) dL_remove_5 ⟨Nat.le_of_ble_eq_true rfl, Nat.le_of_ble_eq_true rfl⟩) (fun E5 σ3 ce q4 H locs hf hw g1 g2 g3 => ?_) (fun v1 σ2 H locs hf hw => ?_)
  · refine q_ch hf (fun hE hf => ?_) (fun hf => ?_)
    · subst hE
      refine q_catch (tgt := 13) X hK [] ⟨0, 10, 13, 13⟩ [⟨0, 10, 17, 21⟩, ⟨0, 10, 21, 23⟩, ⟨0, 10, 25, 15⟩] (htab.trans rfl) ps_nil (by decide) (by decide) cl_L_13 ca_IllegalArgument g1 g2 g3 rfl ?_
      refine lv_astore (lv' := [(4, .ref q4), (0, .ref (ga Γ 0 0)), (1, .int x2), (2, .int x3), (3, .ref (ga Γ 180 0))]) hx hb dL_remove_13 hl (by decide) rfl (fun ls hl => ?_)
      refine lv_iconst (v := 1) hx hb dL_remove_15 (by decide) ?_
      exact q_eiret hf hx hb hr rfl hk hw dL_remove_16 (Nat.le_of_ble_eq_true rfl) (Nat.le_of_ble_eq_true rfl)
    · refine q_ch hf (fun hE hf => ?_) (fun hf => ?_)
      · subst hE
        refine q_catch (tgt := 17) X hK [⟨0, 10, 13, 13⟩] ⟨0, 10, 17, 21⟩ [⟨0, 10, 21, 23⟩, ⟨0, 10, 25, 15⟩] (htab.trans rfl) (ps_cons hK (by decide) cl_L_13 (List.mem_of_getElem? (i := 10) rfl) ps_nil) (by decide) (by decide) cl_L_21 ca_NoSuchElement g1 g2 g3 rfl ?_
        refine lv_astore (lv' := [(4, .ref q4), (0, .ref (ga Γ 0 0)), (1, .int x2), (2, .int x3), (3, .ref (ga Γ 180 0))]) hx hb dL_remove_17 hl (by decide) rfl (fun ls hl => ?_)
        refine lv_iconst (v := 2) hx hb dL_remove_19 (by decide) ?_
        exact q_eiret hf hx hb hr rfl hk hw dL_remove_20 (Nat.le_of_ble_eq_true rfl) (Nat.le_of_ble_eq_true rfl)
      · refine q_ch hf (fun hE hf => ?_) (fun hf => ?_)
        · subst hE
          refine q_catch (tgt := 21) X hK [⟨0, 10, 13, 13⟩, ⟨0, 10, 17, 21⟩] ⟨0, 10, 21, 23⟩ [⟨0, 10, 25, 15⟩] (htab.trans rfl) (ps_cons hK (by decide) cl_L_13 (List.mem_of_getElem? (i := 15) rfl) (ps_cons hK (by decide) cl_L_21 (List.mem_of_getElem? (i := 17) rfl) ps_nil)) (by decide) (by decide) cl_L_23 ca_UnsupportedOperation g1 g2 g3 rfl ?_
          refine lv_astore (lv' := [(4, .ref q4), (0, .ref (ga Γ 0 0)), (1, .int x2), (2, .int x3), (3, .ref (ga Γ 180 0))]) hx hb dL_remove_21 hl (by decide) rfl (fun ls hl => ?_)
          refine lv_iconst (v := 3) hx hb dL_remove_23 (by decide) ?_
          exact q_eiret hf hx hb hr rfl hk hw dL_remove_24 (Nat.le_of_ble_eq_true rfl) (Nat.le_of_ble_eq_true rfl)
        · refine q_ch hf (fun hE hf => ?_) (fun hf => ?_)
          · subst hE
            refine q_catch (tgt := 25) X hK [⟨0, 10, 13, 13⟩, ⟨0, 10, 17, 21⟩, ⟨0, 10, 21, 23⟩] ⟨0, 10, 25, 15⟩ [] (htab.trans rfl) (ps_cons hK (by decide) cl_L_13 (List.mem_of_getElem? (i := 5) rfl) (ps_cons hK (by decide) cl_L_21 (List.mem_of_getElem? (i := 6) rfl) (ps_cons hK (by decide) cl_L_23 (List.mem_of_getElem? (i := 7) rfl) ps_nil))) (by decide) (by decide) cl_L_15 ca_IllegalState g1 g2 g3 rfl ?_
            refine lv_astore (lv' := [(4, .ref q4), (0, .ref (ga Γ 0 0)), (1, .int x2), (2, .int x3), (3, .ref (ga Γ 180 0))]) hx hb dL_remove_25 hl (by decide) rfl (fun ls hl => ?_)
            refine lv_iconst (v := 4) hx hb dL_remove_27 (by decide) ?_
            exact q_eiret hf hx hb hr rfl hk hw dL_remove_28 (Nat.le_of_ble_eq_true rfl) (Nat.le_of_ble_eq_true rfl)
          · exact nomatch hf
  refine lv_i2l hx hb dL_remove_8 rfl ?_
  refine q_last0 hx hb hK hw hf dL_remove_9 (fun σ6 H locs hf hw => ?_)
  refine lv_goto (tgt := 29) hx hb dL_remove_10 (by decide) ?_
  refine lv_iconst (v := 0) hx hb dL_remove_29 (by decide) ?_
  exact q_eiret hf hx hb hr rfl hk hw dL_remove_30 (Nat.le_of_ble_eq_true rfl) (Nat.le_of_ble_eq_true rfl)
set_option maxRecDepth 100000 in
theorem kL_lock {Γ : Gm} {l : Launch} (hfl : l.stackTraces = false) {N : Nat} {σ τ : St} {x2 : Int32} {x3 : Int32} {r : Int32}  (hf : fL_lock N σ x2 x3 = some (r, τ)) : CW Γ STR l yL_lock cL_lock 5 (some (.int)) hL_lock 11 168 4 24 [.ref (ga Γ 0 0), .int x2, .int x3, .ref (ga Γ 180 0)] (some (.int r)) σ τ := by
  unfold fL_lock at hf
  refine cw_body (lv := [(0, .ref (ga Γ 0 0)), (1, .int x2), (2, .int x3), (3, .ref (ga Γ 180 0))]) (by decide +kernel) rfl (Nat.le_of_ble_eq_true rfl) ?_
  intro p e s m below meth c ls X hr hk hK hw hl htab
  have hx := X.1
  have hb := X.2.1
  have hown := X.2.2.2
  refine lv_aload_n hx hb dL_lock_0 rfl (lv_at hl 3 rfl) ?_
  refine lv_iconst (v := 0) hx hb dL_lock_1 (by decide) ?_
  refine lv_aload_n hx hb dL_lock_2 rfl (lv_at hl 0 rfl) ?_
  refine lv_iload_n hx hb dL_lock_3 rfl (lv_at hl 1 rfl) ?_
  refine lv_iload_n hx hb dL_lock_4 rfl (lv_at hl 2 rfl) ?_
  refine q_hg (rs1 := rsI) (f := fun v => some (.int v)) (fun _ _ => rfl) (fun _ _ => rfl) hf hw (fun u h => q_rxV (As := [.int x2, .int x3]) (rest := [.int (0 : Int32), .ref (ga Γ 180 0)]) (q := (RX7, TX7, 5)) X hK hw rfl (Nat.le_of_ble_eq_true rfl : 0 < cnt (gn Γ) 0) (rfl : vwCl[9]? = _) (kX7_lock hfl h) mvX7_lock lk_L_39 ⟨Nat.le_of_ble_eq_true rfl, Nat.le_of_ble_eq_true rfl⟩ rfl hl.1 rfl (Nat.le_of_ble_eq_true rfl) dL_lock_5 ⟨Nat.le_of_ble_eq_true rfl, Nat.le_of_ble_eq_true rfl⟩) (fun E5 σ3 ce q4 H locs hf hw g1 g2 g3 => ?_) (fun v1 σ2 H locs hf hw => ?_)
  · refine q_ch hf (fun hE hf => ?_) (fun hf => ?_)
    · subst hE
      refine q_catch (tgt := 13) X hK [] ⟨0, 10, 13, 13⟩ [⟨0, 10, 17, 21⟩, ⟨0, 10, 21, 23⟩, ⟨0, 10, 25, 15⟩] (htab.trans rfl) ps_nil (by decide) (by decide) cl_L_13 ca_IllegalArgument g1 g2 g3 rfl ?_
      refine lv_astore (lv' := [(4, .ref q4), (0, .ref (ga Γ 0 0)), (1, .int x2), (2, .int x3), (3, .ref (ga Γ 180 0))]) hx hb dL_lock_13 hl (by decide) rfl (fun ls hl => ?_)
      refine lv_iconst (v := 1) hx hb dL_lock_15 (by decide) ?_
      exact q_eiret hf hx hb hr rfl hk hw dL_lock_16 (Nat.le_of_ble_eq_true rfl) (Nat.le_of_ble_eq_true rfl)
    · refine q_ch hf (fun hE hf => ?_) (fun hf => ?_)
      · subst hE
        refine q_catch (tgt := 17) X hK [⟨0, 10, 13, 13⟩] ⟨0, 10, 17, 21⟩ [⟨0, 10, 21, 23⟩, ⟨0, 10, 25, 15⟩] (htab.trans rfl) (ps_cons hK (by decide) cl_L_13 (List.mem_of_getElem? (i := 10) rfl) ps_nil) (by decide) (by decide) cl_L_21 ca_NoSuchElement g1 g2 g3 rfl ?_
        refine lv_astore (lv' := [(4, .ref q4), (0, .ref (ga Γ 0 0)), (1, .int x2), (2, .int x3), (3, .ref (ga Γ 180 0))]) hx hb dL_lock_17 hl (by decide) rfl (fun ls hl => ?_)
        refine lv_iconst (v := 2) hx hb dL_lock_19 (by decide) ?_
        exact q_eiret hf hx hb hr rfl hk hw dL_lock_20 (Nat.le_of_ble_eq_true rfl) (Nat.le_of_ble_eq_true rfl)
      · refine q_ch hf (fun hE hf => ?_) (fun hf => ?_)
        · subst hE
          refine q_catch (tgt := 21) X hK [⟨0, 10, 13, 13⟩, ⟨0, 10, 17, 21⟩] ⟨0, 10, 21, 23⟩ [⟨0, 10, 25, 15⟩] (htab.trans rfl) (ps_cons hK (by decide) cl_L_13 (List.mem_of_getElem? (i := 15) rfl) (ps_cons hK (by decide) cl_L_21 (List.mem_of_getElem? (i := 17) rfl) ps_nil)) (by decide) (by decide) cl_L_23 ca_UnsupportedOperation g1 g2 g3 rfl ?_
          refine lv_astore (lv' := [(4, .ref q4), (0, .ref (ga Γ 0 0)), (1, .int x2), (2, .int x3), (3, .ref (ga Γ 180 0))]) hx hb dL_lock_21 hl (by decide) rfl (fun ls hl => ?_)
          refine lv_iconst (v := 3) hx hb dL_lock_23 (by decide) ?_
          exact q_eiret hf hx hb hr rfl hk hw dL_lock_24 (Nat.le_of_ble_eq_true rfl) (Nat.le_of_ble_eq_true rfl)
        · refine q_ch hf (fun hE hf => ?_) (fun hf => ?_)
          · subst hE
            refine q_catch (tgt := 25) X hK [⟨0, 10, 13, 13⟩, ⟨0, 10, 17, 21⟩, ⟨0, 10, 21, 23⟩] ⟨0, 10, 25, 15⟩ [] (htab.trans rfl) (ps_cons hK (by decide) cl_L_13 (List.mem_of_getElem? (i := 5) rfl) (ps_cons hK (by decide) cl_L_21 (List.mem_of_getElem? (i := 6) rfl) (ps_cons hK (by decide) cl_L_23 (List.mem_of_getElem? (i := 7) rfl) ps_nil))) (by decide) (by decide) cl_L_15 ca_IllegalState g1 g2 g3 rfl ?_
            refine lv_astore (lv' := [(4, .ref q4), (0, .ref (ga Γ 0 0)), (1, .int x2), (2, .int x3), (3, .ref (ga Γ 180 0))]) hx hb dL_lock_25 hl (by decide) rfl (fun ls hl => ?_)
            refine lv_iconst (v := 4) hx hb dL_lock_27 (by decide) ?_
            exact q_eiret hf hx hb hr rfl hk hw dL_lock_28 (Nat.le_of_ble_eq_true rfl) (Nat.le_of_ble_eq_true rfl)
          · exact nomatch hf
  refine lv_i2l hx hb dL_lock_8 rfl ?_
  refine q_last0 hx hb hK hw hf dL_lock_9 (fun σ6 H locs hf hw => ?_)
  refine lv_goto (tgt := 29) hx hb dL_lock_10 (by decide) ?_
  refine lv_iconst (v := 0) hx hb dL_lock_29 (by decide) ?_
  exact q_eiret hf hx hb hr rfl hk hw dL_lock_30 (Nat.le_of_ble_eq_true rfl) (Nat.le_of_ble_eq_true rfl)
set_option maxRecDepth 100000 in
theorem kL_unlock {Γ : Gm} {l : Launch} (hfl : l.stackTraces = false) {N : Nat} {σ τ : St} {x2 : Int32} {x3 : Int32} {r : Int32}  (hf : fL_unlock N σ x2 x3 = some (r, τ)) : CW Γ STR l yL_unlock cL_unlock 5 (some (.int)) hL_unlock 10 149 4 24 [.ref (ga Γ 0 0), .int x2, .int x3, .ref (ga Γ 180 0)] (some (.int r)) σ τ := by
  unfold fL_unlock at hf
  refine cw_body (lv := [(0, .ref (ga Γ 0 0)), (1, .int x2), (2, .int x3), (3, .ref (ga Γ 180 0))]) (by decide +kernel) rfl (Nat.le_of_ble_eq_true rfl) ?_
  intro p e s m below meth c ls X hr hk hK hw hl htab
  have hx := X.1
  have hb := X.2.1
  have hown := X.2.2.2
  refine lv_aload_n hx hb dL_unlock_0 rfl (lv_at hl 3 rfl) ?_
  refine lv_iconst (v := 0) hx hb dL_unlock_1 (by decide) ?_
  refine lv_aload_n hx hb dL_unlock_2 rfl (lv_at hl 0 rfl) ?_
  refine lv_iload_n hx hb dL_unlock_3 rfl (lv_at hl 1 rfl) ?_
  refine lv_iload_n hx hb dL_unlock_4 rfl (lv_at hl 2 rfl) ?_
  refine q_hg (rs1 := rsI) (f := fun v => some (.int v)) (fun _ _ => rfl) (fun _ _ => rfl) hf hw (fun u h => q_rxV (As := [.int x2, .int x3]) (rest := [.int (0 : Int32), .ref (ga Γ 180 0)]) (q := (RX7, TX7, 5)) X hK hw rfl (Nat.le_of_ble_eq_true rfl : 0 < cnt (gn Γ) 0) (rfl : vwCl[9]? = _) (kX7_unlock hfl h) mvX7_unlock lk_L_42 ⟨Nat.le_of_ble_eq_true rfl, Nat.le_of_ble_eq_true rfl⟩ rfl hl.1 rfl (Nat.le_of_ble_eq_true rfl) dL_unlock_5 ⟨Nat.le_of_ble_eq_true rfl, Nat.le_of_ble_eq_true rfl⟩) (fun E5 σ3 ce q4 H locs hf hw g1 g2 g3 => ?_) (fun v1 σ2 H locs hf hw => ?_)
  · refine q_ch hf (fun hE hf => ?_) (fun hf => ?_)
    · subst hE
      refine q_catch (tgt := 13) X hK [] ⟨0, 10, 13, 13⟩ [⟨0, 10, 17, 21⟩, ⟨0, 10, 21, 23⟩, ⟨0, 10, 25, 15⟩] (htab.trans rfl) ps_nil (by decide) (by decide) cl_L_13 ca_IllegalArgument g1 g2 g3 rfl ?_
      refine lv_astore (lv' := [(4, .ref q4), (0, .ref (ga Γ 0 0)), (1, .int x2), (2, .int x3), (3, .ref (ga Γ 180 0))]) hx hb dL_unlock_13 hl (by decide) rfl (fun ls hl => ?_)
      refine lv_iconst (v := 1) hx hb dL_unlock_15 (by decide) ?_
      exact q_eiret hf hx hb hr rfl hk hw dL_unlock_16 (Nat.le_of_ble_eq_true rfl) (Nat.le_of_ble_eq_true rfl)
    · refine q_ch hf (fun hE hf => ?_) (fun hf => ?_)
      · subst hE
        refine q_catch (tgt := 17) X hK [⟨0, 10, 13, 13⟩] ⟨0, 10, 17, 21⟩ [⟨0, 10, 21, 23⟩, ⟨0, 10, 25, 15⟩] (htab.trans rfl) (ps_cons hK (by decide) cl_L_13 (List.mem_of_getElem? (i := 10) rfl) ps_nil) (by decide) (by decide) cl_L_21 ca_NoSuchElement g1 g2 g3 rfl ?_
        refine lv_astore (lv' := [(4, .ref q4), (0, .ref (ga Γ 0 0)), (1, .int x2), (2, .int x3), (3, .ref (ga Γ 180 0))]) hx hb dL_unlock_17 hl (by decide) rfl (fun ls hl => ?_)
        refine lv_iconst (v := 2) hx hb dL_unlock_19 (by decide) ?_
        exact q_eiret hf hx hb hr rfl hk hw dL_unlock_20 (Nat.le_of_ble_eq_true rfl) (Nat.le_of_ble_eq_true rfl)
      · refine q_ch hf (fun hE hf => ?_) (fun hf => ?_)
        · subst hE
          refine q_catch (tgt := 21) X hK [⟨0, 10, 13, 13⟩, ⟨0, 10, 17, 21⟩] ⟨0, 10, 21, 23⟩ [⟨0, 10, 25, 15⟩] (htab.trans rfl) (ps_cons hK (by decide) cl_L_13 (List.mem_of_getElem? (i := 15) rfl) (ps_cons hK (by decide) cl_L_21 (List.mem_of_getElem? (i := 17) rfl) ps_nil)) (by decide) (by decide) cl_L_23 ca_UnsupportedOperation g1 g2 g3 rfl ?_
          refine lv_astore (lv' := [(4, .ref q4), (0, .ref (ga Γ 0 0)), (1, .int x2), (2, .int x3), (3, .ref (ga Γ 180 0))]) hx hb dL_unlock_21 hl (by decide) rfl (fun ls hl => ?_)
          refine lv_iconst (v := 3) hx hb dL_unlock_23 (by decide) ?_
          exact q_eiret hf hx hb hr rfl hk hw dL_unlock_24 (Nat.le_of_ble_eq_true rfl) (Nat.le_of_ble_eq_true rfl)
        · refine q_ch hf (fun hE hf => ?_) (fun hf => ?_)
          · subst hE
            refine q_catch (tgt := 25) X hK [⟨0, 10, 13, 13⟩, ⟨0, 10, 17, 21⟩, ⟨0, 10, 21, 23⟩] ⟨0, 10, 25, 15⟩ [] (htab.trans rfl) (ps_cons hK (by decide) cl_L_13 (List.mem_of_getElem? (i := 5) rfl) (ps_cons hK (by decide) cl_L_21 (List.mem_of_getElem? (i := 6) rfl) (ps_cons hK (by decide) cl_L_23 (List.mem_of_getElem? (i := 7) rfl) ps_nil))) (by decide) (by decide) cl_L_15 ca_IllegalState g1 g2 g3 rfl ?_
            refine lv_astore (lv' := [(4, .ref q4), (0, .ref (ga Γ 0 0)), (1, .int x2), (2, .int x3), (3, .ref (ga Γ 180 0))]) hx hb dL_unlock_25 hl (by decide) rfl (fun ls hl => ?_)
            refine lv_iconst (v := 4) hx hb dL_unlock_27 (by decide) ?_
            exact q_eiret hf hx hb hr rfl hk hw dL_unlock_28 (Nat.le_of_ble_eq_true rfl) (Nat.le_of_ble_eq_true rfl)
          · exact nomatch hf
  refine lv_i2l hx hb dL_unlock_8 rfl ?_
  refine q_last0 hx hb hK hw hf dL_unlock_9 (fun σ6 H locs hf hw => ?_)
  refine lv_goto (tgt := 29) hx hb dL_unlock_10 (by decide) ?_
  refine lv_iconst (v := 0) hx hb dL_unlock_29 (by decide) ?_
  exact q_eiret hf hx hb hr rfl hk hw dL_unlock_30 (Nat.le_of_ble_eq_true rfl) (Nat.le_of_ble_eq_true rfl)
set_option maxRecDepth 100000 in
theorem kL_connect {Γ : Gm} {l : Launch} (hfl : l.stackTraces = false) {N : Nat} {σ τ : St} {x2 : Int32} {x3 : Int32} {x4 : Int32} {x5 : Int32} {x6 : Int32} {r : Int32}  (hf : fL_connect N σ x2 x3 x4 x5 x6 = some (r, τ)) : CW Γ STR l yL_connect cL_connect 8 (some (.int)) hL_connect 10 152 6 36 [.ref (ga Γ 0 0), .int x2, .int x3, .int x4, .int x5, .int x6, .ref (ga Γ 180 0)] (some (.int r)) σ τ := by
  unfold fL_connect at hf
  refine cw_body (lv := [(0, .ref (ga Γ 0 0)), (1, .int x2), (2, .int x3), (3, .int x4), (4, .int x5), (5, .int x6), (6, .ref (ga Γ 180 0))]) (by decide +kernel) rfl (Nat.le_of_ble_eq_true rfl) ?_
  intro p e s m below meth c ls X hr hk hK hw hl htab
  have hx := X.1
  have hb := X.2.1
  have hown := X.2.2.2
  refine lv_aload hx hb dL_connect_0 (lv_at hl 6 rfl) ?_
  refine lv_iconst (v := 0) hx hb dL_connect_2 (by decide) ?_
  refine lv_aload_n hx hb dL_connect_3 rfl (lv_at hl 0 rfl) ?_
  refine lv_iload_n hx hb dL_connect_4 rfl (lv_at hl 1 rfl) ?_
  refine lv_iload_n hx hb dL_connect_5 rfl (lv_at hl 2 rfl) ?_
  refine lv_iload_n hx hb dL_connect_6 rfl (lv_at hl 3 rfl) ?_
  refine lv_iload hx hb dL_connect_7 (lv_at hl 4 rfl) ?_
  refine lv_iload hx hb dL_connect_9 (lv_at hl 5 rfl) ?_
  refine q_hg (rs1 := rsI) (f := fun v => some (.int v)) (fun _ _ => rfl) (fun _ _ => rfl) hf hw (fun u h => q_rxV (As := [.int x2, .int x3, .int x4, .int x5, .int x6]) (rest := [.int (0 : Int32), .ref (ga Γ 180 0)]) (q := (RX7, TX7, 5)) X hK hw rfl (Nat.le_of_ble_eq_true rfl : 0 < cnt (gn Γ) 0) (rfl : vwCl[9]? = _) (kX7_connect hfl h) mvX7_connect lk_L_45 ⟨Nat.le_of_ble_eq_true rfl, Nat.le_of_ble_eq_true rfl⟩ rfl hl.1 rfl (Nat.le_of_ble_eq_true rfl) dL_connect_11 ⟨Nat.le_of_ble_eq_true rfl, Nat.le_of_ble_eq_true rfl⟩) (fun E5 σ3 ce q4 H locs hf hw g1 g2 g3 => ?_) (fun v1 σ2 H locs hf hw => ?_)
  · refine q_ch hf (fun hE hf => ?_) (fun hf => ?_)
    · subst hE
      refine q_catch (tgt := 19) X hK [] ⟨0, 16, 19, 13⟩ [⟨0, 16, 23, 21⟩, ⟨0, 16, 27, 15⟩] (htab.trans rfl) ps_nil (by decide) (by decide) cl_L_13 ca_IllegalArgument g1 g2 g3 rfl ?_
      refine lv_astore (lv' := [(7, .ref q4), (0, .ref (ga Γ 0 0)), (1, .int x2), (2, .int x3), (3, .int x4), (4, .int x5), (5, .int x6), (6, .ref (ga Γ 180 0))]) hx hb dL_connect_19 hl (by decide) rfl (fun ls hl => ?_)
      refine lv_iconst (v := 1) hx hb dL_connect_21 (by decide) ?_
      exact q_eiret hf hx hb hr rfl hk hw dL_connect_22 (Nat.le_of_ble_eq_true rfl) (Nat.le_of_ble_eq_true rfl)
    · refine q_ch hf (fun hE hf => ?_) (fun hf => ?_)
      · subst hE
        refine q_catch (tgt := 23) X hK [⟨0, 16, 19, 13⟩] ⟨0, 16, 23, 21⟩ [⟨0, 16, 27, 15⟩] (htab.trans rfl) (ps_cons hK (by decide) cl_L_13 (List.mem_of_getElem? (i := 10) rfl) ps_nil) (by decide) (by decide) cl_L_21 ca_NoSuchElement g1 g2 g3 rfl ?_
        refine lv_astore (lv' := [(7, .ref q4), (0, .ref (ga Γ 0 0)), (1, .int x2), (2, .int x3), (3, .int x4), (4, .int x5), (5, .int x6), (6, .ref (ga Γ 180 0))]) hx hb dL_connect_23 hl (by decide) rfl (fun ls hl => ?_)
        refine lv_iconst (v := 2) hx hb dL_connect_25 (by decide) ?_
        exact q_eiret hf hx hb hr rfl hk hw dL_connect_26 (Nat.le_of_ble_eq_true rfl) (Nat.le_of_ble_eq_true rfl)
      · refine q_ch hf (fun hE hf => ?_) (fun hf => ?_)
        · subst hE
          refine q_catch (tgt := 27) X hK [⟨0, 16, 19, 13⟩, ⟨0, 16, 23, 21⟩] ⟨0, 16, 27, 15⟩ [] (htab.trans rfl) (ps_cons hK (by decide) cl_L_13 (List.mem_of_getElem? (i := 5) rfl) (ps_cons hK (by decide) cl_L_21 (List.mem_of_getElem? (i := 6) rfl) ps_nil)) (by decide) (by decide) cl_L_15 ca_IllegalState g1 g2 g3 rfl ?_
          refine lv_astore (lv' := [(7, .ref q4), (0, .ref (ga Γ 0 0)), (1, .int x2), (2, .int x3), (3, .int x4), (4, .int x5), (5, .int x6), (6, .ref (ga Γ 180 0))]) hx hb dL_connect_27 hl (by decide) rfl (fun ls hl => ?_)
          refine lv_iconst (v := 3) hx hb dL_connect_29 (by decide) ?_
          exact q_eiret hf hx hb hr rfl hk hw dL_connect_30 (Nat.le_of_ble_eq_true rfl) (Nat.le_of_ble_eq_true rfl)
        · exact nomatch hf
  refine lv_i2l hx hb dL_connect_14 rfl ?_
  refine q_last0 hx hb hK hw hf dL_connect_15 (fun σ6 H locs hf hw => ?_)
  refine lv_goto (tgt := 31) hx hb dL_connect_16 (by decide) ?_
  refine lv_iconst (v := 0) hx hb dL_connect_31 (by decide) ?_
  exact q_eiret hf hx hb hr rfl hk hw dL_connect_32 (Nat.le_of_ble_eq_true rfl) (Nat.le_of_ble_eq_true rfl)
set_option maxRecDepth 100000 in
theorem kL_disconnect {Γ : Gm} {l : Launch} (hfl : l.stackTraces = false) {N : Nat} {σ τ : St} {x2 : Int32} {x3 : Int32} {r : Int32}  (hf : fL_disconnect N σ x2 x3 = some (r, τ)) : CW Γ STR l yL_disconnect cL_disconnect 5 (some (.int)) hL_disconnect 10 148 3 18 [.ref (ga Γ 0 0), .int x2, .int x3, .ref (ga Γ 180 0)] (some (.int r)) σ τ := by
  unfold fL_disconnect at hf
  refine cw_body (lv := [(0, .ref (ga Γ 0 0)), (1, .int x2), (2, .int x3), (3, .ref (ga Γ 180 0))]) (by decide +kernel) rfl (Nat.le_of_ble_eq_true rfl) ?_
  intro p e s m below meth c ls X hr hk hK hw hl htab
  have hx := X.1
  have hb := X.2.1
  have hown := X.2.2.2
  refine lv_aload_n hx hb dL_disconnect_0 rfl (lv_at hl 3 rfl) ?_
  refine lv_iconst (v := 0) hx hb dL_disconnect_1 (by decide) ?_
  refine lv_aload_n hx hb dL_disconnect_2 rfl (lv_at hl 0 rfl) ?_
  refine lv_iload_n hx hb dL_disconnect_3 rfl (lv_at hl 1 rfl) ?_
  refine lv_iload_n hx hb dL_disconnect_4 rfl (lv_at hl 2 rfl) ?_
  refine q_hg (rs1 := rsI) (f := fun v => some (.int v)) (fun _ _ => rfl) (fun _ _ => rfl) hf hw (fun u h => q_rxV (As := [.int x2, .int x3]) (rest := [.int (0 : Int32), .ref (ga Γ 180 0)]) (q := (RX7, TX7, 5)) X hK hw rfl (Nat.le_of_ble_eq_true rfl : 0 < cnt (gn Γ) 0) (rfl : vwCl[9]? = _) (kX7_disconnect hfl h) mvX7_disconnect lk_L_49 ⟨Nat.le_of_ble_eq_true rfl, Nat.le_of_ble_eq_true rfl⟩ rfl hl.1 rfl (Nat.le_of_ble_eq_true rfl) dL_disconnect_5 ⟨Nat.le_of_ble_eq_true rfl, Nat.le_of_ble_eq_true rfl⟩) (fun E5 σ3 ce q4 H locs hf hw g1 g2 g3 => ?_) (fun v1 σ2 H locs hf hw => ?_)
  · refine q_ch hf (fun hE hf => ?_) (fun hf => ?_)
    · subst hE
      refine q_catch (tgt := 13) X hK [] ⟨0, 10, 13, 13⟩ [⟨0, 10, 17, 21⟩, ⟨0, 10, 21, 15⟩] (htab.trans rfl) ps_nil (by decide) (by decide) cl_L_13 ca_IllegalArgument g1 g2 g3 rfl ?_
      refine lv_astore (lv' := [(4, .ref q4), (0, .ref (ga Γ 0 0)), (1, .int x2), (2, .int x3), (3, .ref (ga Γ 180 0))]) hx hb dL_disconnect_13 hl (by decide) rfl (fun ls hl => ?_)
      refine lv_iconst (v := 1) hx hb dL_disconnect_15 (by decide) ?_
      exact q_eiret hf hx hb hr rfl hk hw dL_disconnect_16 (Nat.le_of_ble_eq_true rfl) (Nat.le_of_ble_eq_true rfl)
    · refine q_ch hf (fun hE hf => ?_) (fun hf => ?_)
      · subst hE
        refine q_catch (tgt := 17) X hK [⟨0, 10, 13, 13⟩] ⟨0, 10, 17, 21⟩ [⟨0, 10, 21, 15⟩] (htab.trans rfl) (ps_cons hK (by decide) cl_L_13 (List.mem_of_getElem? (i := 10) rfl) ps_nil) (by decide) (by decide) cl_L_21 ca_NoSuchElement g1 g2 g3 rfl ?_
        refine lv_astore (lv' := [(4, .ref q4), (0, .ref (ga Γ 0 0)), (1, .int x2), (2, .int x3), (3, .ref (ga Γ 180 0))]) hx hb dL_disconnect_17 hl (by decide) rfl (fun ls hl => ?_)
        refine lv_iconst (v := 2) hx hb dL_disconnect_19 (by decide) ?_
        exact q_eiret hf hx hb hr rfl hk hw dL_disconnect_20 (Nat.le_of_ble_eq_true rfl) (Nat.le_of_ble_eq_true rfl)
      · refine q_ch hf (fun hE hf => ?_) (fun hf => ?_)
        · subst hE
          refine q_catch (tgt := 21) X hK [⟨0, 10, 13, 13⟩, ⟨0, 10, 17, 21⟩] ⟨0, 10, 21, 15⟩ [] (htab.trans rfl) (ps_cons hK (by decide) cl_L_13 (List.mem_of_getElem? (i := 5) rfl) (ps_cons hK (by decide) cl_L_21 (List.mem_of_getElem? (i := 6) rfl) ps_nil)) (by decide) (by decide) cl_L_15 ca_IllegalState g1 g2 g3 rfl ?_
          refine lv_astore (lv' := [(4, .ref q4), (0, .ref (ga Γ 0 0)), (1, .int x2), (2, .int x3), (3, .ref (ga Γ 180 0))]) hx hb dL_disconnect_21 hl (by decide) rfl (fun ls hl => ?_)
          refine lv_iconst (v := 3) hx hb dL_disconnect_23 (by decide) ?_
          exact q_eiret hf hx hb hr rfl hk hw dL_disconnect_24 (Nat.le_of_ble_eq_true rfl) (Nat.le_of_ble_eq_true rfl)
        · exact nomatch hf
  refine lv_i2l hx hb dL_disconnect_8 rfl ?_
  refine q_last0 hx hb hK hw hf dL_disconnect_9 (fun σ6 H locs hf hw => ?_)
  refine lv_goto (tgt := 25) hx hb dL_disconnect_10 (by decide) ?_
  refine lv_iconst (v := 0) hx hb dL_disconnect_25 (by decide) ?_
  exact q_eiret hf hx hb hr rfl hk hw dL_disconnect_26 (Nat.le_of_ble_eq_true rfl) (Nat.le_of_ble_eq_true rfl)
set_option maxRecDepth 100000 in
theorem kL_vote {Γ : Gm} {l : Launch} (hfl : l.stackTraces = false) {N : Nat} {σ τ : St} {x2 : Int32} {x3 : Int32} {x4 : Int32} {r : Int32}  (hf : fL_vote N σ x2 x3 x4 = some (r, τ)) : CW Γ STR l yL_vote cL_vote 6 (some (.int)) hL_vote 10 150 5 30 [.ref (ga Γ 0 0), .int x2, .int x3, .int x4, .ref (ga Γ 180 0)] (some (.int r)) σ τ := by
  unfold fL_vote at hf
  refine cw_body (lv := [(0, .ref (ga Γ 0 0)), (1, .int x2), (2, .int x3), (3, .int x4), (4, .ref (ga Γ 180 0))]) (by decide +kernel) rfl (Nat.le_of_ble_eq_true rfl) ?_
  intro p e s m below meth c ls X hr hk hK hw hl htab
  have hx := X.1
  have hb := X.2.1
  have hown := X.2.2.2
  refine lv_aload hx hb dL_vote_0 (lv_at hl 4 rfl) ?_
  refine lv_iconst (v := 0) hx hb dL_vote_2 (by decide) ?_
  refine lv_aload_n hx hb dL_vote_3 rfl (lv_at hl 0 rfl) ?_
  refine lv_iload_n hx hb dL_vote_4 rfl (lv_at hl 1 rfl) ?_
  refine lv_iload_n hx hb dL_vote_5 rfl (lv_at hl 2 rfl) ?_
  refine lv_iload_n hx hb dL_vote_6 rfl (lv_at hl 3 rfl) ?_
  refine q_hg (rs1 := rsI) (f := fun v => some (.int v)) (fun _ _ => rfl) (fun _ _ => rfl) hf hw (fun u h => q_rxV (As := [.int x2, .int x3, .int x4]) (rest := [.int (0 : Int32), .ref (ga Γ 180 0)]) (q := (RX7, TX7, 5)) X hK hw rfl (Nat.le_of_ble_eq_true rfl : 0 < cnt (gn Γ) 0) (rfl : vwCl[9]? = _) (kX7_vote hfl h) mvX7_vote lk_L_52 ⟨Nat.le_of_ble_eq_true rfl, Nat.le_of_ble_eq_true rfl⟩ rfl hl.1 rfl (Nat.le_of_ble_eq_true rfl) dL_vote_7 ⟨Nat.le_of_ble_eq_true rfl, Nat.le_of_ble_eq_true rfl⟩) (fun E5 σ3 ce q4 H locs hf hw g1 g2 g3 => ?_) (fun v1 σ2 H locs hf hw => ?_)
  · refine q_ch hf (fun hE hf => ?_) (fun hf => ?_)
    · subst hE
      refine q_catch (tgt := 15) X hK [] ⟨0, 12, 15, 13⟩ [⟨0, 12, 19, 21⟩, ⟨0, 12, 23, 23⟩, ⟨0, 12, 27, 15⟩] (htab.trans rfl) ps_nil (by decide) (by decide) cl_L_13 ca_IllegalArgument g1 g2 g3 rfl ?_
      refine lv_astore (lv' := [(5, .ref q4), (0, .ref (ga Γ 0 0)), (1, .int x2), (2, .int x3), (3, .int x4), (4, .ref (ga Γ 180 0))]) hx hb dL_vote_15 hl (by decide) rfl (fun ls hl => ?_)
      refine lv_iconst (v := 1) hx hb dL_vote_17 (by decide) ?_
      exact q_eiret hf hx hb hr rfl hk hw dL_vote_18 (Nat.le_of_ble_eq_true rfl) (Nat.le_of_ble_eq_true rfl)
    · refine q_ch hf (fun hE hf => ?_) (fun hf => ?_)
      · subst hE
        refine q_catch (tgt := 19) X hK [⟨0, 12, 15, 13⟩] ⟨0, 12, 19, 21⟩ [⟨0, 12, 23, 23⟩, ⟨0, 12, 27, 15⟩] (htab.trans rfl) (ps_cons hK (by decide) cl_L_13 (List.mem_of_getElem? (i := 10) rfl) ps_nil) (by decide) (by decide) cl_L_21 ca_NoSuchElement g1 g2 g3 rfl ?_
        refine lv_astore (lv' := [(5, .ref q4), (0, .ref (ga Γ 0 0)), (1, .int x2), (2, .int x3), (3, .int x4), (4, .ref (ga Γ 180 0))]) hx hb dL_vote_19 hl (by decide) rfl (fun ls hl => ?_)
        refine lv_iconst (v := 2) hx hb dL_vote_21 (by decide) ?_
        exact q_eiret hf hx hb hr rfl hk hw dL_vote_22 (Nat.le_of_ble_eq_true rfl) (Nat.le_of_ble_eq_true rfl)
      · refine q_ch hf (fun hE hf => ?_) (fun hf => ?_)
        · subst hE
          refine q_catch (tgt := 23) X hK [⟨0, 12, 15, 13⟩, ⟨0, 12, 19, 21⟩] ⟨0, 12, 23, 23⟩ [⟨0, 12, 27, 15⟩] (htab.trans rfl) (ps_cons hK (by decide) cl_L_13 (List.mem_of_getElem? (i := 15) rfl) (ps_cons hK (by decide) cl_L_21 (List.mem_of_getElem? (i := 17) rfl) ps_nil)) (by decide) (by decide) cl_L_23 ca_UnsupportedOperation g1 g2 g3 rfl ?_
          refine lv_astore (lv' := [(5, .ref q4), (0, .ref (ga Γ 0 0)), (1, .int x2), (2, .int x3), (3, .int x4), (4, .ref (ga Γ 180 0))]) hx hb dL_vote_23 hl (by decide) rfl (fun ls hl => ?_)
          refine lv_iconst (v := 3) hx hb dL_vote_25 (by decide) ?_
          exact q_eiret hf hx hb hr rfl hk hw dL_vote_26 (Nat.le_of_ble_eq_true rfl) (Nat.le_of_ble_eq_true rfl)
        · refine q_ch hf (fun hE hf => ?_) (fun hf => ?_)
          · subst hE
            refine q_catch (tgt := 27) X hK [⟨0, 12, 15, 13⟩, ⟨0, 12, 19, 21⟩, ⟨0, 12, 23, 23⟩] ⟨0, 12, 27, 15⟩ [] (htab.trans rfl) (ps_cons hK (by decide) cl_L_13 (List.mem_of_getElem? (i := 5) rfl) (ps_cons hK (by decide) cl_L_21 (List.mem_of_getElem? (i := 6) rfl) (ps_cons hK (by decide) cl_L_23 (List.mem_of_getElem? (i := 7) rfl) ps_nil))) (by decide) (by decide) cl_L_15 ca_IllegalState g1 g2 g3 rfl ?_
            refine lv_astore (lv' := [(5, .ref q4), (0, .ref (ga Γ 0 0)), (1, .int x2), (2, .int x3), (3, .int x4), (4, .ref (ga Γ 180 0))]) hx hb dL_vote_27 hl (by decide) rfl (fun ls hl => ?_)
            refine lv_iconst (v := 4) hx hb dL_vote_29 (by decide) ?_
            exact q_eiret hf hx hb hr rfl hk hw dL_vote_30 (Nat.le_of_ble_eq_true rfl) (Nat.le_of_ble_eq_true rfl)
          · exact nomatch hf
  refine lv_i2l hx hb dL_vote_10 rfl ?_
  refine q_last0 hx hb hK hw hf dL_vote_11 (fun σ6 H locs hf hw => ?_)
  refine lv_goto (tgt := 31) hx hb dL_vote_12 (by decide) ?_
  refine lv_iconst (v := 0) hx hb dL_vote_31 (by decide) ?_
  exact q_eiret hf hx hb hr rfl hk hw dL_vote_32 (Nat.le_of_ble_eq_true rfl) (Nat.le_of_ble_eq_true rfl)
set_option maxRecDepth 100000 in
theorem kL_show {Γ : Gm} {l : Launch} (hfl : l.stackTraces = false) {N : Nat} {σ τ : St} {x2 : Int32} {x3 : Int32} {r : Int32}  (hf : fL_show N σ x2 x3 = some (r, τ)) : CW Γ STR l yL_show cL_show 5 (some (.int)) hL_show 10 149 2 12 [.ref (ga Γ 0 0), .int x2, .int x3, .ref (ga Γ 180 0)] (some (.int r)) σ τ := by
  unfold fL_show at hf
  refine cw_body (lv := [(0, .ref (ga Γ 0 0)), (1, .int x2), (2, .int x3), (3, .ref (ga Γ 180 0))]) (by decide +kernel) rfl (Nat.le_of_ble_eq_true rfl) ?_
  intro p e s m below meth c ls X hr hk hK hw hl htab
  have hx := X.1
  have hb := X.2.1
  have hown := X.2.2.2
  refine lv_aload_n hx hb dL_show_0 rfl (lv_at hl 3 rfl) ?_
  refine lv_iconst (v := 0) hx hb dL_show_1 (by decide) ?_
  refine lv_aload_n hx hb dL_show_2 rfl (lv_at hl 0 rfl) ?_
  refine lv_iload_n hx hb dL_show_3 rfl (lv_at hl 1 rfl) ?_
  refine lv_iload_n hx hb dL_show_4 rfl (lv_at hl 2 rfl) ?_
  refine q_hg (rs1 := rsI) (f := fun v => some (.int v)) (fun _ _ => rfl) (fun _ _ => rfl) hf hw (fun u h => q_rxV (As := [.int x2, .int x3]) (rest := [.int (0 : Int32), .ref (ga Γ 180 0)]) (q := (RX7, TX7, 5)) X hK hw rfl (Nat.le_of_ble_eq_true rfl : 0 < cnt (gn Γ) 0) (rfl : vwCl[9]? = _) (kX7_show hfl h) mvX7_show lk_L_55 ⟨Nat.le_of_ble_eq_true rfl, Nat.le_of_ble_eq_true rfl⟩ rfl hl.1 rfl (Nat.le_of_ble_eq_true rfl) dL_show_5 ⟨Nat.le_of_ble_eq_true rfl, Nat.le_of_ble_eq_true rfl⟩) (fun E5 σ3 ce q4 H locs hf hw g1 g2 g3 => ?_) (fun v1 σ2 H locs hf hw => ?_)
  · refine q_ch hf (fun hE hf => ?_) (fun hf => ?_)
    · subst hE
      refine q_catch (tgt := 20) X hK [] ⟨0, 17, 20, 13⟩ [⟨0, 17, 24, 15⟩] (htab.trans rfl) ps_nil (by decide) (by decide) cl_L_13 ca_IllegalArgument g1 g2 g3 rfl ?_
      refine lv_astore (lv' := [(4, .ref q4), (0, .ref (ga Γ 0 0)), (1, .int x2), (2, .int x3), (3, .ref (ga Γ 180 0))]) hx hb dL_show_20 hl (by decide) rfl (fun ls hl => ?_)
      refine lv_iconst (v := 1) hx hb dL_show_22 (by decide) ?_
      exact q_eiret hf hx hb hr rfl hk hw dL_show_23 (Nat.le_of_ble_eq_true rfl) (Nat.le_of_ble_eq_true rfl)
    · refine q_ch hf (fun hE hf => ?_) (fun hf => ?_)
      · subst hE
        refine q_catch (tgt := 24) X hK [⟨0, 17, 20, 13⟩] ⟨0, 17, 24, 15⟩ [] (htab.trans rfl) (ps_cons hK (by decide) cl_L_13 (List.mem_of_getElem? (i := 5) rfl) ps_nil) (by decide) (by decide) cl_L_15 ca_IllegalState g1 g2 g3 rfl ?_
        refine lv_astore (lv' := [(4, .ref q4), (0, .ref (ga Γ 0 0)), (1, .int x2), (2, .int x3), (3, .ref (ga Γ 180 0))]) hx hb dL_show_24 hl (by decide) rfl (fun ls hl => ?_)
        refine lv_iconst (v := 2) hx hb dL_show_26 (by decide) ?_
        exact q_eiret hf hx hb hr rfl hk hw dL_show_27 (Nat.le_of_ble_eq_true rfl) (Nat.le_of_ble_eq_true rfl)
      · exact nomatch hf
  refine q_if_eq (tgt := 15) hx hb hf dL_show_8 (by decide) (fun hf => ?_) (fun hf => ?_)
  · refine lv_lconst (v := 0) hx hb dL_show_15 rfl ?_
    refine q_last0 hx hb hK hw hf dL_show_16 (fun σ6 H locs hf hw => ?_)
    refine lv_goto (tgt := 28) hx hb dL_show_17 (by decide) ?_
    refine lv_iconst (v := 0) hx hb dL_show_28 (by decide) ?_
    exact q_eiret hf hx hb hr rfl hk hw dL_show_29 (Nat.le_of_ble_eq_true rfl) (Nat.le_of_ble_eq_true rfl)
  refine lv_lconst (v := 1) hx hb dL_show_11 rfl ?_
  refine lv_goto (tgt := 16) hx hb dL_show_12 (by decide) ?_
  refine q_last0 hx hb hK hw hf dL_show_16 (fun σ7 H locs hf hw => ?_)
  refine lv_goto (tgt := 28) hx hb dL_show_17 (by decide) ?_
  refine lv_iconst (v := 0) hx hb dL_show_28 (by decide) ?_
  exact q_eiret hf hx hb hr rfl hk hw dL_show_29 (Nat.le_of_ble_eq_true rfl) (Nat.le_of_ble_eq_true rfl)
set_option maxRecDepth 100000 in
theorem kL_takeBack {Γ : Gm} {l : Launch} (hfl : l.stackTraces = false) {N : Nat} {σ τ : St} {x2 : Int32} {r : Int32}  (hf : fL_takeBack N σ x2 = some (r, τ)) : CW Γ STR l yL_takeBack cL_takeBack 4 (some (.int)) hL_takeBack 10 149 3 18 [.ref (ga Γ 0 0), .int x2, .ref (ga Γ 180 0)] (some (.int r)) σ τ := by
  unfold fL_takeBack at hf
  refine cw_body (lv := [(0, .ref (ga Γ 0 0)), (1, .int x2), (2, .ref (ga Γ 180 0))]) (by decide +kernel) rfl (Nat.le_of_ble_eq_true rfl) ?_
  intro p e s m below meth c ls X hr hk hK hw hl htab
  have hx := X.1
  have hb := X.2.1
  have hown := X.2.2.2
  refine lv_aload_n hx hb dL_takeBack_0 rfl (lv_at hl 2 rfl) ?_
  refine lv_iconst (v := 0) hx hb dL_takeBack_1 (by decide) ?_
  refine lv_aload_n hx hb dL_takeBack_2 rfl (lv_at hl 0 rfl) ?_
  refine lv_iload_n hx hb dL_takeBack_3 rfl (lv_at hl 1 rfl) ?_
  refine q_hg (rs1 := rsI) (f := fun v => some (.int v)) (fun _ _ => rfl) (fun _ _ => rfl) hf hw (fun u h => q_rxV (As := [.int x2]) (rest := [.int (0 : Int32), .ref (ga Γ 180 0)]) (q := (RX7, TX7, 5)) X hK hw rfl (Nat.le_of_ble_eq_true rfl : 0 < cnt (gn Γ) 0) (rfl : vwCl[9]? = _) (kX7_takeBack hfl h) mvX7_takeBack lk_L_59 ⟨Nat.le_of_ble_eq_true rfl, Nat.le_of_ble_eq_true rfl⟩ rfl hl.1 rfl (Nat.le_of_ble_eq_true rfl) dL_takeBack_4 ⟨Nat.le_of_ble_eq_true rfl, Nat.le_of_ble_eq_true rfl⟩) (fun E5 σ3 ce q4 H locs hf hw g1 g2 g3 => ?_) (fun v1 σ2 H locs hf hw => ?_)
  · refine q_ch hf (fun hE hf => ?_) (fun hf => ?_)
    · subst hE
      refine q_catch (tgt := 12) X hK [] ⟨0, 9, 12, 13⟩ [⟨0, 9, 15, 21⟩, ⟨0, 9, 18, 15⟩] (htab.trans rfl) ps_nil (by decide) (by decide) cl_L_13 ca_IllegalArgument g1 g2 g3 rfl ?_
      refine lv_astore_n (lv' := [(3, .ref q4), (0, .ref (ga Γ 0 0)), (1, .int x2), (2, .ref (ga Γ 180 0))]) hx hb dL_takeBack_12 rfl hl (by decide) rfl (fun ls hl => ?_)
      refine lv_iconst (v := 1) hx hb dL_takeBack_13 (by decide) ?_
      exact q_eiret hf hx hb hr rfl hk hw dL_takeBack_14 (Nat.le_of_ble_eq_true rfl) (Nat.le_of_ble_eq_true rfl)
    · refine q_ch hf (fun hE hf => ?_) (fun hf => ?_)
      · subst hE
        refine q_catch (tgt := 15) X hK [⟨0, 9, 12, 13⟩] ⟨0, 9, 15, 21⟩ [⟨0, 9, 18, 15⟩] (htab.trans rfl) (ps_cons hK (by decide) cl_L_13 (List.mem_of_getElem? (i := 10) rfl) ps_nil) (by decide) (by decide) cl_L_21 ca_NoSuchElement g1 g2 g3 rfl ?_
        refine lv_astore_n (lv' := [(3, .ref q4), (0, .ref (ga Γ 0 0)), (1, .int x2), (2, .ref (ga Γ 180 0))]) hx hb dL_takeBack_15 rfl hl (by decide) rfl (fun ls hl => ?_)
        refine lv_iconst (v := 2) hx hb dL_takeBack_16 (by decide) ?_
        exact q_eiret hf hx hb hr rfl hk hw dL_takeBack_17 (Nat.le_of_ble_eq_true rfl) (Nat.le_of_ble_eq_true rfl)
      · refine q_ch hf (fun hE hf => ?_) (fun hf => ?_)
        · subst hE
          refine q_catch (tgt := 18) X hK [⟨0, 9, 12, 13⟩, ⟨0, 9, 15, 21⟩] ⟨0, 9, 18, 15⟩ [] (htab.trans rfl) (ps_cons hK (by decide) cl_L_13 (List.mem_of_getElem? (i := 5) rfl) (ps_cons hK (by decide) cl_L_21 (List.mem_of_getElem? (i := 6) rfl) ps_nil)) (by decide) (by decide) cl_L_15 ca_IllegalState g1 g2 g3 rfl ?_
          refine lv_astore_n (lv' := [(3, .ref q4), (0, .ref (ga Γ 0 0)), (1, .int x2), (2, .ref (ga Γ 180 0))]) hx hb dL_takeBack_18 rfl hl (by decide) rfl (fun ls hl => ?_)
          refine lv_iconst (v := 3) hx hb dL_takeBack_19 (by decide) ?_
          exact q_eiret hf hx hb hr rfl hk hw dL_takeBack_20 (Nat.le_of_ble_eq_true rfl) (Nat.le_of_ble_eq_true rfl)
        · exact nomatch hf
  refine lv_i2l hx hb dL_takeBack_7 rfl ?_
  refine q_last0 hx hb hK hw hf dL_takeBack_8 (fun σ6 H locs hf hw => ?_)
  refine lv_goto (tgt := 21) hx hb dL_takeBack_9 (by decide) ?_
  refine lv_iconst (v := 0) hx hb dL_takeBack_21 (by decide) ?_
  exact q_eiret hf hx hb hr rfl hk hw dL_takeBack_22 (Nat.le_of_ble_eq_true rfl) (Nat.le_of_ble_eq_true rfl)
set_option maxRecDepth 100000 in
theorem kL_deliver {Γ : Gm} {l : Launch} (hfl : l.stackTraces = false) {N : Nat} {σ τ : St} {x2 : Int32} {x3 : Int32} {r : Int32}  (hf : fL_deliver N σ x2 x3 = some (r, τ)) : CW Γ STR l yL_deliver cL_deliver 5 (some (.int)) hL_deliver 10 148 3 18 [.ref (ga Γ 0 0), .int x2, .int x3, .ref (ga Γ 180 0)] (some (.int r)) σ τ := by
  unfold fL_deliver at hf
  refine cw_body (lv := [(0, .ref (ga Γ 0 0)), (1, .int x2), (2, .int x3), (3, .ref (ga Γ 180 0))]) (by decide +kernel) rfl (Nat.le_of_ble_eq_true rfl) ?_
  intro p e s m below meth c ls X hr hk hK hw hl htab
  have hx := X.1
  have hb := X.2.1
  have hown := X.2.2.2
  refine lv_aload_n hx hb dL_deliver_0 rfl (lv_at hl 3 rfl) ?_
  refine lv_iconst (v := 0) hx hb dL_deliver_1 (by decide) ?_
  refine lv_aload_n hx hb dL_deliver_2 rfl (lv_at hl 0 rfl) ?_
  refine lv_iload_n hx hb dL_deliver_3 rfl (lv_at hl 1 rfl) ?_
  refine lv_iload_n hx hb dL_deliver_4 rfl (lv_at hl 2 rfl) ?_
  refine q_hg (rs1 := rsI) (f := fun v => some (.int v)) (fun _ _ => rfl) (fun _ _ => rfl) hf hw (fun u h => q_rxV (As := [.int x2, .int x3]) (rest := [.int (0 : Int32), .ref (ga Γ 180 0)]) (q := (RX7, TX7, 5)) X hK hw rfl (Nat.le_of_ble_eq_true rfl : 0 < cnt (gn Γ) 0) (rfl : vwCl[9]? = _) (kX7_deliver hfl h) mvX7_deliver lk_L_63 ⟨Nat.le_of_ble_eq_true rfl, Nat.le_of_ble_eq_true rfl⟩ rfl hl.1 rfl (Nat.le_of_ble_eq_true rfl) dL_deliver_5 ⟨Nat.le_of_ble_eq_true rfl, Nat.le_of_ble_eq_true rfl⟩) (fun E5 σ3 ce q4 H locs hf hw g1 g2 g3 => ?_) (fun v1 σ2 H locs hf hw => ?_)
  · refine q_ch hf (fun hE hf => ?_) (fun hf => ?_)
    · subst hE
      refine q_catch (tgt := 13) X hK [] ⟨0, 10, 13, 13⟩ [⟨0, 10, 17, 21⟩, ⟨0, 10, 21, 15⟩] (htab.trans rfl) ps_nil (by decide) (by decide) cl_L_13 ca_IllegalArgument g1 g2 g3 rfl ?_
      refine lv_astore (lv' := [(4, .ref q4), (0, .ref (ga Γ 0 0)), (1, .int x2), (2, .int x3), (3, .ref (ga Γ 180 0))]) hx hb dL_deliver_13 hl (by decide) rfl (fun ls hl => ?_)
      refine lv_iconst (v := 1) hx hb dL_deliver_15 (by decide) ?_
      exact q_eiret hf hx hb hr rfl hk hw dL_deliver_16 (Nat.le_of_ble_eq_true rfl) (Nat.le_of_ble_eq_true rfl)
    · refine q_ch hf (fun hE hf => ?_) (fun hf => ?_)
      · subst hE
        refine q_catch (tgt := 17) X hK [⟨0, 10, 13, 13⟩] ⟨0, 10, 17, 21⟩ [⟨0, 10, 21, 15⟩] (htab.trans rfl) (ps_cons hK (by decide) cl_L_13 (List.mem_of_getElem? (i := 10) rfl) ps_nil) (by decide) (by decide) cl_L_21 ca_NoSuchElement g1 g2 g3 rfl ?_
        refine lv_astore (lv' := [(4, .ref q4), (0, .ref (ga Γ 0 0)), (1, .int x2), (2, .int x3), (3, .ref (ga Γ 180 0))]) hx hb dL_deliver_17 hl (by decide) rfl (fun ls hl => ?_)
        refine lv_iconst (v := 2) hx hb dL_deliver_19 (by decide) ?_
        exact q_eiret hf hx hb hr rfl hk hw dL_deliver_20 (Nat.le_of_ble_eq_true rfl) (Nat.le_of_ble_eq_true rfl)
      · refine q_ch hf (fun hE hf => ?_) (fun hf => ?_)
        · subst hE
          refine q_catch (tgt := 21) X hK [⟨0, 10, 13, 13⟩, ⟨0, 10, 17, 21⟩] ⟨0, 10, 21, 15⟩ [] (htab.trans rfl) (ps_cons hK (by decide) cl_L_13 (List.mem_of_getElem? (i := 5) rfl) (ps_cons hK (by decide) cl_L_21 (List.mem_of_getElem? (i := 6) rfl) ps_nil)) (by decide) (by decide) cl_L_15 ca_IllegalState g1 g2 g3 rfl ?_
          refine lv_astore (lv' := [(4, .ref q4), (0, .ref (ga Γ 0 0)), (1, .int x2), (2, .int x3), (3, .ref (ga Γ 180 0))]) hx hb dL_deliver_21 hl (by decide) rfl (fun ls hl => ?_)
          refine lv_iconst (v := 3) hx hb dL_deliver_23 (by decide) ?_
          exact q_eiret hf hx hb hr rfl hk hw dL_deliver_24 (Nat.le_of_ble_eq_true rfl) (Nat.le_of_ble_eq_true rfl)
        · exact nomatch hf
  refine lv_i2l hx hb dL_deliver_8 rfl ?_
  refine q_last0 hx hb hK hw hf dL_deliver_9 (fun σ6 H locs hf hw => ?_)
  refine lv_goto (tgt := 25) hx hb dL_deliver_10 (by decide) ?_
  refine lv_iconst (v := 0) hx hb dL_deliver_25 (by decide) ?_
  exact q_eiret hf hx hb hr rfl hk hw dL_deliver_26 (Nat.le_of_ble_eq_true rfl) (Nat.le_of_ble_eq_true rfl)
set_option maxRecDepth 100000 in
theorem kL_sync {Γ : Gm} {l : Launch} (hfl : l.stackTraces = false) {N : Nat} {σ τ : St} {x2 : Int32} {x3 : Int32} {r : Int32}  (hf : fL_sync N σ x2 x3 = some (r, τ)) : CW Γ STR l yL_sync cL_sync 5 (some (.int)) hL_sync 10 152 3 18 [.ref (ga Γ 0 0), .int x2, .int x3, .ref (ga Γ 180 0)] (some (.int r)) σ τ := by
  unfold fL_sync at hf
  refine cw_body (lv := [(0, .ref (ga Γ 0 0)), (1, .int x2), (2, .int x3), (3, .ref (ga Γ 180 0))]) (by decide +kernel) rfl (Nat.le_of_ble_eq_true rfl) ?_
  intro p e s m below meth c ls X hr hk hK hw hl htab
  have hx := X.1
  have hb := X.2.1
  have hown := X.2.2.2
  refine lv_aload_n hx hb dL_sync_0 rfl (lv_at hl 3 rfl) ?_
  refine lv_iconst (v := 0) hx hb dL_sync_1 (by decide) ?_
  refine lv_aload_n hx hb dL_sync_2 rfl (lv_at hl 0 rfl) ?_
  refine lv_iload_n hx hb dL_sync_3 rfl (lv_at hl 1 rfl) ?_
  refine lv_iload_n hx hb dL_sync_4 rfl (lv_at hl 2 rfl) ?_
  refine q_hg (rs1 := rsI) (f := fun v => some (.int v)) (fun _ _ => rfl) (fun _ _ => rfl) hf hw (fun u h => q_rxV (As := [.int x2, .int x3]) (rest := [.int (0 : Int32), .ref (ga Γ 180 0)]) (q := (RX7, TX7, 5)) X hK hw rfl (Nat.le_of_ble_eq_true rfl : 0 < cnt (gn Γ) 0) (rfl : vwCl[9]? = _) (kX7_sync hfl h) mvX7_sync lk_L_66 ⟨Nat.le_of_ble_eq_true rfl, Nat.le_of_ble_eq_true rfl⟩ rfl hl.1 rfl (Nat.le_of_ble_eq_true rfl) dL_sync_5 ⟨Nat.le_of_ble_eq_true rfl, Nat.le_of_ble_eq_true rfl⟩) (fun E5 σ3 ce q4 H locs hf hw g1 g2 g3 => ?_) (fun v1 σ2 H locs hf hw => ?_)
  · refine q_ch hf (fun hE hf => ?_) (fun hf => ?_)
    · subst hE
      refine q_catch (tgt := 13) X hK [] ⟨0, 10, 13, 13⟩ [] (htab.trans rfl) ps_nil (by decide) (by decide) cl_L_13 ca_IllegalArgument g1 g2 g3 rfl ?_
      refine lv_astore (lv' := [(4, .ref q4), (0, .ref (ga Γ 0 0)), (1, .int x2), (2, .int x3), (3, .ref (ga Γ 180 0))]) hx hb dL_sync_13 hl (by decide) rfl (fun ls hl => ?_)
      refine lv_iconst (v := 1) hx hb dL_sync_15 (by decide) ?_
      exact q_eiret hf hx hb hr rfl hk hw dL_sync_16 (Nat.le_of_ble_eq_true rfl) (Nat.le_of_ble_eq_true rfl)
    · exact nomatch hf
  refine lv_i2l hx hb dL_sync_8 rfl ?_
  refine q_last0 hx hb hK hw hf dL_sync_9 (fun σ6 H locs hf hw => ?_)
  refine lv_goto (tgt := 17) hx hb dL_sync_10 (by decide) ?_
  refine lv_iconst (v := 0) hx hb dL_sync_17 (by decide) ?_
  exact q_eiret hf hx hb hr rfl hk hw dL_sync_18 (Nat.le_of_ble_eq_true rfl) (Nat.le_of_ble_eq_true rfl)
set_option maxRecDepth 100000 in
theorem kL_userOf {Γ : Gm} {l : Launch} (hfl : l.stackTraces = false) {N : Nat} {σ τ : St} {x2 : Int32} {r : Int32}  (hf : fL_userOf N σ x2 = some (r, τ)) : CW Γ STR l yL_userOf cL_userOf 4 (some (.int)) hL_userOf 10 145 1 6 [.ref (ga Γ 0 0), .int x2, .ref (ga Γ 180 0)] (some (.int r)) σ τ := by
  unfold fL_userOf at hf
  refine cw_body (lv := [(0, .ref (ga Γ 0 0)), (1, .int x2), (2, .ref (ga Γ 180 0))]) (by decide +kernel) rfl (Nat.le_of_ble_eq_true rfl) ?_
  intro p e s m below meth c ls X hr hk hK hw hl htab
  have hx := X.1
  have hb := X.2.1
  have hown := X.2.2.2
  refine lv_aload_n hx hb dL_userOf_0 rfl (lv_at hl 2 rfl) ?_
  refine lv_iconst (v := 0) hx hb dL_userOf_1 (by decide) ?_
  refine lv_aload_n hx hb dL_userOf_2 rfl (lv_at hl 0 rfl) ?_
  refine lv_iload_n hx hb dL_userOf_3 rfl (lv_at hl 1 rfl) ?_
  refine q_hg (rs1 := rsI) (f := fun v => some (.int v)) (fun _ _ => rfl) (fun _ _ => rfl) hf hw (fun u h => q_rxV (As := [.int x2]) (rest := [.int (0 : Int32), .ref (ga Γ 180 0)]) (q := (RX7, TX7, 5)) X hK hw rfl (Nat.le_of_ble_eq_true rfl : 0 < cnt (gn Γ) 0) (rfl : vwCl[9]? = _) (kX7_userOf hfl h) mvX7_userOf lk_L_69 ⟨Nat.le_of_ble_eq_true rfl, Nat.le_of_ble_eq_true rfl⟩ rfl hl.1 rfl (Nat.le_of_ble_eq_true rfl) dL_userOf_4 ⟨Nat.le_of_ble_eq_true rfl, Nat.le_of_ble_eq_true rfl⟩) (fun E5 σ3 ce q4 H locs hf hw g1 g2 g3 => ?_) (fun v1 σ2 H locs hf hw => ?_)
  · refine q_ch hf (fun hE hf => ?_) (fun hf => ?_)
    · subst hE
      refine q_catch (tgt := 12) X hK [] ⟨0, 9, 12, 21⟩ [] (htab.trans rfl) ps_nil (by decide) (by decide) cl_L_21 ca_NoSuchElement g1 g2 g3 rfl ?_
      refine lv_astore_n (lv' := [(3, .ref q4), (0, .ref (ga Γ 0 0)), (1, .int x2), (2, .ref (ga Γ 180 0))]) hx hb dL_userOf_12 rfl hl (by decide) rfl (fun ls hl => ?_)
      refine lv_iconst (v := 1) hx hb dL_userOf_13 (by decide) ?_
      exact q_eiret hf hx hb hr rfl hk hw dL_userOf_14 (Nat.le_of_ble_eq_true rfl) (Nat.le_of_ble_eq_true rfl)
    · exact nomatch hf
  refine lv_i2l hx hb dL_userOf_7 rfl ?_
  refine q_last0 hx hb hK hw hf dL_userOf_8 (fun σ6 H locs hf hw => ?_)
  refine lv_goto (tgt := 15) hx hb dL_userOf_9 (by decide) ?_
  refine lv_iconst (v := 0) hx hb dL_userOf_15 (by decide) ?_
  exact q_eiret hf hx hb hr rfl hk hw dL_userOf_16 (Nat.le_of_ble_eq_true rfl) (Nat.le_of_ble_eq_true rfl)
set_option maxRecDepth 100000 in
theorem kL_clockOf {Γ : Gm} {l : Launch} (hfl : l.stackTraces = false) {N : Nat} {σ τ : St} {x2 : Int32} {r : Int32}  (hf : fL_clockOf N σ x2 = some (r, τ)) : CW Γ STR l yL_clockOf cL_clockOf 4 (some (.int)) hL_clockOf 10 145 1 6 [.ref (ga Γ 0 0), .int x2, .ref (ga Γ 180 0)] (some (.int r)) σ τ := by
  unfold fL_clockOf at hf
  refine cw_body (lv := [(0, .ref (ga Γ 0 0)), (1, .int x2), (2, .ref (ga Γ 180 0))]) (by decide +kernel) rfl (Nat.le_of_ble_eq_true rfl) ?_
  intro p e s m below meth c ls X hr hk hK hw hl htab
  have hx := X.1
  have hb := X.2.1
  have hown := X.2.2.2
  refine lv_aload_n hx hb dL_clockOf_0 rfl (lv_at hl 2 rfl) ?_
  refine lv_iconst (v := 0) hx hb dL_clockOf_1 (by decide) ?_
  refine lv_aload_n hx hb dL_clockOf_2 rfl (lv_at hl 0 rfl) ?_
  refine lv_iload_n hx hb dL_clockOf_3 rfl (lv_at hl 1 rfl) ?_
  refine q_hg (rs1 := rsI) (f := fun v => some (.int v)) (fun _ _ => rfl) (fun _ _ => rfl) hf hw (fun u h => q_rxV (As := [.int x2]) (rest := [.int (0 : Int32), .ref (ga Γ 180 0)]) (q := (RX7, TX7, 5)) X hK hw rfl (Nat.le_of_ble_eq_true rfl : 0 < cnt (gn Γ) 0) (rfl : vwCl[9]? = _) (kX7_clockOf hfl h) mvX7_clockOf lk_L_72 ⟨Nat.le_of_ble_eq_true rfl, Nat.le_of_ble_eq_true rfl⟩ rfl hl.1 rfl (Nat.le_of_ble_eq_true rfl) dL_clockOf_4 ⟨Nat.le_of_ble_eq_true rfl, Nat.le_of_ble_eq_true rfl⟩) (fun E5 σ3 ce q4 H locs hf hw g1 g2 g3 => ?_) (fun v1 σ2 H locs hf hw => ?_)
  · refine q_ch hf (fun hE hf => ?_) (fun hf => ?_)
    · subst hE
      refine q_catch (tgt := 12) X hK [] ⟨0, 9, 12, 21⟩ [] (htab.trans rfl) ps_nil (by decide) (by decide) cl_L_21 ca_NoSuchElement g1 g2 g3 rfl ?_
      refine lv_astore_n (lv' := [(3, .ref q4), (0, .ref (ga Γ 0 0)), (1, .int x2), (2, .ref (ga Γ 180 0))]) hx hb dL_clockOf_12 rfl hl (by decide) rfl (fun ls hl => ?_)
      refine lv_iconst (v := 1) hx hb dL_clockOf_13 (by decide) ?_
      exact q_eiret hf hx hb hr rfl hk hw dL_clockOf_14 (Nat.le_of_ble_eq_true rfl) (Nat.le_of_ble_eq_true rfl)
    · exact nomatch hf
  refine lv_i2l hx hb dL_clockOf_7 rfl ?_
  refine q_last0 hx hb hK hw hf dL_clockOf_8 (fun σ6 H locs hf hw => ?_)
  refine lv_goto (tgt := 15) hx hb dL_clockOf_9 (by decide) ?_
  refine lv_iconst (v := 0) hx hb dL_clockOf_15 (by decide) ?_
  exact q_eiret hf hx hb hr rfl hk hw dL_clockOf_16 (Nat.le_of_ble_eq_true rfl) (Nat.le_of_ble_eq_true rfl)
set_option maxRecDepth 100000 in
theorem kL_knows {Γ : Gm} {l : Launch} (hfl : l.stackTraces = false) {N : Nat} {σ τ : St} {x2 : Int32} {x3 : Int32} {r : Int32}  (hf : fL_knows N σ x2 x3 = some (r, τ)) : CW Γ STR l yL_knows cL_knows 5 (some (.int)) hL_knows 10 148 2 12 [.ref (ga Γ 0 0), .int x2, .int x3, .ref (ga Γ 180 0)] (some (.int r)) σ τ := by
  unfold fL_knows at hf
  refine cw_body (lv := [(0, .ref (ga Γ 0 0)), (1, .int x2), (2, .int x3), (3, .ref (ga Γ 180 0))]) (by decide +kernel) rfl (Nat.le_of_ble_eq_true rfl) ?_
  intro p e s m below meth c ls X hr hk hK hw hl htab
  have hx := X.1
  have hb := X.2.1
  have hown := X.2.2.2
  refine lv_aload_n hx hb dL_knows_0 rfl (lv_at hl 3 rfl) ?_
  refine lv_iconst (v := 0) hx hb dL_knows_1 (by decide) ?_
  refine lv_aload_n hx hb dL_knows_2 rfl (lv_at hl 0 rfl) ?_
  refine lv_iload_n hx hb dL_knows_3 rfl (lv_at hl 1 rfl) ?_
  refine lv_iload_n hx hb dL_knows_4 rfl (lv_at hl 2 rfl) ?_
  refine q_hg (rs1 := rsI) (f := fun v => some (.int v)) (fun _ _ => rfl) (fun _ _ => rfl) hf hw (fun u h => q_rxV (As := [.int x2, .int x3]) (rest := [.int (0 : Int32), .ref (ga Γ 180 0)]) (q := (RX7, TX7, 5)) X hK hw rfl (Nat.le_of_ble_eq_true rfl : 0 < cnt (gn Γ) 0) (rfl : vwCl[9]? = _) (kX7_knows hfl h) mvX7_knows lk_L_75 ⟨Nat.le_of_ble_eq_true rfl, Nat.le_of_ble_eq_true rfl⟩ rfl hl.1 rfl (Nat.le_of_ble_eq_true rfl) dL_knows_5 ⟨Nat.le_of_ble_eq_true rfl, Nat.le_of_ble_eq_true rfl⟩) (fun E5 σ3 ce q4 H locs hf hw g1 g2 g3 => ?_) (fun v1 σ2 H locs hf hw => ?_)
  · refine q_ch hf (fun hE hf => ?_) (fun hf => ?_)
    · subst hE
      refine q_catch (tgt := 20) X hK [] ⟨0, 17, 20, 13⟩ [⟨0, 17, 24, 21⟩] (htab.trans rfl) ps_nil (by decide) (by decide) cl_L_13 ca_IllegalArgument g1 g2 g3 rfl ?_
      refine lv_astore (lv' := [(4, .ref q4), (0, .ref (ga Γ 0 0)), (1, .int x2), (2, .int x3), (3, .ref (ga Γ 180 0))]) hx hb dL_knows_20 hl (by decide) rfl (fun ls hl => ?_)
      refine lv_iconst (v := 1) hx hb dL_knows_22 (by decide) ?_
      exact q_eiret hf hx hb hr rfl hk hw dL_knows_23 (Nat.le_of_ble_eq_true rfl) (Nat.le_of_ble_eq_true rfl)
    · refine q_ch hf (fun hE hf => ?_) (fun hf => ?_)
      · subst hE
        refine q_catch (tgt := 24) X hK [⟨0, 17, 20, 13⟩] ⟨0, 17, 24, 21⟩ [] (htab.trans rfl) (ps_cons hK (by decide) cl_L_13 (List.mem_of_getElem? (i := 10) rfl) ps_nil) (by decide) (by decide) cl_L_21 ca_NoSuchElement g1 g2 g3 rfl ?_
        refine lv_astore (lv' := [(4, .ref q4), (0, .ref (ga Γ 0 0)), (1, .int x2), (2, .int x3), (3, .ref (ga Γ 180 0))]) hx hb dL_knows_24 hl (by decide) rfl (fun ls hl => ?_)
        refine lv_iconst (v := 2) hx hb dL_knows_26 (by decide) ?_
        exact q_eiret hf hx hb hr rfl hk hw dL_knows_27 (Nat.le_of_ble_eq_true rfl) (Nat.le_of_ble_eq_true rfl)
      · exact nomatch hf
  refine q_if_eq (tgt := 15) hx hb hf dL_knows_8 (by decide) (fun hf => ?_) (fun hf => ?_)
  · refine lv_lconst (v := 0) hx hb dL_knows_15 rfl ?_
    refine q_last0 hx hb hK hw hf dL_knows_16 (fun σ6 H locs hf hw => ?_)
    refine lv_goto (tgt := 28) hx hb dL_knows_17 (by decide) ?_
    refine lv_iconst (v := 0) hx hb dL_knows_28 (by decide) ?_
    exact q_eiret hf hx hb hr rfl hk hw dL_knows_29 (Nat.le_of_ble_eq_true rfl) (Nat.le_of_ble_eq_true rfl)
  refine lv_lconst (v := 1) hx hb dL_knows_11 rfl ?_
  refine lv_goto (tgt := 16) hx hb dL_knows_12 (by decide) ?_
  refine q_last0 hx hb hK hw hf dL_knows_16 (fun σ7 H locs hf hw => ?_)
  refine lv_goto (tgt := 28) hx hb dL_knows_17 (by decide) ?_
  refine lv_iconst (v := 0) hx hb dL_knows_28 (by decide) ?_
  exact q_eiret hf hx hb hr rfl hk hw dL_knows_29 (Nat.le_of_ble_eq_true rfl) (Nat.le_of_ble_eq_true rfl)
set_option maxRecDepth 100000 in
theorem kL_shapes {Γ : Gm} {l : Launch} (hfl : l.stackTraces = false) {N : Nat} {σ τ : St} {x2 : Int32} {r : Int32}  (hf : fL_shapes N σ x2 = some (r, τ)) : CW Γ STR l yL_shapes cL_shapes 4 (some (.int)) hL_shapes 10 146 1 6 [.ref (ga Γ 0 0), .int x2, .ref (ga Γ 180 0)] (some (.int r)) σ τ := by
  unfold fL_shapes at hf
  refine cw_body (lv := [(0, .ref (ga Γ 0 0)), (1, .int x2), (2, .ref (ga Γ 180 0))]) (by decide +kernel) rfl (Nat.le_of_ble_eq_true rfl) ?_
  intro p e s m below meth c ls X hr hk hK hw hl htab
  have hx := X.1
  have hb := X.2.1
  have hown := X.2.2.2
  refine lv_aload_n hx hb dL_shapes_0 rfl (lv_at hl 2 rfl) ?_
  refine lv_iconst (v := 0) hx hb dL_shapes_1 (by decide) ?_
  refine lv_aload_n hx hb dL_shapes_2 rfl (lv_at hl 0 rfl) ?_
  refine lv_iload_n hx hb dL_shapes_3 rfl (lv_at hl 1 rfl) ?_
  refine q_hg (rs1 := rsI) (f := fun v => some (.int v)) (fun _ _ => rfl) (fun _ _ => rfl) hf hw (fun u h => q_rxV (As := [.int x2]) (rest := [.int (0 : Int32), .ref (ga Γ 180 0)]) (q := (RX7, TX7, 5)) X hK hw rfl (Nat.le_of_ble_eq_true rfl : 0 < cnt (gn Γ) 0) (rfl : vwCl[9]? = _) (kX7_shapes hfl h) mvX7_shapes lk_L_79 ⟨Nat.le_of_ble_eq_true rfl, Nat.le_of_ble_eq_true rfl⟩ rfl hl.1 rfl (Nat.le_of_ble_eq_true rfl) dL_shapes_4 ⟨Nat.le_of_ble_eq_true rfl, Nat.le_of_ble_eq_true rfl⟩) (fun E5 σ3 ce q4 H locs hf hw g1 g2 g3 => ?_) (fun v1 σ2 H locs hf hw => ?_)
  · refine q_ch hf (fun hE hf => ?_) (fun hf => ?_)
    · subst hE
      refine q_catch (tgt := 12) X hK [] ⟨0, 9, 12, 13⟩ [] (htab.trans rfl) ps_nil (by decide) (by decide) cl_L_13 ca_IllegalArgument g1 g2 g3 rfl ?_
      refine lv_astore_n (lv' := [(3, .ref q4), (0, .ref (ga Γ 0 0)), (1, .int x2), (2, .ref (ga Γ 180 0))]) hx hb dL_shapes_12 rfl hl (by decide) rfl (fun ls hl => ?_)
      refine lv_iconst (v := 1) hx hb dL_shapes_13 (by decide) ?_
      exact q_eiret hf hx hb hr rfl hk hw dL_shapes_14 (Nat.le_of_ble_eq_true rfl) (Nat.le_of_ble_eq_true rfl)
    · exact nomatch hf
  refine lv_i2l hx hb dL_shapes_7 rfl ?_
  refine q_last0 hx hb hK hw hf dL_shapes_8 (fun σ6 H locs hf hw => ?_)
  refine lv_goto (tgt := 15) hx hb dL_shapes_9 (by decide) ?_
  refine lv_iconst (v := 0) hx hb dL_shapes_15 (by decide) ?_
  exact q_eiret hf hx hb hr rfl hk hw dL_shapes_16 (Nat.le_of_ble_eq_true rfl) (Nat.le_of_ble_eq_true rfl)
set_option maxRecDepth 100000 in
theorem kL_sees {Γ : Gm} {l : Launch} (hfl : l.stackTraces = false) {N : Nat} {σ τ : St} {x2 : Int32} {x3 : Int32} {r : Int32}  (hf : fL_sees N σ x2 x3 = some (r, τ)) : CW Γ STR l yL_sees cL_sees 5 (some (.int)) hL_sees 10 147 1 6 [.ref (ga Γ 0 0), .int x2, .int x3, .ref (ga Γ 180 0)] (some (.int r)) σ τ := by
  unfold fL_sees at hf
  refine cw_body (lv := [(0, .ref (ga Γ 0 0)), (1, .int x2), (2, .int x3), (3, .ref (ga Γ 180 0))]) (by decide +kernel) rfl (Nat.le_of_ble_eq_true rfl) ?_
  intro p e s m below meth c ls X hr hk hK hw hl htab
  have hx := X.1
  have hb := X.2.1
  have hown := X.2.2.2
  refine lv_aload_n hx hb dL_sees_0 rfl (lv_at hl 3 rfl) ?_
  refine lv_iconst (v := 0) hx hb dL_sees_1 (by decide) ?_
  refine lv_aload_n hx hb dL_sees_2 rfl (lv_at hl 0 rfl) ?_
  refine lv_iload_n hx hb dL_sees_3 rfl (lv_at hl 1 rfl) ?_
  refine lv_iload_n hx hb dL_sees_4 rfl (lv_at hl 2 rfl) ?_
  refine q_hg (rs1 := rsI) (f := fun v => some (.int v)) (fun _ _ => rfl) (fun _ _ => rfl) hf hw (fun u h => q_rxV (As := [.int x2, .int x3]) (rest := [.int (0 : Int32), .ref (ga Γ 180 0)]) (q := (RX7, TX7, 5)) X hK hw rfl (Nat.le_of_ble_eq_true rfl : 0 < cnt (gn Γ) 0) (rfl : vwCl[9]? = _) (kX7_sees hfl h) mvX7_sees lk_L_82 ⟨Nat.le_of_ble_eq_true rfl, Nat.le_of_ble_eq_true rfl⟩ rfl hl.1 rfl (Nat.le_of_ble_eq_true rfl) dL_sees_5 ⟨Nat.le_of_ble_eq_true rfl, Nat.le_of_ble_eq_true rfl⟩) (fun E5 σ3 ce q4 H locs hf hw g1 g2 g3 => ?_) (fun v1 σ2 H locs hf hw => ?_)
  · refine q_ch hf (fun hE hf => ?_) (fun hf => ?_)
    · subst hE
      refine q_catch (tgt := 20) X hK [] ⟨0, 17, 20, 13⟩ [] (htab.trans rfl) ps_nil (by decide) (by decide) cl_L_13 ca_IllegalArgument g1 g2 g3 rfl ?_
      refine lv_astore (lv' := [(4, .ref q4), (0, .ref (ga Γ 0 0)), (1, .int x2), (2, .int x3), (3, .ref (ga Γ 180 0))]) hx hb dL_sees_20 hl (by decide) rfl (fun ls hl => ?_)
      refine lv_iconst (v := 1) hx hb dL_sees_22 (by decide) ?_
      exact q_eiret hf hx hb hr rfl hk hw dL_sees_23 (Nat.le_of_ble_eq_true rfl) (Nat.le_of_ble_eq_true rfl)
    · exact nomatch hf
  refine q_if_eq (tgt := 15) hx hb hf dL_sees_8 (by decide) (fun hf => ?_) (fun hf => ?_)
  · refine lv_lconst (v := 0) hx hb dL_sees_15 rfl ?_
    refine q_last0 hx hb hK hw hf dL_sees_16 (fun σ6 H locs hf hw => ?_)
    refine lv_goto (tgt := 24) hx hb dL_sees_17 (by decide) ?_
    refine lv_iconst (v := 0) hx hb dL_sees_24 (by decide) ?_
    exact q_eiret hf hx hb hr rfl hk hw dL_sees_25 (Nat.le_of_ble_eq_true rfl) (Nat.le_of_ble_eq_true rfl)
  refine lv_lconst (v := 1) hx hb dL_sees_11 rfl ?_
  refine lv_goto (tgt := 16) hx hb dL_sees_12 (by decide) ?_
  refine q_last0 hx hb hK hw hf dL_sees_16 (fun σ7 H locs hf hw => ?_)
  refine lv_goto (tgt := 24) hx hb dL_sees_17 (by decide) ?_
  refine lv_iconst (v := 0) hx hb dL_sees_24 (by decide) ?_
  exact q_eiret hf hx hb hr rfl hk hw dL_sees_25 (Nat.le_of_ble_eq_true rfl) (Nat.le_of_ble_eq_true rfl)
set_option maxRecDepth 100000 in
theorem kL_columnOf {Γ : Gm} {l : Launch} (hfl : l.stackTraces = false) {N : Nat} {σ τ : St} {x2 : Int32} {x3 : Int32} {r : Int32}  (hf : fL_columnOf N σ x2 x3 = some (r, τ)) : CW Γ STR l yL_columnOf cL_columnOf 5 (some (.int)) hL_columnOf 11 170 2 12 [.ref (ga Γ 0 0), .int x2, .int x3, .ref (ga Γ 180 0)] (some (.int r)) σ τ := by
  unfold fL_columnOf at hf
  refine cw_body (lv := [(0, .ref (ga Γ 0 0)), (1, .int x2), (2, .int x3), (3, .ref (ga Γ 180 0))]) (by decide +kernel) rfl (Nat.le_of_ble_eq_true rfl) ?_
  intro p e s m below meth c ls X hr hk hK hw hl htab
  have hx := X.1
  have hb := X.2.1
  have hown := X.2.2.2
  refine lv_aload_n hx hb dL_columnOf_0 rfl (lv_at hl 3 rfl) ?_
  refine lv_iconst (v := 0) hx hb dL_columnOf_1 (by decide) ?_
  refine lv_aload_n hx hb dL_columnOf_2 rfl (lv_at hl 0 rfl) ?_
  refine lv_iload_n hx hb dL_columnOf_3 rfl (lv_at hl 1 rfl) ?_
  refine lv_iload_n hx hb dL_columnOf_4 rfl (lv_at hl 2 rfl) ?_
  refine q_hg (rs1 := rsI) (f := fun v => some (.int v)) (fun _ _ => rfl) (fun _ _ => rfl) hf hw (fun u h => q_rxV (As := [.int x2, .int x3]) (rest := [.int (0 : Int32), .ref (ga Γ 180 0)]) (q := (RX7, TX7, 5)) X hK hw rfl (Nat.le_of_ble_eq_true rfl : 0 < cnt (gn Γ) 0) (rfl : vwCl[9]? = _) (kX7_columnOf hfl h) mvX7_columnOf lk_L_85 ⟨Nat.le_of_ble_eq_true rfl, Nat.le_of_ble_eq_true rfl⟩ rfl hl.1 rfl (Nat.le_of_ble_eq_true rfl) dL_columnOf_5 ⟨Nat.le_of_ble_eq_true rfl, Nat.le_of_ble_eq_true rfl⟩) (fun E5 σ3 ce q4 H locs hf hw g1 g2 g3 => ?_) (fun v1 σ2 H locs hf hw => ?_)
  · refine q_ch hf (fun hE hf => ?_) (fun hf => ?_)
    · subst hE
      refine q_catch (tgt := 13) X hK [] ⟨0, 10, 13, 13⟩ [⟨0, 10, 17, 21⟩] (htab.trans rfl) ps_nil (by decide) (by decide) cl_L_13 ca_IllegalArgument g1 g2 g3 rfl ?_
      refine lv_astore (lv' := [(4, .ref q4), (0, .ref (ga Γ 0 0)), (1, .int x2), (2, .int x3), (3, .ref (ga Γ 180 0))]) hx hb dL_columnOf_13 hl (by decide) rfl (fun ls hl => ?_)
      refine lv_iconst (v := 1) hx hb dL_columnOf_15 (by decide) ?_
      exact q_eiret hf hx hb hr rfl hk hw dL_columnOf_16 (Nat.le_of_ble_eq_true rfl) (Nat.le_of_ble_eq_true rfl)
    · refine q_ch hf (fun hE hf => ?_) (fun hf => ?_)
      · subst hE
        refine q_catch (tgt := 17) X hK [⟨0, 10, 13, 13⟩] ⟨0, 10, 17, 21⟩ [] (htab.trans rfl) (ps_cons hK (by decide) cl_L_13 (List.mem_of_getElem? (i := 10) rfl) ps_nil) (by decide) (by decide) cl_L_21 ca_NoSuchElement g1 g2 g3 rfl ?_
        refine lv_astore (lv' := [(4, .ref q4), (0, .ref (ga Γ 0 0)), (1, .int x2), (2, .int x3), (3, .ref (ga Γ 180 0))]) hx hb dL_columnOf_17 hl (by decide) rfl (fun ls hl => ?_)
        refine lv_iconst (v := 2) hx hb dL_columnOf_19 (by decide) ?_
        exact q_eiret hf hx hb hr rfl hk hw dL_columnOf_20 (Nat.le_of_ble_eq_true rfl) (Nat.le_of_ble_eq_true rfl)
      · exact nomatch hf
  refine lv_i2l hx hb dL_columnOf_8 rfl ?_
  refine q_last0 hx hb hK hw hf dL_columnOf_9 (fun σ6 H locs hf hw => ?_)
  refine lv_goto (tgt := 21) hx hb dL_columnOf_10 (by decide) ?_
  refine lv_iconst (v := 0) hx hb dL_columnOf_21 (by decide) ?_
  exact q_eiret hf hx hb hr rfl hk hw dL_columnOf_22 (Nat.le_of_ble_eq_true rfl) (Nat.le_of_ble_eq_true rfl)
set_option maxRecDepth 100000 in
theorem kL_rowOf {Γ : Gm} {l : Launch} (hfl : l.stackTraces = false) {N : Nat} {σ τ : St} {x2 : Int32} {x3 : Int32} {r : Int32}  (hf : fL_rowOf N σ x2 x3 = some (r, τ)) : CW Γ STR l yL_rowOf cL_rowOf 5 (some (.int)) hL_rowOf 11 170 2 12 [.ref (ga Γ 0 0), .int x2, .int x3, .ref (ga Γ 180 0)] (some (.int r)) σ τ := by
  unfold fL_rowOf at hf
  refine cw_body (lv := [(0, .ref (ga Γ 0 0)), (1, .int x2), (2, .int x3), (3, .ref (ga Γ 180 0))]) (by decide +kernel) rfl (Nat.le_of_ble_eq_true rfl) ?_
  intro p e s m below meth c ls X hr hk hK hw hl htab
  have hx := X.1
  have hb := X.2.1
  have hown := X.2.2.2
  refine lv_aload_n hx hb dL_rowOf_0 rfl (lv_at hl 3 rfl) ?_
  refine lv_iconst (v := 0) hx hb dL_rowOf_1 (by decide) ?_
  refine lv_aload_n hx hb dL_rowOf_2 rfl (lv_at hl 0 rfl) ?_
  refine lv_iload_n hx hb dL_rowOf_3 rfl (lv_at hl 1 rfl) ?_
  refine lv_iload_n hx hb dL_rowOf_4 rfl (lv_at hl 2 rfl) ?_
  refine q_hg (rs1 := rsI) (f := fun v => some (.int v)) (fun _ _ => rfl) (fun _ _ => rfl) hf hw (fun u h => q_rxV (As := [.int x2, .int x3]) (rest := [.int (0 : Int32), .ref (ga Γ 180 0)]) (q := (RX7, TX7, 5)) X hK hw rfl (Nat.le_of_ble_eq_true rfl : 0 < cnt (gn Γ) 0) (rfl : vwCl[9]? = _) (kX7_rowOf hfl h) mvX7_rowOf lk_L_88 ⟨Nat.le_of_ble_eq_true rfl, Nat.le_of_ble_eq_true rfl⟩ rfl hl.1 rfl (Nat.le_of_ble_eq_true rfl) dL_rowOf_5 ⟨Nat.le_of_ble_eq_true rfl, Nat.le_of_ble_eq_true rfl⟩) (fun E5 σ3 ce q4 H locs hf hw g1 g2 g3 => ?_) (fun v1 σ2 H locs hf hw => ?_)
  · refine q_ch hf (fun hE hf => ?_) (fun hf => ?_)
    · subst hE
      refine q_catch (tgt := 13) X hK [] ⟨0, 10, 13, 13⟩ [⟨0, 10, 17, 21⟩] (htab.trans rfl) ps_nil (by decide) (by decide) cl_L_13 ca_IllegalArgument g1 g2 g3 rfl ?_
      refine lv_astore (lv' := [(4, .ref q4), (0, .ref (ga Γ 0 0)), (1, .int x2), (2, .int x3), (3, .ref (ga Γ 180 0))]) hx hb dL_rowOf_13 hl (by decide) rfl (fun ls hl => ?_)
      refine lv_iconst (v := 1) hx hb dL_rowOf_15 (by decide) ?_
      exact q_eiret hf hx hb hr rfl hk hw dL_rowOf_16 (Nat.le_of_ble_eq_true rfl) (Nat.le_of_ble_eq_true rfl)
    · refine q_ch hf (fun hE hf => ?_) (fun hf => ?_)
      · subst hE
        refine q_catch (tgt := 17) X hK [⟨0, 10, 13, 13⟩] ⟨0, 10, 17, 21⟩ [] (htab.trans rfl) (ps_cons hK (by decide) cl_L_13 (List.mem_of_getElem? (i := 10) rfl) ps_nil) (by decide) (by decide) cl_L_21 ca_NoSuchElement g1 g2 g3 rfl ?_
        refine lv_astore (lv' := [(4, .ref q4), (0, .ref (ga Γ 0 0)), (1, .int x2), (2, .int x3), (3, .ref (ga Γ 180 0))]) hx hb dL_rowOf_17 hl (by decide) rfl (fun ls hl => ?_)
        refine lv_iconst (v := 2) hx hb dL_rowOf_19 (by decide) ?_
        exact q_eiret hf hx hb hr rfl hk hw dL_rowOf_20 (Nat.le_of_ble_eq_true rfl) (Nat.le_of_ble_eq_true rfl)
      · exact nomatch hf
  refine lv_i2l hx hb dL_rowOf_8 rfl ?_
  refine q_last0 hx hb hK hw hf dL_rowOf_9 (fun σ6 H locs hf hw => ?_)
  refine lv_goto (tgt := 21) hx hb dL_rowOf_10 (by decide) ?_
  refine lv_iconst (v := 0) hx hb dL_rowOf_21 (by decide) ?_
  exact q_eiret hf hx hb hr rfl hk hw dL_rowOf_22 (Nat.le_of_ble_eq_true rfl) (Nat.le_of_ble_eq_true rfl)
set_option maxRecDepth 100000 in
theorem kL_rankOf {Γ : Gm} {l : Launch} (hfl : l.stackTraces = false) {N : Nat} {σ τ : St} {x2 : Int32} {x3 : Int32} {r : Int32}  (hf : fL_rankOf N σ x2 x3 = some (r, τ)) : CW Γ STR l yL_rankOf cL_rankOf 5 (some (.int)) hL_rankOf 11 170 2 12 [.ref (ga Γ 0 0), .int x2, .int x3, .ref (ga Γ 180 0)] (some (.int r)) σ τ := by
  unfold fL_rankOf at hf
  refine cw_body (lv := [(0, .ref (ga Γ 0 0)), (1, .int x2), (2, .int x3), (3, .ref (ga Γ 180 0))]) (by decide +kernel) rfl (Nat.le_of_ble_eq_true rfl) ?_
  intro p e s m below meth c ls X hr hk hK hw hl htab
  have hx := X.1
  have hb := X.2.1
  have hown := X.2.2.2
  refine lv_aload_n hx hb dL_rankOf_0 rfl (lv_at hl 3 rfl) ?_
  refine lv_iconst (v := 0) hx hb dL_rankOf_1 (by decide) ?_
  refine lv_aload_n hx hb dL_rankOf_2 rfl (lv_at hl 0 rfl) ?_
  refine lv_iload_n hx hb dL_rankOf_3 rfl (lv_at hl 1 rfl) ?_
  refine lv_iload_n hx hb dL_rankOf_4 rfl (lv_at hl 2 rfl) ?_
  refine q_hg (rs1 := rsI) (f := fun v => some (.int v)) (fun _ _ => rfl) (fun _ _ => rfl) hf hw (fun u h => q_rxV (As := [.int x2, .int x3]) (rest := [.int (0 : Int32), .ref (ga Γ 180 0)]) (q := (RX7, TX7, 5)) X hK hw rfl (Nat.le_of_ble_eq_true rfl : 0 < cnt (gn Γ) 0) (rfl : vwCl[9]? = _) (kX7_rankOf hfl h) mvX7_rankOf lk_L_91 ⟨Nat.le_of_ble_eq_true rfl, Nat.le_of_ble_eq_true rfl⟩ rfl hl.1 rfl (Nat.le_of_ble_eq_true rfl) dL_rankOf_5 ⟨Nat.le_of_ble_eq_true rfl, Nat.le_of_ble_eq_true rfl⟩) (fun E5 σ3 ce q4 H locs hf hw g1 g2 g3 => ?_) (fun v1 σ2 H locs hf hw => ?_)
  · refine q_ch hf (fun hE hf => ?_) (fun hf => ?_)
    · subst hE
      refine q_catch (tgt := 13) X hK [] ⟨0, 10, 13, 13⟩ [⟨0, 10, 17, 21⟩] (htab.trans rfl) ps_nil (by decide) (by decide) cl_L_13 ca_IllegalArgument g1 g2 g3 rfl ?_
      refine lv_astore (lv' := [(4, .ref q4), (0, .ref (ga Γ 0 0)), (1, .int x2), (2, .int x3), (3, .ref (ga Γ 180 0))]) hx hb dL_rankOf_13 hl (by decide) rfl (fun ls hl => ?_)
      refine lv_iconst (v := 1) hx hb dL_rankOf_15 (by decide) ?_
      exact q_eiret hf hx hb hr rfl hk hw dL_rankOf_16 (Nat.le_of_ble_eq_true rfl) (Nat.le_of_ble_eq_true rfl)
    · refine q_ch hf (fun hE hf => ?_) (fun hf => ?_)
      · subst hE
        refine q_catch (tgt := 17) X hK [⟨0, 10, 13, 13⟩] ⟨0, 10, 17, 21⟩ [] (htab.trans rfl) (ps_cons hK (by decide) cl_L_13 (List.mem_of_getElem? (i := 10) rfl) ps_nil) (by decide) (by decide) cl_L_21 ca_NoSuchElement g1 g2 g3 rfl ?_
        refine lv_astore (lv' := [(4, .ref q4), (0, .ref (ga Γ 0 0)), (1, .int x2), (2, .int x3), (3, .ref (ga Γ 180 0))]) hx hb dL_rankOf_17 hl (by decide) rfl (fun ls hl => ?_)
        refine lv_iconst (v := 2) hx hb dL_rankOf_19 (by decide) ?_
        exact q_eiret hf hx hb hr rfl hk hw dL_rankOf_20 (Nat.le_of_ble_eq_true rfl) (Nat.le_of_ble_eq_true rfl)
      · exact nomatch hf
  refine lv_i2l hx hb dL_rankOf_8 rfl ?_
  refine q_last0 hx hb hK hw hf dL_rankOf_9 (fun σ6 H locs hf hw => ?_)
  refine lv_goto (tgt := 21) hx hb dL_rankOf_10 (by decide) ?_
  refine lv_iconst (v := 0) hx hb dL_rankOf_21 (by decide) ?_
  exact q_eiret hf hx hb hr rfl hk hw dL_rankOf_22 (Nat.le_of_ble_eq_true rfl) (Nat.le_of_ble_eq_true rfl)
set_option maxRecDepth 100000 in
theorem kL_shapeAt {Γ : Gm} {l : Launch} (hfl : l.stackTraces = false) {N : Nat} {σ τ : St} {x2 : Int32} {x3 : Int32} {r : Int32}  (hf : fL_shapeAt N σ x2 x3 = some (r, τ)) : CW Γ STR l yL_shapeAt cL_shapeAt 5 (some (.int)) hL_shapeAt 10 148 2 12 [.ref (ga Γ 0 0), .int x2, .int x3, .ref (ga Γ 180 0)] (some (.int r)) σ τ := by
  unfold fL_shapeAt at hf
  refine cw_body (lv := [(0, .ref (ga Γ 0 0)), (1, .int x2), (2, .int x3), (3, .ref (ga Γ 180 0))]) (by decide +kernel) rfl (Nat.le_of_ble_eq_true rfl) ?_
  intro p e s m below meth c ls X hr hk hK hw hl htab
  have hx := X.1
  have hb := X.2.1
  have hown := X.2.2.2
  refine lv_aload_n hx hb dL_shapeAt_0 rfl (lv_at hl 3 rfl) ?_
  refine lv_iconst (v := 0) hx hb dL_shapeAt_1 (by decide) ?_
  refine lv_aload_n hx hb dL_shapeAt_2 rfl (lv_at hl 0 rfl) ?_
  refine lv_iload_n hx hb dL_shapeAt_3 rfl (lv_at hl 1 rfl) ?_
  refine lv_iload_n hx hb dL_shapeAt_4 rfl (lv_at hl 2 rfl) ?_
  refine q_hg (rs1 := rsI) (f := fun v => some (.int v)) (fun _ _ => rfl) (fun _ _ => rfl) hf hw (fun u h => q_rxV (As := [.int x2, .int x3]) (rest := [.int (0 : Int32), .ref (ga Γ 180 0)]) (q := (RX7, TX7, 5)) X hK hw rfl (Nat.le_of_ble_eq_true rfl : 0 < cnt (gn Γ) 0) (rfl : vwCl[9]? = _) (kX7_shapeAt hfl h) mvX7_shapeAt lk_L_94 ⟨Nat.le_of_ble_eq_true rfl, Nat.le_of_ble_eq_true rfl⟩ rfl hl.1 rfl (Nat.le_of_ble_eq_true rfl) dL_shapeAt_5 ⟨Nat.le_of_ble_eq_true rfl, Nat.le_of_ble_eq_true rfl⟩) (fun E5 σ3 ce q4 H locs hf hw g1 g2 g3 => ?_) (fun v1 σ2 H locs hf hw => ?_)
  · refine q_ch hf (fun hE hf => ?_) (fun hf => ?_)
    · subst hE
      refine q_catch (tgt := 13) X hK [] ⟨0, 10, 13, 13⟩ [⟨0, 10, 17, 97⟩] (htab.trans rfl) ps_nil (by decide) (by decide) cl_L_13 ca_IllegalArgument g1 g2 g3 rfl ?_
      refine lv_astore (lv' := [(4, .ref q4), (0, .ref (ga Γ 0 0)), (1, .int x2), (2, .int x3), (3, .ref (ga Γ 180 0))]) hx hb dL_shapeAt_13 hl (by decide) rfl (fun ls hl => ?_)
      refine lv_iconst (v := 1) hx hb dL_shapeAt_15 (by decide) ?_
      exact q_eiret hf hx hb hr rfl hk hw dL_shapeAt_16 (Nat.le_of_ble_eq_true rfl) (Nat.le_of_ble_eq_true rfl)
    · refine q_ch hf (fun hE hf => ?_) (fun hf => ?_)
      · subst hE
        refine q_catch (tgt := 17) X hK [⟨0, 10, 13, 13⟩] ⟨0, 10, 17, 97⟩ [] (htab.trans rfl) (ps_cons hK (by decide) cl_L_13 (List.mem_of_getElem? (i := 20) rfl) ps_nil) (by decide) (by decide) cl_L_97 ca_IndexOutOfBounds g1 g2 g3 rfl ?_
        refine lv_astore (lv' := [(4, .ref q4), (0, .ref (ga Γ 0 0)), (1, .int x2), (2, .int x3), (3, .ref (ga Γ 180 0))]) hx hb dL_shapeAt_17 hl (by decide) rfl (fun ls hl => ?_)
        refine lv_iconst (v := 2) hx hb dL_shapeAt_19 (by decide) ?_
        exact q_eiret hf hx hb hr rfl hk hw dL_shapeAt_20 (Nat.le_of_ble_eq_true rfl) (Nat.le_of_ble_eq_true rfl)
      · exact nomatch hf
  refine lv_i2l hx hb dL_shapeAt_8 rfl ?_
  refine q_last0 hx hb hK hw hf dL_shapeAt_9 (fun σ6 H locs hf hw => ?_)
  refine lv_goto (tgt := 21) hx hb dL_shapeAt_10 (by decide) ?_
  refine lv_iconst (v := 0) hx hb dL_shapeAt_21 (by decide) ?_
  exact q_eiret hf hx hb hr rfl hk hw dL_shapeAt_22 (Nat.le_of_ble_eq_true rfl) (Nat.le_of_ble_eq_true rfl)
set_option maxRecDepth 100000 in
theorem kL_keyOf {Γ : Gm} {l : Launch} (hfl : l.stackTraces = false) {N : Nat} {σ τ : St} {x2 : Int32} {x3 : Int32} {r : Int32}  (hf : fL_keyOf N σ x2 x3 = some (r, τ)) : CW Γ STR l yL_keyOf cL_keyOf 5 (some (.int)) hL_keyOf 11 170 2 12 [.ref (ga Γ 0 0), .int x2, .int x3, .ref (ga Γ 181 0)] (some (.int r)) σ τ := by
  unfold fL_keyOf at hf
  refine cw_body (lv := [(0, .ref (ga Γ 0 0)), (1, .int x2), (2, .int x3), (3, .ref (ga Γ 181 0))]) (by decide +kernel) rfl (Nat.le_of_ble_eq_true rfl) ?_
  intro p e s m below meth c ls X hr hk hK hw hl htab
  have hx := X.1
  have hb := X.2.1
  have hown := X.2.2.2
  refine lv_aload_n hx hb dL_keyOf_0 rfl (lv_at hl 3 rfl) ?_
  refine lv_iconst (v := 0) hx hb dL_keyOf_1 (by decide) ?_
  refine lv_aload_n hx hb dL_keyOf_2 rfl (lv_at hl 0 rfl) ?_
  refine lv_iload_n hx hb dL_keyOf_3 rfl (lv_at hl 1 rfl) ?_
  refine lv_iload_n hx hb dL_keyOf_4 rfl (lv_at hl 2 rfl) ?_
  refine q_hg (rs1 := rsF) (f := fun v => some (.float v)) (fun _ _ => rfl) (fun _ _ => rfl) hf hw (fun u h => q_rxV (As := [.int x2, .int x3]) (rest := [.int (0 : Int32), .ref (ga Γ 181 0)]) (q := (RX7, TX7, 5)) X hK hw rfl (Nat.le_of_ble_eq_true rfl : 0 < cnt (gn Γ) 0) (rfl : vwCl[9]? = _) (kX7_keyOf hfl h) mvX7_keyOf lk_L_99 ⟨Nat.le_of_ble_eq_true rfl, Nat.le_of_ble_eq_true rfl⟩ rfl hl.1 rfl (Nat.le_of_ble_eq_true rfl) dL_keyOf_5 ⟨Nat.le_of_ble_eq_true rfl, Nat.le_of_ble_eq_true rfl⟩) (fun E5 σ3 ce q4 H locs hf hw g1 g2 g3 => ?_) (fun v1 σ2 H locs hf hw => ?_)
  · refine q_ch hf (fun hE hf => ?_) (fun hf => ?_)
    · subst hE
      refine q_catch (tgt := 13) X hK [] ⟨0, 10, 13, 13⟩ [⟨0, 10, 17, 21⟩] (htab.trans rfl) ps_nil (by decide) (by decide) cl_L_13 ca_IllegalArgument g1 g2 g3 rfl ?_
      refine lv_astore (lv' := [(4, .ref q4), (0, .ref (ga Γ 0 0)), (1, .int x2), (2, .int x3), (3, .ref (ga Γ 181 0))]) hx hb dL_keyOf_13 hl (by decide) rfl (fun ls hl => ?_)
      refine lv_iconst (v := 1) hx hb dL_keyOf_15 (by decide) ?_
      exact q_eiret hf hx hb hr rfl hk hw dL_keyOf_16 (Nat.le_of_ble_eq_true rfl) (Nat.le_of_ble_eq_true rfl)
    · refine q_ch hf (fun hE hf => ?_) (fun hf => ?_)
      · subst hE
        refine q_catch (tgt := 17) X hK [⟨0, 10, 13, 13⟩] ⟨0, 10, 17, 21⟩ [] (htab.trans rfl) (ps_cons hK (by decide) cl_L_13 (List.mem_of_getElem? (i := 10) rfl) ps_nil) (by decide) (by decide) cl_L_21 ca_NoSuchElement g1 g2 g3 rfl ?_
        refine lv_astore (lv' := [(4, .ref q4), (0, .ref (ga Γ 0 0)), (1, .int x2), (2, .int x3), (3, .ref (ga Γ 181 0))]) hx hb dL_keyOf_17 hl (by decide) rfl (fun ls hl => ?_)
        refine lv_iconst (v := 2) hx hb dL_keyOf_19 (by decide) ?_
        exact q_eiret hf hx hb hr rfl hk hw dL_keyOf_20 (Nat.le_of_ble_eq_true rfl) (Nat.le_of_ble_eq_true rfl)
      · exact nomatch hf
  refine q_f2d hx hb hf dL_keyOf_8 (fun hf => ?_)
  refine q_dast0 hx hb hK hw hf dL_keyOf_9 (fun σ6 H locs hf hw => ?_)
  refine lv_goto (tgt := 21) hx hb dL_keyOf_10 (by decide) ?_
  refine lv_iconst (v := 0) hx hb dL_keyOf_21 (by decide) ?_
  exact q_eiret hf hx hb hr rfl hk hw dL_keyOf_22 (Nat.le_of_ble_eq_true rfl) (Nat.le_of_ble_eq_true rfl)
