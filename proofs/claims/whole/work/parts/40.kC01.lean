/-! Contracts, by program. -/
set_option maxRecDepth 100000 in
theorem kX8_makes {Γ : Gm} {S : List (String × Nat × String)} {l : Launch} {N : Nat} {σ τ : St} {x1 : Int32} {x2 : Int32}  (hf : fX8_makes N σ x1 x2 = some τ) : CT Γ S l yX8_makes cX8_makes 5 none 3 66 0 0 [.ref (ga Γ 8 0), .int x1, .int x2] none σ τ := by
  unfold fX8_makes at hf
  refine ct_body (lv := [(0, .ref (ga Γ 8 0)), (1, .int x1), (2, .int x2)]) (by decide +kernel) rfl (Nat.le_of_ble_eq_true rfl) ?_
  intro p e s m below meth c ls X hr hk hK hw hl
  have hx := X.1
  have hb := X.2.1
  have hown := X.2.2.2
  refine lv_iconst (v := 0) hx hb dX8_makes_0 (by decide) ?_
  refine lv_istore_n (lv' := [(3, .int (0 : Int32)), (0, .ref (ga Γ 8 0)), (1, .int x1), (2, .int x2)]) hx hb dX8_makes_1 rfl hl (by decide) rfl (fun ls hl => ?_)
  refine lv_iconst (v := 0) hx hb dX8_makes_2 (by decide) ?_
  refine lv_istore (lv' := [(4, .int (0 : Int32)), (3, .int (0 : Int32)), (0, .ref (ga Γ 8 0)), (1, .int x1), (2, .int x2)]) hx hb dX8_makes_3 hl (by decide) rfl (fun ls hl => ?_)
  have L5 : ∀ (K : Int32 → Int32 → Option (St)) (hkk : ∀ (y3 : Int32) (y4 : Int32) (H : Heap) (locs : List Loc) (ls : Array Slot), K y3 y4 = some τ → Sit Γ σ s H locs → lv_has ls 5 [(0, .ref (ga Γ 8 0)), (1, .int x1), (2, .int x2), (3, .int y3)] → W p l e { frames := 3, cells := 0, slots := 0, locals := 66 } s m [.ref (ga Γ 8 0), .int x1, .int x2].toArray below meth c H locs 0 0 (MQ below (Qg Γ (none) τ (AA Γ s.heap.size)) [.ref (ga Γ 8 0), .int x1, .int x2].toArray s 0 0 (AA Γ s.heap.size)) (F0 m 48 ls [])) (n : Nat) (v1 : Int32) (v2 : Int32) (H : Heap) (locs : List Loc) (ls : Array Slot), fX8_makes_L5 K N σ x1 n v1 v2 = some τ → Sit Γ σ s H locs → lv_has ls 5 [(0, .ref (ga Γ 8 0)), (1, .int x1), (2, .int x2), (3, .int v1), (4, .int v2)] → W p l e { frames := 3, cells := 0, slots := 0, locals := 66 } s m [.ref (ga Γ 8 0), .int x1, .int x2].toArray below meth c H locs 0 0 (MQ below (Qg Γ (none) τ (AA Γ s.heap.size)) [.ref (ga Γ 8 0), .int x1, .int x2].toArray s 0 0 (AA Γ s.heap.size)) (F0 m 5 ls []) := by
    intro K hkk n
    induction n with
    | zero =>
      intro _ _ _ _ _ hf
      exact nomatch hf
    | succ n ih =>
      intro v1 v2 H locs ls hf hw hl
      refine lv_iload hx hb dX8_makes_5 (lv_at hl 4 rfl) ?_
      refine lv_aload_n hx hb dX8_makes_7 rfl (lv_at hl 0 rfl) ?_
      refine q_get (v := .int (gI σ 8 0 20)) hx hb hK hw hown in_X8 ins_X8 (rfl : vwCl[10]? = some (RX8, TX8, 32)) rfl (Nat.le_of_ble_eq_true rfl : 0 < cnt (gn Γ) 8) 20 (by decide) 1374 fl_X8_108 rfl rfl dX8_makes_8 ?_
      refine q_ic_ge (tgt := 48) hx hb hf dX8_makes_11 (by decide) (fun hf => ?_) (fun hf => ?_)
      · exact hkk _ _ _ _ _ hf hw (lv_sub hl [0, 1, 2, 3] rfl)
      refine lv_aload_n hx hb dX8_makes_14 rfl (lv_at hl 0 rfl) ?_
      refine q_get (v := .ref (ga Γ 156 0)) hx hb hK hw hown in_X8 ins_X8 (rfl : vwCl[10]? = some (RX8, TX8, 32)) rfl (Nat.le_of_ble_eq_true rfl : 0 < cnt (gn Γ) 8) 19 (by decide) 1373 fl_X8_64 rfl rfl dX8_makes_15 ?_
      refine lv_iload_n hx hb dX8_makes_18 rfl (lv_at hl 1 rfl) ?_
      have ho_b3 := inb_lt (ck_t hf).1
      refine q_aalB hx hb hK hw (k := 156) (o := 0) (fun _ _ _ => rfl) (Nat.le_of_ble_eq_true rfl : 0 < cnt (gn Γ) 156) hf dX8_makes_19 (fun hf => ?_)
      refine lv_iload hx hb dX8_makes_20 (lv_at hl 4 rfl) ?_
      refine q_zald hx hb hK hw (k := 165) (o := (Int32.toNatClampNeg x1)) (fun _ _ _ => rfl) ho_b3 hf dX8_makes_22 (fun hf => ?_)
      refine q_if_eq (tgt := 40) hx hb hf dX8_makes_23 (by decide) (fun hf => ?_) (fun hf => ?_)
      · refine lv_iload_n hx hb dX8_makes_40 rfl (lv_at hl 3 rfl) ?_
        refine lv_istore_n (lv' := [(3, .int v1), (0, .ref (ga Γ 8 0)), (1, .int x1), (2, .int x2), (4, .int v2)]) hx hb dX8_makes_41 rfl hl (by decide) rfl (fun ls hl => ?_)
        refine q_iinc (lv1 := [(3, .int v1), (0, .ref (ga Γ 8 0)), (1, .int x1), (2, .int x2)]) (d := 1) hx hb hf dX8_makes_42 hl (k := 4) rfl (by decide) (by decide) rfl (fun v4 ls hf hl => ?_)
        refine lv_goto (tgt := 5) hx hb dX8_makes_45 (by decide) ?_
        exact ih _ _ _ _ _ hf hw (lv_sub hl [2, 3, 4, 1, 0] rfl)
      refine lv_iload_n hx hb dX8_makes_26 rfl (lv_at hl 3 rfl) ?_
      refine lv_aload_n hx hb dX8_makes_27 rfl (lv_at hl 0 rfl) ?_
      refine q_get (v := .ref (ga Γ 148 0)) hx hb hK hw hown in_X8 ins_X8 (rfl : vwCl[10]? = some (RX8, TX8, 32)) rfl (Nat.le_of_ble_eq_true rfl : 0 < cnt (gn Γ) 8) 11 (by decide) 1365 fl_X8_36 rfl rfl dX8_makes_28 ?_
      refine lv_iload hx hb dX8_makes_31 (lv_at hl 4 rfl) ?_
      refine q_iald hx hb hK hw (k := 148) (o := 0) (fun _ _ _ => rfl) (Nat.le_of_ble_eq_true rfl : 0 < cnt (gn Γ) 148) hf dX8_makes_33 (fun hf => ?_)
      refine q_mmax X hK hl.1 lk_X8_155 jm_max ⟨Nat.le_of_ble_eq_true rfl, Nat.le_of_ble_eq_true rfl⟩ ⟨Nat.le_of_ble_eq_true rfl, Nat.le_of_ble_eq_true rfl⟩ dX8_makes_34 ?_
      refine lv_goto (tgt := 41) hx hb dX8_makes_37 (by decide) ?_
      refine q_istore_n (lv1 := [(0, .ref (ga Γ 8 0)), (1, .int x1), (2, .int x2), (4, .int v2)]) hx hb hf dX8_makes_41 rfl hl (by decide) rfl (fun v5 ls hf hl => ?_)
      refine q_iinc (lv1 := [(3, .int v5), (0, .ref (ga Γ 8 0)), (1, .int x1), (2, .int x2)]) (d := 1) hx hb hf dX8_makes_42 hl (k := 4) rfl (by decide) (by decide) rfl (fun v6 ls hf hl => ?_)
      refine lv_goto (tgt := 5) hx hb dX8_makes_45 (by decide) ?_
      exact ih _ _ _ _ _ hf hw (lv_sub hl [2, 3, 4, 1, 0] rfl)
  refine L5 _ (fun v7 _ H locs ls hf hw hl => ?_) N (0 : Int32) (0 : Int32) _ _ _ hf hw (lv_sub hl [2, 3, 4, 1, 0] rfl)
  refine lv_aload_n hx hb dX8_makes_48 rfl (lv_at hl 0 rfl) ?_
  refine q_get (v := .ref (ga Γ 147 0)) hx hb hK hw hown in_X8 ins_X8 (rfl : vwCl[10]? = some (RX8, TX8, 32)) rfl (Nat.le_of_ble_eq_true rfl : 0 < cnt (gn Γ) 8) 10 (by decide) 1364 fl_X8_33 rfl rfl dX8_makes_49 ?_
  refine lv_aload_n hx hb dX8_makes_52 rfl (lv_at hl 0 rfl) ?_
  refine q_get (v := .int (gI σ 8 0 20)) hx hb hK hw hown in_X8 ins_X8 (rfl : vwCl[10]? = some (RX8, TX8, 32)) rfl (Nat.le_of_ble_eq_true rfl : 0 < cnt (gn Γ) 8) 20 (by decide) 1374 fl_X8_108 rfl rfl dX8_makes_53 ?_
  refine lv_iload_n hx hb dX8_makes_56 rfl (lv_at hl 1 rfl) ?_
  refine q_iast hx hb hK hw (k := 147) (o := 0) (fun _ _ _ => rfl) (Nat.le_of_ble_eq_true rfl : 0 < cnt (gn Γ) 147) hf dX8_makes_57 (fun σ8 H locs hf hw => ?_)
  refine lv_aload_n hx hb dX8_makes_58 rfl (lv_at hl 0 rfl) ?_
  refine q_get (v := .ref (ga Γ 148 0)) hx hb hK hw hown in_X8 ins_X8 (rfl : vwCl[10]? = some (RX8, TX8, 32)) rfl (Nat.le_of_ble_eq_true rfl : 0 < cnt (gn Γ) 8) 11 (by decide) 1365 fl_X8_36 rfl rfl dX8_makes_59 ?_
  refine lv_aload_n hx hb dX8_makes_62 rfl (lv_at hl 0 rfl) ?_
  refine q_get (v := .int (gI σ8 8 0 20)) hx hb hK hw hown in_X8 ins_X8 (rfl : vwCl[10]? = some (RX8, TX8, 32)) rfl (Nat.le_of_ble_eq_true rfl : 0 < cnt (gn Γ) 8) 20 (by decide) 1374 fl_X8_108 rfl rfl dX8_makes_63 ?_
  refine lv_iload_n hx hb dX8_makes_66 rfl (lv_at hl 3 rfl) ?_
  refine lv_iconst (v := 1) hx hb dX8_makes_67 (by decide) ?_
  refine lv_iadd hx hb dX8_makes_68 ?_
  refine q_iast hx hb hK hw (k := 148) (o := 0) (fun _ _ _ => rfl) (Nat.le_of_ble_eq_true rfl : 0 < cnt (gn Γ) 148) hf dX8_makes_69 (fun σ9 H locs hf hw => ?_)
  refine lv_aload_n hx hb dX8_makes_70 rfl (lv_at hl 0 rfl) ?_
  refine q_get (v := .ref (ga Γ 149 0)) hx hb hK hw hown in_X8 ins_X8 (rfl : vwCl[10]? = some (RX8, TX8, 32)) rfl (Nat.le_of_ble_eq_true rfl : 0 < cnt (gn Γ) 8) 12 (by decide) 1366 fl_X8_39 rfl rfl dX8_makes_71 ?_
  refine lv_aload_n hx hb dX8_makes_74 rfl (lv_at hl 0 rfl) ?_
  refine q_get (v := .int (gI σ9 8 0 20)) hx hb hK hw hown in_X8 ins_X8 (rfl : vwCl[10]? = some (RX8, TX8, 32)) rfl (Nat.le_of_ble_eq_true rfl : 0 < cnt (gn Γ) 8) 20 (by decide) 1374 fl_X8_108 rfl rfl dX8_makes_75 ?_
  refine lv_aload_n hx hb dX8_makes_78 rfl (lv_at hl 0 rfl) ?_
  refine q_get (v := .int (gI σ9 8 0 27)) hx hb hK hw hown in_X8 ins_X8 (rfl : vwCl[10]? = some (RX8, TX8, 32)) rfl (Nat.le_of_ble_eq_true rfl : 0 < cnt (gn Γ) 8) 27 (by decide) 1381 fl_X8_148 rfl rfl dX8_makes_79 ?_
  refine q_iast hx hb hK hw (k := 149) (o := 0) (fun _ _ _ => rfl) (Nat.le_of_ble_eq_true rfl : 0 < cnt (gn Γ) 149) hf dX8_makes_82 (fun σ10 H locs hf hw => ?_)
  refine lv_aload_n hx hb dX8_makes_83 rfl (lv_at hl 0 rfl) ?_
  refine q_get (v := .ref (ga Γ 155 0)) hx hb hK hw hown in_X8 ins_X8 (rfl : vwCl[10]? = some (RX8, TX8, 32)) rfl (Nat.le_of_ble_eq_true rfl : 0 < cnt (gn Γ) 8) 18 (by decide) 1372 fl_X8_59 rfl rfl dX8_makes_84 ?_
  refine lv_aload_n hx hb dX8_makes_87 rfl (lv_at hl 0 rfl) ?_
  refine q_get (v := .int (gI σ10 8 0 20)) hx hb hK hw hown in_X8 ins_X8 (rfl : vwCl[10]? = some (RX8, TX8, 32)) rfl (Nat.le_of_ble_eq_true rfl : 0 < cnt (gn Γ) 8) 20 (by decide) 1374 fl_X8_108 rfl rfl dX8_makes_88 ?_
  refine lv_iload_n hx hb dX8_makes_91 rfl (lv_at hl 2 rfl) ?_
  refine q_zast hx hb hK hw (k := 155) (o := 0) (fun _ _ _ => rfl) (Nat.le_of_ble_eq_true rfl : 0 < cnt (gn Γ) 155) hf dX8_makes_92 (fun σ11 H locs hf hw => ?_)
  refine lv_aload_n hx hb dX8_makes_93 rfl (lv_at hl 0 rfl) ?_
  refine q_get (v := .ref (ga Γ 156 0)) hx hb hK hw hown in_X8 ins_X8 (rfl : vwCl[10]? = some (RX8, TX8, 32)) rfl (Nat.le_of_ble_eq_true rfl : 0 < cnt (gn Γ) 8) 19 (by decide) 1373 fl_X8_64 rfl rfl dX8_makes_94 ?_
  refine lv_iload_n hx hb dX8_makes_97 rfl (lv_at hl 1 rfl) ?_
  have ho_b12 := inb_lt (ck_t hf).1
  refine q_aalB hx hb hK hw (k := 156) (o := 0) (fun _ _ _ => rfl) (Nat.le_of_ble_eq_true rfl : 0 < cnt (gn Γ) 156) hf dX8_makes_98 (fun hf => ?_)
  refine lv_aload_n hx hb dX8_makes_99 rfl (lv_at hl 0 rfl) ?_
  refine q_get (v := .int (gI σ11 8 0 20)) hx hb hK hw hown in_X8 ins_X8 (rfl : vwCl[10]? = some (RX8, TX8, 32)) rfl (Nat.le_of_ble_eq_true rfl : 0 < cnt (gn Γ) 8) 20 (by decide) 1374 fl_X8_108 rfl rfl dX8_makes_100 ?_
  refine lv_iconst (v := 1) hx hb dX8_makes_103 (by decide) ?_
  refine q_zast hx hb hK hw (k := 165) (o := (Int32.toNatClampNeg x1)) (fun _ _ _ => rfl) ho_b12 hf dX8_makes_104 (fun σ13 H locs hf hw => ?_)
  refine lv_iconst (v := 0) hx hb dX8_makes_105 (by decide) ?_
  refine lv_istore (lv' := [(4, .int (0 : Int32)), (0, .ref (ga Γ 8 0)), (1, .int x1), (2, .int x2), (3, .int v7)]) hx hb dX8_makes_106 hl (by decide) rfl (fun ls hl => ?_)
  have L108 : ∀ (K : Int32 → St → Option (St)) (hkk : ∀ (y4 : Int32) (σq : St) (H : Heap) (locs : List Loc) (ls : Array Slot), K y4 σq = some τ → Sit Γ σq s H locs → lv_has ls 5 [(0, .ref (ga Γ 8 0)), (1, .int x1)] → W p l e { frames := 3, cells := 0, slots := 0, locals := 66 } s m [.ref (ga Γ 8 0), .int x1, .int x2].toArray below meth c H locs 0 0 (MQ below (Qg Γ (none) τ (AA Γ s.heap.size)) [.ref (ga Γ 8 0), .int x1, .int x2].toArray s 0 0 (AA Γ s.heap.size)) (F0 m 228 ls [])) (n : Nat) (v14 : Int32) (σ15 : St) (H : Heap) (locs : List Loc) (ls : Array Slot), fX8_makes_L108 K N n v14 σ15 = some τ → Sit Γ σ15 s H locs → lv_has ls 5 [(0, .ref (ga Γ 8 0)), (1, .int x1), (4, .int v14)] → W p l e { frames := 3, cells := 0, slots := 0, locals := 66 } s m [.ref (ga Γ 8 0), .int x1, .int x2].toArray below meth c H locs 0 0 (MQ below (Qg Γ (none) τ (AA Γ s.heap.size)) [.ref (ga Γ 8 0), .int x1, .int x2].toArray s 0 0 (AA Γ s.heap.size)) (F0 m 108 ls []) := by
    intro K hkk n
    induction n with
    | zero =>
      intro _ _ _ _ _ hf
      exact nomatch hf
    | succ n ih =>
      intro v14 σ15 H locs ls hf hw hl
      refine lv_iload hx hb dX8_makes_108 (lv_at hl 2 rfl) ?_
      refine lv_aload_n hx hb dX8_makes_110 rfl (lv_at hl 0 rfl) ?_
      refine q_get (v := .int (gI σ15 8 0 27)) hx hb hK hw hown in_X8 ins_X8 (rfl : vwCl[10]? = some (RX8, TX8, 32)) rfl (Nat.le_of_ble_eq_true rfl : 0 < cnt (gn Γ) 8) 27 (by decide) 1381 fl_X8_148 rfl rfl dX8_makes_111 ?_
      refine q_ic_ge (tgt := 228) hx hb hf dX8_makes_114 (by decide) (fun hf => ?_) (fun hf => ?_)
      · exact hkk _ _ _ _ _ hf hw (lv_sub hl [0, 1] rfl)
      refine lv_aload_n hx hb dX8_makes_117 rfl (lv_at hl 0 rfl) ?_
      refine q_get (v := .ref (ga Γ 150 0)) hx hb hK hw hown in_X8 ins_X8 (rfl : vwCl[10]? = some (RX8, TX8, 32)) rfl (Nat.le_of_ble_eq_true rfl : 0 < cnt (gn Γ) 8) 13 (by decide) 1367 fl_X8_44 rfl rfl dX8_makes_118 ?_
      refine lv_aload_n hx hb dX8_makes_121 rfl (lv_at hl 0 rfl) ?_
      refine q_get (v := .int (gI σ15 8 0 20)) hx hb hK hw hown in_X8 ins_X8 (rfl : vwCl[10]? = some (RX8, TX8, 32)) rfl (Nat.le_of_ble_eq_true rfl : 0 < cnt (gn Γ) 8) 20 (by decide) 1374 fl_X8_108 rfl rfl dX8_makes_122 ?_
      have ho_b16 := inb_lt (ck_t hf).1
      refine q_aalA hx hb hK hw (k := 150) (o := 0) (fun _ _ _ => rfl) (Nat.le_of_ble_eq_true rfl : 0 < cnt (gn Γ) 150) hf dX8_makes_125 (fun hf => ?_)
      refine lv_iload hx hb dX8_makes_126 (lv_at hl 2 rfl) ?_
      refine lv_aload_n hx hb dX8_makes_128 rfl (lv_at hl 0 rfl) ?_
      refine q_get (v := .ref (ga Γ 166 0)) hx hb hK hw hown in_X8 ins_X8 (rfl : vwCl[10]? = some (RX8, TX8, 32)) rfl (Nat.le_of_ble_eq_true rfl : 0 < cnt (gn Γ) 8) 24 (by decide) 1378 fl_X8_76 rfl rfl dX8_makes_129 ?_
      refine lv_iload hx hb dX8_makes_132 (lv_at hl 2 rfl) ?_
      refine q_iald hx hb hK hw (k := 166) (o := 0) (fun _ _ _ => rfl) (Nat.le_of_ble_eq_true rfl : 0 < cnt (gn Γ) 166) hf dX8_makes_134 (fun hf => ?_)
      refine q_iast hx hb hK hw (k := 160) (o := (Int32.toNatClampNeg (gI σ15 8 0 20))) (fun _ _ _ => rfl) ho_b16 hf dX8_makes_135 (fun σ17 H locs hf hw => ?_)
      refine lv_aload_n hx hb dX8_makes_136 rfl (lv_at hl 0 rfl) ?_
      refine q_get (v := .ref (ga Γ 151 0)) hx hb hK hw hown in_X8 ins_X8 (rfl : vwCl[10]? = some (RX8, TX8, 32)) rfl (Nat.le_of_ble_eq_true rfl : 0 < cnt (gn Γ) 8) 14 (by decide) 1368 fl_X8_47 rfl rfl dX8_makes_137 ?_
      refine lv_aload_n hx hb dX8_makes_140 rfl (lv_at hl 0 rfl) ?_
      refine q_get (v := .int (gI σ17 8 0 20)) hx hb hK hw hown in_X8 ins_X8 (rfl : vwCl[10]? = some (RX8, TX8, 32)) rfl (Nat.le_of_ble_eq_true rfl : 0 < cnt (gn Γ) 8) 20 (by decide) 1374 fl_X8_108 rfl rfl dX8_makes_141 ?_
      have ho_b18 := inb_lt (ck_t hf).1
      refine q_aalA hx hb hK hw (k := 151) (o := 0) (fun _ _ _ => rfl) (Nat.le_of_ble_eq_true rfl : 0 < cnt (gn Γ) 151) hf dX8_makes_144 (fun hf => ?_)
      refine lv_iload hx hb dX8_makes_145 (lv_at hl 2 rfl) ?_
      refine lv_aload_n hx hb dX8_makes_147 rfl (lv_at hl 0 rfl) ?_
      refine q_get (v := .ref (ga Γ 167 0)) hx hb hK hw hown in_X8 ins_X8 (rfl : vwCl[10]? = some (RX8, TX8, 32)) rfl (Nat.le_of_ble_eq_true rfl : 0 < cnt (gn Γ) 8) 25 (by decide) 1379 fl_X8_79 rfl rfl dX8_makes_148 ?_
      refine lv_iload hx hb dX8_makes_151 (lv_at hl 2 rfl) ?_
      refine q_iald hx hb hK hw (k := 167) (o := 0) (fun _ _ _ => rfl) (Nat.le_of_ble_eq_true rfl : 0 < cnt (gn Γ) 167) hf dX8_makes_153 (fun hf => ?_)
      refine q_iast hx hb hK hw (k := 161) (o := (Int32.toNatClampNeg (gI σ17 8 0 20))) (fun _ _ _ => rfl) ho_b18 hf dX8_makes_154 (fun σ19 H locs hf hw => ?_)
      refine lv_aload_n hx hb dX8_makes_155 rfl (lv_at hl 0 rfl) ?_
      refine q_get (v := .ref (ga Γ 152 0)) hx hb hK hw hown in_X8 ins_X8 (rfl : vwCl[10]? = some (RX8, TX8, 32)) rfl (Nat.le_of_ble_eq_true rfl : 0 < cnt (gn Γ) 8) 15 (by decide) 1369 fl_X8_50 rfl rfl dX8_makes_156 ?_
      refine lv_aload_n hx hb dX8_makes_159 rfl (lv_at hl 0 rfl) ?_
      refine q_get (v := .int (gI σ19 8 0 20)) hx hb hK hw hown in_X8 ins_X8 (rfl : vwCl[10]? = some (RX8, TX8, 32)) rfl (Nat.le_of_ble_eq_true rfl : 0 < cnt (gn Γ) 8) 20 (by decide) 1374 fl_X8_108 rfl rfl dX8_makes_160 ?_
      have ho_b20 := inb_lt (ck_t hf).1
      refine q_aalA hx hb hK hw (k := 152) (o := 0) (fun _ _ _ => rfl) (Nat.le_of_ble_eq_true rfl : 0 < cnt (gn Γ) 152) hf dX8_makes_163 (fun hf => ?_)
      refine lv_iload hx hb dX8_makes_164 (lv_at hl 2 rfl) ?_
      refine lv_aload_n hx hb dX8_makes_166 rfl (lv_at hl 0 rfl) ?_
      refine q_get (v := .ref (ga Γ 157 0)) hx hb hK hw hown in_X8 ins_X8 (rfl : vwCl[10]? = some (RX8, TX8, 32)) rfl (Nat.le_of_ble_eq_true rfl : 0 < cnt (gn Γ) 8) 21 (by decide) 1375 fl_X8_67 rfl rfl dX8_makes_167 ?_
      refine lv_aload_n hx hb dX8_makes_170 rfl (lv_at hl 0 rfl) ?_
      refine q_get (v := .ref (ga Γ 166 0)) hx hb hK hw hown in_X8 ins_X8 (rfl : vwCl[10]? = some (RX8, TX8, 32)) rfl (Nat.le_of_ble_eq_true rfl : 0 < cnt (gn Γ) 8) 24 (by decide) 1378 fl_X8_76 rfl rfl dX8_makes_171 ?_
      refine lv_iload hx hb dX8_makes_174 (lv_at hl 2 rfl) ?_
      refine q_iald hx hb hK hw (k := 166) (o := 0) (fun _ _ _ => rfl) (Nat.le_of_ble_eq_true rfl : 0 < cnt (gn Γ) 166) hf dX8_makes_176 (fun hf => ?_)
      refine q_iald hx hb hK hw (k := 157) (o := 0) (fun _ _ _ => rfl) (Nat.le_of_ble_eq_true rfl : 0 < cnt (gn Γ) 157) hf dX8_makes_177 (fun hf => ?_)
      refine q_iast hx hb hK hw (k := 162) (o := (Int32.toNatClampNeg (gI σ19 8 0 20))) (fun _ _ _ => rfl) ho_b20 hf dX8_makes_178 (fun σ21 H locs hf hw => ?_)
      refine lv_aload_n hx hb dX8_makes_179 rfl (lv_at hl 0 rfl) ?_
      refine q_get (v := .ref (ga Γ 153 0)) hx hb hK hw hown in_X8 ins_X8 (rfl : vwCl[10]? = some (RX8, TX8, 32)) rfl (Nat.le_of_ble_eq_true rfl : 0 < cnt (gn Γ) 8) 16 (by decide) 1370 fl_X8_53 rfl rfl dX8_makes_180 ?_
      refine lv_aload_n hx hb dX8_makes_183 rfl (lv_at hl 0 rfl) ?_
      refine q_get (v := .int (gI σ21 8 0 20)) hx hb hK hw hown in_X8 ins_X8 (rfl : vwCl[10]? = some (RX8, TX8, 32)) rfl (Nat.le_of_ble_eq_true rfl : 0 < cnt (gn Γ) 8) 20 (by decide) 1374 fl_X8_108 rfl rfl dX8_makes_184 ?_
      have ho_b22 := inb_lt (ck_t hf).1
      refine q_aalA hx hb hK hw (k := 153) (o := 0) (fun _ _ _ => rfl) (Nat.le_of_ble_eq_true rfl : 0 < cnt (gn Γ) 153) hf dX8_makes_187 (fun hf => ?_)
      refine lv_iload hx hb dX8_makes_188 (lv_at hl 2 rfl) ?_
      refine lv_aload_n hx hb dX8_makes_190 rfl (lv_at hl 0 rfl) ?_
      refine q_get (v := .ref (ga Γ 168 0)) hx hb hK hw hown in_X8 ins_X8 (rfl : vwCl[10]? = some (RX8, TX8, 32)) rfl (Nat.le_of_ble_eq_true rfl : 0 < cnt (gn Γ) 8) 26 (by decide) 1380 fl_X8_82 rfl rfl dX8_makes_191 ?_
      refine lv_iload hx hb dX8_makes_194 (lv_at hl 2 rfl) ?_
      refine q_iald hx hb hK hw (k := 168) (o := 0) (fun _ _ _ => rfl) (Nat.le_of_ble_eq_true rfl : 0 < cnt (gn Γ) 168) hf dX8_makes_196 (fun hf => ?_)
      refine q_iast hx hb hK hw (k := 163) (o := (Int32.toNatClampNeg (gI σ21 8 0 20))) (fun _ _ _ => rfl) ho_b22 hf dX8_makes_197 (fun σ23 H locs hf hw => ?_)
      refine lv_aload_n hx hb dX8_makes_198 rfl (lv_at hl 0 rfl) ?_
      refine q_get (v := .ref (ga Γ 154 0)) hx hb hK hw hown in_X8 ins_X8 (rfl : vwCl[10]? = some (RX8, TX8, 32)) rfl (Nat.le_of_ble_eq_true rfl : 0 < cnt (gn Γ) 8) 17 (by decide) 1371 fl_X8_56 rfl rfl dX8_makes_199 ?_
      refine lv_aload_n hx hb dX8_makes_202 rfl (lv_at hl 0 rfl) ?_
      refine q_get (v := .int (gI σ23 8 0 20)) hx hb hK hw hown in_X8 ins_X8 (rfl : vwCl[10]? = some (RX8, TX8, 32)) rfl (Nat.le_of_ble_eq_true rfl : 0 < cnt (gn Γ) 8) 20 (by decide) 1374 fl_X8_108 rfl rfl dX8_makes_203 ?_
      have ho_b24 := inb_lt (ck_t hf).1
      refine q_aalA hx hb hK hw (k := 154) (o := 0) (fun _ _ _ => rfl) (Nat.le_of_ble_eq_true rfl : 0 < cnt (gn Γ) 154) hf dX8_makes_206 (fun hf => ?_)
      refine lv_iload hx hb dX8_makes_207 (lv_at hl 2 rfl) ?_
      refine lv_aload_n hx hb dX8_makes_209 rfl (lv_at hl 0 rfl) ?_
      refine q_get (v := .ref (ga Γ 159 0)) hx hb hK hw hown in_X8 ins_X8 (rfl : vwCl[10]? = some (RX8, TX8, 32)) rfl (Nat.le_of_ble_eq_true rfl : 0 < cnt (gn Γ) 8) 23 (by decide) 1377 fl_X8_73 rfl rfl dX8_makes_210 ?_
      refine lv_aload_n hx hb dX8_makes_213 rfl (lv_at hl 0 rfl) ?_
      refine q_get (v := .ref (ga Γ 166 0)) hx hb hK hw hown in_X8 ins_X8 (rfl : vwCl[10]? = some (RX8, TX8, 32)) rfl (Nat.le_of_ble_eq_true rfl : 0 < cnt (gn Γ) 8) 24 (by decide) 1378 fl_X8_76 rfl rfl dX8_makes_214 ?_
      refine lv_iload hx hb dX8_makes_217 (lv_at hl 2 rfl) ?_
      refine q_iald hx hb hK hw (k := 166) (o := 0) (fun _ _ _ => rfl) (Nat.le_of_ble_eq_true rfl : 0 < cnt (gn Γ) 166) hf dX8_makes_219 (fun hf => ?_)
      refine q_iald hx hb hK hw (k := 159) (o := 0) (fun _ _ _ => rfl) (Nat.le_of_ble_eq_true rfl : 0 < cnt (gn Γ) 159) hf dX8_makes_220 (fun hf => ?_)
      refine q_iast hx hb hK hw (k := 164) (o := (Int32.toNatClampNeg (gI σ23 8 0 20))) (fun _ _ _ => rfl) ho_b24 hf dX8_makes_221 (fun σ25 H locs hf hw => ?_)
      refine q_iinc (lv1 := [(0, .ref (ga Γ 8 0)), (1, .int x1)]) (d := 1) hx hb hf dX8_makes_222 hl (k := 2) rfl (by decide) (by decide) rfl (fun v26 ls hf hl => ?_)
      refine lv_goto (tgt := 108) hx hb dX8_makes_225 (by decide) ?_
      exact ih _ _ _ _ _ hf hw (lv_sub hl [1, 2, 0] rfl)
  refine L108 _ (fun _ σ27 H locs ls hf hw hl => ?_) N (0 : Int32) σ13 _ _ _ hf hw (lv_sub hl [1, 2, 0] rfl)
  refine lv_aload_n hx hb dX8_makes_228 rfl (lv_at hl 0 rfl) ?_
  refine lv_dup hx hb dX8_makes_229 rfl ?_
  refine q_get (v := .int (gI σ27 8 0 20)) hx hb hK hw hown in_X8 ins_X8 (rfl : vwCl[10]? = some (RX8, TX8, 32)) rfl (Nat.le_of_ble_eq_true rfl : 0 < cnt (gn Γ) 8) 20 (by decide) 1374 fl_X8_108 rfl rfl dX8_makes_230 ?_
  refine lv_iconst (v := 1) hx hb dX8_makes_233 (by decide) ?_
  refine lv_iadd hx hb dX8_makes_234 ?_
  refine q_puti (v := ((gI σ27 8 0 20) + (1 : Int32))) hx hb hK hw hown in_X8 ins_X8 tyX8 tyX8_ok nmX8 (rfl : vwCl[10]? = some (RX8, TX8, 32)) (fun _ _ _ => rfl) (Nat.le_of_ble_eq_true rfl : 0 < cnt (gn Γ) 8) 20 (by decide) 1374 fl_X8_108 rfl rfl rfl (fun _ _ _ => Nat.le_of_ble_eq_true rfl) (fun _ _ _ => rfl) hf dX8_makes_235 (fun σ28 H locs hf hw => ?_)
  refine lv_aload_n hx hb dX8_makes_238 rfl (lv_at hl 0 rfl) ?_
  refine lv_iconst (v := 0) hx hb dX8_makes_239 (by decide) ?_
  refine q_puti (v := (0 : Int32)) hx hb hK hw hown in_X8 ins_X8 tyX8 tyX8_ok nmX8 (rfl : vwCl[10]? = some (RX8, TX8, 32)) (fun _ _ _ => rfl) (Nat.le_of_ble_eq_true rfl : 0 < cnt (gn Γ) 8) 27 (by decide) 1381 fl_X8_148 rfl rfl rfl (fun _ _ _ => Nat.le_of_ble_eq_true rfl) (fun _ _ _ => rfl) hf dX8_makes_240 (fun σ29 H locs hf hw => ?_)
  refine lv_aload_n hx hb dX8_makes_243 rfl (lv_at hl 0 rfl) ?_
  refine lv_iload_n hx hb dX8_makes_244 rfl (lv_at hl 1 rfl) ?_
  refine q_eV hf hw (fun τ h => q_rV (As := [.int x1]) (rest := []) (q := (RX8, TX8, 32)) X hK hw rfl (Nat.le_of_ble_eq_true rfl : 0 < cnt (gn Γ) 8) (rfl : vwCl[10]? = _) (kX8_builds h) mvX8_builds lk_X8_161 ⟨Nat.le_of_ble_eq_true rfl, Nat.le_of_ble_eq_true rfl⟩ rfl hl.1 rfl (Nat.le_of_ble_eq_true rfl) dX8_makes_245 ⟨Nat.le_of_ble_eq_true rfl, Nat.le_of_ble_eq_true rfl⟩) (fun σ30 H locs hf hw => ?_)
  exact q_vret hx hb hr hk hw dX8_makes_248 hf (Nat.le_of_ble_eq_true rfl) (Nat.le_of_ble_eq_true rfl)
set_option maxRecDepth 100000 in
theorem kX8_isOnBoard {Γ : Gm} {S : List (String × Nat × String)} {l : Launch} {N : Nat} {σ : St} {x1 : Int32} {x2 : Int32} {x3 : Int32} {x4 : Int32} {r : Int32}  (hf : fX8_isOnBoard N σ x1 x2 x3 x4 = some r) : CT Γ S l yX8_isOnBoard cX8_isOnBoard 5 (some (.boolean)) 1 22 0 0 [.ref (ga Γ 8 0), .int x1, .int x2, .int x3, .int x4] (some (.int r)) σ σ := by
  unfold fX8_isOnBoard at hf
  refine ct_body (lv := [(0, .ref (ga Γ 8 0)), (1, .int x1), (2, .int x2), (3, .int x3), (4, .int x4)]) (by decide +kernel) rfl (Nat.le_of_ble_eq_true rfl) ?_
  intro p e s m below meth c ls X hr hk hK hw hl
  have hx := X.1
  have hb := X.2.1
  have hown := X.2.2.2
  refine lv_iload_n hx hb dX8_isOnBoard_0 rfl (lv_at hl 1 rfl) ?_
  refine lv_iconst (v := 0) hx hb dX8_isOnBoard_1 (by decide) ?_
  refine lv_bipush (v := 24) hx hb dX8_isOnBoard_2 (by decide) ?_
  refine lv_iload_n hx hb dX8_isOnBoard_4 rfl (lv_at hl 3 rfl) ?_
  refine lv_isub hx hb dX8_isOnBoard_5 ?_
  refine q_pI hf hw (fun v h => q_rS (As := [.int x1, .int (0 : Int32), .int ((24 : Int32) - x3)]) (rest := []) X hK hw (kX8_isBetween h) msX8_isBetween lk_X8_101 ⟨Nat.le_of_ble_eq_true rfl, Nat.le_of_ble_eq_true rfl⟩ rfl hl.1 rfl (Nat.le_of_ble_eq_true rfl) dX8_isOnBoard_6 ⟨Nat.le_of_ble_eq_true rfl, Nat.le_of_ble_eq_true rfl⟩) (fun v1 H locs hf hw => ?_)
  refine q_if_eq (tgt := 29) hx hb hf dX8_isOnBoard_9 (by decide) (fun hf => ?_) (fun hf => ?_)
  · refine lv_iconst (v := 0) hx hb dX8_isOnBoard_29 (by decide) ?_
    exact q_iret hf hx hb hr rfl hk hw dX8_isOnBoard_30 (Nat.le_of_ble_eq_true rfl) (Nat.le_of_ble_eq_true rfl)
  refine lv_iload_n hx hb dX8_isOnBoard_12 rfl (lv_at hl 2 rfl) ?_
  refine lv_iconst (v := 0) hx hb dX8_isOnBoard_13 (by decide) ?_
  refine lv_bipush (v := 16) hx hb dX8_isOnBoard_14 (by decide) ?_
  refine lv_iload hx hb dX8_isOnBoard_16 (lv_at hl 4 rfl) ?_
  refine lv_isub hx hb dX8_isOnBoard_18 ?_
  refine q_pI hf hw (fun v h => q_rS (As := [.int x2, .int (0 : Int32), .int ((16 : Int32) - x4)]) (rest := []) X hK hw (kX8_isBetween h) msX8_isBetween lk_X8_101 ⟨Nat.le_of_ble_eq_true rfl, Nat.le_of_ble_eq_true rfl⟩ rfl hl.1 rfl (Nat.le_of_ble_eq_true rfl) dX8_isOnBoard_19 ⟨Nat.le_of_ble_eq_true rfl, Nat.le_of_ble_eq_true rfl⟩) (fun v2 H locs hf hw => ?_)
  refine q_if_eq (tgt := 29) hx hb hf dX8_isOnBoard_22 (by decide) (fun hf => ?_) (fun hf => ?_)
  · refine lv_iconst (v := 0) hx hb dX8_isOnBoard_29 (by decide) ?_
    exact q_iret hf hx hb hr rfl hk hw dX8_isOnBoard_30 (Nat.le_of_ble_eq_true rfl) (Nat.le_of_ble_eq_true rfl)
  refine lv_iconst (v := 1) hx hb dX8_isOnBoard_25 (by decide) ?_
  refine lv_goto (tgt := 30) hx hb dX8_isOnBoard_26 (by decide) ?_
  exact q_iret hf hx hb hr rfl hk hw dX8_isOnBoard_30 (Nat.le_of_ble_eq_true rfl) (Nat.le_of_ble_eq_true rfl)
set_option maxRecDepth 100000 in
theorem kX8_addShape {Γ : Gm} {S : List (String × Nat × String)} {l : Launch} {N : Nat} {σ τ : St} {x1 : Int32} {x2 : Int32} {x3 : Int32} {x4 : Int32} {x5 : Int32} {x6 : Int32} {r : Int32}  (hf : fX8_addShape N σ x1 x2 x3 x4 x5 x6 = some (r, τ)) : CT Γ S l yX8_addShape cX8_addShape 8 (some (.int)) 4 103 0 0 [.ref (ga Γ 8 0), .int x1, .int x2, .int x3, .int x4, .int x5, .int x6] (some (.int r)) σ τ := by
  unfold fX8_addShape at hf
  refine ct_body (lv := [(0, .ref (ga Γ 8 0)), (1, .int x1), (2, .int x2), (3, .int x3), (4, .int x4), (5, .int x5), (6, .int x6)]) (by decide +kernel) rfl (Nat.le_of_ble_eq_true rfl) ?_
  intro p e s m below meth c ls X hr hk hK hw hl
  have hx := X.1
  have hb := X.2.1
  have hown := X.2.2.2
  refine lv_aload_n hx hb dX8_addShape_0 rfl (lv_at hl 0 rfl) ?_
  refine lv_iconst (v := 0) hx hb dX8_addShape_1 (by decide) ?_
  refine q_puti (v := (0 : Int32)) hx hb hK hw hown in_X8 ins_X8 tyX8 tyX8_ok nmX8 (rfl : vwCl[10]? = some (RX8, TX8, 32)) (fun _ _ _ => rfl) (Nat.le_of_ble_eq_true rfl : 0 < cnt (gn Γ) 8) 0 (by decide) 1354 fl_X8_97 rfl rfl rfl (fun _ _ _ => Nat.le_of_ble_eq_true rfl) (fun _ _ _ => rfl) hf dX8_addShape_2 (fun σ1 H locs hf hw => ?_)
  refine lv_iload_n hx hb dX8_addShape_5 rfl (lv_at hl 1 rfl) ?_
  refine q_pI hf hw (fun v h => q_rS (As := [.int x1]) (rest := []) X hK hw (kX8_isUser h) msX8_isUser lk_X8_165 ⟨Nat.le_of_ble_eq_true rfl, Nat.le_of_ble_eq_true rfl⟩ rfl hl.1 rfl (Nat.le_of_ble_eq_true rfl) dX8_addShape_6 ⟨Nat.le_of_ble_eq_true rfl, Nat.le_of_ble_eq_true rfl⟩) (fun v2 H locs hf hw => ?_)
  refine q_if_eq (tgt := 47) hx hb hf dX8_addShape_9 (by decide) (fun hf => ?_) (fun hf => ?_)
  · refine lv_aload_n hx hb dX8_addShape_47 rfl (lv_at hl 0 rfl) ?_
    refine lv_iconst (v := 1) hx hb dX8_addShape_48 (by decide) ?_
    refine q_eI hf hw (fun v τ h => q_rV (As := [.int (1 : Int32)]) (rest := []) (q := (RX8, TX8, 32)) X hK hw rfl (Nat.le_of_ble_eq_true rfl : 0 < cnt (gn Γ) 8) (rfl : vwCl[10]? = _) (kX8_fails h) mvX8_fails lk_X8_172 ⟨Nat.le_of_ble_eq_true rfl, Nat.le_of_ble_eq_true rfl⟩ rfl hl.1 rfl (Nat.le_of_ble_eq_true rfl) dX8_addShape_49 ⟨Nat.le_of_ble_eq_true rfl, Nat.le_of_ble_eq_true rfl⟩) (fun v4 σ3 H locs hf hw => ?_)
    exact q_eiret hf hx hb hr rfl hk hw dX8_addShape_52 (Nat.le_of_ble_eq_true rfl) (Nat.le_of_ble_eq_true rfl)
  refine lv_iload hx hb dX8_addShape_12 (lv_at hl 4 rfl) ?_
  refine lv_iconst (v := 1) hx hb dX8_addShape_14 (by decide) ?_
  refine lv_bipush (v := 8) hx hb dX8_addShape_15 (by decide) ?_
  refine q_pI hf hw (fun v h => q_rS (As := [.int x4, .int (1 : Int32), .int (8 : Int32)]) (rest := []) X hK hw (kX8_isBetween h) msX8_isBetween lk_X8_101 ⟨Nat.le_of_ble_eq_true rfl, Nat.le_of_ble_eq_true rfl⟩ rfl hl.1 rfl (Nat.le_of_ble_eq_true rfl) dX8_addShape_17 ⟨Nat.le_of_ble_eq_true rfl, Nat.le_of_ble_eq_true rfl⟩) (fun v5 H locs hf hw => ?_)
  refine q_if_eq (tgt := 47) hx hb hf dX8_addShape_20 (by decide) (fun hf => ?_) (fun hf => ?_)
  · refine lv_aload_n hx hb dX8_addShape_47 rfl (lv_at hl 0 rfl) ?_
    refine lv_iconst (v := 1) hx hb dX8_addShape_48 (by decide) ?_
    refine q_eI hf hw (fun v τ h => q_rV (As := [.int (1 : Int32)]) (rest := []) (q := (RX8, TX8, 32)) X hK hw rfl (Nat.le_of_ble_eq_true rfl : 0 < cnt (gn Γ) 8) (rfl : vwCl[10]? = _) (kX8_fails h) mvX8_fails lk_X8_172 ⟨Nat.le_of_ble_eq_true rfl, Nat.le_of_ble_eq_true rfl⟩ rfl hl.1 rfl (Nat.le_of_ble_eq_true rfl) dX8_addShape_49 ⟨Nat.le_of_ble_eq_true rfl, Nat.le_of_ble_eq_true rfl⟩) (fun v7 σ6 H locs hf hw => ?_)
    exact q_eiret hf hx hb hr rfl hk hw dX8_addShape_52 (Nat.le_of_ble_eq_true rfl) (Nat.le_of_ble_eq_true rfl)
  refine lv_iload hx hb dX8_addShape_23 (lv_at hl 5 rfl) ?_
  refine lv_iconst (v := 1) hx hb dX8_addShape_25 (by decide) ?_
  refine lv_bipush (v := 8) hx hb dX8_addShape_26 (by decide) ?_
  refine q_pI hf hw (fun v h => q_rS (As := [.int x5, .int (1 : Int32), .int (8 : Int32)]) (rest := []) X hK hw (kX8_isBetween h) msX8_isBetween lk_X8_101 ⟨Nat.le_of_ble_eq_true rfl, Nat.le_of_ble_eq_true rfl⟩ rfl hl.1 rfl (Nat.le_of_ble_eq_true rfl) dX8_addShape_28 ⟨Nat.le_of_ble_eq_true rfl, Nat.le_of_ble_eq_true rfl⟩) (fun v8 H locs hf hw => ?_)
  refine q_if_eq (tgt := 47) hx hb hf dX8_addShape_31 (by decide) (fun hf => ?_) (fun hf => ?_)
  · refine lv_aload_n hx hb dX8_addShape_47 rfl (lv_at hl 0 rfl) ?_
    refine lv_iconst (v := 1) hx hb dX8_addShape_48 (by decide) ?_
    refine q_eI hf hw (fun v τ h => q_rV (As := [.int (1 : Int32)]) (rest := []) (q := (RX8, TX8, 32)) X hK hw rfl (Nat.le_of_ble_eq_true rfl : 0 < cnt (gn Γ) 8) (rfl : vwCl[10]? = _) (kX8_fails h) mvX8_fails lk_X8_172 ⟨Nat.le_of_ble_eq_true rfl, Nat.le_of_ble_eq_true rfl⟩ rfl hl.1 rfl (Nat.le_of_ble_eq_true rfl) dX8_addShape_49 ⟨Nat.le_of_ble_eq_true rfl, Nat.le_of_ble_eq_true rfl⟩) (fun v10 σ9 H locs hf hw => ?_)
    exact q_eiret hf hx hb hr rfl hk hw dX8_addShape_52 (Nat.le_of_ble_eq_true rfl) (Nat.le_of_ble_eq_true rfl)
  refine lv_aload_n hx hb dX8_addShape_34 rfl (lv_at hl 0 rfl) ?_
  refine lv_iload_n hx hb dX8_addShape_35 rfl (lv_at hl 2 rfl) ?_
  refine lv_iload_n hx hb dX8_addShape_36 rfl (lv_at hl 3 rfl) ?_
  refine lv_iload hx hb dX8_addShape_37 (lv_at hl 4 rfl) ?_
  refine lv_iload hx hb dX8_addShape_39 (lv_at hl 5 rfl) ?_
  refine q_pI hf hw (fun v h => q_rV (As := [.int x2, .int x3, .int x4, .int x5]) (rest := []) (q := (RX8, TX8, 32)) X hK hw rfl (Nat.le_of_ble_eq_true rfl : 0 < cnt (gn Γ) 8) (rfl : vwCl[10]? = _) (kX8_isOnBoard h) mvX8_isOnBoard lk_X8_168 ⟨Nat.le_of_ble_eq_true rfl, Nat.le_of_ble_eq_true rfl⟩ rfl hl.1 rfl (Nat.le_of_ble_eq_true rfl) dX8_addShape_41 ⟨Nat.le_of_ble_eq_true rfl, Nat.le_of_ble_eq_true rfl⟩) (fun v11 H locs hf hw => ?_)
  refine q_if_ne (tgt := 53) hx hb hf dX8_addShape_44 (by decide) (fun hf => ?_) (fun hf => ?_)
  · refine lv_aload_n hx hb dX8_addShape_53 rfl (lv_at hl 0 rfl) ?_
    refine q_get (v := .int (gI σ1 8 0 8)) hx hb hK hw hown in_X8 ins_X8 (rfl : vwCl[10]? = some (RX8, TX8, 32)) rfl (Nat.le_of_ble_eq_true rfl : 0 < cnt (gn Γ) 8) 8 (by decide) 1362 fl_X8_119 rfl rfl dX8_addShape_54 ?_
    refine lv_bipush (v := 12) hx hb dX8_addShape_57 (by decide) ?_
    refine q_ic_eq (tgt := 72) hx hb hf dX8_addShape_59 (by decide) (fun hf => ?_) (fun hf => ?_)
    · refine lv_aload_n hx hb dX8_addShape_72 rfl (lv_at hl 0 rfl) ?_
      refine lv_iconst (v := 2) hx hb dX8_addShape_73 (by decide) ?_
      refine q_eI hf hw (fun v τ h => q_rV (As := [.int (2 : Int32)]) (rest := []) (q := (RX8, TX8, 32)) X hK hw rfl (Nat.le_of_ble_eq_true rfl : 0 < cnt (gn Γ) 8) (rfl : vwCl[10]? = _) (kX8_fails h) mvX8_fails lk_X8_172 ⟨Nat.le_of_ble_eq_true rfl, Nat.le_of_ble_eq_true rfl⟩ rfl hl.1 rfl (Nat.le_of_ble_eq_true rfl) dX8_addShape_74 ⟨Nat.le_of_ble_eq_true rfl, Nat.le_of_ble_eq_true rfl⟩) (fun v13 σ12 H locs hf hw => ?_)
      exact q_eiret hf hx hb hr rfl hk hw dX8_addShape_77 (Nat.le_of_ble_eq_true rfl) (Nat.le_of_ble_eq_true rfl)
    refine lv_aload_n hx hb dX8_addShape_62 rfl (lv_at hl 0 rfl) ?_
    refine q_get (v := .int (gI σ1 8 0 20)) hx hb hK hw hown in_X8 ins_X8 (rfl : vwCl[10]? = some (RX8, TX8, 32)) rfl (Nat.le_of_ble_eq_true rfl : 0 < cnt (gn Γ) 8) 20 (by decide) 1374 fl_X8_108 rfl rfl dX8_addShape_63 ?_
    refine lv_sipush (v := 250) hx hb dX8_addShape_66 (by decide) ?_
    refine q_ic_ne (tgt := 78) hx hb hf dX8_addShape_69 (by decide) (fun hf => ?_) (fun hf => ?_)
    · refine lv_aload_n hx hb dX8_addShape_78 rfl (lv_at hl 0 rfl) ?_
      refine lv_iload_n hx hb dX8_addShape_79 rfl (lv_at hl 1 rfl) ?_
      refine q_eV hf hw (fun τ h => q_rV (As := [.int x1]) (rest := []) (q := (RX8, TX8, 32)) X hK hw rfl (Nat.le_of_ble_eq_true rfl : 0 < cnt (gn Γ) 8) (rfl : vwCl[10]? = _) (kX8_builds h) mvX8_builds lk_X8_161 ⟨Nat.le_of_ble_eq_true rfl, Nat.le_of_ble_eq_true rfl⟩ rfl hl.1 rfl (Nat.le_of_ble_eq_true rfl) dX8_addShape_80 ⟨Nat.le_of_ble_eq_true rfl, Nat.le_of_ble_eq_true rfl⟩) (fun σ14 H locs hf hw => ?_)
      refine lv_aload_n hx hb dX8_addShape_83 rfl (lv_at hl 0 rfl) ?_
      refine q_pI hf hw (fun v h => q_rV (As := []) (rest := []) (q := (RX8, TX8, 32)) X hK hw rfl (Nat.le_of_ble_eq_true rfl : 0 < cnt (gn Γ) 8) (rfl : vwCl[10]? = _) (kX8_greatest h) mvX8_greatest lk_X8_175 ⟨Nat.le_of_ble_eq_true rfl, Nat.le_of_ble_eq_true rfl⟩ rfl hl.1 rfl (Nat.le_of_ble_eq_true rfl) dX8_addShape_84 ⟨Nat.le_of_ble_eq_true rfl, Nat.le_of_ble_eq_true rfl⟩) (fun v15 H locs hf hw => ?_)
      refine q_if_ge (tgt := 94) hx hb hf dX8_addShape_87 (by decide) (fun hf => ?_) (fun hf => ?_)
      · refine lv_aload_n hx hb dX8_addShape_94 rfl (lv_at hl 0 rfl) ?_
        refine lv_aload_n hx hb dX8_addShape_95 rfl (lv_at hl 0 rfl) ?_
        refine q_pI hf hw (fun v h => q_rV (As := []) (rest := [.ref (ga Γ 8 0)]) (q := (RX8, TX8, 32)) X hK hw rfl (Nat.le_of_ble_eq_true rfl : 0 < cnt (gn Γ) 8) (rfl : vwCl[10]? = _) (kX8_greatest h) mvX8_greatest lk_X8_175 ⟨Nat.le_of_ble_eq_true rfl, Nat.le_of_ble_eq_true rfl⟩ rfl hl.1 rfl (Nat.le_of_ble_eq_true rfl) dX8_addShape_96 ⟨Nat.le_of_ble_eq_true rfl, Nat.le_of_ble_eq_true rfl⟩) (fun v16 H locs hf hw => ?_)
        refine q_pF hf hw (fun v h => q_rV (As := [.int v16]) (rest := []) (q := (RX8, TX8, 32)) X hK hw rfl (Nat.le_of_ble_eq_true rfl : 0 < cnt (gn Γ) 8) (rfl : vwCl[10]? = _) (kX8_key h) mvX8_key lk_X8_138 ⟨Nat.le_of_ble_eq_true rfl, Nat.le_of_ble_eq_true rfl⟩ rfl hl.1 rfl (Nat.le_of_ble_eq_true rfl) dX8_addShape_99 ⟨Nat.le_of_ble_eq_true rfl, Nat.le_of_ble_eq_true rfl⟩) (fun v17 H locs hf hw => ?_)
        refine lv_fconst1 hx hb dX8_addShape_102 ?_
        refine q_fadd hx hb hf dX8_addShape_103 (fun hf => ?_)
        refine q_fstore (lv1 := [(0, .ref (ga Γ 8 0)), (1, .int x1), (2, .int x2), (3, .int x3), (4, .int x4), (5, .int x5), (6, .int x6)]) hx hb hf dX8_addShape_104 hl (by decide) rfl (fun v18 ls hf hl => ?_)
        refine lv_aload_n hx hb dX8_addShape_106 rfl (lv_at hl 1 rfl) ?_
        refine q_get (v := .ref (ga Γ 140 0)) hx hb hK hw hown in_X8 ins_X8 (rfl : vwCl[10]? = some (RX8, TX8, 32)) rfl (Nat.le_of_ble_eq_true rfl : 0 < cnt (gn Γ) 8) 1 (by decide) 1355 fl_X8_9 rfl rfl dX8_addShape_107 ?_
        refine lv_aload_n hx hb dX8_addShape_110 rfl (lv_at hl 1 rfl) ?_
        refine q_get (v := .int (gI σ14 8 0 8)) hx hb hK hw hown in_X8 ins_X8 (rfl : vwCl[10]? = some (RX8, TX8, 32)) rfl (Nat.le_of_ble_eq_true rfl : 0 < cnt (gn Γ) 8) 8 (by decide) 1362 fl_X8_119 rfl rfl dX8_addShape_111 ?_
        refine lv_iload hx hb dX8_addShape_114 (lv_at hl 5 rfl) ?_
        refine q_iast hx hb hK hw (k := 140) (o := 0) (fun _ _ _ => rfl) (Nat.le_of_ble_eq_true rfl : 0 < cnt (gn Γ) 140) hf dX8_addShape_116 (fun σ19 H locs hf hw => ?_)
        refine lv_aload_n hx hb dX8_addShape_117 rfl (lv_at hl 1 rfl) ?_
        refine q_get (v := .ref (ga Γ 141 0)) hx hb hK hw hown in_X8 ins_X8 (rfl : vwCl[10]? = some (RX8, TX8, 32)) rfl (Nat.le_of_ble_eq_true rfl : 0 < cnt (gn Γ) 8) 2 (by decide) 1356 fl_X8_13 rfl rfl dX8_addShape_118 ?_
        refine lv_aload_n hx hb dX8_addShape_121 rfl (lv_at hl 1 rfl) ?_
        refine q_get (v := .int (gI σ19 8 0 8)) hx hb hK hw hown in_X8 ins_X8 (rfl : vwCl[10]? = some (RX8, TX8, 32)) rfl (Nat.le_of_ble_eq_true rfl : 0 < cnt (gn Γ) 8) 8 (by decide) 1362 fl_X8_119 rfl rfl dX8_addShape_122 ?_
        refine lv_iload hx hb dX8_addShape_125 (lv_at hl 6 rfl) ?_
        refine q_iast hx hb hK hw (k := 141) (o := 0) (fun _ _ _ => rfl) (Nat.le_of_ble_eq_true rfl : 0 < cnt (gn Γ) 141) hf dX8_addShape_127 (fun σ20 H locs hf hw => ?_)
        refine lv_aload_n hx hb dX8_addShape_128 rfl (lv_at hl 1 rfl) ?_
        refine q_get (v := .ref (ga Γ 144 0)) hx hb hK hw hown in_X8 ins_X8 (rfl : vwCl[10]? = some (RX8, TX8, 32)) rfl (Nat.le_of_ble_eq_true rfl : 0 < cnt (gn Γ) 8) 5 (by decide) 1359 fl_X8_22 rfl rfl dX8_addShape_129 ?_
        refine lv_aload_n hx hb dX8_addShape_132 rfl (lv_at hl 1 rfl) ?_
        refine q_get (v := .int (gI σ20 8 0 8)) hx hb hK hw hown in_X8 ins_X8 (rfl : vwCl[10]? = some (RX8, TX8, 32)) rfl (Nat.le_of_ble_eq_true rfl : 0 < cnt (gn Γ) 8) 8 (by decide) 1362 fl_X8_119 rfl rfl dX8_addShape_133 ?_
        refine lv_iload hx hb dX8_addShape_136 (lv_at hl 7 rfl) ?_
        refine q_zast hx hb hK hw (k := 144) (o := 0) (fun _ _ _ => rfl) (Nat.le_of_ble_eq_true rfl : 0 < cnt (gn Γ) 144) hf dX8_addShape_138 (fun σ21 H locs hf hw => ?_)
        refine lv_aload_n hx hb dX8_addShape_139 rfl (lv_at hl 1 rfl) ?_
        refine lv_aload_n hx hb dX8_addShape_140 rfl (lv_at hl 1 rfl) ?_
        refine q_get (v := .int (gI σ21 8 0 8)) hx hb hK hw hown in_X8 ins_X8 (rfl : vwCl[10]? = some (RX8, TX8, 32)) rfl (Nat.le_of_ble_eq_true rfl : 0 < cnt (gn Γ) 8) 8 (by decide) 1362 fl_X8_119 rfl rfl dX8_addShape_141 ?_
        refine lv_iconst (v := 1) hx hb dX8_addShape_144 (by decide) ?_
        refine q_eV hf hw (fun τ h => q_rV (As := [.int (gI σ21 8 0 8), .int (1 : Int32)]) (rest := []) (q := (RX8, TX8, 32)) X hK hw rfl (Nat.le_of_ble_eq_true rfl : 0 < cnt (gn Γ) 8) (rfl : vwCl[10]? = _) (kX8_plans h) mvX8_plans lk_X8_179 ⟨Nat.le_of_ble_eq_true rfl, Nat.le_of_ble_eq_true rfl⟩ rfl hl.1 rfl (Nat.le_of_ble_eq_true rfl) dX8_addShape_145 ⟨Nat.le_of_ble_eq_true rfl, Nat.le_of_ble_eq_true rfl⟩) (fun σ22 H locs hf hw => ?_)
        refine lv_aload_n hx hb dX8_addShape_148 rfl (lv_at hl 1 rfl) ?_
        refine lv_bipush (v := 12) hx hb dX8_addShape_149 (by decide) ?_
        refine lv_aload_n hx hb dX8_addShape_151 rfl (lv_at hl 1 rfl) ?_
        refine q_get (v := .int (gI σ22 8 0 8)) hx hb hK hw hown in_X8 ins_X8 (rfl : vwCl[10]? = some (RX8, TX8, 32)) rfl (Nat.le_of_ble_eq_true rfl : 0 < cnt (gn Γ) 8) 8 (by decide) 1362 fl_X8_119 rfl rfl dX8_addShape_152 ?_
        refine lv_iadd hx hb dX8_addShape_155 ?_
        refine lv_bipush (v := 32) hx hb dX8_addShape_156 (by decide) ?_
        refine lv_iload_n hx hb dX8_addShape_158 rfl (lv_at hl 3 rfl) ?_
        refine lv_imul hx hb dX8_addShape_159 ?_
        refine lv_iload_n hx hb dX8_addShape_160 rfl (lv_at hl 4 rfl) ?_
        refine lv_iadd hx hb dX8_addShape_161 ?_
        refine q_eV hf hw (fun τ h => q_rV (As := [.int ((12 : Int32) + (gI σ22 8 0 8)), .int (((32 : Int32) * x2) + x3)]) (rest := []) (q := (RX8, TX8, 32)) X hK hw rfl (Nat.le_of_ble_eq_true rfl : 0 < cnt (gn Γ) 8) (rfl : vwCl[10]? = _) (kX8_plans h) mvX8_plans lk_X8_179 ⟨Nat.le_of_ble_eq_true rfl, Nat.le_of_ble_eq_true rfl⟩ rfl hl.1 rfl (Nat.le_of_ble_eq_true rfl) dX8_addShape_162 ⟨Nat.le_of_ble_eq_true rfl, Nat.le_of_ble_eq_true rfl⟩) (fun σ23 H locs hf hw => ?_)
        refine lv_aload_n hx hb dX8_addShape_165 rfl (lv_at hl 1 rfl) ?_
        refine lv_bipush (v := 24) hx hb dX8_addShape_166 (by decide) ?_
        refine lv_aload_n hx hb dX8_addShape_168 rfl (lv_at hl 1 rfl) ?_
        refine q_get (v := .int (gI σ23 8 0 8)) hx hb hK hw hown in_X8 ins_X8 (rfl : vwCl[10]? = some (RX8, TX8, 32)) rfl (Nat.le_of_ble_eq_true rfl : 0 < cnt (gn Γ) 8) 8 (by decide) 1362 fl_X8_119 rfl rfl dX8_addShape_169 ?_
        refine lv_iadd hx hb dX8_addShape_172 ?_
        refine lv_fload hx hb dX8_addShape_173 (lv_at hl 0 rfl) ?_
        refine q_pI hf hw (fun v h => q_rS (As := [.float v18]) (rest := [.int ((24 : Int32) + (gI σ23 8 0 8)), .ref (ga Γ 8 0)]) X hK hw (kJxf58ca_floatToIntBits_5c35a h) msJxf58ca_floatToIntBits_5c35a lk_X8_182 ⟨Nat.le_of_ble_eq_true rfl, Nat.le_of_ble_eq_true rfl⟩ rfl hl.1 rfl (Nat.le_of_ble_eq_true rfl) dX8_addShape_175 ⟨Nat.le_of_ble_eq_true rfl, Nat.le_of_ble_eq_true rfl⟩) (fun v24 H locs hf hw => ?_)
        refine q_eV hf hw (fun τ h => q_rV (As := [.int ((24 : Int32) + (gI σ23 8 0 8)), .int v24]) (rest := []) (q := (RX8, TX8, 32)) X hK hw rfl (Nat.le_of_ble_eq_true rfl : 0 < cnt (gn Γ) 8) (rfl : vwCl[10]? = _) (kX8_plans h) mvX8_plans lk_X8_179 ⟨Nat.le_of_ble_eq_true rfl, Nat.le_of_ble_eq_true rfl⟩ rfl hl.1 rfl (Nat.le_of_ble_eq_true rfl) dX8_addShape_178 ⟨Nat.le_of_ble_eq_true rfl, Nat.le_of_ble_eq_true rfl⟩) (fun σ25 H locs hf hw => ?_)
        refine lv_aload_n hx hb dX8_addShape_181 rfl (lv_at hl 1 rfl) ?_
        refine lv_dup hx hb dX8_addShape_182 rfl ?_
        refine q_get (v := .int (gI σ25 8 0 8)) hx hb hK hw hown in_X8 ins_X8 (rfl : vwCl[10]? = some (RX8, TX8, 32)) rfl (Nat.le_of_ble_eq_true rfl : 0 < cnt (gn Γ) 8) 8 (by decide) 1362 fl_X8_119 rfl rfl dX8_addShape_183 ?_
        refine lv_iconst (v := 1) hx hb dX8_addShape_186 (by decide) ?_
        refine lv_iadd hx hb dX8_addShape_187 ?_
        refine q_puti (v := ((gI σ25 8 0 8) + (1 : Int32))) hx hb hK hw hown in_X8 ins_X8 tyX8 tyX8_ok nmX8 (rfl : vwCl[10]? = some (RX8, TX8, 32)) (fun _ _ _ => rfl) (Nat.le_of_ble_eq_true rfl : 0 < cnt (gn Γ) 8) 8 (by decide) 1362 fl_X8_119 rfl rfl rfl (fun _ _ _ => Nat.le_of_ble_eq_true rfl) (fun _ _ _ => rfl) hf dX8_addShape_188 (fun σ26 H locs hf hw => ?_)
        refine lv_aload_n hx hb dX8_addShape_191 rfl (lv_at hl 1 rfl) ?_
        refine lv_iload_n hx hb dX8_addShape_192 rfl (lv_at hl 2 rfl) ?_
        refine lv_iconst (v := 1) hx hb dX8_addShape_193 (by decide) ?_
        refine q_eV hf hw (fun τ h => q_rV (As := [.int x1, .int (1 : Int32)]) (rest := []) (q := (RX8, TX8, 32)) X hK hw rfl (Nat.le_of_ble_eq_true rfl : 0 < cnt (gn Γ) 8) (rfl : vwCl[10]? = _) (kX8_makes h) mvX8_makes lk_X8_186 ⟨Nat.le_of_ble_eq_true rfl, Nat.le_of_ble_eq_true rfl⟩ rfl hl.1 rfl (Nat.le_of_ble_eq_true rfl) dX8_addShape_194 ⟨Nat.le_of_ble_eq_true rfl, Nat.le_of_ble_eq_true rfl⟩) (fun σ27 H locs hf hw => ?_)
        refine lv_aload_n hx hb dX8_addShape_197 rfl (lv_at hl 1 rfl) ?_
        refine q_get (v := .int (gI σ27 8 0 8)) hx hb hK hw hown in_X8 ins_X8 (rfl : vwCl[10]? = some (RX8, TX8, 32)) rfl (Nat.le_of_ble_eq_true rfl : 0 < cnt (gn Γ) 8) 8 (by decide) 1362 fl_X8_119 rfl rfl dX8_addShape_198 ?_
        refine lv_iconst (v := 1) hx hb dX8_addShape_201 (by decide) ?_
        refine lv_isub hx hb dX8_addShape_202 ?_
        exact q_eiret hf hx hb hr rfl hk hw dX8_addShape_203 (Nat.le_of_ble_eq_true rfl) (Nat.le_of_ble_eq_true rfl)
      refine lv_fconst0 hx hb dX8_addShape_90 ?_
      refine lv_goto (tgt := 104) hx hb dX8_addShape_91 (by decide) ?_
      refine lv_fstore (lv' := [(7, .float (0 : UInt32)), (0, .ref (ga Γ 8 0)), (1, .int x1), (2, .int x2), (3, .int x3), (4, .int x4), (5, .int x5), (6, .int x6)]) hx hb dX8_addShape_104 hl (by decide) rfl (fun ls hl => ?_)
      refine lv_aload_n hx hb dX8_addShape_106 rfl (lv_at hl 1 rfl) ?_
      refine q_get (v := .ref (ga Γ 140 0)) hx hb hK hw hown in_X8 ins_X8 (rfl : vwCl[10]? = some (RX8, TX8, 32)) rfl (Nat.le_of_ble_eq_true rfl : 0 < cnt (gn Γ) 8) 1 (by decide) 1355 fl_X8_9 rfl rfl dX8_addShape_107 ?_
      refine lv_aload_n hx hb dX8_addShape_110 rfl (lv_at hl 1 rfl) ?_
      refine q_get (v := .int (gI σ14 8 0 8)) hx hb hK hw hown in_X8 ins_X8 (rfl : vwCl[10]? = some (RX8, TX8, 32)) rfl (Nat.le_of_ble_eq_true rfl : 0 < cnt (gn Γ) 8) 8 (by decide) 1362 fl_X8_119 rfl rfl dX8_addShape_111 ?_
      refine lv_iload hx hb dX8_addShape_114 (lv_at hl 5 rfl) ?_
      refine q_iast hx hb hK hw (k := 140) (o := 0) (fun _ _ _ => rfl) (Nat.le_of_ble_eq_true rfl : 0 < cnt (gn Γ) 140) hf dX8_addShape_116 (fun σ28 H locs hf hw => ?_)
      refine lv_aload_n hx hb dX8_addShape_117 rfl (lv_at hl 1 rfl) ?_
      refine q_get (v := .ref (ga Γ 141 0)) hx hb hK hw hown in_X8 ins_X8 (rfl : vwCl[10]? = some (RX8, TX8, 32)) rfl (Nat.le_of_ble_eq_true rfl : 0 < cnt (gn Γ) 8) 2 (by decide) 1356 fl_X8_13 rfl rfl dX8_addShape_118 ?_
      refine lv_aload_n hx hb dX8_addShape_121 rfl (lv_at hl 1 rfl) ?_
      refine q_get (v := .int (gI σ28 8 0 8)) hx hb hK hw hown in_X8 ins_X8 (rfl : vwCl[10]? = some (RX8, TX8, 32)) rfl (Nat.le_of_ble_eq_true rfl : 0 < cnt (gn Γ) 8) 8 (by decide) 1362 fl_X8_119 rfl rfl dX8_addShape_122 ?_
      refine lv_iload hx hb dX8_addShape_125 (lv_at hl 6 rfl) ?_
      refine q_iast hx hb hK hw (k := 141) (o := 0) (fun _ _ _ => rfl) (Nat.le_of_ble_eq_true rfl : 0 < cnt (gn Γ) 141) hf dX8_addShape_127 (fun σ29 H locs hf hw => ?_)
      refine lv_aload_n hx hb dX8_addShape_128 rfl (lv_at hl 1 rfl) ?_
      refine q_get (v := .ref (ga Γ 144 0)) hx hb hK hw hown in_X8 ins_X8 (rfl : vwCl[10]? = some (RX8, TX8, 32)) rfl (Nat.le_of_ble_eq_true rfl : 0 < cnt (gn Γ) 8) 5 (by decide) 1359 fl_X8_22 rfl rfl dX8_addShape_129 ?_
      refine lv_aload_n hx hb dX8_addShape_132 rfl (lv_at hl 1 rfl) ?_
      refine q_get (v := .int (gI σ29 8 0 8)) hx hb hK hw hown in_X8 ins_X8 (rfl : vwCl[10]? = some (RX8, TX8, 32)) rfl (Nat.le_of_ble_eq_true rfl : 0 < cnt (gn Γ) 8) 8 (by decide) 1362 fl_X8_119 rfl rfl dX8_addShape_133 ?_
      refine lv_iload hx hb dX8_addShape_136 (lv_at hl 7 rfl) ?_
      refine q_zast hx hb hK hw (k := 144) (o := 0) (fun _ _ _ => rfl) (Nat.le_of_ble_eq_true rfl : 0 < cnt (gn Γ) 144) hf dX8_addShape_138 (fun σ30 H locs hf hw => ?_)
      refine lv_aload_n hx hb dX8_addShape_139 rfl (lv_at hl 1 rfl) ?_
      refine lv_aload_n hx hb dX8_addShape_140 rfl (lv_at hl 1 rfl) ?_
      refine q_get (v := .int (gI σ30 8 0 8)) hx hb hK hw hown in_X8 ins_X8 (rfl : vwCl[10]? = some (RX8, TX8, 32)) rfl (Nat.le_of_ble_eq_true rfl : 0 < cnt (gn Γ) 8) 8 (by decide) 1362 fl_X8_119 rfl rfl dX8_addShape_141 ?_
      refine lv_iconst (v := 1) hx hb dX8_addShape_144 (by decide) ?_
      refine q_eV hf hw (fun τ h => q_rV (As := [.int (gI σ30 8 0 8), .int (1 : Int32)]) (rest := []) (q := (RX8, TX8, 32)) X hK hw rfl (Nat.le_of_ble_eq_true rfl : 0 < cnt (gn Γ) 8) (rfl : vwCl[10]? = _) (kX8_plans h) mvX8_plans lk_X8_179 ⟨Nat.le_of_ble_eq_true rfl, Nat.le_of_ble_eq_true rfl⟩ rfl hl.1 rfl (Nat.le_of_ble_eq_true rfl) dX8_addShape_145 ⟨Nat.le_of_ble_eq_true rfl, Nat.le_of_ble_eq_true rfl⟩) (fun σ31 H locs hf hw => ?_)
      refine lv_aload_n hx hb dX8_addShape_148 rfl (lv_at hl 1 rfl) ?_
      refine lv_bipush (v := 12) hx hb dX8_addShape_149 (by decide) ?_
      refine lv_aload_n hx hb dX8_addShape_151 rfl (lv_at hl 1 rfl) ?_
      refine q_get (v := .int (gI σ31 8 0 8)) hx hb hK hw hown in_X8 ins_X8 (rfl : vwCl[10]? = some (RX8, TX8, 32)) rfl (Nat.le_of_ble_eq_true rfl : 0 < cnt (gn Γ) 8) 8 (by decide) 1362 fl_X8_119 rfl rfl dX8_addShape_152 ?_
      refine lv_iadd hx hb dX8_addShape_155 ?_
      refine lv_bipush (v := 32) hx hb dX8_addShape_156 (by decide) ?_
      refine lv_iload_n hx hb dX8_addShape_158 rfl (lv_at hl 3 rfl) ?_
      refine lv_imul hx hb dX8_addShape_159 ?_
      refine lv_iload_n hx hb dX8_addShape_160 rfl (lv_at hl 4 rfl) ?_
      refine lv_iadd hx hb dX8_addShape_161 ?_
      refine q_eV hf hw (fun τ h => q_rV (As := [.int ((12 : Int32) + (gI σ31 8 0 8)), .int (((32 : Int32) * x2) + x3)]) (rest := []) (q := (RX8, TX8, 32)) X hK hw rfl (Nat.le_of_ble_eq_true rfl : 0 < cnt (gn Γ) 8) (rfl : vwCl[10]? = _) (kX8_plans h) mvX8_plans lk_X8_179 ⟨Nat.le_of_ble_eq_true rfl, Nat.le_of_ble_eq_true rfl⟩ rfl hl.1 rfl (Nat.le_of_ble_eq_true rfl) dX8_addShape_162 ⟨Nat.le_of_ble_eq_true rfl, Nat.le_of_ble_eq_true rfl⟩) (fun σ32 H locs hf hw => ?_)
      refine lv_aload_n hx hb dX8_addShape_165 rfl (lv_at hl 1 rfl) ?_
      refine lv_bipush (v := 24) hx hb dX8_addShape_166 (by decide) ?_
      refine lv_aload_n hx hb dX8_addShape_168 rfl (lv_at hl 1 rfl) ?_
      refine q_get (v := .int (gI σ32 8 0 8)) hx hb hK hw hown in_X8 ins_X8 (rfl : vwCl[10]? = some (RX8, TX8, 32)) rfl (Nat.le_of_ble_eq_true rfl : 0 < cnt (gn Γ) 8) 8 (by decide) 1362 fl_X8_119 rfl rfl dX8_addShape_169 ?_
      refine lv_iadd hx hb dX8_addShape_172 ?_
      refine lv_fload hx hb dX8_addShape_173 (lv_at hl 0 rfl) ?_
      refine q_pI hf hw (fun v h => q_rS (As := [.float (0 : UInt32)]) (rest := [.int ((24 : Int32) + (gI σ32 8 0 8)), .ref (ga Γ 8 0)]) X hK hw (kJxf58ca_floatToIntBits_5c35a h) msJxf58ca_floatToIntBits_5c35a lk_X8_182 ⟨Nat.le_of_ble_eq_true rfl, Nat.le_of_ble_eq_true rfl⟩ rfl hl.1 rfl (Nat.le_of_ble_eq_true rfl) dX8_addShape_175 ⟨Nat.le_of_ble_eq_true rfl, Nat.le_of_ble_eq_true rfl⟩) (fun v33 H locs hf hw => ?_)
      refine q_eV hf hw (fun τ h => q_rV (As := [.int ((24 : Int32) + (gI σ32 8 0 8)), .int v33]) (rest := []) (q := (RX8, TX8, 32)) X hK hw rfl (Nat.le_of_ble_eq_true rfl : 0 < cnt (gn Γ) 8) (rfl : vwCl[10]? = _) (kX8_plans h) mvX8_plans lk_X8_179 ⟨Nat.le_of_ble_eq_true rfl, Nat.le_of_ble_eq_true rfl⟩ rfl hl.1 rfl (Nat.le_of_ble_eq_true rfl) dX8_addShape_178 ⟨Nat.le_of_ble_eq_true rfl, Nat.le_of_ble_eq_true rfl⟩) (fun σ34 H locs hf hw => ?_)
      refine lv_aload_n hx hb dX8_addShape_181 rfl (lv_at hl 1 rfl) ?_
      refine lv_dup hx hb dX8_addShape_182 rfl ?_
      refine q_get (v := .int (gI σ34 8 0 8)) hx hb hK hw hown in_X8 ins_X8 (rfl : vwCl[10]? = some (RX8, TX8, 32)) rfl (Nat.le_of_ble_eq_true rfl : 0 < cnt (gn Γ) 8) 8 (by decide) 1362 fl_X8_119 rfl rfl dX8_addShape_183 ?_
      refine lv_iconst (v := 1) hx hb dX8_addShape_186 (by decide) ?_
      refine lv_iadd hx hb dX8_addShape_187 ?_
      refine q_puti (v := ((gI σ34 8 0 8) + (1 : Int32))) hx hb hK hw hown in_X8 ins_X8 tyX8 tyX8_ok nmX8 (rfl : vwCl[10]? = some (RX8, TX8, 32)) (fun _ _ _ => rfl) (Nat.le_of_ble_eq_true rfl : 0 < cnt (gn Γ) 8) 8 (by decide) 1362 fl_X8_119 rfl rfl rfl (fun _ _ _ => Nat.le_of_ble_eq_true rfl) (fun _ _ _ => rfl) hf dX8_addShape_188 (fun σ35 H locs hf hw => ?_)
      refine lv_aload_n hx hb dX8_addShape_191 rfl (lv_at hl 1 rfl) ?_
      refine lv_iload_n hx hb dX8_addShape_192 rfl (lv_at hl 2 rfl) ?_
      refine lv_iconst (v := 1) hx hb dX8_addShape_193 (by decide) ?_
      refine q_eV hf hw (fun τ h => q_rV (As := [.int x1, .int (1 : Int32)]) (rest := []) (q := (RX8, TX8, 32)) X hK hw rfl (Nat.le_of_ble_eq_true rfl : 0 < cnt (gn Γ) 8) (rfl : vwCl[10]? = _) (kX8_makes h) mvX8_makes lk_X8_186 ⟨Nat.le_of_ble_eq_true rfl, Nat.le_of_ble_eq_true rfl⟩ rfl hl.1 rfl (Nat.le_of_ble_eq_true rfl) dX8_addShape_194 ⟨Nat.le_of_ble_eq_true rfl, Nat.le_of_ble_eq_true rfl⟩) (fun σ36 H locs hf hw => ?_)
      refine lv_aload_n hx hb dX8_addShape_197 rfl (lv_at hl 1 rfl) ?_
      refine q_get (v := .int (gI σ36 8 0 8)) hx hb hK hw hown in_X8 ins_X8 (rfl : vwCl[10]? = some (RX8, TX8, 32)) rfl (Nat.le_of_ble_eq_true rfl : 0 < cnt (gn Γ) 8) 8 (by decide) 1362 fl_X8_119 rfl rfl dX8_addShape_198 ?_
      refine lv_iconst (v := 1) hx hb dX8_addShape_201 (by decide) ?_
      refine lv_isub hx hb dX8_addShape_202 ?_
      exact q_eiret hf hx hb hr rfl hk hw dX8_addShape_203 (Nat.le_of_ble_eq_true rfl) (Nat.le_of_ble_eq_true rfl)
    refine lv_aload_n hx hb dX8_addShape_72 rfl (lv_at hl 0 rfl) ?_
    refine lv_iconst (v := 2) hx hb dX8_addShape_73 (by decide) ?_
    refine q_eI hf hw (fun v τ h => q_rV (As := [.int (2 : Int32)]) (rest := []) (q := (RX8, TX8, 32)) X hK hw rfl (Nat.le_of_ble_eq_true rfl : 0 < cnt (gn Γ) 8) (rfl : vwCl[10]? = _) (kX8_fails h) mvX8_fails lk_X8_172 ⟨Nat.le_of_ble_eq_true rfl, Nat.le_of_ble_eq_true rfl⟩ rfl hl.1 rfl (Nat.le_of_ble_eq_true rfl) dX8_addShape_74 ⟨Nat.le_of_ble_eq_true rfl, Nat.le_of_ble_eq_true rfl⟩) (fun v38 σ37 H locs hf hw => ?_)
    exact q_eiret hf hx hb hr rfl hk hw dX8_addShape_77 (Nat.le_of_ble_eq_true rfl) (Nat.le_of_ble_eq_true rfl)
  refine lv_aload_n hx hb dX8_addShape_47 rfl (lv_at hl 0 rfl) ?_
  refine lv_iconst (v := 1) hx hb dX8_addShape_48 (by decide) ?_
  refine q_eI hf hw (fun v τ h => q_rV (As := [.int (1 : Int32)]) (rest := []) (q := (RX8, TX8, 32)) X hK hw rfl (Nat.le_of_ble_eq_true rfl : 0 < cnt (gn Γ) 8) (rfl : vwCl[10]? = _) (kX8_fails h) mvX8_fails lk_X8_172 ⟨Nat.le_of_ble_eq_true rfl, Nat.le_of_ble_eq_true rfl⟩ rfl hl.1 rfl (Nat.le_of_ble_eq_true rfl) dX8_addShape_49 ⟨Nat.le_of_ble_eq_true rfl, Nat.le_of_ble_eq_true rfl⟩) (fun v40 σ39 H locs hf hw => ?_)
  exact q_eiret hf hx hb hr rfl hk hw dX8_addShape_52 (Nat.le_of_ble_eq_true rfl) (Nat.le_of_ble_eq_true rfl)
set_option maxRecDepth 100000 in
theorem kX8_bar {Γ : Gm} {S : List (String × Nat × String)} {l : Launch} {N : Nat} {σ τ : St} {x1 : Int32} {x2 : Int32} {r : Int32}  (hf : fX8_bar N σ x1 x2 = some (r, τ)) : CT Γ S l yX8_bar cX8_bar 3 (some (.int)) 3 66 0 0 [.ref (ga Γ 8 0), .int x1, .int x2] (some (.int r)) σ τ := by
  unfold fX8_bar at hf
  refine ct_body (lv := [(0, .ref (ga Γ 8 0)), (1, .int x1), (2, .int x2)]) (by decide +kernel) rfl (Nat.le_of_ble_eq_true rfl) ?_
  intro p e s m below meth c ls X hr hk hK hw hl
  have hx := X.1
  have hb := X.2.1
  have hown := X.2.2.2
  refine lv_aload_n hx hb dX8_bar_0 rfl (lv_at hl 0 rfl) ?_
  refine lv_iload_n hx hb dX8_bar_1 rfl (lv_at hl 1 rfl) ?_
  refine q_eV hf hw (fun τ h => q_rV (As := [.int x1]) (rest := []) (q := (RX8, TX8, 32)) X hK hw rfl (Nat.le_of_ble_eq_true rfl : 0 < cnt (gn Γ) 8) (rfl : vwCl[10]? = _) (kX8_builds h) mvX8_builds lk_X8_161 ⟨Nat.le_of_ble_eq_true rfl, Nat.le_of_ble_eq_true rfl⟩ rfl hl.1 rfl (Nat.le_of_ble_eq_true rfl) dX8_bar_2 ⟨Nat.le_of_ble_eq_true rfl, Nat.le_of_ble_eq_true rfl⟩) (fun σ1 H locs hf hw => ?_)
  refine lv_aload_n hx hb dX8_bar_5 rfl (lv_at hl 0 rfl) ?_
  refine lv_iload_n hx hb dX8_bar_6 rfl (lv_at hl 2 rfl) ?_
  refine q_pI hf hw (fun v h => q_rV (As := [.int x2]) (rest := []) (q := (RX8, TX8, 32)) X hK hw rfl (Nat.le_of_ble_eq_true rfl : 0 < cnt (gn Γ) 8) (rfl : vwCl[10]? = _) (kX8_isSeen h) mvX8_isSeen lk_X8_125 ⟨Nat.le_of_ble_eq_true rfl, Nat.le_of_ble_eq_true rfl⟩ rfl hl.1 rfl (Nat.le_of_ble_eq_true rfl) dX8_bar_7 ⟨Nat.le_of_ble_eq_true rfl, Nat.le_of_ble_eq_true rfl⟩) (fun v2 H locs hf hw => ?_)
  refine q_if_ne (tgt := 15) hx hb hf dX8_bar_10 (by decide) (fun hf => ?_) (fun hf => ?_)
  · refine lv_aload_n hx hb dX8_bar_15 rfl (lv_at hl 0 rfl) ?_
    refine lv_iload_n hx hb dX8_bar_16 rfl (lv_at hl 1 rfl) ?_
    refine lv_iload_n hx hb dX8_bar_17 rfl (lv_at hl 2 rfl) ?_
    refine q_pI hf hw (fun v h => q_rV (As := [.int x1, .int x2]) (rest := []) (q := (RX8, TX8, 32)) X hK hw rfl (Nat.le_of_ble_eq_true rfl : 0 < cnt (gn Γ) 8) (rfl : vwCl[10]? = _) (kX8_isBarred h) mvX8_isBarred lk_X8_190 ⟨Nat.le_of_ble_eq_true rfl, Nat.le_of_ble_eq_true rfl⟩ rfl hl.1 rfl (Nat.le_of_ble_eq_true rfl) dX8_bar_18 ⟨Nat.le_of_ble_eq_true rfl, Nat.le_of_ble_eq_true rfl⟩) (fun v3 H locs hf hw => ?_)
    refine q_if_eq (tgt := 26) hx hb hf dX8_bar_21 (by decide) (fun hf => ?_) (fun hf => ?_)
    · refine lv_aload_n hx hb dX8_bar_26 rfl (lv_at hl 0 rfl) ?_
      refine q_get (v := .int (gI σ1 8 0 20)) hx hb hK hw hown in_X8 ins_X8 (rfl : vwCl[10]? = some (RX8, TX8, 32)) rfl (Nat.le_of_ble_eq_true rfl : 0 < cnt (gn Γ) 8) 20 (by decide) 1374 fl_X8_108 rfl rfl dX8_bar_27 ?_
      refine lv_sipush (v := 250) hx hb dX8_bar_30 (by decide) ?_
      refine q_ic_ne (tgt := 40) hx hb hf dX8_bar_33 (by decide) (fun hf => ?_) (fun hf => ?_)
      · refine lv_iconst (v := 0) hx hb dX8_bar_40 (by decide) ?_
        exact q_eiret hf hx hb hr rfl hk hw dX8_bar_41 (Nat.le_of_ble_eq_true rfl) (Nat.le_of_ble_eq_true rfl)
      refine lv_iconst (v := 4) hx hb dX8_bar_36 (by decide) ?_
      refine lv_goto (tgt := 41) hx hb dX8_bar_37 (by decide) ?_
      exact q_eiret hf hx hb hr rfl hk hw dX8_bar_41 (Nat.le_of_ble_eq_true rfl) (Nat.le_of_ble_eq_true rfl)
    refine lv_iconst (v := 3) hx hb dX8_bar_24 (by decide) ?_
    exact q_eiret hf hx hb hr rfl hk hw dX8_bar_25 (Nat.le_of_ble_eq_true rfl) (Nat.le_of_ble_eq_true rfl)
  refine lv_iconst (v := 2) hx hb dX8_bar_13 (by decide) ?_
  exact q_eiret hf hx hb hr rfl hk hw dX8_bar_14 (Nat.le_of_ble_eq_true rfl) (Nat.le_of_ble_eq_true rfl)
set_option maxRecDepth 100000 in
theorem kX8_move {Γ : Gm} {S : List (String × Nat × String)} {l : Launch} {N : Nat} {σ τ : St} {x1 : Int32} {x2 : Int32} {x3 : Int32} {x4 : Int32} {r : Int32}  (hf : fX8_move N σ x1 x2 x3 x4 = some (r, τ)) : CT Γ S l yX8_move cX8_move 11 (some (.int)) 4 90 0 0 [.ref (ga Γ 8 0), .int x1, .int x2, .int x3, .int x4] (some (.int r)) σ τ := by
  unfold fX8_move at hf
  refine ct_body (lv := [(0, .ref (ga Γ 8 0)), (1, .int x1), (2, .int x2), (3, .int x3), (4, .int x4)]) (by decide +kernel) rfl (Nat.le_of_ble_eq_true rfl) ?_
  intro p e s m below meth c ls X hr hk hK hw hl
  have hx := X.1
  have hb := X.2.1
  have hown := X.2.2.2
  refine lv_aload_n hx hb dX8_move_0 rfl (lv_at hl 0 rfl) ?_
  refine lv_iconst (v := 0) hx hb dX8_move_1 (by decide) ?_
  refine q_puti (v := (0 : Int32)) hx hb hK hw hown in_X8 ins_X8 tyX8 tyX8_ok nmX8 (rfl : vwCl[10]? = some (RX8, TX8, 32)) (fun _ _ _ => rfl) (Nat.le_of_ble_eq_true rfl : 0 < cnt (gn Γ) 8) 0 (by decide) 1354 fl_X8_97 rfl rfl rfl (fun _ _ _ => Nat.le_of_ble_eq_true rfl) (fun _ _ _ => rfl) hf dX8_move_2 (fun σ1 H locs hf hw => ?_)
  refine lv_iload_n hx hb dX8_move_5 rfl (lv_at hl 2 rfl) ?_
  refine lv_iconst (v := 0) hx hb dX8_move_6 (by decide) ?_
  refine lv_aload_n hx hb dX8_move_7 rfl (lv_at hl 0 rfl) ?_
  refine q_get (v := .int (gI σ1 8 0 8)) hx hb hK hw hown in_X8 ins_X8 (rfl : vwCl[10]? = some (RX8, TX8, 32)) rfl (Nat.le_of_ble_eq_true rfl : 0 < cnt (gn Γ) 8) 8 (by decide) 1362 fl_X8_119 rfl rfl dX8_move_8 ?_
  refine lv_iconst (v := 1) hx hb dX8_move_11 (by decide) ?_
  refine lv_isub hx hb dX8_move_12 ?_
  refine q_pI hf hw (fun v h => q_rS (As := [.int x2, .int (0 : Int32), .int ((gI σ1 8 0 8) - (1 : Int32))]) (rest := []) X hK hw (kX8_isBetween h) msX8_isBetween lk_X8_101 ⟨Nat.le_of_ble_eq_true rfl, Nat.le_of_ble_eq_true rfl⟩ rfl hl.1 rfl (Nat.le_of_ble_eq_true rfl) dX8_move_13 ⟨Nat.le_of_ble_eq_true rfl, Nat.le_of_ble_eq_true rfl⟩) (fun v2 H locs hf hw => ?_)
  refine lv_istore (lv' := [(5, .int v2), (0, .ref (ga Γ 8 0)), (1, .int x1), (2, .int x2), (3, .int x3), (4, .int x4)]) hx hb dX8_move_16 hl (by decide) rfl (fun ls hl => ?_)
  refine lv_iload_n hx hb dX8_move_18 rfl (lv_at hl 2 rfl) ?_
  refine q_pI hf hw (fun v h => q_rS (As := [.int x1]) (rest := []) X hK hw (kX8_isUser h) msX8_isUser lk_X8_165 ⟨Nat.le_of_ble_eq_true rfl, Nat.le_of_ble_eq_true rfl⟩ rfl hl.1 rfl (Nat.le_of_ble_eq_true rfl) dX8_move_19 ⟨Nat.le_of_ble_eq_true rfl, Nat.le_of_ble_eq_true rfl⟩) (fun v3 H locs hf hw => ?_)
  refine q_if_eq (tgt := 52) hx hb hf dX8_move_22 (by decide) (fun hf => ?_) (fun hf => ?_)
  · refine lv_aload_n hx hb dX8_move_52 rfl (lv_at hl 1 rfl) ?_
    refine lv_iconst (v := 1) hx hb dX8_move_53 (by decide) ?_
    refine q_eI hf hw (fun v τ h => q_rV (As := [.int (1 : Int32)]) (rest := []) (q := (RX8, TX8, 32)) X hK hw rfl (Nat.le_of_ble_eq_true rfl : 0 < cnt (gn Γ) 8) (rfl : vwCl[10]? = _) (kX8_fails h) mvX8_fails lk_X8_172 ⟨Nat.le_of_ble_eq_true rfl, Nat.le_of_ble_eq_true rfl⟩ rfl hl.1 rfl (Nat.le_of_ble_eq_true rfl) dX8_move_54 ⟨Nat.le_of_ble_eq_true rfl, Nat.le_of_ble_eq_true rfl⟩) (fun v5 σ4 H locs hf hw => ?_)
    exact q_eiret hf hx hb hr rfl hk hw dX8_move_57 (Nat.le_of_ble_eq_true rfl) (Nat.le_of_ble_eq_true rfl)
  refine lv_iload hx hb dX8_move_25 (lv_at hl 0 rfl) ?_
  refine q_if_eq (tgt := 58) hx hb hf dX8_move_27 (by decide) (fun hf => ?_) (fun hf => ?_)
  · refine lv_aload_n hx hb dX8_move_58 rfl (lv_at hl 1 rfl) ?_
    refine lv_aload_n hx hb dX8_move_59 rfl (lv_at hl 1 rfl) ?_
    refine lv_iload_n hx hb dX8_move_60 rfl (lv_at hl 2 rfl) ?_
    refine lv_iload_n hx hb dX8_move_61 rfl (lv_at hl 3 rfl) ?_
    refine q_eI hf hw (fun v τ h => q_rV (As := [.int x1, .int x2]) (rest := [.ref (ga Γ 8 0)]) (q := (RX8, TX8, 32)) X hK hw rfl (Nat.le_of_ble_eq_true rfl : 0 < cnt (gn Γ) 8) (rfl : vwCl[10]? = _) (kX8_bar h) mvX8_bar lk_X8_193 ⟨Nat.le_of_ble_eq_true rfl, Nat.le_of_ble_eq_true rfl⟩ rfl hl.1 rfl (Nat.le_of_ble_eq_true rfl) dX8_move_62 ⟨Nat.le_of_ble_eq_true rfl, Nat.le_of_ble_eq_true rfl⟩) (fun v7 σ6 H locs hf hw => ?_)
    refine q_puti (v := v7) hx hb hK hw hown in_X8 ins_X8 tyX8 tyX8_ok nmX8 (rfl : vwCl[10]? = some (RX8, TX8, 32)) (fun _ _ _ => rfl) (Nat.le_of_ble_eq_true rfl : 0 < cnt (gn Γ) 8) 0 (by decide) 1354 fl_X8_97 rfl rfl rfl (fun _ _ _ => Nat.le_of_ble_eq_true rfl) (fun _ _ _ => rfl) hf dX8_move_65 (fun σ8 H locs hf hw => ?_)
    refine lv_aload_n hx hb dX8_move_68 rfl (lv_at hl 1 rfl) ?_
    refine q_get (v := .int (gI σ8 8 0 0)) hx hb hK hw hown in_X8 ins_X8 (rfl : vwCl[10]? = some (RX8, TX8, 32)) rfl (Nat.le_of_ble_eq_true rfl : 0 < cnt (gn Γ) 8) 0 (by decide) 1354 fl_X8_97 rfl rfl dX8_move_69 ?_
    refine q_if_le (tgt := 77) hx hb hf dX8_move_72 (by decide) (fun hf => ?_) (fun hf => ?_)
    · refine lv_iload_n hx hb dX8_move_77 rfl (lv_at hl 4 rfl) ?_
      refine lv_aload_n hx hb dX8_move_78 rfl (lv_at hl 1 rfl) ?_
      refine lv_iload_n hx hb dX8_move_79 rfl (lv_at hl 3 rfl) ?_
      refine q_pI hf hw (fun v h => q_rV (As := [.int x2]) (rest := [.int x3]) (q := (RX8, TX8, 32)) X hK hw rfl (Nat.le_of_ble_eq_true rfl : 0 < cnt (gn Γ) 8) (rfl : vwCl[10]? = _) (kX8_column h) mvX8_column lk_X8_141 ⟨Nat.le_of_ble_eq_true rfl, Nat.le_of_ble_eq_true rfl⟩ rfl hl.1 rfl (Nat.le_of_ble_eq_true rfl) dX8_move_80 ⟨Nat.le_of_ble_eq_true rfl, Nat.le_of_ble_eq_true rfl⟩) (fun v9 H locs hf hw => ?_)
      refine lv_isub hx hb dX8_move_83 ?_
      refine q_istore (lv1 := [(5, .int v2), (0, .ref (ga Γ 8 0)), (1, .int x1), (2, .int x2), (3, .int x3), (4, .int x4)]) hx hb hf dX8_move_84 hl (by decide) rfl (fun v10 ls hf hl => ?_)
      refine lv_iload hx hb dX8_move_86 (lv_at hl 6 rfl) ?_
      refine lv_aload_n hx hb dX8_move_88 rfl (lv_at hl 2 rfl) ?_
      refine lv_iload_n hx hb dX8_move_89 rfl (lv_at hl 4 rfl) ?_
      refine q_pI hf hw (fun v h => q_rV (As := [.int x2]) (rest := [.int x4]) (q := (RX8, TX8, 32)) X hK hw rfl (Nat.le_of_ble_eq_true rfl : 0 < cnt (gn Γ) 8) (rfl : vwCl[10]? = _) (kX8_row h) mvX8_row lk_X8_145 ⟨Nat.le_of_ble_eq_true rfl, Nat.le_of_ble_eq_true rfl⟩ rfl hl.1 rfl (Nat.le_of_ble_eq_true rfl) dX8_move_90 ⟨Nat.le_of_ble_eq_true rfl, Nat.le_of_ble_eq_true rfl⟩) (fun v11 H locs hf hw => ?_)
      refine lv_isub hx hb dX8_move_93 ?_
      refine q_istore (lv1 := [(6, .int v10), (5, .int v2), (0, .ref (ga Γ 8 0)), (1, .int x1), (2, .int x2), (3, .int x3), (4, .int x4)]) hx hb hf dX8_move_94 hl (by decide) rfl (fun v12 ls hf hl => ?_)
      refine lv_iconst (v := 0) hx hb dX8_move_96 (by decide) ?_
      refine lv_istore (lv' := [(8, .int (0 : Int32)), (7, .int v12), (6, .int v10), (5, .int v2), (0, .ref (ga Γ 8 0)), (1, .int x1), (2, .int x2), (3, .int x3), (4, .int x4)]) hx hb dX8_move_97 hl (by decide) rfl (fun ls hl => ?_)
      refine lv_iconst (v := 0) hx hb dX8_move_99 (by decide) ?_
      refine lv_istore (lv' := [(9, .int (0 : Int32)), (8, .int (0 : Int32)), (7, .int v12), (6, .int v10), (5, .int v2), (0, .ref (ga Γ 8 0)), (1, .int x1), (2, .int x2), (3, .int x3), (4, .int x4)]) hx hb dX8_move_100 hl (by decide) rfl (fun ls hl => ?_)
      have L102 : ∀ (K : Int32 → Int32 → St → Option ((Int32 × St))) (hkk : ∀ (y8 : Int32) (y9 : Int32) (σq : St) (H : Heap) (locs : List Loc) (ls : Array Slot), K y8 y9 σq = some (r, τ) → Sit Γ σq s H locs → lv_has ls 11 [(0, .ref (ga Γ 8 0)), (1, .int x1), (8, .int y8)] → W p l e { frames := 4, cells := 0, slots := 0, locals := 90 } s m [.ref (ga Γ 8 0), .int x1, .int x2, .int x3, .int x4].toArray below meth c H locs 0 0 (MQ below (Qg Γ (some (.int r)) τ (AA Γ s.heap.size)) [.ref (ga Γ 8 0), .int x1, .int x2, .int x3, .int x4].toArray s 0 0 (AA Γ s.heap.size)) (F0 m 216 ls [])) (n : Nat) (v13 : Int32) (v14 : Int32) (σ15 : St) (H : Heap) (locs : List Loc) (ls : Array Slot), fX8_move_L102 K N x1 x2 v10 v12 n v13 v14 σ15 = some (r, τ) → Sit Γ σ15 s H locs → lv_has ls 11 [(0, .ref (ga Γ 8 0)), (1, .int x1), (2, .int x2), (6, .int v10), (7, .int v12), (8, .int v13), (9, .int v14)] → W p l e { frames := 4, cells := 0, slots := 0, locals := 90 } s m [.ref (ga Γ 8 0), .int x1, .int x2, .int x3, .int x4].toArray below meth c H locs 0 0 (MQ below (Qg Γ (some (.int r)) τ (AA Γ s.heap.size)) [.ref (ga Γ 8 0), .int x1, .int x2, .int x3, .int x4].toArray s 0 0 (AA Γ s.heap.size)) (F0 m 102 ls []) := by
        intro K hkk n
        induction n with
        | zero =>
          intro _ _ _ _ _ _ hf
          exact nomatch hf
        | succ n ih =>
          intro v13 v14 σ15 H locs ls hf hw hl
          refine lv_iload hx hb dX8_move_102 (lv_at hl 6 rfl) ?_
          refine lv_aload_n hx hb dX8_move_104 rfl (lv_at hl 0 rfl) ?_
          refine q_get (v := .int (gI σ15 8 0 8)) hx hb hK hw hown in_X8 ins_X8 (rfl : vwCl[10]? = some (RX8, TX8, 32)) rfl (Nat.le_of_ble_eq_true rfl : 0 < cnt (gn Γ) 8) 8 (by decide) 1362 fl_X8_119 rfl rfl dX8_move_105 ?_
          refine q_ic_ge (tgt := 216) hx hb hf dX8_move_108 (by decide) (fun hf => ?_) (fun hf => ?_)
          · exact hkk _ _ _ _ _ _ hf hw (lv_sub hl [0, 1, 5] rfl)
          refine lv_iload hx hb dX8_move_111 (lv_at hl 6 rfl) ?_
          refine lv_iload_n hx hb dX8_move_113 rfl (lv_at hl 2 rfl) ?_
          refine q_ic_eq (tgt := 159) hx hb hf dX8_move_114 (by decide) (fun hf => ?_) (fun hf => ?_)
          · refine lv_iconst (v := 0) hx hb dX8_move_159 (by decide) ?_
            refine lv_istore (lv' := [(10, .int (0 : Int32)), (0, .ref (ga Γ 8 0)), (1, .int x1), (2, .int x2), (6, .int v10), (7, .int v12), (8, .int v13), (9, .int v14)]) hx hb dX8_move_160 hl (by decide) rfl (fun ls hl => ?_)
            refine lv_iload hx hb dX8_move_162 (lv_at hl 7 rfl) ?_
            refine lv_iload_n hx hb dX8_move_164 rfl (lv_at hl 3 rfl) ?_
            refine q_ic_eq (tgt := 176) hx hb hf dX8_move_165 (by decide) (fun hf => ?_) (fun hf => ?_)
            · refine lv_aload_n hx hb dX8_move_176 rfl (lv_at hl 1 rfl) ?_
              refine lv_bipush (v := 12) hx hb dX8_move_177 (by decide) ?_
              refine lv_iload hx hb dX8_move_179 (lv_at hl 7 rfl) ?_
              refine lv_iadd hx hb dX8_move_181 ?_
              refine lv_bipush (v := 32) hx hb dX8_move_182 (by decide) ?_
              refine lv_aload_n hx hb dX8_move_184 rfl (lv_at hl 1 rfl) ?_
              refine lv_iload hx hb dX8_move_185 (lv_at hl 7 rfl) ?_
              refine q_pI hf hw (fun v h => q_rV (As := [.int v14]) (rest := [.int (32 : Int32), .int ((12 : Int32) + v14), .ref (ga Γ 8 0)]) (q := (RX8, TX8, 32)) X hK hw rfl (Nat.le_of_ble_eq_true rfl : 0 < cnt (gn Γ) 8) (rfl : vwCl[10]? = _) (kX8_column h) mvX8_column lk_X8_141 ⟨Nat.le_of_ble_eq_true rfl, Nat.le_of_ble_eq_true rfl⟩ rfl hl.1 rfl (Nat.le_of_ble_eq_true rfl) dX8_move_187 ⟨Nat.le_of_ble_eq_true rfl, Nat.le_of_ble_eq_true rfl⟩) (fun v16 H locs hf hw => ?_)
              refine lv_iload hx hb dX8_move_190 (lv_at hl 4 rfl) ?_
              refine lv_iadd hx hb dX8_move_192 ?_
              refine lv_imul hx hb dX8_move_193 ?_
              refine lv_aload_n hx hb dX8_move_194 rfl (lv_at hl 1 rfl) ?_
              refine lv_iload hx hb dX8_move_195 (lv_at hl 7 rfl) ?_
              refine q_pI hf hw (fun v h => q_rV (As := [.int v14]) (rest := [.int ((32 : Int32) * (v16 + v10)), .int ((12 : Int32) + v14), .ref (ga Γ 8 0)]) (q := (RX8, TX8, 32)) X hK hw rfl (Nat.le_of_ble_eq_true rfl : 0 < cnt (gn Γ) 8) (rfl : vwCl[10]? = _) (kX8_row h) mvX8_row lk_X8_145 ⟨Nat.le_of_ble_eq_true rfl, Nat.le_of_ble_eq_true rfl⟩ rfl hl.1 rfl (Nat.le_of_ble_eq_true rfl) dX8_move_197 ⟨Nat.le_of_ble_eq_true rfl, Nat.le_of_ble_eq_true rfl⟩) (fun v17 H locs hf hw => ?_)
              refine lv_iadd hx hb dX8_move_200 ?_
              refine lv_iload hx hb dX8_move_201 (lv_at hl 5 rfl) ?_
              refine lv_iadd hx hb dX8_move_203 ?_
              refine q_eV hf hw (fun τ h => q_rV (As := [.int ((12 : Int32) + v14), .int ((((32 : Int32) * (v16 + v10)) + v17) + v12)]) (rest := []) (q := (RX8, TX8, 32)) X hK hw rfl (Nat.le_of_ble_eq_true rfl : 0 < cnt (gn Γ) 8) (rfl : vwCl[10]? = _) (kX8_plans h) mvX8_plans lk_X8_179 ⟨Nat.le_of_ble_eq_true rfl, Nat.le_of_ble_eq_true rfl⟩ rfl hl.1 rfl (Nat.le_of_ble_eq_true rfl) dX8_move_204 ⟨Nat.le_of_ble_eq_true rfl, Nat.le_of_ble_eq_true rfl⟩) (fun σ18 H locs hf hw => ?_)
              refine q_iinc (lv1 := [(10, .int (0 : Int32)), (0, .ref (ga Γ 8 0)), (1, .int x1), (2, .int x2), (6, .int v10), (7, .int v12), (9, .int v14)]) (d := 1) hx hb hf dX8_move_207 hl (k := 6) rfl (by decide) (by decide) rfl (fun v19 ls hf hl => ?_)
              refine q_iinc (lv1 := [(8, .int v19), (10, .int (0 : Int32)), (0, .ref (ga Γ 8 0)), (1, .int x1), (2, .int x2), (6, .int v10), (7, .int v12)]) (d := 1) hx hb hf dX8_move_210 hl (k := 7) rfl (by decide) (by decide) rfl (fun v20 ls hf hl => ?_)
              refine lv_goto (tgt := 102) hx hb dX8_move_213 (by decide) ?_
              exact ih _ _ _ _ _ _ hf hw (lv_sub hl [3, 4, 5, 6, 7, 1, 0] rfl)
            refine lv_iload hx hb dX8_move_168 (lv_at hl 0 rfl) ?_
            refine q_if_ne (tgt := 176) hx hb hf dX8_move_170 (by decide) (fun hf => ?_) (fun hf => ?_)
            · refine lv_aload_n hx hb dX8_move_176 rfl (lv_at hl 1 rfl) ?_
              refine lv_bipush (v := 12) hx hb dX8_move_177 (by decide) ?_
              refine lv_iload hx hb dX8_move_179 (lv_at hl 7 rfl) ?_
              refine lv_iadd hx hb dX8_move_181 ?_
              refine lv_bipush (v := 32) hx hb dX8_move_182 (by decide) ?_
              refine lv_aload_n hx hb dX8_move_184 rfl (lv_at hl 1 rfl) ?_
              refine lv_iload hx hb dX8_move_185 (lv_at hl 7 rfl) ?_
              refine q_pI hf hw (fun v h => q_rV (As := [.int v14]) (rest := [.int (32 : Int32), .int ((12 : Int32) + v14), .ref (ga Γ 8 0)]) (q := (RX8, TX8, 32)) X hK hw rfl (Nat.le_of_ble_eq_true rfl : 0 < cnt (gn Γ) 8) (rfl : vwCl[10]? = _) (kX8_column h) mvX8_column lk_X8_141 ⟨Nat.le_of_ble_eq_true rfl, Nat.le_of_ble_eq_true rfl⟩ rfl hl.1 rfl (Nat.le_of_ble_eq_true rfl) dX8_move_187 ⟨Nat.le_of_ble_eq_true rfl, Nat.le_of_ble_eq_true rfl⟩) (fun v21 H locs hf hw => ?_)
              refine lv_iload hx hb dX8_move_190 (lv_at hl 4 rfl) ?_
              refine lv_iadd hx hb dX8_move_192 ?_
              refine lv_imul hx hb dX8_move_193 ?_
              refine lv_aload_n hx hb dX8_move_194 rfl (lv_at hl 1 rfl) ?_
              refine lv_iload hx hb dX8_move_195 (lv_at hl 7 rfl) ?_
              refine q_pI hf hw (fun v h => q_rV (As := [.int v14]) (rest := [.int ((32 : Int32) * (v21 + v10)), .int ((12 : Int32) + v14), .ref (ga Γ 8 0)]) (q := (RX8, TX8, 32)) X hK hw rfl (Nat.le_of_ble_eq_true rfl : 0 < cnt (gn Γ) 8) (rfl : vwCl[10]? = _) (kX8_row h) mvX8_row lk_X8_145 ⟨Nat.le_of_ble_eq_true rfl, Nat.le_of_ble_eq_true rfl⟩ rfl hl.1 rfl (Nat.le_of_ble_eq_true rfl) dX8_move_197 ⟨Nat.le_of_ble_eq_true rfl, Nat.le_of_ble_eq_true rfl⟩) (fun v22 H locs hf hw => ?_)
              refine lv_iadd hx hb dX8_move_200 ?_
              refine lv_iload hx hb dX8_move_201 (lv_at hl 5 rfl) ?_
              refine lv_iadd hx hb dX8_move_203 ?_
              refine q_eV hf hw (fun τ h => q_rV (As := [.int ((12 : Int32) + v14), .int ((((32 : Int32) * (v21 + v10)) + v22) + v12)]) (rest := []) (q := (RX8, TX8, 32)) X hK hw rfl (Nat.le_of_ble_eq_true rfl : 0 < cnt (gn Γ) 8) (rfl : vwCl[10]? = _) (kX8_plans h) mvX8_plans lk_X8_179 ⟨Nat.le_of_ble_eq_true rfl, Nat.le_of_ble_eq_true rfl⟩ rfl hl.1 rfl (Nat.le_of_ble_eq_true rfl) dX8_move_204 ⟨Nat.le_of_ble_eq_true rfl, Nat.le_of_ble_eq_true rfl⟩) (fun σ23 H locs hf hw => ?_)
              refine q_iinc (lv1 := [(10, .int (0 : Int32)), (0, .ref (ga Γ 8 0)), (1, .int x1), (2, .int x2), (6, .int v10), (7, .int v12), (9, .int v14)]) (d := 1) hx hb hf dX8_move_207 hl (k := 6) rfl (by decide) (by decide) rfl (fun v24 ls hf hl => ?_)
              refine q_iinc (lv1 := [(8, .int v24), (10, .int (0 : Int32)), (0, .ref (ga Γ 8 0)), (1, .int x1), (2, .int x2), (6, .int v10), (7, .int v12)]) (d := 1) hx hb hf dX8_move_210 hl (k := 7) rfl (by decide) (by decide) rfl (fun v25 ls hf hl => ?_)
              refine lv_goto (tgt := 102) hx hb dX8_move_213 (by decide) ?_
              exact ih _ _ _ _ _ _ hf hw (lv_sub hl [3, 4, 5, 6, 7, 1, 0] rfl)
            refine lv_goto (tgt := 210) hx hb dX8_move_173 (by decide) ?_
            refine q_iinc (lv1 := [(10, .int (0 : Int32)), (0, .ref (ga Γ 8 0)), (1, .int x1), (2, .int x2), (6, .int v10), (7, .int v12), (8, .int v13)]) (d := 1) hx hb hf dX8_move_210 hl (k := 7) rfl (by decide) (by decide) rfl (fun v26 ls hf hl => ?_)
            refine lv_goto (tgt := 102) hx hb dX8_move_213 (by decide) ?_
            exact ih _ _ _ _ _ _ hf hw (lv_sub hl [2, 3, 4, 5, 6, 7, 0] rfl)
          refine lv_aload_n hx hb dX8_move_117 rfl (lv_at hl 0 rfl) ?_
          refine q_get (v := .ref (ga Γ 144 0)) hx hb hK hw hown in_X8 ins_X8 (rfl : vwCl[10]? = some (RX8, TX8, 32)) rfl (Nat.le_of_ble_eq_true rfl : 0 < cnt (gn Γ) 8) 5 (by decide) 1359 fl_X8_22 rfl rfl dX8_move_118 ?_
          refine lv_iload_n hx hb dX8_move_121 rfl (lv_at hl 2 rfl) ?_
          refine q_zald hx hb hK hw (k := 144) (o := 0) (fun _ _ _ => rfl) (Nat.le_of_ble_eq_true rfl : 0 < cnt (gn Γ) 144) hf dX8_move_122 (fun hf => ?_)
          refine q_if_eq (tgt := 159) hx hb hf dX8_move_123 (by decide) (fun hf => ?_) (fun hf => ?_)
          · refine lv_iconst (v := 0) hx hb dX8_move_159 (by decide) ?_
            refine lv_istore (lv' := [(10, .int (0 : Int32)), (0, .ref (ga Γ 8 0)), (1, .int x1), (2, .int x2), (6, .int v10), (7, .int v12), (8, .int v13), (9, .int v14)]) hx hb dX8_move_160 hl (by decide) rfl (fun ls hl => ?_)
            refine lv_iload hx hb dX8_move_162 (lv_at hl 7 rfl) ?_
            refine lv_iload_n hx hb dX8_move_164 rfl (lv_at hl 3 rfl) ?_
            refine q_ic_eq (tgt := 176) hx hb hf dX8_move_165 (by decide) (fun hf => ?_) (fun hf => ?_)
            · refine lv_aload_n hx hb dX8_move_176 rfl (lv_at hl 1 rfl) ?_
              refine lv_bipush (v := 12) hx hb dX8_move_177 (by decide) ?_
              refine lv_iload hx hb dX8_move_179 (lv_at hl 7 rfl) ?_
              refine lv_iadd hx hb dX8_move_181 ?_
              refine lv_bipush (v := 32) hx hb dX8_move_182 (by decide) ?_
              refine lv_aload_n hx hb dX8_move_184 rfl (lv_at hl 1 rfl) ?_
              refine lv_iload hx hb dX8_move_185 (lv_at hl 7 rfl) ?_
              refine q_pI hf hw (fun v h => q_rV (As := [.int v14]) (rest := [.int (32 : Int32), .int ((12 : Int32) + v14), .ref (ga Γ 8 0)]) (q := (RX8, TX8, 32)) X hK hw rfl (Nat.le_of_ble_eq_true rfl : 0 < cnt (gn Γ) 8) (rfl : vwCl[10]? = _) (kX8_column h) mvX8_column lk_X8_141 ⟨Nat.le_of_ble_eq_true rfl, Nat.le_of_ble_eq_true rfl⟩ rfl hl.1 rfl (Nat.le_of_ble_eq_true rfl) dX8_move_187 ⟨Nat.le_of_ble_eq_true rfl, Nat.le_of_ble_eq_true rfl⟩) (fun v27 H locs hf hw => ?_)
              refine lv_iload hx hb dX8_move_190 (lv_at hl 4 rfl) ?_
              refine lv_iadd hx hb dX8_move_192 ?_
              refine lv_imul hx hb dX8_move_193 ?_
              refine lv_aload_n hx hb dX8_move_194 rfl (lv_at hl 1 rfl) ?_
              refine lv_iload hx hb dX8_move_195 (lv_at hl 7 rfl) ?_
              refine q_pI hf hw (fun v h => q_rV (As := [.int v14]) (rest := [.int ((32 : Int32) * (v27 + v10)), .int ((12 : Int32) + v14), .ref (ga Γ 8 0)]) (q := (RX8, TX8, 32)) X hK hw rfl (Nat.le_of_ble_eq_true rfl : 0 < cnt (gn Γ) 8) (rfl : vwCl[10]? = _) (kX8_row h) mvX8_row lk_X8_145 ⟨Nat.le_of_ble_eq_true rfl, Nat.le_of_ble_eq_true rfl⟩ rfl hl.1 rfl (Nat.le_of_ble_eq_true rfl) dX8_move_197 ⟨Nat.le_of_ble_eq_true rfl, Nat.le_of_ble_eq_true rfl⟩) (fun v28 H locs hf hw => ?_)
              refine lv_iadd hx hb dX8_move_200 ?_
              refine lv_iload hx hb dX8_move_201 (lv_at hl 5 rfl) ?_
              refine lv_iadd hx hb dX8_move_203 ?_
              refine q_eV hf hw (fun τ h => q_rV (As := [.int ((12 : Int32) + v14), .int ((((32 : Int32) * (v27 + v10)) + v28) + v12)]) (rest := []) (q := (RX8, TX8, 32)) X hK hw rfl (Nat.le_of_ble_eq_true rfl : 0 < cnt (gn Γ) 8) (rfl : vwCl[10]? = _) (kX8_plans h) mvX8_plans lk_X8_179 ⟨Nat.le_of_ble_eq_true rfl, Nat.le_of_ble_eq_true rfl⟩ rfl hl.1 rfl (Nat.le_of_ble_eq_true rfl) dX8_move_204 ⟨Nat.le_of_ble_eq_true rfl, Nat.le_of_ble_eq_true rfl⟩) (fun σ29 H locs hf hw => ?_)
              refine q_iinc (lv1 := [(10, .int (0 : Int32)), (0, .ref (ga Γ 8 0)), (1, .int x1), (2, .int x2), (6, .int v10), (7, .int v12), (9, .int v14)]) (d := 1) hx hb hf dX8_move_207 hl (k := 6) rfl (by decide) (by decide) rfl (fun v30 ls hf hl => ?_)
              refine q_iinc (lv1 := [(8, .int v30), (10, .int (0 : Int32)), (0, .ref (ga Γ 8 0)), (1, .int x1), (2, .int x2), (6, .int v10), (7, .int v12)]) (d := 1) hx hb hf dX8_move_210 hl (k := 7) rfl (by decide) (by decide) rfl (fun v31 ls hf hl => ?_)
              refine lv_goto (tgt := 102) hx hb dX8_move_213 (by decide) ?_
              exact ih _ _ _ _ _ _ hf hw (lv_sub hl [3, 4, 5, 6, 7, 1, 0] rfl)
            refine lv_iload hx hb dX8_move_168 (lv_at hl 0 rfl) ?_
            refine q_if_ne (tgt := 176) hx hb hf dX8_move_170 (by decide) (fun hf => ?_) (fun hf => ?_)
            · refine lv_aload_n hx hb dX8_move_176 rfl (lv_at hl 1 rfl) ?_
              refine lv_bipush (v := 12) hx hb dX8_move_177 (by decide) ?_
              refine lv_iload hx hb dX8_move_179 (lv_at hl 7 rfl) ?_
              refine lv_iadd hx hb dX8_move_181 ?_
              refine lv_bipush (v := 32) hx hb dX8_move_182 (by decide) ?_
              refine lv_aload_n hx hb dX8_move_184 rfl (lv_at hl 1 rfl) ?_
              refine lv_iload hx hb dX8_move_185 (lv_at hl 7 rfl) ?_
              refine q_pI hf hw (fun v h => q_rV (As := [.int v14]) (rest := [.int (32 : Int32), .int ((12 : Int32) + v14), .ref (ga Γ 8 0)]) (q := (RX8, TX8, 32)) X hK hw rfl (Nat.le_of_ble_eq_true rfl : 0 < cnt (gn Γ) 8) (rfl : vwCl[10]? = _) (kX8_column h) mvX8_column lk_X8_141 ⟨Nat.le_of_ble_eq_true rfl, Nat.le_of_ble_eq_true rfl⟩ rfl hl.1 rfl (Nat.le_of_ble_eq_true rfl) dX8_move_187 ⟨Nat.le_of_ble_eq_true rfl, Nat.le_of_ble_eq_true rfl⟩) (fun v32 H locs hf hw => ?_)
              refine lv_iload hx hb dX8_move_190 (lv_at hl 4 rfl) ?_
              refine lv_iadd hx hb dX8_move_192 ?_
              refine lv_imul hx hb dX8_move_193 ?_
              refine lv_aload_n hx hb dX8_move_194 rfl (lv_at hl 1 rfl) ?_
              refine lv_iload hx hb dX8_move_195 (lv_at hl 7 rfl) ?_
              refine q_pI hf hw (fun v h => q_rV (As := [.int v14]) (rest := [.int ((32 : Int32) * (v32 + v10)), .int ((12 : Int32) + v14), .ref (ga Γ 8 0)]) (q := (RX8, TX8, 32)) X hK hw rfl (Nat.le_of_ble_eq_true rfl : 0 < cnt (gn Γ) 8) (rfl : vwCl[10]? = _) (kX8_row h) mvX8_row lk_X8_145 ⟨Nat.le_of_ble_eq_true rfl, Nat.le_of_ble_eq_true rfl⟩ rfl hl.1 rfl (Nat.le_of_ble_eq_true rfl) dX8_move_197 ⟨Nat.le_of_ble_eq_true rfl, Nat.le_of_ble_eq_true rfl⟩) (fun v33 H locs hf hw => ?_)
              refine lv_iadd hx hb dX8_move_200 ?_
              refine lv_iload hx hb dX8_move_201 (lv_at hl 5 rfl) ?_
              refine lv_iadd hx hb dX8_move_203 ?_
              refine q_eV hf hw (fun τ h => q_rV (As := [.int ((12 : Int32) + v14), .int ((((32 : Int32) * (v32 + v10)) + v33) + v12)]) (rest := []) (q := (RX8, TX8, 32)) X hK hw rfl (Nat.le_of_ble_eq_true rfl : 0 < cnt (gn Γ) 8) (rfl : vwCl[10]? = _) (kX8_plans h) mvX8_plans lk_X8_179 ⟨Nat.le_of_ble_eq_true rfl, Nat.le_of_ble_eq_true rfl⟩ rfl hl.1 rfl (Nat.le_of_ble_eq_true rfl) dX8_move_204 ⟨Nat.le_of_ble_eq_true rfl, Nat.le_of_ble_eq_true rfl⟩) (fun σ34 H locs hf hw => ?_)
              refine q_iinc (lv1 := [(10, .int (0 : Int32)), (0, .ref (ga Γ 8 0)), (1, .int x1), (2, .int x2), (6, .int v10), (7, .int v12), (9, .int v14)]) (d := 1) hx hb hf dX8_move_207 hl (k := 6) rfl (by decide) (by decide) rfl (fun v35 ls hf hl => ?_)
              refine q_iinc (lv1 := [(8, .int v35), (10, .int (0 : Int32)), (0, .ref (ga Γ 8 0)), (1, .int x1), (2, .int x2), (6, .int v10), (7, .int v12)]) (d := 1) hx hb hf dX8_move_210 hl (k := 7) rfl (by decide) (by decide) rfl (fun v36 ls hf hl => ?_)
              refine lv_goto (tgt := 102) hx hb dX8_move_213 (by decide) ?_
              exact ih _ _ _ _ _ _ hf hw (lv_sub hl [3, 4, 5, 6, 7, 1, 0] rfl)
            refine lv_goto (tgt := 210) hx hb dX8_move_173 (by decide) ?_
            refine q_iinc (lv1 := [(10, .int (0 : Int32)), (0, .ref (ga Γ 8 0)), (1, .int x1), (2, .int x2), (6, .int v10), (7, .int v12), (8, .int v13)]) (d := 1) hx hb hf dX8_move_210 hl (k := 7) rfl (by decide) (by decide) rfl (fun v37 ls hf hl => ?_)
            refine lv_goto (tgt := 102) hx hb dX8_move_213 (by decide) ?_
            exact ih _ _ _ _ _ _ hf hw (lv_sub hl [2, 3, 4, 5, 6, 7, 0] rfl)
          refine lv_aload_n hx hb dX8_move_126 rfl (lv_at hl 0 rfl) ?_
          refine lv_iload hx hb dX8_move_127 (lv_at hl 6 rfl) ?_
          refine q_pI hf hw (fun v h => q_rV (As := [.int v14]) (rest := []) (q := (RX8, TX8, 32)) X hK hw rfl (Nat.le_of_ble_eq_true rfl : 0 < cnt (gn Γ) 8) (rfl : vwCl[10]? = _) (kX8_isSeen h) mvX8_isSeen lk_X8_125 ⟨Nat.le_of_ble_eq_true rfl, Nat.le_of_ble_eq_true rfl⟩ rfl hl.1 rfl (Nat.le_of_ble_eq_true rfl) dX8_move_129 ⟨Nat.le_of_ble_eq_true rfl, Nat.le_of_ble_eq_true rfl⟩) (fun v38 H locs hf hw => ?_)
          refine q_if_eq (tgt := 159) hx hb hf dX8_move_132 (by decide) (fun hf => ?_) (fun hf => ?_)
          · refine lv_iconst (v := 0) hx hb dX8_move_159 (by decide) ?_
            refine lv_istore (lv' := [(10, .int (0 : Int32)), (0, .ref (ga Γ 8 0)), (1, .int x1), (2, .int x2), (6, .int v10), (7, .int v12), (8, .int v13), (9, .int v14)]) hx hb dX8_move_160 hl (by decide) rfl (fun ls hl => ?_)
            refine lv_iload hx hb dX8_move_162 (lv_at hl 7 rfl) ?_
            refine lv_iload_n hx hb dX8_move_164 rfl (lv_at hl 3 rfl) ?_
            refine q_ic_eq (tgt := 176) hx hb hf dX8_move_165 (by decide) (fun hf => ?_) (fun hf => ?_)
            · refine lv_aload_n hx hb dX8_move_176 rfl (lv_at hl 1 rfl) ?_
              refine lv_bipush (v := 12) hx hb dX8_move_177 (by decide) ?_
              refine lv_iload hx hb dX8_move_179 (lv_at hl 7 rfl) ?_
              refine lv_iadd hx hb dX8_move_181 ?_
              refine lv_bipush (v := 32) hx hb dX8_move_182 (by decide) ?_
              refine lv_aload_n hx hb dX8_move_184 rfl (lv_at hl 1 rfl) ?_
              refine lv_iload hx hb dX8_move_185 (lv_at hl 7 rfl) ?_
              refine q_pI hf hw (fun v h => q_rV (As := [.int v14]) (rest := [.int (32 : Int32), .int ((12 : Int32) + v14), .ref (ga Γ 8 0)]) (q := (RX8, TX8, 32)) X hK hw rfl (Nat.le_of_ble_eq_true rfl : 0 < cnt (gn Γ) 8) (rfl : vwCl[10]? = _) (kX8_column h) mvX8_column lk_X8_141 ⟨Nat.le_of_ble_eq_true rfl, Nat.le_of_ble_eq_true rfl⟩ rfl hl.1 rfl (Nat.le_of_ble_eq_true rfl) dX8_move_187 ⟨Nat.le_of_ble_eq_true rfl, Nat.le_of_ble_eq_true rfl⟩) (fun v39 H locs hf hw => ?_)
              refine lv_iload hx hb dX8_move_190 (lv_at hl 4 rfl) ?_
              refine lv_iadd hx hb dX8_move_192 ?_
              refine lv_imul hx hb dX8_move_193 ?_
              refine lv_aload_n hx hb dX8_move_194 rfl (lv_at hl 1 rfl) ?_
              refine lv_iload hx hb dX8_move_195 (lv_at hl 7 rfl) ?_
              refine q_pI hf hw (fun v h => q_rV (As := [.int v14]) (rest := [.int ((32 : Int32) * (v39 + v10)), .int ((12 : Int32) + v14), .ref (ga Γ 8 0)]) (q := (RX8, TX8, 32)) X hK hw rfl (Nat.le_of_ble_eq_true rfl : 0 < cnt (gn Γ) 8) (rfl : vwCl[10]? = _) (kX8_row h) mvX8_row lk_X8_145 ⟨Nat.le_of_ble_eq_true rfl, Nat.le_of_ble_eq_true rfl⟩ rfl hl.1 rfl (Nat.le_of_ble_eq_true rfl) dX8_move_197 ⟨Nat.le_of_ble_eq_true rfl, Nat.le_of_ble_eq_true rfl⟩) (fun v40 H locs hf hw => ?_)
              refine lv_iadd hx hb dX8_move_200 ?_
              refine lv_iload hx hb dX8_move_201 (lv_at hl 5 rfl) ?_
              refine lv_iadd hx hb dX8_move_203 ?_
              refine q_eV hf hw (fun τ h => q_rV (As := [.int ((12 : Int32) + v14), .int ((((32 : Int32) * (v39 + v10)) + v40) + v12)]) (rest := []) (q := (RX8, TX8, 32)) X hK hw rfl (Nat.le_of_ble_eq_true rfl : 0 < cnt (gn Γ) 8) (rfl : vwCl[10]? = _) (kX8_plans h) mvX8_plans lk_X8_179 ⟨Nat.le_of_ble_eq_true rfl, Nat.le_of_ble_eq_true rfl⟩ rfl hl.1 rfl (Nat.le_of_ble_eq_true rfl) dX8_move_204 ⟨Nat.le_of_ble_eq_true rfl, Nat.le_of_ble_eq_true rfl⟩) (fun σ41 H locs hf hw => ?_)
              refine q_iinc (lv1 := [(10, .int (0 : Int32)), (0, .ref (ga Γ 8 0)), (1, .int x1), (2, .int x2), (6, .int v10), (7, .int v12), (9, .int v14)]) (d := 1) hx hb hf dX8_move_207 hl (k := 6) rfl (by decide) (by decide) rfl (fun v42 ls hf hl => ?_)
              refine q_iinc (lv1 := [(8, .int v42), (10, .int (0 : Int32)), (0, .ref (ga Γ 8 0)), (1, .int x1), (2, .int x2), (6, .int v10), (7, .int v12)]) (d := 1) hx hb hf dX8_move_210 hl (k := 7) rfl (by decide) (by decide) rfl (fun v43 ls hf hl => ?_)
              refine lv_goto (tgt := 102) hx hb dX8_move_213 (by decide) ?_
              exact ih _ _ _ _ _ _ hf hw (lv_sub hl [3, 4, 5, 6, 7, 1, 0] rfl)
            refine lv_iload hx hb dX8_move_168 (lv_at hl 0 rfl) ?_
            refine q_if_ne (tgt := 176) hx hb hf dX8_move_170 (by decide) (fun hf => ?_) (fun hf => ?_)
            · refine lv_aload_n hx hb dX8_move_176 rfl (lv_at hl 1 rfl) ?_
              refine lv_bipush (v := 12) hx hb dX8_move_177 (by decide) ?_
              refine lv_iload hx hb dX8_move_179 (lv_at hl 7 rfl) ?_
              refine lv_iadd hx hb dX8_move_181 ?_
              refine lv_bipush (v := 32) hx hb dX8_move_182 (by decide) ?_
              refine lv_aload_n hx hb dX8_move_184 rfl (lv_at hl 1 rfl) ?_
              refine lv_iload hx hb dX8_move_185 (lv_at hl 7 rfl) ?_
              refine q_pI hf hw (fun v h => q_rV (As := [.int v14]) (rest := [.int (32 : Int32), .int ((12 : Int32) + v14), .ref (ga Γ 8 0)]) (q := (RX8, TX8, 32)) X hK hw rfl (Nat.le_of_ble_eq_true rfl : 0 < cnt (gn Γ) 8) (rfl : vwCl[10]? = _) (kX8_column h) mvX8_column lk_X8_141 ⟨Nat.le_of_ble_eq_true rfl, Nat.le_of_ble_eq_true rfl⟩ rfl hl.1 rfl (Nat.le_of_ble_eq_true rfl) dX8_move_187 ⟨Nat.le_of_ble_eq_true rfl, Nat.le_of_ble_eq_true rfl⟩) (fun v44 H locs hf hw => ?_)
              refine lv_iload hx hb dX8_move_190 (lv_at hl 4 rfl) ?_
              refine lv_iadd hx hb dX8_move_192 ?_
              refine lv_imul hx hb dX8_move_193 ?_
              refine lv_aload_n hx hb dX8_move_194 rfl (lv_at hl 1 rfl) ?_
              refine lv_iload hx hb dX8_move_195 (lv_at hl 7 rfl) ?_
              refine q_pI hf hw (fun v h => q_rV (As := [.int v14]) (rest := [.int ((32 : Int32) * (v44 + v10)), .int ((12 : Int32) + v14), .ref (ga Γ 8 0)]) (q := (RX8, TX8, 32)) X hK hw rfl (Nat.le_of_ble_eq_true rfl : 0 < cnt (gn Γ) 8) (rfl : vwCl[10]? = _) (kX8_row h) mvX8_row lk_X8_145 ⟨Nat.le_of_ble_eq_true rfl, Nat.le_of_ble_eq_true rfl⟩ rfl hl.1 rfl (Nat.le_of_ble_eq_true rfl) dX8_move_197 ⟨Nat.le_of_ble_eq_true rfl, Nat.le_of_ble_eq_true rfl⟩) (fun v45 H locs hf hw => ?_)
              refine lv_iadd hx hb dX8_move_200 ?_
              refine lv_iload hx hb dX8_move_201 (lv_at hl 5 rfl) ?_
              refine lv_iadd hx hb dX8_move_203 ?_
              refine q_eV hf hw (fun τ h => q_rV (As := [.int ((12 : Int32) + v14), .int ((((32 : Int32) * (v44 + v10)) + v45) + v12)]) (rest := []) (q := (RX8, TX8, 32)) X hK hw rfl (Nat.le_of_ble_eq_true rfl : 0 < cnt (gn Γ) 8) (rfl : vwCl[10]? = _) (kX8_plans h) mvX8_plans lk_X8_179 ⟨Nat.le_of_ble_eq_true rfl, Nat.le_of_ble_eq_true rfl⟩ rfl hl.1 rfl (Nat.le_of_ble_eq_true rfl) dX8_move_204 ⟨Nat.le_of_ble_eq_true rfl, Nat.le_of_ble_eq_true rfl⟩) (fun σ46 H locs hf hw => ?_)
              refine q_iinc (lv1 := [(10, .int (0 : Int32)), (0, .ref (ga Γ 8 0)), (1, .int x1), (2, .int x2), (6, .int v10), (7, .int v12), (9, .int v14)]) (d := 1) hx hb hf dX8_move_207 hl (k := 6) rfl (by decide) (by decide) rfl (fun v47 ls hf hl => ?_)
              refine q_iinc (lv1 := [(8, .int v47), (10, .int (0 : Int32)), (0, .ref (ga Γ 8 0)), (1, .int x1), (2, .int x2), (6, .int v10), (7, .int v12)]) (d := 1) hx hb hf dX8_move_210 hl (k := 7) rfl (by decide) (by decide) rfl (fun v48 ls hf hl => ?_)
              refine lv_goto (tgt := 102) hx hb dX8_move_213 (by decide) ?_
              exact ih _ _ _ _ _ _ hf hw (lv_sub hl [3, 4, 5, 6, 7, 1, 0] rfl)
            refine lv_goto (tgt := 210) hx hb dX8_move_173 (by decide) ?_
            refine q_iinc (lv1 := [(10, .int (0 : Int32)), (0, .ref (ga Γ 8 0)), (1, .int x1), (2, .int x2), (6, .int v10), (7, .int v12), (8, .int v13)]) (d := 1) hx hb hf dX8_move_210 hl (k := 7) rfl (by decide) (by decide) rfl (fun v49 ls hf hl => ?_)
            refine lv_goto (tgt := 102) hx hb dX8_move_213 (by decide) ?_
            exact ih _ _ _ _ _ _ hf hw (lv_sub hl [2, 3, 4, 5, 6, 7, 0] rfl)
          refine lv_aload_n hx hb dX8_move_135 rfl (lv_at hl 0 rfl) ?_
          refine lv_iload hx hb dX8_move_136 (lv_at hl 6 rfl) ?_
          refine lv_iload_n hx hb dX8_move_138 rfl (lv_at hl 2 rfl) ?_
          refine q_pI hf hw (fun v h => q_rV (As := [.int v14, .int x2]) (rest := []) (q := (RX8, TX8, 32)) X hK hw rfl (Nat.le_of_ble_eq_true rfl : 0 < cnt (gn Γ) 8) (rfl : vwCl[10]? = _) (kX8_isInside h) mvX8_isInside lk_X8_196 ⟨Nat.le_of_ble_eq_true rfl, Nat.le_of_ble_eq_true rfl⟩ rfl hl.1 rfl (Nat.le_of_ble_eq_true rfl) dX8_move_139 ⟨Nat.le_of_ble_eq_true rfl, Nat.le_of_ble_eq_true rfl⟩) (fun v50 H locs hf hw => ?_)
          refine q_if_eq (tgt := 159) hx hb hf dX8_move_142 (by decide) (fun hf => ?_) (fun hf => ?_)
          · refine lv_iconst (v := 0) hx hb dX8_move_159 (by decide) ?_
            refine lv_istore (lv' := [(10, .int (0 : Int32)), (0, .ref (ga Γ 8 0)), (1, .int x1), (2, .int x2), (6, .int v10), (7, .int v12), (8, .int v13), (9, .int v14)]) hx hb dX8_move_160 hl (by decide) rfl (fun ls hl => ?_)
            refine lv_iload hx hb dX8_move_162 (lv_at hl 7 rfl) ?_
            refine lv_iload_n hx hb dX8_move_164 rfl (lv_at hl 3 rfl) ?_
            refine q_ic_eq (tgt := 176) hx hb hf dX8_move_165 (by decide) (fun hf => ?_) (fun hf => ?_)
            · refine lv_aload_n hx hb dX8_move_176 rfl (lv_at hl 1 rfl) ?_
              refine lv_bipush (v := 12) hx hb dX8_move_177 (by decide) ?_
              refine lv_iload hx hb dX8_move_179 (lv_at hl 7 rfl) ?_
              refine lv_iadd hx hb dX8_move_181 ?_
              refine lv_bipush (v := 32) hx hb dX8_move_182 (by decide) ?_
              refine lv_aload_n hx hb dX8_move_184 rfl (lv_at hl 1 rfl) ?_
              refine lv_iload hx hb dX8_move_185 (lv_at hl 7 rfl) ?_
              refine q_pI hf hw (fun v h => q_rV (As := [.int v14]) (rest := [.int (32 : Int32), .int ((12 : Int32) + v14), .ref (ga Γ 8 0)]) (q := (RX8, TX8, 32)) X hK hw rfl (Nat.le_of_ble_eq_true rfl : 0 < cnt (gn Γ) 8) (rfl : vwCl[10]? = _) (kX8_column h) mvX8_column lk_X8_141 ⟨Nat.le_of_ble_eq_true rfl, Nat.le_of_ble_eq_true rfl⟩ rfl hl.1 rfl (Nat.le_of_ble_eq_true rfl) dX8_move_187 ⟨Nat.le_of_ble_eq_true rfl, Nat.le_of_ble_eq_true rfl⟩) (fun v51 H locs hf hw => ?_)
              refine lv_iload hx hb dX8_move_190 (lv_at hl 4 rfl) ?_
              refine lv_iadd hx hb dX8_move_192 ?_
              refine lv_imul hx hb dX8_move_193 ?_
              refine lv_aload_n hx hb dX8_move_194 rfl (lv_at hl 1 rfl) ?_
              refine lv_iload hx hb dX8_move_195 (lv_at hl 7 rfl) ?_
              refine q_pI hf hw (fun v h => q_rV (As := [.int v14]) (rest := [.int ((32 : Int32) * (v51 + v10)), .int ((12 : Int32) + v14), .ref (ga Γ 8 0)]) (q := (RX8, TX8, 32)) X hK hw rfl (Nat.le_of_ble_eq_true rfl : 0 < cnt (gn Γ) 8) (rfl : vwCl[10]? = _) (kX8_row h) mvX8_row lk_X8_145 ⟨Nat.le_of_ble_eq_true rfl, Nat.le_of_ble_eq_true rfl⟩ rfl hl.1 rfl (Nat.le_of_ble_eq_true rfl) dX8_move_197 ⟨Nat.le_of_ble_eq_true rfl, Nat.le_of_ble_eq_true rfl⟩) (fun v52 H locs hf hw => ?_)
              refine lv_iadd hx hb dX8_move_200 ?_
              refine lv_iload hx hb dX8_move_201 (lv_at hl 5 rfl) ?_
              refine lv_iadd hx hb dX8_move_203 ?_
              refine q_eV hf hw (fun τ h => q_rV (As := [.int ((12 : Int32) + v14), .int ((((32 : Int32) * (v51 + v10)) + v52) + v12)]) (rest := []) (q := (RX8, TX8, 32)) X hK hw rfl (Nat.le_of_ble_eq_true rfl : 0 < cnt (gn Γ) 8) (rfl : vwCl[10]? = _) (kX8_plans h) mvX8_plans lk_X8_179 ⟨Nat.le_of_ble_eq_true rfl, Nat.le_of_ble_eq_true rfl⟩ rfl hl.1 rfl (Nat.le_of_ble_eq_true rfl) dX8_move_204 ⟨Nat.le_of_ble_eq_true rfl, Nat.le_of_ble_eq_true rfl⟩) (fun σ53 H locs hf hw => ?_)
              refine q_iinc (lv1 := [(10, .int (0 : Int32)), (0, .ref (ga Γ 8 0)), (1, .int x1), (2, .int x2), (6, .int v10), (7, .int v12), (9, .int v14)]) (d := 1) hx hb hf dX8_move_207 hl (k := 6) rfl (by decide) (by decide) rfl (fun v54 ls hf hl => ?_)
              refine q_iinc (lv1 := [(8, .int v54), (10, .int (0 : Int32)), (0, .ref (ga Γ 8 0)), (1, .int x1), (2, .int x2), (6, .int v10), (7, .int v12)]) (d := 1) hx hb hf dX8_move_210 hl (k := 7) rfl (by decide) (by decide) rfl (fun v55 ls hf hl => ?_)
              refine lv_goto (tgt := 102) hx hb dX8_move_213 (by decide) ?_
              exact ih _ _ _ _ _ _ hf hw (lv_sub hl [3, 4, 5, 6, 7, 1, 0] rfl)
            refine lv_iload hx hb dX8_move_168 (lv_at hl 0 rfl) ?_
            refine q_if_ne (tgt := 176) hx hb hf dX8_move_170 (by decide) (fun hf => ?_) (fun hf => ?_)
            · refine lv_aload_n hx hb dX8_move_176 rfl (lv_at hl 1 rfl) ?_
              refine lv_bipush (v := 12) hx hb dX8_move_177 (by decide) ?_
              refine lv_iload hx hb dX8_move_179 (lv_at hl 7 rfl) ?_
              refine lv_iadd hx hb dX8_move_181 ?_
              refine lv_bipush (v := 32) hx hb dX8_move_182 (by decide) ?_
              refine lv_aload_n hx hb dX8_move_184 rfl (lv_at hl 1 rfl) ?_
              refine lv_iload hx hb dX8_move_185 (lv_at hl 7 rfl) ?_
              refine q_pI hf hw (fun v h => q_rV (As := [.int v14]) (rest := [.int (32 : Int32), .int ((12 : Int32) + v14), .ref (ga Γ 8 0)]) (q := (RX8, TX8, 32)) X hK hw rfl (Nat.le_of_ble_eq_true rfl : 0 < cnt (gn Γ) 8) (rfl : vwCl[10]? = _) (kX8_column h) mvX8_column lk_X8_141 ⟨Nat.le_of_ble_eq_true rfl, Nat.le_of_ble_eq_true rfl⟩ rfl hl.1 rfl (Nat.le_of_ble_eq_true rfl) dX8_move_187 ⟨Nat.le_of_ble_eq_true rfl, Nat.le_of_ble_eq_true rfl⟩) (fun v56 H locs hf hw => ?_)
              refine lv_iload hx hb dX8_move_190 (lv_at hl 4 rfl) ?_
              refine lv_iadd hx hb dX8_move_192 ?_
              refine lv_imul hx hb dX8_move_193 ?_
              refine lv_aload_n hx hb dX8_move_194 rfl (lv_at hl 1 rfl) ?_
              refine lv_iload hx hb dX8_move_195 (lv_at hl 7 rfl) ?_
              refine q_pI hf hw (fun v h => q_rV (As := [.int v14]) (rest := [.int ((32 : Int32) * (v56 + v10)), .int ((12 : Int32) + v14), .ref (ga Γ 8 0)]) (q := (RX8, TX8, 32)) X hK hw rfl (Nat.le_of_ble_eq_true rfl : 0 < cnt (gn Γ) 8) (rfl : vwCl[10]? = _) (kX8_row h) mvX8_row lk_X8_145 ⟨Nat.le_of_ble_eq_true rfl, Nat.le_of_ble_eq_true rfl⟩ rfl hl.1 rfl (Nat.le_of_ble_eq_true rfl) dX8_move_197 ⟨Nat.le_of_ble_eq_true rfl, Nat.le_of_ble_eq_true rfl⟩) (fun v57 H locs hf hw => ?_)
              refine lv_iadd hx hb dX8_move_200 ?_
              refine lv_iload hx hb dX8_move_201 (lv_at hl 5 rfl) ?_
              refine lv_iadd hx hb dX8_move_203 ?_
              refine q_eV hf hw (fun τ h => q_rV (As := [.int ((12 : Int32) + v14), .int ((((32 : Int32) * (v56 + v10)) + v57) + v12)]) (rest := []) (q := (RX8, TX8, 32)) X hK hw rfl (Nat.le_of_ble_eq_true rfl : 0 < cnt (gn Γ) 8) (rfl : vwCl[10]? = _) (kX8_plans h) mvX8_plans lk_X8_179 ⟨Nat.le_of_ble_eq_true rfl, Nat.le_of_ble_eq_true rfl⟩ rfl hl.1 rfl (Nat.le_of_ble_eq_true rfl) dX8_move_204 ⟨Nat.le_of_ble_eq_true rfl, Nat.le_of_ble_eq_true rfl⟩) (fun σ58 H locs hf hw => ?_)
              refine q_iinc (lv1 := [(10, .int (0 : Int32)), (0, .ref (ga Γ 8 0)), (1, .int x1), (2, .int x2), (6, .int v10), (7, .int v12), (9, .int v14)]) (d := 1) hx hb hf dX8_move_207 hl (k := 6) rfl (by decide) (by decide) rfl (fun v59 ls hf hl => ?_)
              refine q_iinc (lv1 := [(8, .int v59), (10, .int (0 : Int32)), (0, .ref (ga Γ 8 0)), (1, .int x1), (2, .int x2), (6, .int v10), (7, .int v12)]) (d := 1) hx hb hf dX8_move_210 hl (k := 7) rfl (by decide) (by decide) rfl (fun v60 ls hf hl => ?_)
              refine lv_goto (tgt := 102) hx hb dX8_move_213 (by decide) ?_
              exact ih _ _ _ _ _ _ hf hw (lv_sub hl [3, 4, 5, 6, 7, 1, 0] rfl)
            refine lv_goto (tgt := 210) hx hb dX8_move_173 (by decide) ?_
            refine q_iinc (lv1 := [(10, .int (0 : Int32)), (0, .ref (ga Γ 8 0)), (1, .int x1), (2, .int x2), (6, .int v10), (7, .int v12), (8, .int v13)]) (d := 1) hx hb hf dX8_move_210 hl (k := 7) rfl (by decide) (by decide) rfl (fun v61 ls hf hl => ?_)
            refine lv_goto (tgt := 102) hx hb dX8_move_213 (by decide) ?_
            exact ih _ _ _ _ _ _ hf hw (lv_sub hl [2, 3, 4, 5, 6, 7, 0] rfl)
          refine lv_aload_n hx hb dX8_move_145 rfl (lv_at hl 0 rfl) ?_
          refine lv_iload_n hx hb dX8_move_146 rfl (lv_at hl 1 rfl) ?_
          refine lv_iload hx hb dX8_move_147 (lv_at hl 6 rfl) ?_
          refine q_pI hf hw (fun v h => q_rV (As := [.int x1, .int v14]) (rest := []) (q := (RX8, TX8, 32)) X hK hw rfl (Nat.le_of_ble_eq_true rfl : 0 < cnt (gn Γ) 8) (rfl : vwCl[10]? = _) (kX8_isBarred h) mvX8_isBarred lk_X8_190 ⟨Nat.le_of_ble_eq_true rfl, Nat.le_of_ble_eq_true rfl⟩ rfl hl.1 rfl (Nat.le_of_ble_eq_true rfl) dX8_move_149 ⟨Nat.le_of_ble_eq_true rfl, Nat.le_of_ble_eq_true rfl⟩) (fun v62 H locs hf hw => ?_)
          refine q_if_ne (tgt := 159) hx hb hf dX8_move_152 (by decide) (fun hf => ?_) (fun hf => ?_)
          · refine lv_iconst (v := 0) hx hb dX8_move_159 (by decide) ?_
            refine lv_istore (lv' := [(10, .int (0 : Int32)), (0, .ref (ga Γ 8 0)), (1, .int x1), (2, .int x2), (6, .int v10), (7, .int v12), (8, .int v13), (9, .int v14)]) hx hb dX8_move_160 hl (by decide) rfl (fun ls hl => ?_)
            refine lv_iload hx hb dX8_move_162 (lv_at hl 7 rfl) ?_
            refine lv_iload_n hx hb dX8_move_164 rfl (lv_at hl 3 rfl) ?_
            refine q_ic_eq (tgt := 176) hx hb hf dX8_move_165 (by decide) (fun hf => ?_) (fun hf => ?_)
            · refine lv_aload_n hx hb dX8_move_176 rfl (lv_at hl 1 rfl) ?_
              refine lv_bipush (v := 12) hx hb dX8_move_177 (by decide) ?_
              refine lv_iload hx hb dX8_move_179 (lv_at hl 7 rfl) ?_
              refine lv_iadd hx hb dX8_move_181 ?_
              refine lv_bipush (v := 32) hx hb dX8_move_182 (by decide) ?_
              refine lv_aload_n hx hb dX8_move_184 rfl (lv_at hl 1 rfl) ?_
              refine lv_iload hx hb dX8_move_185 (lv_at hl 7 rfl) ?_
              refine q_pI hf hw (fun v h => q_rV (As := [.int v14]) (rest := [.int (32 : Int32), .int ((12 : Int32) + v14), .ref (ga Γ 8 0)]) (q := (RX8, TX8, 32)) X hK hw rfl (Nat.le_of_ble_eq_true rfl : 0 < cnt (gn Γ) 8) (rfl : vwCl[10]? = _) (kX8_column h) mvX8_column lk_X8_141 ⟨Nat.le_of_ble_eq_true rfl, Nat.le_of_ble_eq_true rfl⟩ rfl hl.1 rfl (Nat.le_of_ble_eq_true rfl) dX8_move_187 ⟨Nat.le_of_ble_eq_true rfl, Nat.le_of_ble_eq_true rfl⟩) (fun v63 H locs hf hw => ?_)
              refine lv_iload hx hb dX8_move_190 (lv_at hl 4 rfl) ?_
              refine lv_iadd hx hb dX8_move_192 ?_
              refine lv_imul hx hb dX8_move_193 ?_
              refine lv_aload_n hx hb dX8_move_194 rfl (lv_at hl 1 rfl) ?_
              refine lv_iload hx hb dX8_move_195 (lv_at hl 7 rfl) ?_
              refine q_pI hf hw (fun v h => q_rV (As := [.int v14]) (rest := [.int ((32 : Int32) * (v63 + v10)), .int ((12 : Int32) + v14), .ref (ga Γ 8 0)]) (q := (RX8, TX8, 32)) X hK hw rfl (Nat.le_of_ble_eq_true rfl : 0 < cnt (gn Γ) 8) (rfl : vwCl[10]? = _) (kX8_row h) mvX8_row lk_X8_145 ⟨Nat.le_of_ble_eq_true rfl, Nat.le_of_ble_eq_true rfl⟩ rfl hl.1 rfl (Nat.le_of_ble_eq_true rfl) dX8_move_197 ⟨Nat.le_of_ble_eq_true rfl, Nat.le_of_ble_eq_true rfl⟩) (fun v64 H locs hf hw => ?_)
              refine lv_iadd hx hb dX8_move_200 ?_
              refine lv_iload hx hb dX8_move_201 (lv_at hl 5 rfl) ?_
              refine lv_iadd hx hb dX8_move_203 ?_
              refine q_eV hf hw (fun τ h => q_rV (As := [.int ((12 : Int32) + v14), .int ((((32 : Int32) * (v63 + v10)) + v64) + v12)]) (rest := []) (q := (RX8, TX8, 32)) X hK hw rfl (Nat.le_of_ble_eq_true rfl : 0 < cnt (gn Γ) 8) (rfl : vwCl[10]? = _) (kX8_plans h) mvX8_plans lk_X8_179 ⟨Nat.le_of_ble_eq_true rfl, Nat.le_of_ble_eq_true rfl⟩ rfl hl.1 rfl (Nat.le_of_ble_eq_true rfl) dX8_move_204 ⟨Nat.le_of_ble_eq_true rfl, Nat.le_of_ble_eq_true rfl⟩) (fun σ65 H locs hf hw => ?_)
              refine q_iinc (lv1 := [(10, .int (0 : Int32)), (0, .ref (ga Γ 8 0)), (1, .int x1), (2, .int x2), (6, .int v10), (7, .int v12), (9, .int v14)]) (d := 1) hx hb hf dX8_move_207 hl (k := 6) rfl (by decide) (by decide) rfl (fun v66 ls hf hl => ?_)
              refine q_iinc (lv1 := [(8, .int v66), (10, .int (0 : Int32)), (0, .ref (ga Γ 8 0)), (1, .int x1), (2, .int x2), (6, .int v10), (7, .int v12)]) (d := 1) hx hb hf dX8_move_210 hl (k := 7) rfl (by decide) (by decide) rfl (fun v67 ls hf hl => ?_)
              refine lv_goto (tgt := 102) hx hb dX8_move_213 (by decide) ?_
              exact ih _ _ _ _ _ _ hf hw (lv_sub hl [3, 4, 5, 6, 7, 1, 0] rfl)
            refine lv_iload hx hb dX8_move_168 (lv_at hl 0 rfl) ?_
            refine q_if_ne (tgt := 176) hx hb hf dX8_move_170 (by decide) (fun hf => ?_) (fun hf => ?_)
            · refine lv_aload_n hx hb dX8_move_176 rfl (lv_at hl 1 rfl) ?_
              refine lv_bipush (v := 12) hx hb dX8_move_177 (by decide) ?_
              refine lv_iload hx hb dX8_move_179 (lv_at hl 7 rfl) ?_
              refine lv_iadd hx hb dX8_move_181 ?_
              refine lv_bipush (v := 32) hx hb dX8_move_182 (by decide) ?_
              refine lv_aload_n hx hb dX8_move_184 rfl (lv_at hl 1 rfl) ?_
              refine lv_iload hx hb dX8_move_185 (lv_at hl 7 rfl) ?_
              refine q_pI hf hw (fun v h => q_rV (As := [.int v14]) (rest := [.int (32 : Int32), .int ((12 : Int32) + v14), .ref (ga Γ 8 0)]) (q := (RX8, TX8, 32)) X hK hw rfl (Nat.le_of_ble_eq_true rfl : 0 < cnt (gn Γ) 8) (rfl : vwCl[10]? = _) (kX8_column h) mvX8_column lk_X8_141 ⟨Nat.le_of_ble_eq_true rfl, Nat.le_of_ble_eq_true rfl⟩ rfl hl.1 rfl (Nat.le_of_ble_eq_true rfl) dX8_move_187 ⟨Nat.le_of_ble_eq_true rfl, Nat.le_of_ble_eq_true rfl⟩) (fun v68 H locs hf hw => ?_)
              refine lv_iload hx hb dX8_move_190 (lv_at hl 4 rfl) ?_
              refine lv_iadd hx hb dX8_move_192 ?_
              refine lv_imul hx hb dX8_move_193 ?_
              refine lv_aload_n hx hb dX8_move_194 rfl (lv_at hl 1 rfl) ?_
              refine lv_iload hx hb dX8_move_195 (lv_at hl 7 rfl) ?_
              refine q_pI hf hw (fun v h => q_rV (As := [.int v14]) (rest := [.int ((32 : Int32) * (v68 + v10)), .int ((12 : Int32) + v14), .ref (ga Γ 8 0)]) (q := (RX8, TX8, 32)) X hK hw rfl (Nat.le_of_ble_eq_true rfl : 0 < cnt (gn Γ) 8) (rfl : vwCl[10]? = _) (kX8_row h) mvX8_row lk_X8_145 ⟨Nat.le_of_ble_eq_true rfl, Nat.le_of_ble_eq_true rfl⟩ rfl hl.1 rfl (Nat.le_of_ble_eq_true rfl) dX8_move_197 ⟨Nat.le_of_ble_eq_true rfl, Nat.le_of_ble_eq_true rfl⟩) (fun v69 H locs hf hw => ?_)
              refine lv_iadd hx hb dX8_move_200 ?_
              refine lv_iload hx hb dX8_move_201 (lv_at hl 5 rfl) ?_
              refine lv_iadd hx hb dX8_move_203 ?_
              refine q_eV hf hw (fun τ h => q_rV (As := [.int ((12 : Int32) + v14), .int ((((32 : Int32) * (v68 + v10)) + v69) + v12)]) (rest := []) (q := (RX8, TX8, 32)) X hK hw rfl (Nat.le_of_ble_eq_true rfl : 0 < cnt (gn Γ) 8) (rfl : vwCl[10]? = _) (kX8_plans h) mvX8_plans lk_X8_179 ⟨Nat.le_of_ble_eq_true rfl, Nat.le_of_ble_eq_true rfl⟩ rfl hl.1 rfl (Nat.le_of_ble_eq_true rfl) dX8_move_204 ⟨Nat.le_of_ble_eq_true rfl, Nat.le_of_ble_eq_true rfl⟩) (fun σ70 H locs hf hw => ?_)
              refine q_iinc (lv1 := [(10, .int (0 : Int32)), (0, .ref (ga Γ 8 0)), (1, .int x1), (2, .int x2), (6, .int v10), (7, .int v12), (9, .int v14)]) (d := 1) hx hb hf dX8_move_207 hl (k := 6) rfl (by decide) (by decide) rfl (fun v71 ls hf hl => ?_)
              refine q_iinc (lv1 := [(8, .int v71), (10, .int (0 : Int32)), (0, .ref (ga Γ 8 0)), (1, .int x1), (2, .int x2), (6, .int v10), (7, .int v12)]) (d := 1) hx hb hf dX8_move_210 hl (k := 7) rfl (by decide) (by decide) rfl (fun v72 ls hf hl => ?_)
              refine lv_goto (tgt := 102) hx hb dX8_move_213 (by decide) ?_
              exact ih _ _ _ _ _ _ hf hw (lv_sub hl [3, 4, 5, 6, 7, 1, 0] rfl)
            refine lv_goto (tgt := 210) hx hb dX8_move_173 (by decide) ?_
            refine q_iinc (lv1 := [(10, .int (0 : Int32)), (0, .ref (ga Γ 8 0)), (1, .int x1), (2, .int x2), (6, .int v10), (7, .int v12), (8, .int v13)]) (d := 1) hx hb hf dX8_move_210 hl (k := 7) rfl (by decide) (by decide) rfl (fun v73 ls hf hl => ?_)
            refine lv_goto (tgt := 102) hx hb dX8_move_213 (by decide) ?_
            exact ih _ _ _ _ _ _ hf hw (lv_sub hl [2, 3, 4, 5, 6, 7, 0] rfl)
          refine lv_iconst (v := 1) hx hb dX8_move_155 (by decide) ?_
          refine lv_goto (tgt := 160) hx hb dX8_move_156 (by decide) ?_
          refine lv_istore (lv' := [(10, .int (1 : Int32)), (0, .ref (ga Γ 8 0)), (1, .int x1), (2, .int x2), (6, .int v10), (7, .int v12), (8, .int v13), (9, .int v14)]) hx hb dX8_move_160 hl (by decide) rfl (fun ls hl => ?_)
          refine lv_iload hx hb dX8_move_162 (lv_at hl 7 rfl) ?_
          refine lv_iload_n hx hb dX8_move_164 rfl (lv_at hl 3 rfl) ?_
          refine q_ic_eq (tgt := 176) hx hb hf dX8_move_165 (by decide) (fun hf => ?_) (fun hf => ?_)
          · refine lv_aload_n hx hb dX8_move_176 rfl (lv_at hl 1 rfl) ?_
            refine lv_bipush (v := 12) hx hb dX8_move_177 (by decide) ?_
            refine lv_iload hx hb dX8_move_179 (lv_at hl 7 rfl) ?_
            refine lv_iadd hx hb dX8_move_181 ?_
            refine lv_bipush (v := 32) hx hb dX8_move_182 (by decide) ?_
            refine lv_aload_n hx hb dX8_move_184 rfl (lv_at hl 1 rfl) ?_
            refine lv_iload hx hb dX8_move_185 (lv_at hl 7 rfl) ?_
            refine q_pI hf hw (fun v h => q_rV (As := [.int v14]) (rest := [.int (32 : Int32), .int ((12 : Int32) + v14), .ref (ga Γ 8 0)]) (q := (RX8, TX8, 32)) X hK hw rfl (Nat.le_of_ble_eq_true rfl : 0 < cnt (gn Γ) 8) (rfl : vwCl[10]? = _) (kX8_column h) mvX8_column lk_X8_141 ⟨Nat.le_of_ble_eq_true rfl, Nat.le_of_ble_eq_true rfl⟩ rfl hl.1 rfl (Nat.le_of_ble_eq_true rfl) dX8_move_187 ⟨Nat.le_of_ble_eq_true rfl, Nat.le_of_ble_eq_true rfl⟩) (fun v74 H locs hf hw => ?_)
            refine lv_iload hx hb dX8_move_190 (lv_at hl 4 rfl) ?_
            refine lv_iadd hx hb dX8_move_192 ?_
            refine lv_imul hx hb dX8_move_193 ?_
            refine lv_aload_n hx hb dX8_move_194 rfl (lv_at hl 1 rfl) ?_
            refine lv_iload hx hb dX8_move_195 (lv_at hl 7 rfl) ?_
            refine q_pI hf hw (fun v h => q_rV (As := [.int v14]) (rest := [.int ((32 : Int32) * (v74 + v10)), .int ((12 : Int32) + v14), .ref (ga Γ 8 0)]) (q := (RX8, TX8, 32)) X hK hw rfl (Nat.le_of_ble_eq_true rfl : 0 < cnt (gn Γ) 8) (rfl : vwCl[10]? = _) (kX8_row h) mvX8_row lk_X8_145 ⟨Nat.le_of_ble_eq_true rfl, Nat.le_of_ble_eq_true rfl⟩ rfl hl.1 rfl (Nat.le_of_ble_eq_true rfl) dX8_move_197 ⟨Nat.le_of_ble_eq_true rfl, Nat.le_of_ble_eq_true rfl⟩) (fun v75 H locs hf hw => ?_)
            refine lv_iadd hx hb dX8_move_200 ?_
            refine lv_iload hx hb dX8_move_201 (lv_at hl 5 rfl) ?_
            refine lv_iadd hx hb dX8_move_203 ?_
            refine q_eV hf hw (fun τ h => q_rV (As := [.int ((12 : Int32) + v14), .int ((((32 : Int32) * (v74 + v10)) + v75) + v12)]) (rest := []) (q := (RX8, TX8, 32)) X hK hw rfl (Nat.le_of_ble_eq_true rfl : 0 < cnt (gn Γ) 8) (rfl : vwCl[10]? = _) (kX8_plans h) mvX8_plans lk_X8_179 ⟨Nat.le_of_ble_eq_true rfl, Nat.le_of_ble_eq_true rfl⟩ rfl hl.1 rfl (Nat.le_of_ble_eq_true rfl) dX8_move_204 ⟨Nat.le_of_ble_eq_true rfl, Nat.le_of_ble_eq_true rfl⟩) (fun σ76 H locs hf hw => ?_)
            refine q_iinc (lv1 := [(10, .int (1 : Int32)), (0, .ref (ga Γ 8 0)), (1, .int x1), (2, .int x2), (6, .int v10), (7, .int v12), (9, .int v14)]) (d := 1) hx hb hf dX8_move_207 hl (k := 6) rfl (by decide) (by decide) rfl (fun v77 ls hf hl => ?_)
            refine q_iinc (lv1 := [(8, .int v77), (10, .int (1 : Int32)), (0, .ref (ga Γ 8 0)), (1, .int x1), (2, .int x2), (6, .int v10), (7, .int v12)]) (d := 1) hx hb hf dX8_move_210 hl (k := 7) rfl (by decide) (by decide) rfl (fun v78 ls hf hl => ?_)
            refine lv_goto (tgt := 102) hx hb dX8_move_213 (by decide) ?_
            exact ih _ _ _ _ _ _ hf hw (lv_sub hl [3, 4, 5, 6, 7, 1, 0] rfl)
          refine lv_iload hx hb dX8_move_168 (lv_at hl 0 rfl) ?_
          refine q_if_ne (tgt := 176) hx hb hf dX8_move_170 (by decide) (fun hf => ?_) (fun hf => ?_)
          · refine lv_aload_n hx hb dX8_move_176 rfl (lv_at hl 1 rfl) ?_
            refine lv_bipush (v := 12) hx hb dX8_move_177 (by decide) ?_
            refine lv_iload hx hb dX8_move_179 (lv_at hl 7 rfl) ?_
            refine lv_iadd hx hb dX8_move_181 ?_
            refine lv_bipush (v := 32) hx hb dX8_move_182 (by decide) ?_
            refine lv_aload_n hx hb dX8_move_184 rfl (lv_at hl 1 rfl) ?_
            refine lv_iload hx hb dX8_move_185 (lv_at hl 7 rfl) ?_
            refine q_pI hf hw (fun v h => q_rV (As := [.int v14]) (rest := [.int (32 : Int32), .int ((12 : Int32) + v14), .ref (ga Γ 8 0)]) (q := (RX8, TX8, 32)) X hK hw rfl (Nat.le_of_ble_eq_true rfl : 0 < cnt (gn Γ) 8) (rfl : vwCl[10]? = _) (kX8_column h) mvX8_column lk_X8_141 ⟨Nat.le_of_ble_eq_true rfl, Nat.le_of_ble_eq_true rfl⟩ rfl hl.1 rfl (Nat.le_of_ble_eq_true rfl) dX8_move_187 ⟨Nat.le_of_ble_eq_true rfl, Nat.le_of_ble_eq_true rfl⟩) (fun v79 H locs hf hw => ?_)
            refine lv_iload hx hb dX8_move_190 (lv_at hl 4 rfl) ?_
            refine lv_iadd hx hb dX8_move_192 ?_
            refine lv_imul hx hb dX8_move_193 ?_
            refine lv_aload_n hx hb dX8_move_194 rfl (lv_at hl 1 rfl) ?_
            refine lv_iload hx hb dX8_move_195 (lv_at hl 7 rfl) ?_
            refine q_pI hf hw (fun v h => q_rV (As := [.int v14]) (rest := [.int ((32 : Int32) * (v79 + v10)), .int ((12 : Int32) + v14), .ref (ga Γ 8 0)]) (q := (RX8, TX8, 32)) X hK hw rfl (Nat.le_of_ble_eq_true rfl : 0 < cnt (gn Γ) 8) (rfl : vwCl[10]? = _) (kX8_row h) mvX8_row lk_X8_145 ⟨Nat.le_of_ble_eq_true rfl, Nat.le_of_ble_eq_true rfl⟩ rfl hl.1 rfl (Nat.le_of_ble_eq_true rfl) dX8_move_197 ⟨Nat.le_of_ble_eq_true rfl, Nat.le_of_ble_eq_true rfl⟩) (fun v80 H locs hf hw => ?_)
            refine lv_iadd hx hb dX8_move_200 ?_
            refine lv_iload hx hb dX8_move_201 (lv_at hl 5 rfl) ?_
            refine lv_iadd hx hb dX8_move_203 ?_
            refine q_eV hf hw (fun τ h => q_rV (As := [.int ((12 : Int32) + v14), .int ((((32 : Int32) * (v79 + v10)) + v80) + v12)]) (rest := []) (q := (RX8, TX8, 32)) X hK hw rfl (Nat.le_of_ble_eq_true rfl : 0 < cnt (gn Γ) 8) (rfl : vwCl[10]? = _) (kX8_plans h) mvX8_plans lk_X8_179 ⟨Nat.le_of_ble_eq_true rfl, Nat.le_of_ble_eq_true rfl⟩ rfl hl.1 rfl (Nat.le_of_ble_eq_true rfl) dX8_move_204 ⟨Nat.le_of_ble_eq_true rfl, Nat.le_of_ble_eq_true rfl⟩) (fun σ81 H locs hf hw => ?_)
            refine q_iinc (lv1 := [(10, .int (1 : Int32)), (0, .ref (ga Γ 8 0)), (1, .int x1), (2, .int x2), (6, .int v10), (7, .int v12), (9, .int v14)]) (d := 1) hx hb hf dX8_move_207 hl (k := 6) rfl (by decide) (by decide) rfl (fun v82 ls hf hl => ?_)
            refine q_iinc (lv1 := [(8, .int v82), (10, .int (1 : Int32)), (0, .ref (ga Γ 8 0)), (1, .int x1), (2, .int x2), (6, .int v10), (7, .int v12)]) (d := 1) hx hb hf dX8_move_210 hl (k := 7) rfl (by decide) (by decide) rfl (fun v83 ls hf hl => ?_)
            refine lv_goto (tgt := 102) hx hb dX8_move_213 (by decide) ?_
            exact ih _ _ _ _ _ _ hf hw (lv_sub hl [3, 4, 5, 6, 7, 1, 0] rfl)
          refine lv_goto (tgt := 210) hx hb dX8_move_173 (by decide) ?_
          refine q_iinc (lv1 := [(10, .int (1 : Int32)), (0, .ref (ga Γ 8 0)), (1, .int x1), (2, .int x2), (6, .int v10), (7, .int v12), (8, .int v13)]) (d := 1) hx hb hf dX8_move_210 hl (k := 7) rfl (by decide) (by decide) rfl (fun v84 ls hf hl => ?_)
          refine lv_goto (tgt := 102) hx hb dX8_move_213 (by decide) ?_
          exact ih _ _ _ _ _ _ hf hw (lv_sub hl [2, 3, 4, 5, 6, 7, 0] rfl)
      refine L102 _ (fun v85 _ σ86 H locs ls hf hw hl => ?_) N (0 : Int32) (0 : Int32) σ8 _ _ _ hf hw (lv_sub hl [5, 6, 7, 3, 2, 1, 0] rfl)
      refine lv_aload_n hx hb dX8_move_216 rfl (lv_at hl 0 rfl) ?_
      refine lv_iload_n hx hb dX8_move_217 rfl (lv_at hl 1 rfl) ?_
      refine lv_iconst (v := 1) hx hb dX8_move_218 (by decide) ?_
      refine q_eV hf hw (fun τ h => q_rV (As := [.int x1, .int (1 : Int32)]) (rest := []) (q := (RX8, TX8, 32)) X hK hw rfl (Nat.le_of_ble_eq_true rfl : 0 < cnt (gn Γ) 8) (rfl : vwCl[10]? = _) (kX8_makes h) mvX8_makes lk_X8_186 ⟨Nat.le_of_ble_eq_true rfl, Nat.le_of_ble_eq_true rfl⟩ rfl hl.1 rfl (Nat.le_of_ble_eq_true rfl) dX8_move_219 ⟨Nat.le_of_ble_eq_true rfl, Nat.le_of_ble_eq_true rfl⟩) (fun σ87 H locs hf hw => ?_)
      refine lv_iload hx hb dX8_move_222 (lv_at hl 2 rfl) ?_
      exact q_eiret hf hx hb hr rfl hk hw dX8_move_224 (Nat.le_of_ble_eq_true rfl) (Nat.le_of_ble_eq_true rfl)
    refine lv_iconst (v := 0) hx hb dX8_move_75 (by decide) ?_
    exact q_eiret hf hx hb hr rfl hk hw dX8_move_76 (Nat.le_of_ble_eq_true rfl) (Nat.le_of_ble_eq_true rfl)
  refine lv_aload_n hx hb dX8_move_30 rfl (lv_at hl 1 rfl) ?_
  refine lv_iload_n hx hb dX8_move_31 rfl (lv_at hl 4 rfl) ?_
  refine lv_iload hx hb dX8_move_32 (lv_at hl 5 rfl) ?_
  refine lv_aload_n hx hb dX8_move_34 rfl (lv_at hl 1 rfl) ?_
  refine q_get (v := .ref (ga Γ 140 0)) hx hb hK hw hown in_X8 ins_X8 (rfl : vwCl[10]? = some (RX8, TX8, 32)) rfl (Nat.le_of_ble_eq_true rfl : 0 < cnt (gn Γ) 8) 1 (by decide) 1355 fl_X8_9 rfl rfl dX8_move_35 ?_
  refine lv_iload_n hx hb dX8_move_38 rfl (lv_at hl 3 rfl) ?_
  refine q_iald hx hb hK hw (k := 140) (o := 0) (fun _ _ _ => rfl) (Nat.le_of_ble_eq_true rfl : 0 < cnt (gn Γ) 140) hf dX8_move_39 (fun hf => ?_)
  refine lv_aload_n hx hb dX8_move_40 rfl (lv_at hl 1 rfl) ?_
  refine q_get (v := .ref (ga Γ 141 0)) hx hb hK hw hown in_X8 ins_X8 (rfl : vwCl[10]? = some (RX8, TX8, 32)) rfl (Nat.le_of_ble_eq_true rfl : 0 < cnt (gn Γ) 8) 2 (by decide) 1356 fl_X8_13 rfl rfl dX8_move_41 ?_
  refine lv_iload_n hx hb dX8_move_44 rfl (lv_at hl 3 rfl) ?_
  refine q_iald hx hb hK hw (k := 141) (o := 0) (fun _ _ _ => rfl) (Nat.le_of_ble_eq_true rfl : 0 < cnt (gn Γ) 141) hf dX8_move_45 (fun hf => ?_)
  refine q_pI hf hw (fun v h => q_rV (As := [.int x3, .int x4, .int (gI σ1 140 0 (Int32.toNatClampNeg x2)), .int (gI σ1 141 0 (Int32.toNatClampNeg x2))]) (rest := []) (q := (RX8, TX8, 32)) X hK hw rfl (Nat.le_of_ble_eq_true rfl : 0 < cnt (gn Γ) 8) (rfl : vwCl[10]? = _) (kX8_isOnBoard h) mvX8_isOnBoard lk_X8_168 ⟨Nat.le_of_ble_eq_true rfl, Nat.le_of_ble_eq_true rfl⟩ rfl hl.1 rfl (Nat.le_of_ble_eq_true rfl) dX8_move_46 ⟨Nat.le_of_ble_eq_true rfl, Nat.le_of_ble_eq_true rfl⟩) (fun v88 H locs hf hw => ?_)
  refine q_if_ne (tgt := 58) hx hb hf dX8_move_49 (by decide) (fun hf => ?_) (fun hf => ?_)
  · refine lv_aload_n hx hb dX8_move_58 rfl (lv_at hl 1 rfl) ?_
    refine lv_aload_n hx hb dX8_move_59 rfl (lv_at hl 1 rfl) ?_
    refine lv_iload_n hx hb dX8_move_60 rfl (lv_at hl 2 rfl) ?_
    refine lv_iload_n hx hb dX8_move_61 rfl (lv_at hl 3 rfl) ?_
    refine q_eI hf hw (fun v τ h => q_rV (As := [.int x1, .int x2]) (rest := [.ref (ga Γ 8 0)]) (q := (RX8, TX8, 32)) X hK hw rfl (Nat.le_of_ble_eq_true rfl : 0 < cnt (gn Γ) 8) (rfl : vwCl[10]? = _) (kX8_bar h) mvX8_bar lk_X8_193 ⟨Nat.le_of_ble_eq_true rfl, Nat.le_of_ble_eq_true rfl⟩ rfl hl.1 rfl (Nat.le_of_ble_eq_true rfl) dX8_move_62 ⟨Nat.le_of_ble_eq_true rfl, Nat.le_of_ble_eq_true rfl⟩) (fun v90 σ89 H locs hf hw => ?_)
    refine q_puti (v := v90) hx hb hK hw hown in_X8 ins_X8 tyX8 tyX8_ok nmX8 (rfl : vwCl[10]? = some (RX8, TX8, 32)) (fun _ _ _ => rfl) (Nat.le_of_ble_eq_true rfl : 0 < cnt (gn Γ) 8) 0 (by decide) 1354 fl_X8_97 rfl rfl rfl (fun _ _ _ => Nat.le_of_ble_eq_true rfl) (fun _ _ _ => rfl) hf dX8_move_65 (fun σ91 H locs hf hw => ?_)
    refine lv_aload_n hx hb dX8_move_68 rfl (lv_at hl 1 rfl) ?_
    refine q_get (v := .int (gI σ91 8 0 0)) hx hb hK hw hown in_X8 ins_X8 (rfl : vwCl[10]? = some (RX8, TX8, 32)) rfl (Nat.le_of_ble_eq_true rfl : 0 < cnt (gn Γ) 8) 0 (by decide) 1354 fl_X8_97 rfl rfl dX8_move_69 ?_
    refine q_if_le (tgt := 77) hx hb hf dX8_move_72 (by decide) (fun hf => ?_) (fun hf => ?_)
    · refine lv_iload_n hx hb dX8_move_77 rfl (lv_at hl 4 rfl) ?_
      refine lv_aload_n hx hb dX8_move_78 rfl (lv_at hl 1 rfl) ?_
      refine lv_iload_n hx hb dX8_move_79 rfl (lv_at hl 3 rfl) ?_
      refine q_pI hf hw (fun v h => q_rV (As := [.int x2]) (rest := [.int x3]) (q := (RX8, TX8, 32)) X hK hw rfl (Nat.le_of_ble_eq_true rfl : 0 < cnt (gn Γ) 8) (rfl : vwCl[10]? = _) (kX8_column h) mvX8_column lk_X8_141 ⟨Nat.le_of_ble_eq_true rfl, Nat.le_of_ble_eq_true rfl⟩ rfl hl.1 rfl (Nat.le_of_ble_eq_true rfl) dX8_move_80 ⟨Nat.le_of_ble_eq_true rfl, Nat.le_of_ble_eq_true rfl⟩) (fun v92 H locs hf hw => ?_)
      refine lv_isub hx hb dX8_move_83 ?_
      refine q_istore (lv1 := [(5, .int v2), (0, .ref (ga Γ 8 0)), (1, .int x1), (2, .int x2), (3, .int x3), (4, .int x4)]) hx hb hf dX8_move_84 hl (by decide) rfl (fun v93 ls hf hl => ?_)
      refine lv_iload hx hb dX8_move_86 (lv_at hl 6 rfl) ?_
      refine lv_aload_n hx hb dX8_move_88 rfl (lv_at hl 2 rfl) ?_
      refine lv_iload_n hx hb dX8_move_89 rfl (lv_at hl 4 rfl) ?_
      refine q_pI hf hw (fun v h => q_rV (As := [.int x2]) (rest := [.int x4]) (q := (RX8, TX8, 32)) X hK hw rfl (Nat.le_of_ble_eq_true rfl : 0 < cnt (gn Γ) 8) (rfl : vwCl[10]? = _) (kX8_row h) mvX8_row lk_X8_145 ⟨Nat.le_of_ble_eq_true rfl, Nat.le_of_ble_eq_true rfl⟩ rfl hl.1 rfl (Nat.le_of_ble_eq_true rfl) dX8_move_90 ⟨Nat.le_of_ble_eq_true rfl, Nat.le_of_ble_eq_true rfl⟩) (fun v94 H locs hf hw => ?_)
      refine lv_isub hx hb dX8_move_93 ?_
      refine q_istore (lv1 := [(6, .int v93), (5, .int v2), (0, .ref (ga Γ 8 0)), (1, .int x1), (2, .int x2), (3, .int x3), (4, .int x4)]) hx hb hf dX8_move_94 hl (by decide) rfl (fun v95 ls hf hl => ?_)
      refine lv_iconst (v := 0) hx hb dX8_move_96 (by decide) ?_
      refine lv_istore (lv' := [(8, .int (0 : Int32)), (7, .int v95), (6, .int v93), (5, .int v2), (0, .ref (ga Γ 8 0)), (1, .int x1), (2, .int x2), (3, .int x3), (4, .int x4)]) hx hb dX8_move_97 hl (by decide) rfl (fun ls hl => ?_)
      refine lv_iconst (v := 0) hx hb dX8_move_99 (by decide) ?_
      refine lv_istore (lv' := [(9, .int (0 : Int32)), (8, .int (0 : Int32)), (7, .int v95), (6, .int v93), (5, .int v2), (0, .ref (ga Γ 8 0)), (1, .int x1), (2, .int x2), (3, .int x3), (4, .int x4)]) hx hb dX8_move_100 hl (by decide) rfl (fun ls hl => ?_)
      have L102 : ∀ (K : Int32 → Int32 → St → Option ((Int32 × St))) (hkk : ∀ (y8 : Int32) (y9 : Int32) (σq : St) (H : Heap) (locs : List Loc) (ls : Array Slot), K y8 y9 σq = some (r, τ) → Sit Γ σq s H locs → lv_has ls 11 [(0, .ref (ga Γ 8 0)), (1, .int x1), (8, .int y8)] → W p l e { frames := 4, cells := 0, slots := 0, locals := 90 } s m [.ref (ga Γ 8 0), .int x1, .int x2, .int x3, .int x4].toArray below meth c H locs 0 0 (MQ below (Qg Γ (some (.int r)) τ (AA Γ s.heap.size)) [.ref (ga Γ 8 0), .int x1, .int x2, .int x3, .int x4].toArray s 0 0 (AA Γ s.heap.size)) (F0 m 216 ls [])) (n : Nat) (v96 : Int32) (v97 : Int32) (σ98 : St) (H : Heap) (locs : List Loc) (ls : Array Slot), fX8_move_L102_2 K N x1 x2 v93 v95 n v96 v97 σ98 = some (r, τ) → Sit Γ σ98 s H locs → lv_has ls 11 [(0, .ref (ga Γ 8 0)), (1, .int x1), (2, .int x2), (6, .int v93), (7, .int v95), (8, .int v96), (9, .int v97)] → W p l e { frames := 4, cells := 0, slots := 0, locals := 90 } s m [.ref (ga Γ 8 0), .int x1, .int x2, .int x3, .int x4].toArray below meth c H locs 0 0 (MQ below (Qg Γ (some (.int r)) τ (AA Γ s.heap.size)) [.ref (ga Γ 8 0), .int x1, .int x2, .int x3, .int x4].toArray s 0 0 (AA Γ s.heap.size)) (F0 m 102 ls []) := by
        intro K hkk n
        induction n with
        | zero =>
          intro _ _ _ _ _ _ hf
          exact nomatch hf
        | succ n ih =>
          intro v96 v97 σ98 H locs ls hf hw hl
          refine lv_iload hx hb dX8_move_102 (lv_at hl 6 rfl) ?_
          refine lv_aload_n hx hb dX8_move_104 rfl (lv_at hl 0 rfl) ?_
          refine q_get (v := .int (gI σ98 8 0 8)) hx hb hK hw hown in_X8 ins_X8 (rfl : vwCl[10]? = some (RX8, TX8, 32)) rfl (Nat.le_of_ble_eq_true rfl : 0 < cnt (gn Γ) 8) 8 (by decide) 1362 fl_X8_119 rfl rfl dX8_move_105 ?_
          refine q_ic_ge (tgt := 216) hx hb hf dX8_move_108 (by decide) (fun hf => ?_) (fun hf => ?_)
          · exact hkk _ _ _ _ _ _ hf hw (lv_sub hl [0, 1, 5] rfl)
          refine lv_iload hx hb dX8_move_111 (lv_at hl 6 rfl) ?_
          refine lv_iload_n hx hb dX8_move_113 rfl (lv_at hl 2 rfl) ?_
          refine q_ic_eq (tgt := 159) hx hb hf dX8_move_114 (by decide) (fun hf => ?_) (fun hf => ?_)
          · refine lv_iconst (v := 0) hx hb dX8_move_159 (by decide) ?_
            refine lv_istore (lv' := [(10, .int (0 : Int32)), (0, .ref (ga Γ 8 0)), (1, .int x1), (2, .int x2), (6, .int v93), (7, .int v95), (8, .int v96), (9, .int v97)]) hx hb dX8_move_160 hl (by decide) rfl (fun ls hl => ?_)
            refine lv_iload hx hb dX8_move_162 (lv_at hl 7 rfl) ?_
            refine lv_iload_n hx hb dX8_move_164 rfl (lv_at hl 3 rfl) ?_
            refine q_ic_eq (tgt := 176) hx hb hf dX8_move_165 (by decide) (fun hf => ?_) (fun hf => ?_)
            · refine lv_aload_n hx hb dX8_move_176 rfl (lv_at hl 1 rfl) ?_
              refine lv_bipush (v := 12) hx hb dX8_move_177 (by decide) ?_
              refine lv_iload hx hb dX8_move_179 (lv_at hl 7 rfl) ?_
              refine lv_iadd hx hb dX8_move_181 ?_
              refine lv_bipush (v := 32) hx hb dX8_move_182 (by decide) ?_
              refine lv_aload_n hx hb dX8_move_184 rfl (lv_at hl 1 rfl) ?_
              refine lv_iload hx hb dX8_move_185 (lv_at hl 7 rfl) ?_
              refine q_pI hf hw (fun v h => q_rV (As := [.int v97]) (rest := [.int (32 : Int32), .int ((12 : Int32) + v97), .ref (ga Γ 8 0)]) (q := (RX8, TX8, 32)) X hK hw rfl (Nat.le_of_ble_eq_true rfl : 0 < cnt (gn Γ) 8) (rfl : vwCl[10]? = _) (kX8_column h) mvX8_column lk_X8_141 ⟨Nat.le_of_ble_eq_true rfl, Nat.le_of_ble_eq_true rfl⟩ rfl hl.1 rfl (Nat.le_of_ble_eq_true rfl) dX8_move_187 ⟨Nat.le_of_ble_eq_true rfl, Nat.le_of_ble_eq_true rfl⟩) (fun v99 H locs hf hw => ?_)
              refine lv_iload hx hb dX8_move_190 (lv_at hl 4 rfl) ?_
              refine lv_iadd hx hb dX8_move_192 ?_
              refine lv_imul hx hb dX8_move_193 ?_
              refine lv_aload_n hx hb dX8_move_194 rfl (lv_at hl 1 rfl) ?_
              refine lv_iload hx hb dX8_move_195 (lv_at hl 7 rfl) ?_
              refine q_pI hf hw (fun v h => q_rV (As := [.int v97]) (rest := [.int ((32 : Int32) * (v99 + v93)), .int ((12 : Int32) + v97), .ref (ga Γ 8 0)]) (q := (RX8, TX8, 32)) X hK hw rfl (Nat.le_of_ble_eq_true rfl : 0 < cnt (gn Γ) 8) (rfl : vwCl[10]? = _) (kX8_row h) mvX8_row lk_X8_145 ⟨Nat.le_of_ble_eq_true rfl, Nat.le_of_ble_eq_true rfl⟩ rfl hl.1 rfl (Nat.le_of_ble_eq_true rfl) dX8_move_197 ⟨Nat.le_of_ble_eq_true rfl, Nat.le_of_ble_eq_true rfl⟩) (fun v100 H locs hf hw => ?_)
              refine lv_iadd hx hb dX8_move_200 ?_
              refine lv_iload hx hb dX8_move_201 (lv_at hl 5 rfl) ?_
              refine lv_iadd hx hb dX8_move_203 ?_
              refine q_eV hf hw (fun τ h => q_rV (As := [.int ((12 : Int32) + v97), .int ((((32 : Int32) * (v99 + v93)) + v100) + v95)]) (rest := []) (q := (RX8, TX8, 32)) X hK hw rfl (Nat.le_of_ble_eq_true rfl : 0 < cnt (gn Γ) 8) (rfl : vwCl[10]? = _) (kX8_plans h) mvX8_plans lk_X8_179 ⟨Nat.le_of_ble_eq_true rfl, Nat.le_of_ble_eq_true rfl⟩ rfl hl.1 rfl (Nat.le_of_ble_eq_true rfl) dX8_move_204 ⟨Nat.le_of_ble_eq_true rfl, Nat.le_of_ble_eq_true rfl⟩) (fun σ101 H locs hf hw => ?_)
              refine q_iinc (lv1 := [(10, .int (0 : Int32)), (0, .ref (ga Γ 8 0)), (1, .int x1), (2, .int x2), (6, .int v93), (7, .int v95), (9, .int v97)]) (d := 1) hx hb hf dX8_move_207 hl (k := 6) rfl (by decide) (by decide) rfl (fun v102 ls hf hl => ?_)
              refine q_iinc (lv1 := [(8, .int v102), (10, .int (0 : Int32)), (0, .ref (ga Γ 8 0)), (1, .int x1), (2, .int x2), (6, .int v93), (7, .int v95)]) (d := 1) hx hb hf dX8_move_210 hl (k := 7) rfl (by decide) (by decide) rfl (fun v103 ls hf hl => ?_)
              refine lv_goto (tgt := 102) hx hb dX8_move_213 (by decide) ?_
              exact ih _ _ _ _ _ _ hf hw (lv_sub hl [3, 4, 5, 6, 7, 1, 0] rfl)
            refine lv_iload hx hb dX8_move_168 (lv_at hl 0 rfl) ?_
            refine q_if_ne (tgt := 176) hx hb hf dX8_move_170 (by decide) (fun hf => ?_) (fun hf => ?_)
            · refine lv_aload_n hx hb dX8_move_176 rfl (lv_at hl 1 rfl) ?_
              refine lv_bipush (v := 12) hx hb dX8_move_177 (by decide) ?_
              refine lv_iload hx hb dX8_move_179 (lv_at hl 7 rfl) ?_
              refine lv_iadd hx hb dX8_move_181 ?_
              refine lv_bipush (v := 32) hx hb dX8_move_182 (by decide) ?_
              refine lv_aload_n hx hb dX8_move_184 rfl (lv_at hl 1 rfl) ?_
              refine lv_iload hx hb dX8_move_185 (lv_at hl 7 rfl) ?_
              refine q_pI hf hw (fun v h => q_rV (As := [.int v97]) (rest := [.int (32 : Int32), .int ((12 : Int32) + v97), .ref (ga Γ 8 0)]) (q := (RX8, TX8, 32)) X hK hw rfl (Nat.le_of_ble_eq_true rfl : 0 < cnt (gn Γ) 8) (rfl : vwCl[10]? = _) (kX8_column h) mvX8_column lk_X8_141 ⟨Nat.le_of_ble_eq_true rfl, Nat.le_of_ble_eq_true rfl⟩ rfl hl.1 rfl (Nat.le_of_ble_eq_true rfl) dX8_move_187 ⟨Nat.le_of_ble_eq_true rfl, Nat.le_of_ble_eq_true rfl⟩) (fun v104 H locs hf hw => ?_)
              refine lv_iload hx hb dX8_move_190 (lv_at hl 4 rfl) ?_
              refine lv_iadd hx hb dX8_move_192 ?_
              refine lv_imul hx hb dX8_move_193 ?_
              refine lv_aload_n hx hb dX8_move_194 rfl (lv_at hl 1 rfl) ?_
              refine lv_iload hx hb dX8_move_195 (lv_at hl 7 rfl) ?_
              refine q_pI hf hw (fun v h => q_rV (As := [.int v97]) (rest := [.int ((32 : Int32) * (v104 + v93)), .int ((12 : Int32) + v97), .ref (ga Γ 8 0)]) (q := (RX8, TX8, 32)) X hK hw rfl (Nat.le_of_ble_eq_true rfl : 0 < cnt (gn Γ) 8) (rfl : vwCl[10]? = _) (kX8_row h) mvX8_row lk_X8_145 ⟨Nat.le_of_ble_eq_true rfl, Nat.le_of_ble_eq_true rfl⟩ rfl hl.1 rfl (Nat.le_of_ble_eq_true rfl) dX8_move_197 ⟨Nat.le_of_ble_eq_true rfl, Nat.le_of_ble_eq_true rfl⟩) (fun v105 H locs hf hw => ?_)
              refine lv_iadd hx hb dX8_move_200 ?_
              refine lv_iload hx hb dX8_move_201 (lv_at hl 5 rfl) ?_
              refine lv_iadd hx hb dX8_move_203 ?_
              refine q_eV hf hw (fun τ h => q_rV (As := [.int ((12 : Int32) + v97), .int ((((32 : Int32) * (v104 + v93)) + v105) + v95)]) (rest := []) (q := (RX8, TX8, 32)) X hK hw rfl (Nat.le_of_ble_eq_true rfl : 0 < cnt (gn Γ) 8) (rfl : vwCl[10]? = _) (kX8_plans h) mvX8_plans lk_X8_179 ⟨Nat.le_of_ble_eq_true rfl, Nat.le_of_ble_eq_true rfl⟩ rfl hl.1 rfl (Nat.le_of_ble_eq_true rfl) dX8_move_204 ⟨Nat.le_of_ble_eq_true rfl, Nat.le_of_ble_eq_true rfl⟩) (fun σ106 H locs hf hw => ?_)
              refine q_iinc (lv1 := [(10, .int (0 : Int32)), (0, .ref (ga Γ 8 0)), (1, .int x1), (2, .int x2), (6, .int v93), (7, .int v95), (9, .int v97)]) (d := 1) hx hb hf dX8_move_207 hl (k := 6) rfl (by decide) (by decide) rfl (fun v107 ls hf hl => ?_)
              refine q_iinc (lv1 := [(8, .int v107), (10, .int (0 : Int32)), (0, .ref (ga Γ 8 0)), (1, .int x1), (2, .int x2), (6, .int v93), (7, .int v95)]) (d := 1) hx hb hf dX8_move_210 hl (k := 7) rfl (by decide) (by decide) rfl (fun v108 ls hf hl => ?_)
              refine lv_goto (tgt := 102) hx hb dX8_move_213 (by decide) ?_
              exact ih _ _ _ _ _ _ hf hw (lv_sub hl [3, 4, 5, 6, 7, 1, 0] rfl)
            refine lv_goto (tgt := 210) hx hb dX8_move_173 (by decide) ?_
            refine q_iinc (lv1 := [(10, .int (0 : Int32)), (0, .ref (ga Γ 8 0)), (1, .int x1), (2, .int x2), (6, .int v93), (7, .int v95), (8, .int v96)]) (d := 1) hx hb hf dX8_move_210 hl (k := 7) rfl (by decide) (by decide) rfl (fun v109 ls hf hl => ?_)
            refine lv_goto (tgt := 102) hx hb dX8_move_213 (by decide) ?_
            exact ih _ _ _ _ _ _ hf hw (lv_sub hl [2, 3, 4, 5, 6, 7, 0] rfl)
          refine lv_aload_n hx hb dX8_move_117 rfl (lv_at hl 0 rfl) ?_
          refine q_get (v := .ref (ga Γ 144 0)) hx hb hK hw hown in_X8 ins_X8 (rfl : vwCl[10]? = some (RX8, TX8, 32)) rfl (Nat.le_of_ble_eq_true rfl : 0 < cnt (gn Γ) 8) 5 (by decide) 1359 fl_X8_22 rfl rfl dX8_move_118 ?_
          refine lv_iload_n hx hb dX8_move_121 rfl (lv_at hl 2 rfl) ?_
          refine q_zald hx hb hK hw (k := 144) (o := 0) (fun _ _ _ => rfl) (Nat.le_of_ble_eq_true rfl : 0 < cnt (gn Γ) 144) hf dX8_move_122 (fun hf => ?_)
          refine q_if_eq (tgt := 159) hx hb hf dX8_move_123 (by decide) (fun hf => ?_) (fun hf => ?_)
          · refine lv_iconst (v := 0) hx hb dX8_move_159 (by decide) ?_
            refine lv_istore (lv' := [(10, .int (0 : Int32)), (0, .ref (ga Γ 8 0)), (1, .int x1), (2, .int x2), (6, .int v93), (7, .int v95), (8, .int v96), (9, .int v97)]) hx hb dX8_move_160 hl (by decide) rfl (fun ls hl => ?_)
            refine lv_iload hx hb dX8_move_162 (lv_at hl 7 rfl) ?_
            refine lv_iload_n hx hb dX8_move_164 rfl (lv_at hl 3 rfl) ?_
            refine q_ic_eq (tgt := 176) hx hb hf dX8_move_165 (by decide) (fun hf => ?_) (fun hf => ?_)
            · refine lv_aload_n hx hb dX8_move_176 rfl (lv_at hl 1 rfl) ?_
              refine lv_bipush (v := 12) hx hb dX8_move_177 (by decide) ?_
              refine lv_iload hx hb dX8_move_179 (lv_at hl 7 rfl) ?_
              refine lv_iadd hx hb dX8_move_181 ?_
              refine lv_bipush (v := 32) hx hb dX8_move_182 (by decide) ?_
              refine lv_aload_n hx hb dX8_move_184 rfl (lv_at hl 1 rfl) ?_
              refine lv_iload hx hb dX8_move_185 (lv_at hl 7 rfl) ?_
              refine q_pI hf hw (fun v h => q_rV (As := [.int v97]) (rest := [.int (32 : Int32), .int ((12 : Int32) + v97), .ref (ga Γ 8 0)]) (q := (RX8, TX8, 32)) X hK hw rfl (Nat.le_of_ble_eq_true rfl : 0 < cnt (gn Γ) 8) (rfl : vwCl[10]? = _) (kX8_column h) mvX8_column lk_X8_141 ⟨Nat.le_of_ble_eq_true rfl, Nat.le_of_ble_eq_true rfl⟩ rfl hl.1 rfl (Nat.le_of_ble_eq_true rfl) dX8_move_187 ⟨Nat.le_of_ble_eq_true rfl, Nat.le_of_ble_eq_true rfl⟩) (fun v110 H locs hf hw => ?_)
              refine lv_iload hx hb dX8_move_190 (lv_at hl 4 rfl) ?_
              refine lv_iadd hx hb dX8_move_192 ?_
              refine lv_imul hx hb dX8_move_193 ?_
              refine lv_aload_n hx hb dX8_move_194 rfl (lv_at hl 1 rfl) ?_
              refine lv_iload hx hb dX8_move_195 (lv_at hl 7 rfl) ?_
              refine q_pI hf hw (fun v h => q_rV (As := [.int v97]) (rest := [.int ((32 : Int32) * (v110 + v93)), .int ((12 : Int32) + v97), .ref (ga Γ 8 0)]) (q := (RX8, TX8, 32)) X hK hw rfl (Nat.le_of_ble_eq_true rfl : 0 < cnt (gn Γ) 8) (rfl : vwCl[10]? = _) (kX8_row h) mvX8_row lk_X8_145 ⟨Nat.le_of_ble_eq_true rfl, Nat.le_of_ble_eq_true rfl⟩ rfl hl.1 rfl (Nat.le_of_ble_eq_true rfl) dX8_move_197 ⟨Nat.le_of_ble_eq_true rfl, Nat.le_of_ble_eq_true rfl⟩) (fun v111 H locs hf hw => ?_)
              refine lv_iadd hx hb dX8_move_200 ?_
              refine lv_iload hx hb dX8_move_201 (lv_at hl 5 rfl) ?_
              refine lv_iadd hx hb dX8_move_203 ?_
              refine q_eV hf hw (fun τ h => q_rV (As := [.int ((12 : Int32) + v97), .int ((((32 : Int32) * (v110 + v93)) + v111) + v95)]) (rest := []) (q := (RX8, TX8, 32)) X hK hw rfl (Nat.le_of_ble_eq_true rfl : 0 < cnt (gn Γ) 8) (rfl : vwCl[10]? = _) (kX8_plans h) mvX8_plans lk_X8_179 ⟨Nat.le_of_ble_eq_true rfl, Nat.le_of_ble_eq_true rfl⟩ rfl hl.1 rfl (Nat.le_of_ble_eq_true rfl) dX8_move_204 ⟨Nat.le_of_ble_eq_true rfl, Nat.le_of_ble_eq_true rfl⟩) (fun σ112 H locs hf hw => ?_)
              refine q_iinc (lv1 := [(10, .int (0 : Int32)), (0, .ref (ga Γ 8 0)), (1, .int x1), (2, .int x2), (6, .int v93), (7, .int v95), (9, .int v97)]) (d := 1) hx hb hf dX8_move_207 hl (k := 6) rfl (by decide) (by decide) rfl (fun v113 ls hf hl => ?_)
              refine q_iinc (lv1 := [(8, .int v113), (10, .int (0 : Int32)), (0, .ref (ga Γ 8 0)), (1, .int x1), (2, .int x2), (6, .int v93), (7, .int v95)]) (d := 1) hx hb hf dX8_move_210 hl (k := 7) rfl (by decide) (by decide) rfl (fun v114 ls hf hl => ?_)
              refine lv_goto (tgt := 102) hx hb dX8_move_213 (by decide) ?_
              exact ih _ _ _ _ _ _ hf hw (lv_sub hl [3, 4, 5, 6, 7, 1, 0] rfl)
            refine lv_iload hx hb dX8_move_168 (lv_at hl 0 rfl) ?_
            refine q_if_ne (tgt := 176) hx hb hf dX8_move_170 (by decide) (fun hf => ?_) (fun hf => ?_)
            · refine lv_aload_n hx hb dX8_move_176 rfl (lv_at hl 1 rfl) ?_
              refine lv_bipush (v := 12) hx hb dX8_move_177 (by decide) ?_
              refine lv_iload hx hb dX8_move_179 (lv_at hl 7 rfl) ?_
              refine lv_iadd hx hb dX8_move_181 ?_
              refine lv_bipush (v := 32) hx hb dX8_move_182 (by decide) ?_
              refine lv_aload_n hx hb dX8_move_184 rfl (lv_at hl 1 rfl) ?_
              refine lv_iload hx hb dX8_move_185 (lv_at hl 7 rfl) ?_
              refine q_pI hf hw (fun v h => q_rV (As := [.int v97]) (rest := [.int (32 : Int32), .int ((12 : Int32) + v97), .ref (ga Γ 8 0)]) (q := (RX8, TX8, 32)) X hK hw rfl (Nat.le_of_ble_eq_true rfl : 0 < cnt (gn Γ) 8) (rfl : vwCl[10]? = _) (kX8_column h) mvX8_column lk_X8_141 ⟨Nat.le_of_ble_eq_true rfl, Nat.le_of_ble_eq_true rfl⟩ rfl hl.1 rfl (Nat.le_of_ble_eq_true rfl) dX8_move_187 ⟨Nat.le_of_ble_eq_true rfl, Nat.le_of_ble_eq_true rfl⟩) (fun v115 H locs hf hw => ?_)
              refine lv_iload hx hb dX8_move_190 (lv_at hl 4 rfl) ?_
              refine lv_iadd hx hb dX8_move_192 ?_
              refine lv_imul hx hb dX8_move_193 ?_
              refine lv_aload_n hx hb dX8_move_194 rfl (lv_at hl 1 rfl) ?_
              refine lv_iload hx hb dX8_move_195 (lv_at hl 7 rfl) ?_
              refine q_pI hf hw (fun v h => q_rV (As := [.int v97]) (rest := [.int ((32 : Int32) * (v115 + v93)), .int ((12 : Int32) + v97), .ref (ga Γ 8 0)]) (q := (RX8, TX8, 32)) X hK hw rfl (Nat.le_of_ble_eq_true rfl : 0 < cnt (gn Γ) 8) (rfl : vwCl[10]? = _) (kX8_row h) mvX8_row lk_X8_145 ⟨Nat.le_of_ble_eq_true rfl, Nat.le_of_ble_eq_true rfl⟩ rfl hl.1 rfl (Nat.le_of_ble_eq_true rfl) dX8_move_197 ⟨Nat.le_of_ble_eq_true rfl, Nat.le_of_ble_eq_true rfl⟩) (fun v116 H locs hf hw => ?_)
              refine lv_iadd hx hb dX8_move_200 ?_
              refine lv_iload hx hb dX8_move_201 (lv_at hl 5 rfl) ?_
              refine lv_iadd hx hb dX8_move_203 ?_
              refine q_eV hf hw (fun τ h => q_rV (As := [.int ((12 : Int32) + v97), .int ((((32 : Int32) * (v115 + v93)) + v116) + v95)]) (rest := []) (q := (RX8, TX8, 32)) X hK hw rfl (Nat.le_of_ble_eq_true rfl : 0 < cnt (gn Γ) 8) (rfl : vwCl[10]? = _) (kX8_plans h) mvX8_plans lk_X8_179 ⟨Nat.le_of_ble_eq_true rfl, Nat.le_of_ble_eq_true rfl⟩ rfl hl.1 rfl (Nat.le_of_ble_eq_true rfl) dX8_move_204 ⟨Nat.le_of_ble_eq_true rfl, Nat.le_of_ble_eq_true rfl⟩) (fun σ117 H locs hf hw => ?_)
              refine q_iinc (lv1 := [(10, .int (0 : Int32)), (0, .ref (ga Γ 8 0)), (1, .int x1), (2, .int x2), (6, .int v93), (7, .int v95), (9, .int v97)]) (d := 1) hx hb hf dX8_move_207 hl (k := 6) rfl (by decide) (by decide) rfl (fun v118 ls hf hl => ?_)
              refine q_iinc (lv1 := [(8, .int v118), (10, .int (0 : Int32)), (0, .ref (ga Γ 8 0)), (1, .int x1), (2, .int x2), (6, .int v93), (7, .int v95)]) (d := 1) hx hb hf dX8_move_210 hl (k := 7) rfl (by decide) (by decide) rfl (fun v119 ls hf hl => ?_)
              refine lv_goto (tgt := 102) hx hb dX8_move_213 (by decide) ?_
              exact ih _ _ _ _ _ _ hf hw (lv_sub hl [3, 4, 5, 6, 7, 1, 0] rfl)
            refine lv_goto (tgt := 210) hx hb dX8_move_173 (by decide) ?_
            refine q_iinc (lv1 := [(10, .int (0 : Int32)), (0, .ref (ga Γ 8 0)), (1, .int x1), (2, .int x2), (6, .int v93), (7, .int v95), (8, .int v96)]) (d := 1) hx hb hf dX8_move_210 hl (k := 7) rfl (by decide) (by decide) rfl (fun v120 ls hf hl => ?_)
            refine lv_goto (tgt := 102) hx hb dX8_move_213 (by decide) ?_
            exact ih _ _ _ _ _ _ hf hw (lv_sub hl [2, 3, 4, 5, 6, 7, 0] rfl)
          refine lv_aload_n hx hb dX8_move_126 rfl (lv_at hl 0 rfl) ?_
          refine lv_iload hx hb dX8_move_127 (lv_at hl 6 rfl) ?_
          refine q_pI hf hw (fun v h => q_rV (As := [.int v97]) (rest := []) (q := (RX8, TX8, 32)) X hK hw rfl (Nat.le_of_ble_eq_true rfl : 0 < cnt (gn Γ) 8) (rfl : vwCl[10]? = _) (kX8_isSeen h) mvX8_isSeen lk_X8_125 ⟨Nat.le_of_ble_eq_true rfl, Nat.le_of_ble_eq_true rfl⟩ rfl hl.1 rfl (Nat.le_of_ble_eq_true rfl) dX8_move_129 ⟨Nat.le_of_ble_eq_true rfl, Nat.le_of_ble_eq_true rfl⟩) (fun v121 H locs hf hw => ?_)
          refine q_if_eq (tgt := 159) hx hb hf dX8_move_132 (by decide) (fun hf => ?_) (fun hf => ?_)
          · refine lv_iconst (v := 0) hx hb dX8_move_159 (by decide) ?_
            refine lv_istore (lv' := [(10, .int (0 : Int32)), (0, .ref (ga Γ 8 0)), (1, .int x1), (2, .int x2), (6, .int v93), (7, .int v95), (8, .int v96), (9, .int v97)]) hx hb dX8_move_160 hl (by decide) rfl (fun ls hl => ?_)
            refine lv_iload hx hb dX8_move_162 (lv_at hl 7 rfl) ?_
            refine lv_iload_n hx hb dX8_move_164 rfl (lv_at hl 3 rfl) ?_
            refine q_ic_eq (tgt := 176) hx hb hf dX8_move_165 (by decide) (fun hf => ?_) (fun hf => ?_)
            · refine lv_aload_n hx hb dX8_move_176 rfl (lv_at hl 1 rfl) ?_
              refine lv_bipush (v := 12) hx hb dX8_move_177 (by decide) ?_
              refine lv_iload hx hb dX8_move_179 (lv_at hl 7 rfl) ?_
              refine lv_iadd hx hb dX8_move_181 ?_
              refine lv_bipush (v := 32) hx hb dX8_move_182 (by decide) ?_
              refine lv_aload_n hx hb dX8_move_184 rfl (lv_at hl 1 rfl) ?_
              refine lv_iload hx hb dX8_move_185 (lv_at hl 7 rfl) ?_
              refine q_pI hf hw (fun v h => q_rV (As := [.int v97]) (rest := [.int (32 : Int32), .int ((12 : Int32) + v97), .ref (ga Γ 8 0)]) (q := (RX8, TX8, 32)) X hK hw rfl (Nat.le_of_ble_eq_true rfl : 0 < cnt (gn Γ) 8) (rfl : vwCl[10]? = _) (kX8_column h) mvX8_column lk_X8_141 ⟨Nat.le_of_ble_eq_true rfl, Nat.le_of_ble_eq_true rfl⟩ rfl hl.1 rfl (Nat.le_of_ble_eq_true rfl) dX8_move_187 ⟨Nat.le_of_ble_eq_true rfl, Nat.le_of_ble_eq_true rfl⟩) (fun v122 H locs hf hw => ?_)
              refine lv_iload hx hb dX8_move_190 (lv_at hl 4 rfl) ?_
              refine lv_iadd hx hb dX8_move_192 ?_
              refine lv_imul hx hb dX8_move_193 ?_
              refine lv_aload_n hx hb dX8_move_194 rfl (lv_at hl 1 rfl) ?_
              refine lv_iload hx hb dX8_move_195 (lv_at hl 7 rfl) ?_
              refine q_pI hf hw (fun v h => q_rV (As := [.int v97]) (rest := [.int ((32 : Int32) * (v122 + v93)), .int ((12 : Int32) + v97), .ref (ga Γ 8 0)]) (q := (RX8, TX8, 32)) X hK hw rfl (Nat.le_of_ble_eq_true rfl : 0 < cnt (gn Γ) 8) (rfl : vwCl[10]? = _) (kX8_row h) mvX8_row lk_X8_145 ⟨Nat.le_of_ble_eq_true rfl, Nat.le_of_ble_eq_true rfl⟩ rfl hl.1 rfl (Nat.le_of_ble_eq_true rfl) dX8_move_197 ⟨Nat.le_of_ble_eq_true rfl, Nat.le_of_ble_eq_true rfl⟩) (fun v123 H locs hf hw => ?_)
              refine lv_iadd hx hb dX8_move_200 ?_
              refine lv_iload hx hb dX8_move_201 (lv_at hl 5 rfl) ?_
              refine lv_iadd hx hb dX8_move_203 ?_
              refine q_eV hf hw (fun τ h => q_rV (As := [.int ((12 : Int32) + v97), .int ((((32 : Int32) * (v122 + v93)) + v123) + v95)]) (rest := []) (q := (RX8, TX8, 32)) X hK hw rfl (Nat.le_of_ble_eq_true rfl : 0 < cnt (gn Γ) 8) (rfl : vwCl[10]? = _) (kX8_plans h) mvX8_plans lk_X8_179 ⟨Nat.le_of_ble_eq_true rfl, Nat.le_of_ble_eq_true rfl⟩ rfl hl.1 rfl (Nat.le_of_ble_eq_true rfl) dX8_move_204 ⟨Nat.le_of_ble_eq_true rfl, Nat.le_of_ble_eq_true rfl⟩) (fun σ124 H locs hf hw => ?_)
              refine q_iinc (lv1 := [(10, .int (0 : Int32)), (0, .ref (ga Γ 8 0)), (1, .int x1), (2, .int x2), (6, .int v93), (7, .int v95), (9, .int v97)]) (d := 1) hx hb hf dX8_move_207 hl (k := 6) rfl (by decide) (by decide) rfl (fun v125 ls hf hl => ?_)
              refine q_iinc (lv1 := [(8, .int v125), (10, .int (0 : Int32)), (0, .ref (ga Γ 8 0)), (1, .int x1), (2, .int x2), (6, .int v93), (7, .int v95)]) (d := 1) hx hb hf dX8_move_210 hl (k := 7) rfl (by decide) (by decide) rfl (fun v126 ls hf hl => ?_)
              refine lv_goto (tgt := 102) hx hb dX8_move_213 (by decide) ?_
              exact ih _ _ _ _ _ _ hf hw (lv_sub hl [3, 4, 5, 6, 7, 1, 0] rfl)
            refine lv_iload hx hb dX8_move_168 (lv_at hl 0 rfl) ?_
            refine q_if_ne (tgt := 176) hx hb hf dX8_move_170 (by decide) (fun hf => ?_) (fun hf => ?_)
            · refine lv_aload_n hx hb dX8_move_176 rfl (lv_at hl 1 rfl) ?_
              refine lv_bipush (v := 12) hx hb dX8_move_177 (by decide) ?_
              refine lv_iload hx hb dX8_move_179 (lv_at hl 7 rfl) ?_
              refine lv_iadd hx hb dX8_move_181 ?_
              refine lv_bipush (v := 32) hx hb dX8_move_182 (by decide) ?_
              refine lv_aload_n hx hb dX8_move_184 rfl (lv_at hl 1 rfl) ?_
              refine lv_iload hx hb dX8_move_185 (lv_at hl 7 rfl) ?_
              refine q_pI hf hw (fun v h => q_rV (As := [.int v97]) (rest := [.int (32 : Int32), .int ((12 : Int32) + v97), .ref (ga Γ 8 0)]) (q := (RX8, TX8, 32)) X hK hw rfl (Nat.le_of_ble_eq_true rfl : 0 < cnt (gn Γ) 8) (rfl : vwCl[10]? = _) (kX8_column h) mvX8_column lk_X8_141 ⟨Nat.le_of_ble_eq_true rfl, Nat.le_of_ble_eq_true rfl⟩ rfl hl.1 rfl (Nat.le_of_ble_eq_true rfl) dX8_move_187 ⟨Nat.le_of_ble_eq_true rfl, Nat.le_of_ble_eq_true rfl⟩) (fun v127 H locs hf hw => ?_)
              refine lv_iload hx hb dX8_move_190 (lv_at hl 4 rfl) ?_
              refine lv_iadd hx hb dX8_move_192 ?_
              refine lv_imul hx hb dX8_move_193 ?_
              refine lv_aload_n hx hb dX8_move_194 rfl (lv_at hl 1 rfl) ?_
              refine lv_iload hx hb dX8_move_195 (lv_at hl 7 rfl) ?_
              refine q_pI hf hw (fun v h => q_rV (As := [.int v97]) (rest := [.int ((32 : Int32) * (v127 + v93)), .int ((12 : Int32) + v97), .ref (ga Γ 8 0)]) (q := (RX8, TX8, 32)) X hK hw rfl (Nat.le_of_ble_eq_true rfl : 0 < cnt (gn Γ) 8) (rfl : vwCl[10]? = _) (kX8_row h) mvX8_row lk_X8_145 ⟨Nat.le_of_ble_eq_true rfl, Nat.le_of_ble_eq_true rfl⟩ rfl hl.1 rfl (Nat.le_of_ble_eq_true rfl) dX8_move_197 ⟨Nat.le_of_ble_eq_true rfl, Nat.le_of_ble_eq_true rfl⟩) (fun v128 H locs hf hw => ?_)
              refine lv_iadd hx hb dX8_move_200 ?_
              refine lv_iload hx hb dX8_move_201 (lv_at hl 5 rfl) ?_
              refine lv_iadd hx hb dX8_move_203 ?_
              refine q_eV hf hw (fun τ h => q_rV (As := [.int ((12 : Int32) + v97), .int ((((32 : Int32) * (v127 + v93)) + v128) + v95)]) (rest := []) (q := (RX8, TX8, 32)) X hK hw rfl (Nat.le_of_ble_eq_true rfl : 0 < cnt (gn Γ) 8) (rfl : vwCl[10]? = _) (kX8_plans h) mvX8_plans lk_X8_179 ⟨Nat.le_of_ble_eq_true rfl, Nat.le_of_ble_eq_true rfl⟩ rfl hl.1 rfl (Nat.le_of_ble_eq_true rfl) dX8_move_204 ⟨Nat.le_of_ble_eq_true rfl, Nat.le_of_ble_eq_true rfl⟩) (fun σ129 H locs hf hw => ?_)
              refine q_iinc (lv1 := [(10, .int (0 : Int32)), (0, .ref (ga Γ 8 0)), (1, .int x1), (2, .int x2), (6, .int v93), (7, .int v95), (9, .int v97)]) (d := 1) hx hb hf dX8_move_207 hl (k := 6) rfl (by decide) (by decide) rfl (fun v130 ls hf hl => ?_)
              refine q_iinc (lv1 := [(8, .int v130), (10, .int (0 : Int32)), (0, .ref (ga Γ 8 0)), (1, .int x1), (2, .int x2), (6, .int v93), (7, .int v95)]) (d := 1) hx hb hf dX8_move_210 hl (k := 7) rfl (by decide) (by decide) rfl (fun v131 ls hf hl => ?_)
              refine lv_goto (tgt := 102) hx hb dX8_move_213 (by decide) ?_
              exact ih _ _ _ _ _ _ hf hw (lv_sub hl [3, 4, 5, 6, 7, 1, 0] rfl)
            refine lv_goto (tgt := 210) hx hb dX8_move_173 (by decide) ?_
            refine q_iinc (lv1 := [(10, .int (0 : Int32)), (0, .ref (ga Γ 8 0)), (1, .int x1), (2, .int x2), (6, .int v93), (7, .int v95), (8, .int v96)]) (d := 1) hx hb hf dX8_move_210 hl (k := 7) rfl (by decide) (by decide) rfl (fun v132 ls hf hl => ?_)
            refine lv_goto (tgt := 102) hx hb dX8_move_213 (by decide) ?_
            exact ih _ _ _ _ _ _ hf hw (lv_sub hl [2, 3, 4, 5, 6, 7, 0] rfl)
          refine lv_aload_n hx hb dX8_move_135 rfl (lv_at hl 0 rfl) ?_
          refine lv_iload hx hb dX8_move_136 (lv_at hl 6 rfl) ?_
          refine lv_iload_n hx hb dX8_move_138 rfl (lv_at hl 2 rfl) ?_
          refine q_pI hf hw (fun v h => q_rV (As := [.int v97, .int x2]) (rest := []) (q := (RX8, TX8, 32)) X hK hw rfl (Nat.le_of_ble_eq_true rfl : 0 < cnt (gn Γ) 8) (rfl : vwCl[10]? = _) (kX8_isInside h) mvX8_isInside lk_X8_196 ⟨Nat.le_of_ble_eq_true rfl, Nat.le_of_ble_eq_true rfl⟩ rfl hl.1 rfl (Nat.le_of_ble_eq_true rfl) dX8_move_139 ⟨Nat.le_of_ble_eq_true rfl, Nat.le_of_ble_eq_true rfl⟩) (fun v133 H locs hf hw => ?_)
          refine q_if_eq (tgt := 159) hx hb hf dX8_move_142 (by decide) (fun hf => ?_) (fun hf => ?_)
          · refine lv_iconst (v := 0) hx hb dX8_move_159 (by decide) ?_
            refine lv_istore (lv' := [(10, .int (0 : Int32)), (0, .ref (ga Γ 8 0)), (1, .int x1), (2, .int x2), (6, .int v93), (7, .int v95), (8, .int v96), (9, .int v97)]) hx hb dX8_move_160 hl (by decide) rfl (fun ls hl => ?_)
            refine lv_iload hx hb dX8_move_162 (lv_at hl 7 rfl) ?_
            refine lv_iload_n hx hb dX8_move_164 rfl (lv_at hl 3 rfl) ?_
            refine q_ic_eq (tgt := 176) hx hb hf dX8_move_165 (by decide) (fun hf => ?_) (fun hf => ?_)
            · refine lv_aload_n hx hb dX8_move_176 rfl (lv_at hl 1 rfl) ?_
              refine lv_bipush (v := 12) hx hb dX8_move_177 (by decide) ?_
              refine lv_iload hx hb dX8_move_179 (lv_at hl 7 rfl) ?_
              refine lv_iadd hx hb dX8_move_181 ?_
              refine lv_bipush (v := 32) hx hb dX8_move_182 (by decide) ?_
              refine lv_aload_n hx hb dX8_move_184 rfl (lv_at hl 1 rfl) ?_
              refine lv_iload hx hb dX8_move_185 (lv_at hl 7 rfl) ?_
              refine q_pI hf hw (fun v h => q_rV (As := [.int v97]) (rest := [.int (32 : Int32), .int ((12 : Int32) + v97), .ref (ga Γ 8 0)]) (q := (RX8, TX8, 32)) X hK hw rfl (Nat.le_of_ble_eq_true rfl : 0 < cnt (gn Γ) 8) (rfl : vwCl[10]? = _) (kX8_column h) mvX8_column lk_X8_141 ⟨Nat.le_of_ble_eq_true rfl, Nat.le_of_ble_eq_true rfl⟩ rfl hl.1 rfl (Nat.le_of_ble_eq_true rfl) dX8_move_187 ⟨Nat.le_of_ble_eq_true rfl, Nat.le_of_ble_eq_true rfl⟩) (fun v134 H locs hf hw => ?_)
              refine lv_iload hx hb dX8_move_190 (lv_at hl 4 rfl) ?_
              refine lv_iadd hx hb dX8_move_192 ?_
              refine lv_imul hx hb dX8_move_193 ?_
              refine lv_aload_n hx hb dX8_move_194 rfl (lv_at hl 1 rfl) ?_
              refine lv_iload hx hb dX8_move_195 (lv_at hl 7 rfl) ?_
              refine q_pI hf hw (fun v h => q_rV (As := [.int v97]) (rest := [.int ((32 : Int32) * (v134 + v93)), .int ((12 : Int32) + v97), .ref (ga Γ 8 0)]) (q := (RX8, TX8, 32)) X hK hw rfl (Nat.le_of_ble_eq_true rfl : 0 < cnt (gn Γ) 8) (rfl : vwCl[10]? = _) (kX8_row h) mvX8_row lk_X8_145 ⟨Nat.le_of_ble_eq_true rfl, Nat.le_of_ble_eq_true rfl⟩ rfl hl.1 rfl (Nat.le_of_ble_eq_true rfl) dX8_move_197 ⟨Nat.le_of_ble_eq_true rfl, Nat.le_of_ble_eq_true rfl⟩) (fun v135 H locs hf hw => ?_)
              refine lv_iadd hx hb dX8_move_200 ?_
              refine lv_iload hx hb dX8_move_201 (lv_at hl 5 rfl) ?_
              refine lv_iadd hx hb dX8_move_203 ?_
              refine q_eV hf hw (fun τ h => q_rV (As := [.int ((12 : Int32) + v97), .int ((((32 : Int32) * (v134 + v93)) + v135) + v95)]) (rest := []) (q := (RX8, TX8, 32)) X hK hw rfl (Nat.le_of_ble_eq_true rfl : 0 < cnt (gn Γ) 8) (rfl : vwCl[10]? = _) (kX8_plans h) mvX8_plans lk_X8_179 ⟨Nat.le_of_ble_eq_true rfl, Nat.le_of_ble_eq_true rfl⟩ rfl hl.1 rfl (Nat.le_of_ble_eq_true rfl) dX8_move_204 ⟨Nat.le_of_ble_eq_true rfl, Nat.le_of_ble_eq_true rfl⟩) (fun σ136 H locs hf hw => ?_)
              refine q_iinc (lv1 := [(10, .int (0 : Int32)), (0, .ref (ga Γ 8 0)), (1, .int x1), (2, .int x2), (6, .int v93), (7, .int v95), (9, .int v97)]) (d := 1) hx hb hf dX8_move_207 hl (k := 6) rfl (by decide) (by decide) rfl (fun v137 ls hf hl => ?_)
              refine q_iinc (lv1 := [(8, .int v137), (10, .int (0 : Int32)), (0, .ref (ga Γ 8 0)), (1, .int x1), (2, .int x2), (6, .int v93), (7, .int v95)]) (d := 1) hx hb hf dX8_move_210 hl (k := 7) rfl (by decide) (by decide) rfl (fun v138 ls hf hl => ?_)
              refine lv_goto (tgt := 102) hx hb dX8_move_213 (by decide) ?_
              exact ih _ _ _ _ _ _ hf hw (lv_sub hl [3, 4, 5, 6, 7, 1, 0] rfl)
            refine lv_iload hx hb dX8_move_168 (lv_at hl 0 rfl) ?_
            refine q_if_ne (tgt := 176) hx hb hf dX8_move_170 (by decide) (fun hf => ?_) (fun hf => ?_)
            · refine lv_aload_n hx hb dX8_move_176 rfl (lv_at hl 1 rfl) ?_
              refine lv_bipush (v := 12) hx hb dX8_move_177 (by decide) ?_
              refine lv_iload hx hb dX8_move_179 (lv_at hl 7 rfl) ?_
              refine lv_iadd hx hb dX8_move_181 ?_
              refine lv_bipush (v := 32) hx hb dX8_move_182 (by decide) ?_
              refine lv_aload_n hx hb dX8_move_184 rfl (lv_at hl 1 rfl) ?_
              refine lv_iload hx hb dX8_move_185 (lv_at hl 7 rfl) ?_
              refine q_pI hf hw (fun v h => q_rV (As := [.int v97]) (rest := [.int (32 : Int32), .int ((12 : Int32) + v97), .ref (ga Γ 8 0)]) (q := (RX8, TX8, 32)) X hK hw rfl (Nat.le_of_ble_eq_true rfl : 0 < cnt (gn Γ) 8) (rfl : vwCl[10]? = _) (kX8_column h) mvX8_column lk_X8_141 ⟨Nat.le_of_ble_eq_true rfl, Nat.le_of_ble_eq_true rfl⟩ rfl hl.1 rfl (Nat.le_of_ble_eq_true rfl) dX8_move_187 ⟨Nat.le_of_ble_eq_true rfl, Nat.le_of_ble_eq_true rfl⟩) (fun v139 H locs hf hw => ?_)
              refine lv_iload hx hb dX8_move_190 (lv_at hl 4 rfl) ?_
              refine lv_iadd hx hb dX8_move_192 ?_
              refine lv_imul hx hb dX8_move_193 ?_
              refine lv_aload_n hx hb dX8_move_194 rfl (lv_at hl 1 rfl) ?_
              refine lv_iload hx hb dX8_move_195 (lv_at hl 7 rfl) ?_
              refine q_pI hf hw (fun v h => q_rV (As := [.int v97]) (rest := [.int ((32 : Int32) * (v139 + v93)), .int ((12 : Int32) + v97), .ref (ga Γ 8 0)]) (q := (RX8, TX8, 32)) X hK hw rfl (Nat.le_of_ble_eq_true rfl : 0 < cnt (gn Γ) 8) (rfl : vwCl[10]? = _) (kX8_row h) mvX8_row lk_X8_145 ⟨Nat.le_of_ble_eq_true rfl, Nat.le_of_ble_eq_true rfl⟩ rfl hl.1 rfl (Nat.le_of_ble_eq_true rfl) dX8_move_197 ⟨Nat.le_of_ble_eq_true rfl, Nat.le_of_ble_eq_true rfl⟩) (fun v140 H locs hf hw => ?_)
              refine lv_iadd hx hb dX8_move_200 ?_
              refine lv_iload hx hb dX8_move_201 (lv_at hl 5 rfl) ?_
              refine lv_iadd hx hb dX8_move_203 ?_
              refine q_eV hf hw (fun τ h => q_rV (As := [.int ((12 : Int32) + v97), .int ((((32 : Int32) * (v139 + v93)) + v140) + v95)]) (rest := []) (q := (RX8, TX8, 32)) X hK hw rfl (Nat.le_of_ble_eq_true rfl : 0 < cnt (gn Γ) 8) (rfl : vwCl[10]? = _) (kX8_plans h) mvX8_plans lk_X8_179 ⟨Nat.le_of_ble_eq_true rfl, Nat.le_of_ble_eq_true rfl⟩ rfl hl.1 rfl (Nat.le_of_ble_eq_true rfl) dX8_move_204 ⟨Nat.le_of_ble_eq_true rfl, Nat.le_of_ble_eq_true rfl⟩) (fun σ141 H locs hf hw => ?_)
              refine q_iinc (lv1 := [(10, .int (0 : Int32)), (0, .ref (ga Γ 8 0)), (1, .int x1), (2, .int x2), (6, .int v93), (7, .int v95), (9, .int v97)]) (d := 1) hx hb hf dX8_move_207 hl (k := 6) rfl (by decide) (by decide) rfl (fun v142 ls hf hl => ?_)
              refine q_iinc (lv1 := [(8, .int v142), (10, .int (0 : Int32)), (0, .ref (ga Γ 8 0)), (1, .int x1), (2, .int x2), (6, .int v93), (7, .int v95)]) (d := 1) hx hb hf dX8_move_210 hl (k := 7) rfl (by decide) (by decide) rfl (fun v143 ls hf hl => ?_)
              refine lv_goto (tgt := 102) hx hb dX8_move_213 (by decide) ?_
              exact ih _ _ _ _ _ _ hf hw (lv_sub hl [3, 4, 5, 6, 7, 1, 0] rfl)
            refine lv_goto (tgt := 210) hx hb dX8_move_173 (by decide) ?_
            refine q_iinc (lv1 := [(10, .int (0 : Int32)), (0, .ref (ga Γ 8 0)), (1, .int x1), (2, .int x2), (6, .int v93), (7, .int v95), (8, .int v96)]) (d := 1) hx hb hf dX8_move_210 hl (k := 7) rfl (by decide) (by decide) rfl (fun v144 ls hf hl => ?_)
            refine lv_goto (tgt := 102) hx hb dX8_move_213 (by decide) ?_
            exact ih _ _ _ _ _ _ hf hw (lv_sub hl [2, 3, 4, 5, 6, 7, 0] rfl)
          refine lv_aload_n hx hb dX8_move_145 rfl (lv_at hl 0 rfl) ?_
          refine lv_iload_n hx hb dX8_move_146 rfl (lv_at hl 1 rfl) ?_
          refine lv_iload hx hb dX8_move_147 (lv_at hl 6 rfl) ?_
          refine q_pI hf hw (fun v h => q_rV (As := [.int x1, .int v97]) (rest := []) (q := (RX8, TX8, 32)) X hK hw rfl (Nat.le_of_ble_eq_true rfl : 0 < cnt (gn Γ) 8) (rfl : vwCl[10]? = _) (kX8_isBarred h) mvX8_isBarred lk_X8_190 ⟨Nat.le_of_ble_eq_true rfl, Nat.le_of_ble_eq_true rfl⟩ rfl hl.1 rfl (Nat.le_of_ble_eq_true rfl) dX8_move_149 ⟨Nat.le_of_ble_eq_true rfl, Nat.le_of_ble_eq_true rfl⟩) (fun v145 H locs hf hw => ?_)
          refine q_if_ne (tgt := 159) hx hb hf dX8_move_152 (by decide) (fun hf => ?_) (fun hf => ?_)
          · refine lv_iconst (v := 0) hx hb dX8_move_159 (by decide) ?_
            refine lv_istore (lv' := [(10, .int (0 : Int32)), (0, .ref (ga Γ 8 0)), (1, .int x1), (2, .int x2), (6, .int v93), (7, .int v95), (8, .int v96), (9, .int v97)]) hx hb dX8_move_160 hl (by decide) rfl (fun ls hl => ?_)
            refine lv_iload hx hb dX8_move_162 (lv_at hl 7 rfl) ?_
            refine lv_iload_n hx hb dX8_move_164 rfl (lv_at hl 3 rfl) ?_
            refine q_ic_eq (tgt := 176) hx hb hf dX8_move_165 (by decide) (fun hf => ?_) (fun hf => ?_)
            · refine lv_aload_n hx hb dX8_move_176 rfl (lv_at hl 1 rfl) ?_
              refine lv_bipush (v := 12) hx hb dX8_move_177 (by decide) ?_
              refine lv_iload hx hb dX8_move_179 (lv_at hl 7 rfl) ?_
              refine lv_iadd hx hb dX8_move_181 ?_
              refine lv_bipush (v := 32) hx hb dX8_move_182 (by decide) ?_
              refine lv_aload_n hx hb dX8_move_184 rfl (lv_at hl 1 rfl) ?_
              refine lv_iload hx hb dX8_move_185 (lv_at hl 7 rfl) ?_
              refine q_pI hf hw (fun v h => q_rV (As := [.int v97]) (rest := [.int (32 : Int32), .int ((12 : Int32) + v97), .ref (ga Γ 8 0)]) (q := (RX8, TX8, 32)) X hK hw rfl (Nat.le_of_ble_eq_true rfl : 0 < cnt (gn Γ) 8) (rfl : vwCl[10]? = _) (kX8_column h) mvX8_column lk_X8_141 ⟨Nat.le_of_ble_eq_true rfl, Nat.le_of_ble_eq_true rfl⟩ rfl hl.1 rfl (Nat.le_of_ble_eq_true rfl) dX8_move_187 ⟨Nat.le_of_ble_eq_true rfl, Nat.le_of_ble_eq_true rfl⟩) (fun v146 H locs hf hw => ?_)
              refine lv_iload hx hb dX8_move_190 (lv_at hl 4 rfl) ?_
              refine lv_iadd hx hb dX8_move_192 ?_
              refine lv_imul hx hb dX8_move_193 ?_
              refine lv_aload_n hx hb dX8_move_194 rfl (lv_at hl 1 rfl) ?_
              refine lv_iload hx hb dX8_move_195 (lv_at hl 7 rfl) ?_
              refine q_pI hf hw (fun v h => q_rV (As := [.int v97]) (rest := [.int ((32 : Int32) * (v146 + v93)), .int ((12 : Int32) + v97), .ref (ga Γ 8 0)]) (q := (RX8, TX8, 32)) X hK hw rfl (Nat.le_of_ble_eq_true rfl : 0 < cnt (gn Γ) 8) (rfl : vwCl[10]? = _) (kX8_row h) mvX8_row lk_X8_145 ⟨Nat.le_of_ble_eq_true rfl, Nat.le_of_ble_eq_true rfl⟩ rfl hl.1 rfl (Nat.le_of_ble_eq_true rfl) dX8_move_197 ⟨Nat.le_of_ble_eq_true rfl, Nat.le_of_ble_eq_true rfl⟩) (fun v147 H locs hf hw => ?_)
              refine lv_iadd hx hb dX8_move_200 ?_
              refine lv_iload hx hb dX8_move_201 (lv_at hl 5 rfl) ?_
              refine lv_iadd hx hb dX8_move_203 ?_
              refine q_eV hf hw (fun τ h => q_rV (As := [.int ((12 : Int32) + v97), .int ((((32 : Int32) * (v146 + v93)) + v147) + v95)]) (rest := []) (q := (RX8, TX8, 32)) X hK hw rfl (Nat.le_of_ble_eq_true rfl : 0 < cnt (gn Γ) 8) (rfl : vwCl[10]? = _) (kX8_plans h) mvX8_plans lk_X8_179 ⟨Nat.le_of_ble_eq_true rfl, Nat.le_of_ble_eq_true rfl⟩ rfl hl.1 rfl (Nat.le_of_ble_eq_true rfl) dX8_move_204 ⟨Nat.le_of_ble_eq_true rfl, Nat.le_of_ble_eq_true rfl⟩) (fun σ148 H locs hf hw => ?_)
              refine q_iinc (lv1 := [(10, .int (0 : Int32)), (0, .ref (ga Γ 8 0)), (1, .int x1), (2, .int x2), (6, .int v93), (7, .int v95), (9, .int v97)]) (d := 1) hx hb hf dX8_move_207 hl (k := 6) rfl (by decide) (by decide) rfl (fun v149 ls hf hl => ?_)
              refine q_iinc (lv1 := [(8, .int v149), (10, .int (0 : Int32)), (0, .ref (ga Γ 8 0)), (1, .int x1), (2, .int x2), (6, .int v93), (7, .int v95)]) (d := 1) hx hb hf dX8_move_210 hl (k := 7) rfl (by decide) (by decide) rfl (fun v150 ls hf hl => ?_)
              refine lv_goto (tgt := 102) hx hb dX8_move_213 (by decide) ?_
              exact ih _ _ _ _ _ _ hf hw (lv_sub hl [3, 4, 5, 6, 7, 1, 0] rfl)
            refine lv_iload hx hb dX8_move_168 (lv_at hl 0 rfl) ?_
            refine q_if_ne (tgt := 176) hx hb hf dX8_move_170 (by decide) (fun hf => ?_) (fun hf => ?_)
            · refine lv_aload_n hx hb dX8_move_176 rfl (lv_at hl 1 rfl) ?_
              refine lv_bipush (v := 12) hx hb dX8_move_177 (by decide) ?_
              refine lv_iload hx hb dX8_move_179 (lv_at hl 7 rfl) ?_
              refine lv_iadd hx hb dX8_move_181 ?_
              refine lv_bipush (v := 32) hx hb dX8_move_182 (by decide) ?_
              refine lv_aload_n hx hb dX8_move_184 rfl (lv_at hl 1 rfl) ?_
              refine lv_iload hx hb dX8_move_185 (lv_at hl 7 rfl) ?_
              refine q_pI hf hw (fun v h => q_rV (As := [.int v97]) (rest := [.int (32 : Int32), .int ((12 : Int32) + v97), .ref (ga Γ 8 0)]) (q := (RX8, TX8, 32)) X hK hw rfl (Nat.le_of_ble_eq_true rfl : 0 < cnt (gn Γ) 8) (rfl : vwCl[10]? = _) (kX8_column h) mvX8_column lk_X8_141 ⟨Nat.le_of_ble_eq_true rfl, Nat.le_of_ble_eq_true rfl⟩ rfl hl.1 rfl (Nat.le_of_ble_eq_true rfl) dX8_move_187 ⟨Nat.le_of_ble_eq_true rfl, Nat.le_of_ble_eq_true rfl⟩) (fun v151 H locs hf hw => ?_)
              refine lv_iload hx hb dX8_move_190 (lv_at hl 4 rfl) ?_
              refine lv_iadd hx hb dX8_move_192 ?_
              refine lv_imul hx hb dX8_move_193 ?_
              refine lv_aload_n hx hb dX8_move_194 rfl (lv_at hl 1 rfl) ?_
              refine lv_iload hx hb dX8_move_195 (lv_at hl 7 rfl) ?_
              refine q_pI hf hw (fun v h => q_rV (As := [.int v97]) (rest := [.int ((32 : Int32) * (v151 + v93)), .int ((12 : Int32) + v97), .ref (ga Γ 8 0)]) (q := (RX8, TX8, 32)) X hK hw rfl (Nat.le_of_ble_eq_true rfl : 0 < cnt (gn Γ) 8) (rfl : vwCl[10]? = _) (kX8_row h) mvX8_row lk_X8_145 ⟨Nat.le_of_ble_eq_true rfl, Nat.le_of_ble_eq_true rfl⟩ rfl hl.1 rfl (Nat.le_of_ble_eq_true rfl) dX8_move_197 ⟨Nat.le_of_ble_eq_true rfl, Nat.le_of_ble_eq_true rfl⟩) (fun v152 H locs hf hw => ?_)
              refine lv_iadd hx hb dX8_move_200 ?_
              refine lv_iload hx hb dX8_move_201 (lv_at hl 5 rfl) ?_
              refine lv_iadd hx hb dX8_move_203 ?_
              refine q_eV hf hw (fun τ h => q_rV (As := [.int ((12 : Int32) + v97), .int ((((32 : Int32) * (v151 + v93)) + v152) + v95)]) (rest := []) (q := (RX8, TX8, 32)) X hK hw rfl (Nat.le_of_ble_eq_true rfl : 0 < cnt (gn Γ) 8) (rfl : vwCl[10]? = _) (kX8_plans h) mvX8_plans lk_X8_179 ⟨Nat.le_of_ble_eq_true rfl, Nat.le_of_ble_eq_true rfl⟩ rfl hl.1 rfl (Nat.le_of_ble_eq_true rfl) dX8_move_204 ⟨Nat.le_of_ble_eq_true rfl, Nat.le_of_ble_eq_true rfl⟩) (fun σ153 H locs hf hw => ?_)
              refine q_iinc (lv1 := [(10, .int (0 : Int32)), (0, .ref (ga Γ 8 0)), (1, .int x1), (2, .int x2), (6, .int v93), (7, .int v95), (9, .int v97)]) (d := 1) hx hb hf dX8_move_207 hl (k := 6) rfl (by decide) (by decide) rfl (fun v154 ls hf hl => ?_)
              refine q_iinc (lv1 := [(8, .int v154), (10, .int (0 : Int32)), (0, .ref (ga Γ 8 0)), (1, .int x1), (2, .int x2), (6, .int v93), (7, .int v95)]) (d := 1) hx hb hf dX8_move_210 hl (k := 7) rfl (by decide) (by decide) rfl (fun v155 ls hf hl => ?_)
              refine lv_goto (tgt := 102) hx hb dX8_move_213 (by decide) ?_
              exact ih _ _ _ _ _ _ hf hw (lv_sub hl [3, 4, 5, 6, 7, 1, 0] rfl)
            refine lv_goto (tgt := 210) hx hb dX8_move_173 (by decide) ?_
            refine q_iinc (lv1 := [(10, .int (0 : Int32)), (0, .ref (ga Γ 8 0)), (1, .int x1), (2, .int x2), (6, .int v93), (7, .int v95), (8, .int v96)]) (d := 1) hx hb hf dX8_move_210 hl (k := 7) rfl (by decide) (by decide) rfl (fun v156 ls hf hl => ?_)
            refine lv_goto (tgt := 102) hx hb dX8_move_213 (by decide) ?_
            exact ih _ _ _ _ _ _ hf hw (lv_sub hl [2, 3, 4, 5, 6, 7, 0] rfl)
          refine lv_iconst (v := 1) hx hb dX8_move_155 (by decide) ?_
          refine lv_goto (tgt := 160) hx hb dX8_move_156 (by decide) ?_
          refine lv_istore (lv' := [(10, .int (1 : Int32)), (0, .ref (ga Γ 8 0)), (1, .int x1), (2, .int x2), (6, .int v93), (7, .int v95), (8, .int v96), (9, .int v97)]) hx hb dX8_move_160 hl (by decide) rfl (fun ls hl => ?_)
          refine lv_iload hx hb dX8_move_162 (lv_at hl 7 rfl) ?_
          refine lv_iload_n hx hb dX8_move_164 rfl (lv_at hl 3 rfl) ?_
          refine q_ic_eq (tgt := 176) hx hb hf dX8_move_165 (by decide) (fun hf => ?_) (fun hf => ?_)
          · refine lv_aload_n hx hb dX8_move_176 rfl (lv_at hl 1 rfl) ?_
            refine lv_bipush (v := 12) hx hb dX8_move_177 (by decide) ?_
            refine lv_iload hx hb dX8_move_179 (lv_at hl 7 rfl) ?_
            refine lv_iadd hx hb dX8_move_181 ?_
            refine lv_bipush (v := 32) hx hb dX8_move_182 (by decide) ?_
            refine lv_aload_n hx hb dX8_move_184 rfl (lv_at hl 1 rfl) ?_
            refine lv_iload hx hb dX8_move_185 (lv_at hl 7 rfl) ?_
            refine q_pI hf hw (fun v h => q_rV (As := [.int v97]) (rest := [.int (32 : Int32), .int ((12 : Int32) + v97), .ref (ga Γ 8 0)]) (q := (RX8, TX8, 32)) X hK hw rfl (Nat.le_of_ble_eq_true rfl : 0 < cnt (gn Γ) 8) (rfl : vwCl[10]? = _) (kX8_column h) mvX8_column lk_X8_141 ⟨Nat.le_of_ble_eq_true rfl, Nat.le_of_ble_eq_true rfl⟩ rfl hl.1 rfl (Nat.le_of_ble_eq_true rfl) dX8_move_187 ⟨Nat.le_of_ble_eq_true rfl, Nat.le_of_ble_eq_true rfl⟩) (fun v157 H locs hf hw => ?_)
            refine lv_iload hx hb dX8_move_190 (lv_at hl 4 rfl) ?_
            refine lv_iadd hx hb dX8_move_192 ?_
            refine lv_imul hx hb dX8_move_193 ?_
            refine lv_aload_n hx hb dX8_move_194 rfl (lv_at hl 1 rfl) ?_
            refine lv_iload hx hb dX8_move_195 (lv_at hl 7 rfl) ?_
            refine q_pI hf hw (fun v h => q_rV (As := [.int v97]) (rest := [.int ((32 : Int32) * (v157 + v93)), .int ((12 : Int32) + v97), .ref (ga Γ 8 0)]) (q := (RX8, TX8, 32)) X hK hw rfl (Nat.le_of_ble_eq_true rfl : 0 < cnt (gn Γ) 8) (rfl : vwCl[10]? = _) (kX8_row h) mvX8_row lk_X8_145 ⟨Nat.le_of_ble_eq_true rfl, Nat.le_of_ble_eq_true rfl⟩ rfl hl.1 rfl (Nat.le_of_ble_eq_true rfl) dX8_move_197 ⟨Nat.le_of_ble_eq_true rfl, Nat.le_of_ble_eq_true rfl⟩) (fun v158 H locs hf hw => ?_)
            refine lv_iadd hx hb dX8_move_200 ?_
            refine lv_iload hx hb dX8_move_201 (lv_at hl 5 rfl) ?_
            refine lv_iadd hx hb dX8_move_203 ?_
            refine q_eV hf hw (fun τ h => q_rV (As := [.int ((12 : Int32) + v97), .int ((((32 : Int32) * (v157 + v93)) + v158) + v95)]) (rest := []) (q := (RX8, TX8, 32)) X hK hw rfl (Nat.le_of_ble_eq_true rfl : 0 < cnt (gn Γ) 8) (rfl : vwCl[10]? = _) (kX8_plans h) mvX8_plans lk_X8_179 ⟨Nat.le_of_ble_eq_true rfl, Nat.le_of_ble_eq_true rfl⟩ rfl hl.1 rfl (Nat.le_of_ble_eq_true rfl) dX8_move_204 ⟨Nat.le_of_ble_eq_true rfl, Nat.le_of_ble_eq_true rfl⟩) (fun σ159 H locs hf hw => ?_)
            refine q_iinc (lv1 := [(10, .int (1 : Int32)), (0, .ref (ga Γ 8 0)), (1, .int x1), (2, .int x2), (6, .int v93), (7, .int v95), (9, .int v97)]) (d := 1) hx hb hf dX8_move_207 hl (k := 6) rfl (by decide) (by decide) rfl (fun v160 ls hf hl => ?_)
            refine q_iinc (lv1 := [(8, .int v160), (10, .int (1 : Int32)), (0, .ref (ga Γ 8 0)), (1, .int x1), (2, .int x2), (6, .int v93), (7, .int v95)]) (d := 1) hx hb hf dX8_move_210 hl (k := 7) rfl (by decide) (by decide) rfl (fun v161 ls hf hl => ?_)
            refine lv_goto (tgt := 102) hx hb dX8_move_213 (by decide) ?_
            exact ih _ _ _ _ _ _ hf hw (lv_sub hl [3, 4, 5, 6, 7, 1, 0] rfl)
          refine lv_iload hx hb dX8_move_168 (lv_at hl 0 rfl) ?_
          refine q_if_ne (tgt := 176) hx hb hf dX8_move_170 (by decide) (fun hf => ?_) (fun hf => ?_)
          · refine lv_aload_n hx hb dX8_move_176 rfl (lv_at hl 1 rfl) ?_
            refine lv_bipush (v := 12) hx hb dX8_move_177 (by decide) ?_
            refine lv_iload hx hb dX8_move_179 (lv_at hl 7 rfl) ?_
            refine lv_iadd hx hb dX8_move_181 ?_
            refine lv_bipush (v := 32) hx hb dX8_move_182 (by decide) ?_
            refine lv_aload_n hx hb dX8_move_184 rfl (lv_at hl 1 rfl) ?_
            refine lv_iload hx hb dX8_move_185 (lv_at hl 7 rfl) ?_
            refine q_pI hf hw (fun v h => q_rV (As := [.int v97]) (rest := [.int (32 : Int32), .int ((12 : Int32) + v97), .ref (ga Γ 8 0)]) (q := (RX8, TX8, 32)) X hK hw rfl (Nat.le_of_ble_eq_true rfl : 0 < cnt (gn Γ) 8) (rfl : vwCl[10]? = _) (kX8_column h) mvX8_column lk_X8_141 ⟨Nat.le_of_ble_eq_true rfl, Nat.le_of_ble_eq_true rfl⟩ rfl hl.1 rfl (Nat.le_of_ble_eq_true rfl) dX8_move_187 ⟨Nat.le_of_ble_eq_true rfl, Nat.le_of_ble_eq_true rfl⟩) (fun v162 H locs hf hw => ?_)
            refine lv_iload hx hb dX8_move_190 (lv_at hl 4 rfl) ?_
            refine lv_iadd hx hb dX8_move_192 ?_
            refine lv_imul hx hb dX8_move_193 ?_
            refine lv_aload_n hx hb dX8_move_194 rfl (lv_at hl 1 rfl) ?_
            refine lv_iload hx hb dX8_move_195 (lv_at hl 7 rfl) ?_
            refine q_pI hf hw (fun v h => q_rV (As := [.int v97]) (rest := [.int ((32 : Int32) * (v162 + v93)), .int ((12 : Int32) + v97), .ref (ga Γ 8 0)]) (q := (RX8, TX8, 32)) X hK hw rfl (Nat.le_of_ble_eq_true rfl : 0 < cnt (gn Γ) 8) (rfl : vwCl[10]? = _) (kX8_row h) mvX8_row lk_X8_145 ⟨Nat.le_of_ble_eq_true rfl, Nat.le_of_ble_eq_true rfl⟩ rfl hl.1 rfl (Nat.le_of_ble_eq_true rfl) dX8_move_197 ⟨Nat.le_of_ble_eq_true rfl, Nat.le_of_ble_eq_true rfl⟩) (fun v163 H locs hf hw => ?_)
            refine lv_iadd hx hb dX8_move_200 ?_
            refine lv_iload hx hb dX8_move_201 (lv_at hl 5 rfl) ?_
            refine lv_iadd hx hb dX8_move_203 ?_
            refine q_eV hf hw (fun τ h => q_rV (As := [.int ((12 : Int32) + v97), .int ((((32 : Int32) * (v162 + v93)) + v163) + v95)]) (rest := []) (q := (RX8, TX8, 32)) X hK hw rfl (Nat.le_of_ble_eq_true rfl : 0 < cnt (gn Γ) 8) (rfl : vwCl[10]? = _) (kX8_plans h) mvX8_plans lk_X8_179 ⟨Nat.le_of_ble_eq_true rfl, Nat.le_of_ble_eq_true rfl⟩ rfl hl.1 rfl (Nat.le_of_ble_eq_true rfl) dX8_move_204 ⟨Nat.le_of_ble_eq_true rfl, Nat.le_of_ble_eq_true rfl⟩) (fun σ164 H locs hf hw => ?_)
            refine q_iinc (lv1 := [(10, .int (1 : Int32)), (0, .ref (ga Γ 8 0)), (1, .int x1), (2, .int x2), (6, .int v93), (7, .int v95), (9, .int v97)]) (d := 1) hx hb hf dX8_move_207 hl (k := 6) rfl (by decide) (by decide) rfl (fun v165 ls hf hl => ?_)
            refine q_iinc (lv1 := [(8, .int v165), (10, .int (1 : Int32)), (0, .ref (ga Γ 8 0)), (1, .int x1), (2, .int x2), (6, .int v93), (7, .int v95)]) (d := 1) hx hb hf dX8_move_210 hl (k := 7) rfl (by decide) (by decide) rfl (fun v166 ls hf hl => ?_)
            refine lv_goto (tgt := 102) hx hb dX8_move_213 (by decide) ?_
            exact ih _ _ _ _ _ _ hf hw (lv_sub hl [3, 4, 5, 6, 7, 1, 0] rfl)
          refine lv_goto (tgt := 210) hx hb dX8_move_173 (by decide) ?_
          refine q_iinc (lv1 := [(10, .int (1 : Int32)), (0, .ref (ga Γ 8 0)), (1, .int x1), (2, .int x2), (6, .int v93), (7, .int v95), (8, .int v96)]) (d := 1) hx hb hf dX8_move_210 hl (k := 7) rfl (by decide) (by decide) rfl (fun v167 ls hf hl => ?_)
          refine lv_goto (tgt := 102) hx hb dX8_move_213 (by decide) ?_
          exact ih _ _ _ _ _ _ hf hw (lv_sub hl [2, 3, 4, 5, 6, 7, 0] rfl)
      refine L102 _ (fun v168 _ σ169 H locs ls hf hw hl => ?_) N (0 : Int32) (0 : Int32) σ91 _ _ _ hf hw (lv_sub hl [5, 6, 7, 3, 2, 1, 0] rfl)
      refine lv_aload_n hx hb dX8_move_216 rfl (lv_at hl 0 rfl) ?_
      refine lv_iload_n hx hb dX8_move_217 rfl (lv_at hl 1 rfl) ?_
      refine lv_iconst (v := 1) hx hb dX8_move_218 (by decide) ?_
      refine q_eV hf hw (fun τ h => q_rV (As := [.int x1, .int (1 : Int32)]) (rest := []) (q := (RX8, TX8, 32)) X hK hw rfl (Nat.le_of_ble_eq_true rfl : 0 < cnt (gn Γ) 8) (rfl : vwCl[10]? = _) (kX8_makes h) mvX8_makes lk_X8_186 ⟨Nat.le_of_ble_eq_true rfl, Nat.le_of_ble_eq_true rfl⟩ rfl hl.1 rfl (Nat.le_of_ble_eq_true rfl) dX8_move_219 ⟨Nat.le_of_ble_eq_true rfl, Nat.le_of_ble_eq_true rfl⟩) (fun σ170 H locs hf hw => ?_)
      refine lv_iload hx hb dX8_move_222 (lv_at hl 2 rfl) ?_
      exact q_eiret hf hx hb hr rfl hk hw dX8_move_224 (Nat.le_of_ble_eq_true rfl) (Nat.le_of_ble_eq_true rfl)
    refine lv_iconst (v := 0) hx hb dX8_move_75 (by decide) ?_
    exact q_eiret hf hx hb hr rfl hk hw dX8_move_76 (Nat.le_of_ble_eq_true rfl) (Nat.le_of_ble_eq_true rfl)
  refine lv_aload_n hx hb dX8_move_52 rfl (lv_at hl 1 rfl) ?_
  refine lv_iconst (v := 1) hx hb dX8_move_53 (by decide) ?_
  refine q_eI hf hw (fun v τ h => q_rV (As := [.int (1 : Int32)]) (rest := []) (q := (RX8, TX8, 32)) X hK hw rfl (Nat.le_of_ble_eq_true rfl : 0 < cnt (gn Γ) 8) (rfl : vwCl[10]? = _) (kX8_fails h) mvX8_fails lk_X8_172 ⟨Nat.le_of_ble_eq_true rfl, Nat.le_of_ble_eq_true rfl⟩ rfl hl.1 rfl (Nat.le_of_ble_eq_true rfl) dX8_move_54 ⟨Nat.le_of_ble_eq_true rfl, Nat.le_of_ble_eq_true rfl⟩) (fun v172 σ171 H locs hf hw => ?_)
  exact q_eiret hf hx hb hr rfl hk hw dX8_move_57 (Nat.le_of_ble_eq_true rfl) (Nat.le_of_ble_eq_true rfl)
set_option maxRecDepth 100000 in
theorem kX8_keys {Γ : Gm} {S : List (String × Nat × String)} {l : Launch} {N : Nat} {σ τ : St} {x1 : Int32} {x2 : Int32} {x3 : UInt32} {r : Int32}  (hf : fX8_keys N σ x1 x2 x3 = some (r, τ)) : CT Γ S l yX8_keys cX8_keys 4 (some (.int)) 4 104 0 0 [.ref (ga Γ 8 0), .int x1, .int x2, .float x3] (some (.int r)) σ τ := by
  unfold fX8_keys at hf
  refine ct_body (lv := [(0, .ref (ga Γ 8 0)), (1, .int x1), (2, .int x2), (3, .float x3)]) (by decide +kernel) rfl (Nat.le_of_ble_eq_true rfl) ?_
  intro p e s m below meth c ls X hr hk hK hw hl
  have hx := X.1
  have hb := X.2.1
  have hown := X.2.2.2
  refine lv_aload_n hx hb dX8_keys_0 rfl (lv_at hl 0 rfl) ?_
  refine lv_bipush (v := 24) hx hb dX8_keys_1 (by decide) ?_
  refine lv_iload_n hx hb dX8_keys_3 rfl (lv_at hl 2 rfl) ?_
  refine lv_iadd hx hb dX8_keys_4 ?_
  refine lv_fload_n hx hb dX8_keys_5 rfl (lv_at hl 3 rfl) ?_
  refine q_pI hf hw (fun v h => q_rS (As := [.float x3]) (rest := [.int ((24 : Int32) + x2), .ref (ga Γ 8 0)]) X hK hw (kJxf58ca_floatToIntBits_5c35a h) msJxf58ca_floatToIntBits_5c35a lk_X8_182 ⟨Nat.le_of_ble_eq_true rfl, Nat.le_of_ble_eq_true rfl⟩ rfl hl.1 rfl (Nat.le_of_ble_eq_true rfl) dX8_keys_6 ⟨Nat.le_of_ble_eq_true rfl, Nat.le_of_ble_eq_true rfl⟩) (fun v1 H locs hf hw => ?_)
  refine q_eV hf hw (fun τ h => q_rV (As := [.int ((24 : Int32) + x2), .int v1]) (rest := []) (q := (RX8, TX8, 32)) X hK hw rfl (Nat.le_of_ble_eq_true rfl : 0 < cnt (gn Γ) 8) (rfl : vwCl[10]? = _) (kX8_plans h) mvX8_plans lk_X8_179 ⟨Nat.le_of_ble_eq_true rfl, Nat.le_of_ble_eq_true rfl⟩ rfl hl.1 rfl (Nat.le_of_ble_eq_true rfl) dX8_keys_9 ⟨Nat.le_of_ble_eq_true rfl, Nat.le_of_ble_eq_true rfl⟩) (fun σ2 H locs hf hw => ?_)
  refine lv_aload_n hx hb dX8_keys_12 rfl (lv_at hl 0 rfl) ?_
  refine lv_iload_n hx hb dX8_keys_13 rfl (lv_at hl 1 rfl) ?_
  refine lv_iconst (v := 1) hx hb dX8_keys_14 (by decide) ?_
  refine q_eV hf hw (fun τ h => q_rV (As := [.int x1, .int (1 : Int32)]) (rest := []) (q := (RX8, TX8, 32)) X hK hw rfl (Nat.le_of_ble_eq_true rfl : 0 < cnt (gn Γ) 8) (rfl : vwCl[10]? = _) (kX8_makes h) mvX8_makes lk_X8_186 ⟨Nat.le_of_ble_eq_true rfl, Nat.le_of_ble_eq_true rfl⟩ rfl hl.1 rfl (Nat.le_of_ble_eq_true rfl) dX8_keys_15 ⟨Nat.le_of_ble_eq_true rfl, Nat.le_of_ble_eq_true rfl⟩) (fun σ3 H locs hf hw => ?_)
  refine lv_aload_n hx hb dX8_keys_18 rfl (lv_at hl 0 rfl) ?_
  refine lv_iload_n hx hb dX8_keys_19 rfl (lv_at hl 2 rfl) ?_
  refine q_pI hf hw (fun v h => q_rV (As := [.int x2]) (rest := []) (q := (RX8, TX8, 32)) X hK hw rfl (Nat.le_of_ble_eq_true rfl : 0 < cnt (gn Γ) 8) (rfl : vwCl[10]? = _) (kX8_rank h) mvX8_rank lk_X8_199 ⟨Nat.le_of_ble_eq_true rfl, Nat.le_of_ble_eq_true rfl⟩ rfl hl.1 rfl (Nat.le_of_ble_eq_true rfl) dX8_keys_20 ⟨Nat.le_of_ble_eq_true rfl, Nat.le_of_ble_eq_true rfl⟩) (fun v4 H locs hf hw => ?_)
  exact q_eiret hf hx hb hr rfl hk hw dX8_keys_23 (Nat.le_of_ble_eq_true rfl) (Nat.le_of_ble_eq_true rfl)
set_option maxRecDepth 100000 in
theorem kX8_raise {Γ : Gm} {S : List (String × Nat × String)} {l : Launch} {N : Nat} {σ τ : St} {x1 : Int32} {x2 : Int32} {r : Int32}  (hf : fX8_raise N σ x1 x2 = some (r, τ)) : CT Γ S l yX8_raise cX8_raise 3 (some (.int)) 5 127 0 0 [.ref (ga Γ 8 0), .int x1, .int x2] (some (.int r)) σ τ := by
  unfold fX8_raise at hf
  refine ct_body (lv := [(0, .ref (ga Γ 8 0)), (1, .int x1), (2, .int x2)]) (by decide +kernel) rfl (Nat.le_of_ble_eq_true rfl) ?_
  intro p e s m below meth c ls X hr hk hK hw hl
  have hx := X.1
  have hb := X.2.1
  have hown := X.2.2.2
  refine lv_aload_n hx hb dX8_raise_0 rfl (lv_at hl 0 rfl) ?_
  refine lv_iload_n hx hb dX8_raise_1 rfl (lv_at hl 1 rfl) ?_
  refine q_pI hf hw (fun v h => q_rS (As := [.int x1]) (rest := [.ref (ga Γ 8 0)]) X hK hw (kX8_isUser h) msX8_isUser lk_X8_165 ⟨Nat.le_of_ble_eq_true rfl, Nat.le_of_ble_eq_true rfl⟩ rfl hl.1 rfl (Nat.le_of_ble_eq_true rfl) dX8_raise_2 ⟨Nat.le_of_ble_eq_true rfl, Nat.le_of_ble_eq_true rfl⟩) (fun v1 H locs hf hw => ?_)
  refine q_if_eq (tgt := 17) hx hb hf dX8_raise_5 (by decide) (fun hf => ?_) (fun hf => ?_)
  · refine lv_iconst (v := 1) hx hb dX8_raise_17 (by decide) ?_
    refine q_puti (v := (1 : Int32)) hx hb hK hw hown in_X8 ins_X8 tyX8 tyX8_ok nmX8 (rfl : vwCl[10]? = some (RX8, TX8, 32)) (fun _ _ _ => rfl) (Nat.le_of_ble_eq_true rfl : 0 < cnt (gn Γ) 8) 0 (by decide) 1354 fl_X8_97 rfl rfl rfl (fun _ _ _ => Nat.le_of_ble_eq_true rfl) (fun _ _ _ => rfl) hf dX8_raise_18 (fun σ2 H locs hf hw => ?_)
    refine lv_aload_n hx hb dX8_raise_21 rfl (lv_at hl 0 rfl) ?_
    refine q_get (v := .int (gI σ2 8 0 0)) hx hb hK hw hown in_X8 ins_X8 (rfl : vwCl[10]? = some (RX8, TX8, 32)) rfl (Nat.le_of_ble_eq_true rfl : 0 < cnt (gn Γ) 8) 0 (by decide) 1354 fl_X8_97 rfl rfl dX8_raise_22 ?_
    refine q_if_le (tgt := 32) hx hb hf dX8_raise_25 (by decide) (fun hf => ?_) (fun hf => ?_)
    · refine lv_aload_n hx hb dX8_raise_32 rfl (lv_at hl 0 rfl) ?_
      refine lv_iload_n hx hb dX8_raise_33 rfl (lv_at hl 1 rfl) ?_
      refine lv_iload_n hx hb dX8_raise_34 rfl (lv_at hl 2 rfl) ?_
      refine lv_aload_n hx hb dX8_raise_35 rfl (lv_at hl 0 rfl) ?_
      refine lv_aload_n hx hb dX8_raise_36 rfl (lv_at hl 0 rfl) ?_
      refine q_pI hf hw (fun v h => q_rV (As := []) (rest := [.ref (ga Γ 8 0), .int x2, .int x1, .ref (ga Γ 8 0)]) (q := (RX8, TX8, 32)) X hK hw rfl (Nat.le_of_ble_eq_true rfl : 0 < cnt (gn Γ) 8) (rfl : vwCl[10]? = _) (kX8_greatest h) mvX8_greatest lk_X8_175 ⟨Nat.le_of_ble_eq_true rfl, Nat.le_of_ble_eq_true rfl⟩ rfl hl.1 rfl (Nat.le_of_ble_eq_true rfl) dX8_raise_37 ⟨Nat.le_of_ble_eq_true rfl, Nat.le_of_ble_eq_true rfl⟩) (fun v3 H locs hf hw => ?_)
      refine q_pF hf hw (fun v h => q_rV (As := [.int v3]) (rest := [.int x2, .int x1, .ref (ga Γ 8 0)]) (q := (RX8, TX8, 32)) X hK hw rfl (Nat.le_of_ble_eq_true rfl : 0 < cnt (gn Γ) 8) (rfl : vwCl[10]? = _) (kX8_key h) mvX8_key lk_X8_138 ⟨Nat.le_of_ble_eq_true rfl, Nat.le_of_ble_eq_true rfl⟩ rfl hl.1 rfl (Nat.le_of_ble_eq_true rfl) dX8_raise_40 ⟨Nat.le_of_ble_eq_true rfl, Nat.le_of_ble_eq_true rfl⟩) (fun v4 H locs hf hw => ?_)
      refine lv_fconst1 hx hb dX8_raise_43 ?_
      refine q_fadd hx hb hf dX8_raise_44 (fun hf => ?_)
      refine q_eI hf hw (fun v τ h => q_rV (As := [.int x1, .int x2, .float (FP.fadd v4 (1065353216 : UInt32))]) (rest := []) (q := (RX8, TX8, 32)) X hK hw rfl (Nat.le_of_ble_eq_true rfl : 0 < cnt (gn Γ) 8) (rfl : vwCl[10]? = _) (kX8_keys h) mvX8_keys lk_X8_202 ⟨Nat.le_of_ble_eq_true rfl, Nat.le_of_ble_eq_true rfl⟩ rfl hl.1 rfl (Nat.le_of_ble_eq_true rfl) dX8_raise_45 ⟨Nat.le_of_ble_eq_true rfl, Nat.le_of_ble_eq_true rfl⟩) (fun v6 σ5 H locs hf hw => ?_)
      exact q_eiret hf hx hb hr rfl hk hw dX8_raise_48 (Nat.le_of_ble_eq_true rfl) (Nat.le_of_ble_eq_true rfl)
    refine lv_iconst (v := 0) hx hb dX8_raise_28 (by decide) ?_
    refine lv_goto (tgt := 48) hx hb dX8_raise_29 (by decide) ?_
    exact q_eiret hf hx hb hr rfl hk hw dX8_raise_48 (Nat.le_of_ble_eq_true rfl) (Nat.le_of_ble_eq_true rfl)
  refine lv_aload_n hx hb dX8_raise_8 rfl (lv_at hl 0 rfl) ?_
  refine lv_iload_n hx hb dX8_raise_9 rfl (lv_at hl 1 rfl) ?_
  refine lv_iload_n hx hb dX8_raise_10 rfl (lv_at hl 2 rfl) ?_
  refine q_eI hf hw (fun v τ h => q_rV (As := [.int x1, .int x2]) (rest := [.ref (ga Γ 8 0)]) (q := (RX8, TX8, 32)) X hK hw rfl (Nat.le_of_ble_eq_true rfl : 0 < cnt (gn Γ) 8) (rfl : vwCl[10]? = _) (kX8_bar h) mvX8_bar lk_X8_193 ⟨Nat.le_of_ble_eq_true rfl, Nat.le_of_ble_eq_true rfl⟩ rfl hl.1 rfl (Nat.le_of_ble_eq_true rfl) dX8_raise_11 ⟨Nat.le_of_ble_eq_true rfl, Nat.le_of_ble_eq_true rfl⟩) (fun v8 σ7 H locs hf hw => ?_)
  refine lv_goto (tgt := 18) hx hb dX8_raise_14 (by decide) ?_
  refine q_puti (v := v8) hx hb hK hw hown in_X8 ins_X8 tyX8 tyX8_ok nmX8 (rfl : vwCl[10]? = some (RX8, TX8, 32)) (fun _ _ _ => rfl) (Nat.le_of_ble_eq_true rfl : 0 < cnt (gn Γ) 8) 0 (by decide) 1354 fl_X8_97 rfl rfl rfl (fun _ _ _ => Nat.le_of_ble_eq_true rfl) (fun _ _ _ => rfl) hf dX8_raise_18 (fun σ9 H locs hf hw => ?_)
  refine lv_aload_n hx hb dX8_raise_21 rfl (lv_at hl 0 rfl) ?_
  refine q_get (v := .int (gI σ9 8 0 0)) hx hb hK hw hown in_X8 ins_X8 (rfl : vwCl[10]? = some (RX8, TX8, 32)) rfl (Nat.le_of_ble_eq_true rfl : 0 < cnt (gn Γ) 8) 0 (by decide) 1354 fl_X8_97 rfl rfl dX8_raise_22 ?_
  refine q_if_le (tgt := 32) hx hb hf dX8_raise_25 (by decide) (fun hf => ?_) (fun hf => ?_)
  · refine lv_aload_n hx hb dX8_raise_32 rfl (lv_at hl 0 rfl) ?_
    refine lv_iload_n hx hb dX8_raise_33 rfl (lv_at hl 1 rfl) ?_
    refine lv_iload_n hx hb dX8_raise_34 rfl (lv_at hl 2 rfl) ?_
    refine lv_aload_n hx hb dX8_raise_35 rfl (lv_at hl 0 rfl) ?_
    refine lv_aload_n hx hb dX8_raise_36 rfl (lv_at hl 0 rfl) ?_
    refine q_pI hf hw (fun v h => q_rV (As := []) (rest := [.ref (ga Γ 8 0), .int x2, .int x1, .ref (ga Γ 8 0)]) (q := (RX8, TX8, 32)) X hK hw rfl (Nat.le_of_ble_eq_true rfl : 0 < cnt (gn Γ) 8) (rfl : vwCl[10]? = _) (kX8_greatest h) mvX8_greatest lk_X8_175 ⟨Nat.le_of_ble_eq_true rfl, Nat.le_of_ble_eq_true rfl⟩ rfl hl.1 rfl (Nat.le_of_ble_eq_true rfl) dX8_raise_37 ⟨Nat.le_of_ble_eq_true rfl, Nat.le_of_ble_eq_true rfl⟩) (fun v10 H locs hf hw => ?_)
    refine q_pF hf hw (fun v h => q_rV (As := [.int v10]) (rest := [.int x2, .int x1, .ref (ga Γ 8 0)]) (q := (RX8, TX8, 32)) X hK hw rfl (Nat.le_of_ble_eq_true rfl : 0 < cnt (gn Γ) 8) (rfl : vwCl[10]? = _) (kX8_key h) mvX8_key lk_X8_138 ⟨Nat.le_of_ble_eq_true rfl, Nat.le_of_ble_eq_true rfl⟩ rfl hl.1 rfl (Nat.le_of_ble_eq_true rfl) dX8_raise_40 ⟨Nat.le_of_ble_eq_true rfl, Nat.le_of_ble_eq_true rfl⟩) (fun v11 H locs hf hw => ?_)
    refine lv_fconst1 hx hb dX8_raise_43 ?_
    refine q_fadd hx hb hf dX8_raise_44 (fun hf => ?_)
    refine q_eI hf hw (fun v τ h => q_rV (As := [.int x1, .int x2, .float (FP.fadd v11 (1065353216 : UInt32))]) (rest := []) (q := (RX8, TX8, 32)) X hK hw rfl (Nat.le_of_ble_eq_true rfl : 0 < cnt (gn Γ) 8) (rfl : vwCl[10]? = _) (kX8_keys h) mvX8_keys lk_X8_202 ⟨Nat.le_of_ble_eq_true rfl, Nat.le_of_ble_eq_true rfl⟩ rfl hl.1 rfl (Nat.le_of_ble_eq_true rfl) dX8_raise_45 ⟨Nat.le_of_ble_eq_true rfl, Nat.le_of_ble_eq_true rfl⟩) (fun v13 σ12 H locs hf hw => ?_)
    exact q_eiret hf hx hb hr rfl hk hw dX8_raise_48 (Nat.le_of_ble_eq_true rfl) (Nat.le_of_ble_eq_true rfl)
  refine lv_iconst (v := 0) hx hb dX8_raise_28 (by decide) ?_
  refine lv_goto (tgt := 48) hx hb dX8_raise_29 (by decide) ?_
  exact q_eiret hf hx hb hr rfl hk hw dX8_raise_48 (Nat.le_of_ble_eq_true rfl) (Nat.le_of_ble_eq_true rfl)
set_option maxRecDepth 100000 in
theorem kX8_lower {Γ : Gm} {S : List (String × Nat × String)} {l : Launch} {N : Nat} {σ τ : St} {x1 : Int32} {x2 : Int32} {r : Int32}  (hf : fX8_lower N σ x1 x2 = some (r, τ)) : CT Γ S l yX8_lower cX8_lower 3 (some (.int)) 5 127 0 0 [.ref (ga Γ 8 0), .int x1, .int x2] (some (.int r)) σ τ := by
  unfold fX8_lower at hf
  refine ct_body (lv := [(0, .ref (ga Γ 8 0)), (1, .int x1), (2, .int x2)]) (by decide +kernel) rfl (Nat.le_of_ble_eq_true rfl) ?_
  intro p e s m below meth c ls X hr hk hK hw hl
  have hx := X.1
  have hb := X.2.1
  have hown := X.2.2.2
  refine lv_aload_n hx hb dX8_lower_0 rfl (lv_at hl 0 rfl) ?_
  refine lv_iload_n hx hb dX8_lower_1 rfl (lv_at hl 1 rfl) ?_
  refine q_pI hf hw (fun v h => q_rS (As := [.int x1]) (rest := [.ref (ga Γ 8 0)]) X hK hw (kX8_isUser h) msX8_isUser lk_X8_165 ⟨Nat.le_of_ble_eq_true rfl, Nat.le_of_ble_eq_true rfl⟩ rfl hl.1 rfl (Nat.le_of_ble_eq_true rfl) dX8_lower_2 ⟨Nat.le_of_ble_eq_true rfl, Nat.le_of_ble_eq_true rfl⟩) (fun v1 H locs hf hw => ?_)
  refine q_if_eq (tgt := 17) hx hb hf dX8_lower_5 (by decide) (fun hf => ?_) (fun hf => ?_)
  · refine lv_iconst (v := 1) hx hb dX8_lower_17 (by decide) ?_
    refine q_puti (v := (1 : Int32)) hx hb hK hw hown in_X8 ins_X8 tyX8 tyX8_ok nmX8 (rfl : vwCl[10]? = some (RX8, TX8, 32)) (fun _ _ _ => rfl) (Nat.le_of_ble_eq_true rfl : 0 < cnt (gn Γ) 8) 0 (by decide) 1354 fl_X8_97 rfl rfl rfl (fun _ _ _ => Nat.le_of_ble_eq_true rfl) (fun _ _ _ => rfl) hf dX8_lower_18 (fun σ2 H locs hf hw => ?_)
    refine lv_aload_n hx hb dX8_lower_21 rfl (lv_at hl 0 rfl) ?_
    refine q_get (v := .int (gI σ2 8 0 0)) hx hb hK hw hown in_X8 ins_X8 (rfl : vwCl[10]? = some (RX8, TX8, 32)) rfl (Nat.le_of_ble_eq_true rfl : 0 < cnt (gn Γ) 8) 0 (by decide) 1354 fl_X8_97 rfl rfl dX8_lower_22 ?_
    refine q_if_le (tgt := 32) hx hb hf dX8_lower_25 (by decide) (fun hf => ?_) (fun hf => ?_)
    · refine lv_aload_n hx hb dX8_lower_32 rfl (lv_at hl 0 rfl) ?_
      refine lv_iload_n hx hb dX8_lower_33 rfl (lv_at hl 1 rfl) ?_
      refine lv_iload_n hx hb dX8_lower_34 rfl (lv_at hl 2 rfl) ?_
      refine lv_aload_n hx hb dX8_lower_35 rfl (lv_at hl 0 rfl) ?_
      refine lv_aload_n hx hb dX8_lower_36 rfl (lv_at hl 0 rfl) ?_
      refine q_pI hf hw (fun v h => q_rV (As := []) (rest := [.ref (ga Γ 8 0), .int x2, .int x1, .ref (ga Γ 8 0)]) (q := (RX8, TX8, 32)) X hK hw rfl (Nat.le_of_ble_eq_true rfl : 0 < cnt (gn Γ) 8) (rfl : vwCl[10]? = _) (kX8_lowest h) mvX8_lowest lk_X8_206 ⟨Nat.le_of_ble_eq_true rfl, Nat.le_of_ble_eq_true rfl⟩ rfl hl.1 rfl (Nat.le_of_ble_eq_true rfl) dX8_lower_37 ⟨Nat.le_of_ble_eq_true rfl, Nat.le_of_ble_eq_true rfl⟩) (fun v3 H locs hf hw => ?_)
      refine q_pF hf hw (fun v h => q_rV (As := [.int v3]) (rest := [.int x2, .int x1, .ref (ga Γ 8 0)]) (q := (RX8, TX8, 32)) X hK hw rfl (Nat.le_of_ble_eq_true rfl : 0 < cnt (gn Γ) 8) (rfl : vwCl[10]? = _) (kX8_key h) mvX8_key lk_X8_138 ⟨Nat.le_of_ble_eq_true rfl, Nat.le_of_ble_eq_true rfl⟩ rfl hl.1 rfl (Nat.le_of_ble_eq_true rfl) dX8_lower_40 ⟨Nat.le_of_ble_eq_true rfl, Nat.le_of_ble_eq_true rfl⟩) (fun v4 H locs hf hw => ?_)
      refine lv_fconst1 hx hb dX8_lower_43 ?_
      refine q_fsub hx hb hf dX8_lower_44 (fun hf => ?_)
      refine q_eI hf hw (fun v τ h => q_rV (As := [.int x1, .int x2, .float (FP.fsub v4 (1065353216 : UInt32))]) (rest := []) (q := (RX8, TX8, 32)) X hK hw rfl (Nat.le_of_ble_eq_true rfl : 0 < cnt (gn Γ) 8) (rfl : vwCl[10]? = _) (kX8_keys h) mvX8_keys lk_X8_202 ⟨Nat.le_of_ble_eq_true rfl, Nat.le_of_ble_eq_true rfl⟩ rfl hl.1 rfl (Nat.le_of_ble_eq_true rfl) dX8_lower_45 ⟨Nat.le_of_ble_eq_true rfl, Nat.le_of_ble_eq_true rfl⟩) (fun v6 σ5 H locs hf hw => ?_)
      exact q_eiret hf hx hb hr rfl hk hw dX8_lower_48 (Nat.le_of_ble_eq_true rfl) (Nat.le_of_ble_eq_true rfl)
    refine lv_iconst (v := 0) hx hb dX8_lower_28 (by decide) ?_
    refine lv_goto (tgt := 48) hx hb dX8_lower_29 (by decide) ?_
    exact q_eiret hf hx hb hr rfl hk hw dX8_lower_48 (Nat.le_of_ble_eq_true rfl) (Nat.le_of_ble_eq_true rfl)
  refine lv_aload_n hx hb dX8_lower_8 rfl (lv_at hl 0 rfl) ?_
  refine lv_iload_n hx hb dX8_lower_9 rfl (lv_at hl 1 rfl) ?_
  refine lv_iload_n hx hb dX8_lower_10 rfl (lv_at hl 2 rfl) ?_
  refine q_eI hf hw (fun v τ h => q_rV (As := [.int x1, .int x2]) (rest := [.ref (ga Γ 8 0)]) (q := (RX8, TX8, 32)) X hK hw rfl (Nat.le_of_ble_eq_true rfl : 0 < cnt (gn Γ) 8) (rfl : vwCl[10]? = _) (kX8_bar h) mvX8_bar lk_X8_193 ⟨Nat.le_of_ble_eq_true rfl, Nat.le_of_ble_eq_true rfl⟩ rfl hl.1 rfl (Nat.le_of_ble_eq_true rfl) dX8_lower_11 ⟨Nat.le_of_ble_eq_true rfl, Nat.le_of_ble_eq_true rfl⟩) (fun v8 σ7 H locs hf hw => ?_)
  refine lv_goto (tgt := 18) hx hb dX8_lower_14 (by decide) ?_
  refine q_puti (v := v8) hx hb hK hw hown in_X8 ins_X8 tyX8 tyX8_ok nmX8 (rfl : vwCl[10]? = some (RX8, TX8, 32)) (fun _ _ _ => rfl) (Nat.le_of_ble_eq_true rfl : 0 < cnt (gn Γ) 8) 0 (by decide) 1354 fl_X8_97 rfl rfl rfl (fun _ _ _ => Nat.le_of_ble_eq_true rfl) (fun _ _ _ => rfl) hf dX8_lower_18 (fun σ9 H locs hf hw => ?_)
  refine lv_aload_n hx hb dX8_lower_21 rfl (lv_at hl 0 rfl) ?_
  refine q_get (v := .int (gI σ9 8 0 0)) hx hb hK hw hown in_X8 ins_X8 (rfl : vwCl[10]? = some (RX8, TX8, 32)) rfl (Nat.le_of_ble_eq_true rfl : 0 < cnt (gn Γ) 8) 0 (by decide) 1354 fl_X8_97 rfl rfl dX8_lower_22 ?_
  refine q_if_le (tgt := 32) hx hb hf dX8_lower_25 (by decide) (fun hf => ?_) (fun hf => ?_)
  · refine lv_aload_n hx hb dX8_lower_32 rfl (lv_at hl 0 rfl) ?_
    refine lv_iload_n hx hb dX8_lower_33 rfl (lv_at hl 1 rfl) ?_
    refine lv_iload_n hx hb dX8_lower_34 rfl (lv_at hl 2 rfl) ?_
    refine lv_aload_n hx hb dX8_lower_35 rfl (lv_at hl 0 rfl) ?_
    refine lv_aload_n hx hb dX8_lower_36 rfl (lv_at hl 0 rfl) ?_
    refine q_pI hf hw (fun v h => q_rV (As := []) (rest := [.ref (ga Γ 8 0), .int x2, .int x1, .ref (ga Γ 8 0)]) (q := (RX8, TX8, 32)) X hK hw rfl (Nat.le_of_ble_eq_true rfl : 0 < cnt (gn Γ) 8) (rfl : vwCl[10]? = _) (kX8_lowest h) mvX8_lowest lk_X8_206 ⟨Nat.le_of_ble_eq_true rfl, Nat.le_of_ble_eq_true rfl⟩ rfl hl.1 rfl (Nat.le_of_ble_eq_true rfl) dX8_lower_37 ⟨Nat.le_of_ble_eq_true rfl, Nat.le_of_ble_eq_true rfl⟩) (fun v10 H locs hf hw => ?_)
    refine q_pF hf hw (fun v h => q_rV (As := [.int v10]) (rest := [.int x2, .int x1, .ref (ga Γ 8 0)]) (q := (RX8, TX8, 32)) X hK hw rfl (Nat.le_of_ble_eq_true rfl : 0 < cnt (gn Γ) 8) (rfl : vwCl[10]? = _) (kX8_key h) mvX8_key lk_X8_138 ⟨Nat.le_of_ble_eq_true rfl, Nat.le_of_ble_eq_true rfl⟩ rfl hl.1 rfl (Nat.le_of_ble_eq_true rfl) dX8_lower_40 ⟨Nat.le_of_ble_eq_true rfl, Nat.le_of_ble_eq_true rfl⟩) (fun v11 H locs hf hw => ?_)
    refine lv_fconst1 hx hb dX8_lower_43 ?_
    refine q_fsub hx hb hf dX8_lower_44 (fun hf => ?_)
    refine q_eI hf hw (fun v τ h => q_rV (As := [.int x1, .int x2, .float (FP.fsub v11 (1065353216 : UInt32))]) (rest := []) (q := (RX8, TX8, 32)) X hK hw rfl (Nat.le_of_ble_eq_true rfl : 0 < cnt (gn Γ) 8) (rfl : vwCl[10]? = _) (kX8_keys h) mvX8_keys lk_X8_202 ⟨Nat.le_of_ble_eq_true rfl, Nat.le_of_ble_eq_true rfl⟩ rfl hl.1 rfl (Nat.le_of_ble_eq_true rfl) dX8_lower_45 ⟨Nat.le_of_ble_eq_true rfl, Nat.le_of_ble_eq_true rfl⟩) (fun v13 σ12 H locs hf hw => ?_)
    exact q_eiret hf hx hb hr rfl hk hw dX8_lower_48 (Nat.le_of_ble_eq_true rfl) (Nat.le_of_ble_eq_true rfl)
  refine lv_iconst (v := 0) hx hb dX8_lower_28 (by decide) ?_
  refine lv_goto (tgt := 48) hx hb dX8_lower_29 (by decide) ?_
  exact q_eiret hf hx hb hr rfl hk hw dX8_lower_48 (Nat.le_of_ble_eq_true rfl) (Nat.le_of_ble_eq_true rfl)
set_option maxRecDepth 100000 in
theorem kX8_putAbove {Γ : Gm} {S : List (String × Nat × String)} {l : Launch} {N : Nat} {σ τ : St} {x1 : Int32} {x2 : Int32} {x3 : Int32} {r : Int32}  (hf : fX8_putAbove N σ x1 x2 x3 = some (r, τ)) : CT Γ S l yX8_putAbove cX8_putAbove 6 (some (.int)) 5 127 0 0 [.ref (ga Γ 8 0), .int x1, .int x2, .int x3] (some (.int r)) σ τ := by
  unfold fX8_putAbove at hf
  refine ct_body (lv := [(0, .ref (ga Γ 8 0)), (1, .int x1), (2, .int x2), (3, .int x3)]) (by decide +kernel) rfl (Nat.le_of_ble_eq_true rfl) ?_
  intro p e s m below meth c ls X hr hk hK hw hl
  have hx := X.1
  have hb := X.2.1
  have hown := X.2.2.2
  refine lv_aload_n hx hb dX8_putAbove_0 rfl (lv_at hl 0 rfl) ?_
  refine lv_iconst (v := 0) hx hb dX8_putAbove_1 (by decide) ?_
  refine q_puti (v := (0 : Int32)) hx hb hK hw hown in_X8 ins_X8 tyX8 tyX8_ok nmX8 (rfl : vwCl[10]? = some (RX8, TX8, 32)) (fun _ _ _ => rfl) (Nat.le_of_ble_eq_true rfl : 0 < cnt (gn Γ) 8) 0 (by decide) 1354 fl_X8_97 rfl rfl rfl (fun _ _ _ => Nat.le_of_ble_eq_true rfl) (fun _ _ _ => rfl) hf dX8_putAbove_2 (fun σ1 H locs hf hw => ?_)
  refine lv_iload_n hx hb dX8_putAbove_5 rfl (lv_at hl 1 rfl) ?_
  refine q_pI hf hw (fun v h => q_rS (As := [.int x1]) (rest := []) X hK hw (kX8_isUser h) msX8_isUser lk_X8_165 ⟨Nat.le_of_ble_eq_true rfl, Nat.le_of_ble_eq_true rfl⟩ rfl hl.1 rfl (Nat.le_of_ble_eq_true rfl) dX8_putAbove_6 ⟨Nat.le_of_ble_eq_true rfl, Nat.le_of_ble_eq_true rfl⟩) (fun v2 H locs hf hw => ?_)
  refine q_if_eq (tgt := 17) hx hb hf dX8_putAbove_9 (by decide) (fun hf => ?_) (fun hf => ?_)
  · refine lv_aload_n hx hb dX8_putAbove_17 rfl (lv_at hl 0 rfl) ?_
    refine lv_iconst (v := 1) hx hb dX8_putAbove_18 (by decide) ?_
    refine q_eI hf hw (fun v τ h => q_rV (As := [.int (1 : Int32)]) (rest := []) (q := (RX8, TX8, 32)) X hK hw rfl (Nat.le_of_ble_eq_true rfl : 0 < cnt (gn Γ) 8) (rfl : vwCl[10]? = _) (kX8_fails h) mvX8_fails lk_X8_172 ⟨Nat.le_of_ble_eq_true rfl, Nat.le_of_ble_eq_true rfl⟩ rfl hl.1 rfl (Nat.le_of_ble_eq_true rfl) dX8_putAbove_19 ⟨Nat.le_of_ble_eq_true rfl, Nat.le_of_ble_eq_true rfl⟩) (fun v4 σ3 H locs hf hw => ?_)
    exact q_eiret hf hx hb hr rfl hk hw dX8_putAbove_22 (Nat.le_of_ble_eq_true rfl) (Nat.le_of_ble_eq_true rfl)
  refine lv_iload_n hx hb dX8_putAbove_12 rfl (lv_at hl 2 rfl) ?_
  refine lv_iload_n hx hb dX8_putAbove_13 rfl (lv_at hl 3 rfl) ?_
  refine q_ic_ne (tgt := 23) hx hb hf dX8_putAbove_14 (by decide) (fun hf => ?_) (fun hf => ?_)
  · refine lv_aload_n hx hb dX8_putAbove_23 rfl (lv_at hl 0 rfl) ?_
    refine lv_iload_n hx hb dX8_putAbove_24 rfl (lv_at hl 1 rfl) ?_
    refine q_eV hf hw (fun τ h => q_rV (As := [.int x1]) (rest := []) (q := (RX8, TX8, 32)) X hK hw rfl (Nat.le_of_ble_eq_true rfl : 0 < cnt (gn Γ) 8) (rfl : vwCl[10]? = _) (kX8_builds h) mvX8_builds lk_X8_161 ⟨Nat.le_of_ble_eq_true rfl, Nat.le_of_ble_eq_true rfl⟩ rfl hl.1 rfl (Nat.le_of_ble_eq_true rfl) dX8_putAbove_25 ⟨Nat.le_of_ble_eq_true rfl, Nat.le_of_ble_eq_true rfl⟩) (fun σ5 H locs hf hw => ?_)
    refine lv_aload_n hx hb dX8_putAbove_28 rfl (lv_at hl 0 rfl) ?_
    refine lv_iload_n hx hb dX8_putAbove_29 rfl (lv_at hl 2 rfl) ?_
    refine q_pI hf hw (fun v h => q_rV (As := [.int x2]) (rest := []) (q := (RX8, TX8, 32)) X hK hw rfl (Nat.le_of_ble_eq_true rfl : 0 < cnt (gn Γ) 8) (rfl : vwCl[10]? = _) (kX8_isSeen h) mvX8_isSeen lk_X8_125 ⟨Nat.le_of_ble_eq_true rfl, Nat.le_of_ble_eq_true rfl⟩ rfl hl.1 rfl (Nat.le_of_ble_eq_true rfl) dX8_putAbove_30 ⟨Nat.le_of_ble_eq_true rfl, Nat.le_of_ble_eq_true rfl⟩) (fun v6 H locs hf hw => ?_)
    refine q_if_eq (tgt := 44) hx hb hf dX8_putAbove_33 (by decide) (fun hf => ?_) (fun hf => ?_)
    · refine lv_aload_n hx hb dX8_putAbove_44 rfl (lv_at hl 0 rfl) ?_
      refine lv_iconst (v := 2) hx hb dX8_putAbove_45 (by decide) ?_
      refine q_eI hf hw (fun v τ h => q_rV (As := [.int (2 : Int32)]) (rest := []) (q := (RX8, TX8, 32)) X hK hw rfl (Nat.le_of_ble_eq_true rfl : 0 < cnt (gn Γ) 8) (rfl : vwCl[10]? = _) (kX8_fails h) mvX8_fails lk_X8_172 ⟨Nat.le_of_ble_eq_true rfl, Nat.le_of_ble_eq_true rfl⟩ rfl hl.1 rfl (Nat.le_of_ble_eq_true rfl) dX8_putAbove_46 ⟨Nat.le_of_ble_eq_true rfl, Nat.le_of_ble_eq_true rfl⟩) (fun v8 σ7 H locs hf hw => ?_)
      exact q_eiret hf hx hb hr rfl hk hw dX8_putAbove_49 (Nat.le_of_ble_eq_true rfl) (Nat.le_of_ble_eq_true rfl)
    refine lv_aload_n hx hb dX8_putAbove_36 rfl (lv_at hl 0 rfl) ?_
    refine lv_iload_n hx hb dX8_putAbove_37 rfl (lv_at hl 3 rfl) ?_
    refine q_pI hf hw (fun v h => q_rV (As := [.int x3]) (rest := []) (q := (RX8, TX8, 32)) X hK hw rfl (Nat.le_of_ble_eq_true rfl : 0 < cnt (gn Γ) 8) (rfl : vwCl[10]? = _) (kX8_isSeen h) mvX8_isSeen lk_X8_125 ⟨Nat.le_of_ble_eq_true rfl, Nat.le_of_ble_eq_true rfl⟩ rfl hl.1 rfl (Nat.le_of_ble_eq_true rfl) dX8_putAbove_38 ⟨Nat.le_of_ble_eq_true rfl, Nat.le_of_ble_eq_true rfl⟩) (fun v9 H locs hf hw => ?_)
    refine q_if_ne (tgt := 50) hx hb hf dX8_putAbove_41 (by decide) (fun hf => ?_) (fun hf => ?_)
    · refine lv_iconst (v := (-1)) hx hb dX8_putAbove_50 (by decide) ?_
      refine q_istore (lv1 := [(0, .ref (ga Γ 8 0)), (1, .int x1), (2, .int x2), (3, .int x3)]) hx hb hf dX8_putAbove_51 hl (by decide) rfl (fun v10 ls hf hl => ?_)
      refine lv_iconst (v := 0) hx hb dX8_putAbove_53 (by decide) ?_
      refine lv_istore (lv' := [(5, .int (0 : Int32)), (4, .int v10), (0, .ref (ga Γ 8 0)), (1, .int x1), (2, .int x2), (3, .int x3)]) hx hb dX8_putAbove_54 hl (by decide) rfl (fun ls hl => ?_)
      have L56 : ∀ (K : Int32 → Int32 → Option ((Int32 × St))) (hkk : ∀ (y4 : Int32) (y5 : Int32) (H : Heap) (locs : List Loc) (ls : Array Slot), K y4 y5 = some (r, τ) → Sit Γ σ5 s H locs → lv_has ls 6 [(0, .ref (ga Γ 8 0)), (1, .int x1), (2, .int x2), (3, .int x3), (4, .int y4)] → W p l e { frames := 5, cells := 0, slots := 0, locals := 127 } s m [.ref (ga Γ 8 0), .int x1, .int x2, .int x3].toArray below meth c H locs 0 0 (MQ below (Qg Γ (some (.int r)) τ (AA Γ s.heap.size)) [.ref (ga Γ 8 0), .int x1, .int x2, .int x3].toArray s 0 0 (AA Γ s.heap.size)) (F0 m 125 ls [])) (n : Nat) (v11 : Int32) (v12 : Int32) (H : Heap) (locs : List Loc) (ls : Array Slot), fX8_putAbove_L56 K N x3 σ5 n v11 v12 = some (r, τ) → Sit Γ σ5 s H locs → lv_has ls 6 [(0, .ref (ga Γ 8 0)), (1, .int x1), (2, .int x2), (3, .int x3), (4, .int v11), (5, .int v12)] → W p l e { frames := 5, cells := 0, slots := 0, locals := 127 } s m [.ref (ga Γ 8 0), .int x1, .int x2, .int x3].toArray below meth c H locs 0 0 (MQ below (Qg Γ (some (.int r)) τ (AA Γ s.heap.size)) [.ref (ga Γ 8 0), .int x1, .int x2, .int x3].toArray s 0 0 (AA Γ s.heap.size)) (F0 m 56 ls []) := by
        intro K hkk n
        induction n with
        | zero =>
          intro _ _ _ _ _ hf
          exact nomatch hf
        | succ n ih =>
          intro v11 v12 H locs ls hf hw hl
          refine lv_iload hx hb dX8_putAbove_56 (lv_at hl 5 rfl) ?_
          refine lv_aload_n hx hb dX8_putAbove_58 rfl (lv_at hl 0 rfl) ?_
          refine q_get (v := .int (gI σ5 8 0 8)) hx hb hK hw hown in_X8 ins_X8 (rfl : vwCl[10]? = some (RX8, TX8, 32)) rfl (Nat.le_of_ble_eq_true rfl : 0 < cnt (gn Γ) 8) 8 (by decide) 1362 fl_X8_119 rfl rfl dX8_putAbove_59 ?_
          refine q_ic_ge (tgt := 125) hx hb hf dX8_putAbove_62 (by decide) (fun hf => ?_) (fun hf => ?_)
          · exact hkk _ _ _ _ _ hf hw (lv_sub hl [0, 1, 2, 3, 4] rfl)
          refine lv_aload_n hx hb dX8_putAbove_65 rfl (lv_at hl 0 rfl) ?_
          refine lv_iload hx hb dX8_putAbove_66 (lv_at hl 5 rfl) ?_
          refine q_pI hf hw (fun v h => q_rV (As := [.int v12]) (rest := []) (q := (RX8, TX8, 32)) X hK hw rfl (Nat.le_of_ble_eq_true rfl : 0 < cnt (gn Γ) 8) (rfl : vwCl[10]? = _) (kX8_isSeen h) mvX8_isSeen lk_X8_125 ⟨Nat.le_of_ble_eq_true rfl, Nat.le_of_ble_eq_true rfl⟩ rfl hl.1 rfl (Nat.le_of_ble_eq_true rfl) dX8_putAbove_68 ⟨Nat.le_of_ble_eq_true rfl, Nat.le_of_ble_eq_true rfl⟩) (fun v13 H locs hf hw => ?_)
          refine q_if_eq (tgt := 115) hx hb hf dX8_putAbove_71 (by decide) (fun hf => ?_) (fun hf => ?_)
          · refine lv_iload hx hb dX8_putAbove_115 (lv_at hl 4 rfl) ?_
            refine lv_istore (lv' := [(4, .int v11), (0, .ref (ga Γ 8 0)), (1, .int x1), (2, .int x2), (3, .int x3), (5, .int v12)]) hx hb dX8_putAbove_117 hl (by decide) rfl (fun ls hl => ?_)
            refine q_iinc (lv1 := [(4, .int v11), (0, .ref (ga Γ 8 0)), (1, .int x1), (2, .int x2), (3, .int x3)]) (d := 1) hx hb hf dX8_putAbove_119 hl (k := 5) rfl (by decide) (by decide) rfl (fun v14 ls hf hl => ?_)
            refine lv_goto (tgt := 56) hx hb dX8_putAbove_122 (by decide) ?_
            exact ih _ _ _ _ _ hf hw (lv_sub hl [2, 3, 4, 5, 1, 0] rfl)
          refine lv_aload_n hx hb dX8_putAbove_74 rfl (lv_at hl 0 rfl) ?_
          refine lv_iload hx hb dX8_putAbove_75 (lv_at hl 5 rfl) ?_
          refine q_pF hf hw (fun v h => q_rV (As := [.int v12]) (rest := []) (q := (RX8, TX8, 32)) X hK hw rfl (Nat.le_of_ble_eq_true rfl : 0 < cnt (gn Γ) 8) (rfl : vwCl[10]? = _) (kX8_key h) mvX8_key lk_X8_138 ⟨Nat.le_of_ble_eq_true rfl, Nat.le_of_ble_eq_true rfl⟩ rfl hl.1 rfl (Nat.le_of_ble_eq_true rfl) dX8_putAbove_77 ⟨Nat.le_of_ble_eq_true rfl, Nat.le_of_ble_eq_true rfl⟩) (fun v15 H locs hf hw => ?_)
          refine lv_aload_n hx hb dX8_putAbove_80 rfl (lv_at hl 0 rfl) ?_
          refine lv_iload_n hx hb dX8_putAbove_81 rfl (lv_at hl 3 rfl) ?_
          refine q_pF hf hw (fun v h => q_rV (As := [.int x3]) (rest := [.float v15]) (q := (RX8, TX8, 32)) X hK hw rfl (Nat.le_of_ble_eq_true rfl : 0 < cnt (gn Γ) 8) (rfl : vwCl[10]? = _) (kX8_key h) mvX8_key lk_X8_138 ⟨Nat.le_of_ble_eq_true rfl, Nat.le_of_ble_eq_true rfl⟩ rfl hl.1 rfl (Nat.le_of_ble_eq_true rfl) dX8_putAbove_82 ⟨Nat.le_of_ble_eq_true rfl, Nat.le_of_ble_eq_true rfl⟩) (fun v16 H locs hf hw => ?_)
          refine lv_fcmp hx hb dX8_putAbove_85 ?_
          refine q_if_le (tgt := 115) hx hb hf dX8_putAbove_86 (by decide) (fun hf => ?_) (fun hf => ?_)
          · refine lv_iload hx hb dX8_putAbove_115 (lv_at hl 4 rfl) ?_
            refine lv_istore (lv' := [(4, .int v11), (0, .ref (ga Γ 8 0)), (1, .int x1), (2, .int x2), (3, .int x3), (5, .int v12)]) hx hb dX8_putAbove_117 hl (by decide) rfl (fun ls hl => ?_)
            refine q_iinc (lv1 := [(4, .int v11), (0, .ref (ga Γ 8 0)), (1, .int x1), (2, .int x2), (3, .int x3)]) (d := 1) hx hb hf dX8_putAbove_119 hl (k := 5) rfl (by decide) (by decide) rfl (fun v17 ls hf hl => ?_)
            refine lv_goto (tgt := 56) hx hb dX8_putAbove_122 (by decide) ?_
            exact ih _ _ _ _ _ hf hw (lv_sub hl [2, 3, 4, 5, 1, 0] rfl)
          refine lv_iload hx hb dX8_putAbove_89 (lv_at hl 4 rfl) ?_
          refine q_if_lt (tgt := 110) hx hb hf dX8_putAbove_91 (by decide) (fun hf => ?_) (fun hf => ?_)
          · refine lv_iload hx hb dX8_putAbove_110 (lv_at hl 5 rfl) ?_
            refine lv_goto (tgt := 117) hx hb dX8_putAbove_112 (by decide) ?_
            refine lv_istore (lv' := [(4, .int v12), (0, .ref (ga Γ 8 0)), (1, .int x1), (2, .int x2), (3, .int x3), (5, .int v12)]) hx hb dX8_putAbove_117 hl (by decide) rfl (fun ls hl => ?_)
            refine q_iinc (lv1 := [(4, .int v12), (0, .ref (ga Γ 8 0)), (1, .int x1), (2, .int x2), (3, .int x3)]) (d := 1) hx hb hf dX8_putAbove_119 hl (k := 5) rfl (by decide) (by decide) rfl (fun v18 ls hf hl => ?_)
            refine lv_goto (tgt := 56) hx hb dX8_putAbove_122 (by decide) ?_
            exact ih _ _ _ _ _ hf hw (lv_sub hl [2, 3, 4, 5, 1, 0] rfl)
          refine lv_aload_n hx hb dX8_putAbove_94 rfl (lv_at hl 0 rfl) ?_
          refine lv_iload hx hb dX8_putAbove_95 (lv_at hl 5 rfl) ?_
          refine q_pF hf hw (fun v h => q_rV (As := [.int v12]) (rest := []) (q := (RX8, TX8, 32)) X hK hw rfl (Nat.le_of_ble_eq_true rfl : 0 < cnt (gn Γ) 8) (rfl : vwCl[10]? = _) (kX8_key h) mvX8_key lk_X8_138 ⟨Nat.le_of_ble_eq_true rfl, Nat.le_of_ble_eq_true rfl⟩ rfl hl.1 rfl (Nat.le_of_ble_eq_true rfl) dX8_putAbove_97 ⟨Nat.le_of_ble_eq_true rfl, Nat.le_of_ble_eq_true rfl⟩) (fun v19 H locs hf hw => ?_)
          refine lv_aload_n hx hb dX8_putAbove_100 rfl (lv_at hl 0 rfl) ?_
          refine lv_iload hx hb dX8_putAbove_101 (lv_at hl 4 rfl) ?_
          refine q_pF hf hw (fun v h => q_rV (As := [.int v11]) (rest := [.float v19]) (q := (RX8, TX8, 32)) X hK hw rfl (Nat.le_of_ble_eq_true rfl : 0 < cnt (gn Γ) 8) (rfl : vwCl[10]? = _) (kX8_key h) mvX8_key lk_X8_138 ⟨Nat.le_of_ble_eq_true rfl, Nat.le_of_ble_eq_true rfl⟩ rfl hl.1 rfl (Nat.le_of_ble_eq_true rfl) dX8_putAbove_103 ⟨Nat.le_of_ble_eq_true rfl, Nat.le_of_ble_eq_true rfl⟩) (fun v20 H locs hf hw => ?_)
          refine lv_fcmp hx hb dX8_putAbove_106 ?_
          refine q_if_ge (tgt := 115) hx hb hf dX8_putAbove_107 (by decide) (fun hf => ?_) (fun hf => ?_)
          · refine lv_iload hx hb dX8_putAbove_115 (lv_at hl 4 rfl) ?_
            refine lv_istore (lv' := [(4, .int v11), (0, .ref (ga Γ 8 0)), (1, .int x1), (2, .int x2), (3, .int x3), (5, .int v12)]) hx hb dX8_putAbove_117 hl (by decide) rfl (fun ls hl => ?_)
            refine q_iinc (lv1 := [(4, .int v11), (0, .ref (ga Γ 8 0)), (1, .int x1), (2, .int x2), (3, .int x3)]) (d := 1) hx hb hf dX8_putAbove_119 hl (k := 5) rfl (by decide) (by decide) rfl (fun v21 ls hf hl => ?_)
            refine lv_goto (tgt := 56) hx hb dX8_putAbove_122 (by decide) ?_
            exact ih _ _ _ _ _ hf hw (lv_sub hl [2, 3, 4, 5, 1, 0] rfl)
          refine lv_iload hx hb dX8_putAbove_110 (lv_at hl 5 rfl) ?_
          refine lv_goto (tgt := 117) hx hb dX8_putAbove_112 (by decide) ?_
          refine lv_istore (lv' := [(4, .int v12), (0, .ref (ga Γ 8 0)), (1, .int x1), (2, .int x2), (3, .int x3), (5, .int v12)]) hx hb dX8_putAbove_117 hl (by decide) rfl (fun ls hl => ?_)
          refine q_iinc (lv1 := [(4, .int v12), (0, .ref (ga Γ 8 0)), (1, .int x1), (2, .int x2), (3, .int x3)]) (d := 1) hx hb hf dX8_putAbove_119 hl (k := 5) rfl (by decide) (by decide) rfl (fun v22 ls hf hl => ?_)
          refine lv_goto (tgt := 56) hx hb dX8_putAbove_122 (by decide) ?_
          exact ih _ _ _ _ _ hf hw (lv_sub hl [2, 3, 4, 5, 1, 0] rfl)
      refine L56 _ (fun v23 _ H locs ls hf hw hl => ?_) N v10 (0 : Int32) _ _ _ hf hw (lv_sub hl [2, 3, 4, 5, 1, 0] rfl)
      refine lv_iload hx hb dX8_putAbove_125 (lv_at hl 4 rfl) ?_
      refine q_if_ge (tgt := 140) hx hb hf dX8_putAbove_127 (by decide) (fun hf => ?_) (fun hf => ?_)
      · refine lv_aload_n hx hb dX8_putAbove_140 rfl (lv_at hl 0 rfl) ?_
        refine lv_iload_n hx hb dX8_putAbove_141 rfl (lv_at hl 3 rfl) ?_
        refine q_pF hf hw (fun v h => q_rV (As := [.int x3]) (rest := []) (q := (RX8, TX8, 32)) X hK hw rfl (Nat.le_of_ble_eq_true rfl : 0 < cnt (gn Γ) 8) (rfl : vwCl[10]? = _) (kX8_key h) mvX8_key lk_X8_138 ⟨Nat.le_of_ble_eq_true rfl, Nat.le_of_ble_eq_true rfl⟩ rfl hl.1 rfl (Nat.le_of_ble_eq_true rfl) dX8_putAbove_142 ⟨Nat.le_of_ble_eq_true rfl, Nat.le_of_ble_eq_true rfl⟩) (fun v24 H locs hf hw => ?_)
        refine lv_aload_n hx hb dX8_putAbove_145 rfl (lv_at hl 0 rfl) ?_
        refine lv_iload hx hb dX8_putAbove_146 (lv_at hl 4 rfl) ?_
        refine q_pF hf hw (fun v h => q_rV (As := [.int v23]) (rest := [.float v24]) (q := (RX8, TX8, 32)) X hK hw rfl (Nat.le_of_ble_eq_true rfl : 0 < cnt (gn Γ) 8) (rfl : vwCl[10]? = _) (kX8_key h) mvX8_key lk_X8_138 ⟨Nat.le_of_ble_eq_true rfl, Nat.le_of_ble_eq_true rfl⟩ rfl hl.1 rfl (Nat.le_of_ble_eq_true rfl) dX8_putAbove_148 ⟨Nat.le_of_ble_eq_true rfl, Nat.le_of_ble_eq_true rfl⟩) (fun v25 H locs hf hw => ?_)
        refine q_fadd hx hb hf dX8_putAbove_151 (fun hf => ?_)
        refine lv_fconst2 hx hb dX8_putAbove_152 ?_
        refine q_fdiv hx hb hf dX8_putAbove_153 (fun hf => ?_)
        refine q_fstore (lv1 := [(0, .ref (ga Γ 8 0)), (1, .int x1), (2, .int x2), (3, .int x3), (4, .int v23)]) hx hb hf dX8_putAbove_154 hl (by decide) rfl (fun v26 ls hf hl => ?_)
        refine lv_aload_n hx hb dX8_putAbove_156 rfl (lv_at hl 1 rfl) ?_
        refine lv_iload_n hx hb dX8_putAbove_157 rfl (lv_at hl 2 rfl) ?_
        refine lv_iload_n hx hb dX8_putAbove_158 rfl (lv_at hl 3 rfl) ?_
        refine q_pI hf hw (fun v h => q_rV (As := [.int x1, .int x2]) (rest := []) (q := (RX8, TX8, 32)) X hK hw rfl (Nat.le_of_ble_eq_true rfl : 0 < cnt (gn Γ) 8) (rfl : vwCl[10]? = _) (kX8_isBarred h) mvX8_isBarred lk_X8_190 ⟨Nat.le_of_ble_eq_true rfl, Nat.le_of_ble_eq_true rfl⟩ rfl hl.1 rfl (Nat.le_of_ble_eq_true rfl) dX8_putAbove_159 ⟨Nat.le_of_ble_eq_true rfl, Nat.le_of_ble_eq_true rfl⟩) (fun v27 H locs hf hw => ?_)
        refine q_if_ne (tgt := 193) hx hb hf dX8_putAbove_162 (by decide) (fun hf => ?_) (fun hf => ?_)
        · refine lv_aload_n hx hb dX8_putAbove_193 rfl (lv_at hl 1 rfl) ?_
          refine lv_iconst (v := 3) hx hb dX8_putAbove_194 (by decide) ?_
          refine q_eI hf hw (fun v τ h => q_rV (As := [.int (3 : Int32)]) (rest := []) (q := (RX8, TX8, 32)) X hK hw rfl (Nat.le_of_ble_eq_true rfl : 0 < cnt (gn Γ) 8) (rfl : vwCl[10]? = _) (kX8_fails h) mvX8_fails lk_X8_172 ⟨Nat.le_of_ble_eq_true rfl, Nat.le_of_ble_eq_true rfl⟩ rfl hl.1 rfl (Nat.le_of_ble_eq_true rfl) dX8_putAbove_195 ⟨Nat.le_of_ble_eq_true rfl, Nat.le_of_ble_eq_true rfl⟩) (fun v29 σ28 H locs hf hw => ?_)
          exact q_eiret hf hx hb hr rfl hk hw dX8_putAbove_198 (Nat.le_of_ble_eq_true rfl) (Nat.le_of_ble_eq_true rfl)
        refine lv_fload hx hb dX8_putAbove_165 (lv_at hl 0 rfl) ?_
        refine lv_aload_n hx hb dX8_putAbove_167 rfl (lv_at hl 1 rfl) ?_
        refine lv_iload_n hx hb dX8_putAbove_168 rfl (lv_at hl 4 rfl) ?_
        refine q_pF hf hw (fun v h => q_rV (As := [.int x3]) (rest := [.float v26]) (q := (RX8, TX8, 32)) X hK hw rfl (Nat.le_of_ble_eq_true rfl : 0 < cnt (gn Γ) 8) (rfl : vwCl[10]? = _) (kX8_key h) mvX8_key lk_X8_138 ⟨Nat.le_of_ble_eq_true rfl, Nat.le_of_ble_eq_true rfl⟩ rfl hl.1 rfl (Nat.le_of_ble_eq_true rfl) dX8_putAbove_169 ⟨Nat.le_of_ble_eq_true rfl, Nat.le_of_ble_eq_true rfl⟩) (fun v30 H locs hf hw => ?_)
        refine lv_fcmp hx hb dX8_putAbove_172 ?_
        refine q_if_eq (tgt := 193) hx hb hf dX8_putAbove_173 (by decide) (fun hf => ?_) (fun hf => ?_)
        · refine lv_aload_n hx hb dX8_putAbove_193 rfl (lv_at hl 1 rfl) ?_
          refine lv_iconst (v := 3) hx hb dX8_putAbove_194 (by decide) ?_
          refine q_eI hf hw (fun v τ h => q_rV (As := [.int (3 : Int32)]) (rest := []) (q := (RX8, TX8, 32)) X hK hw rfl (Nat.le_of_ble_eq_true rfl : 0 < cnt (gn Γ) 8) (rfl : vwCl[10]? = _) (kX8_fails h) mvX8_fails lk_X8_172 ⟨Nat.le_of_ble_eq_true rfl, Nat.le_of_ble_eq_true rfl⟩ rfl hl.1 rfl (Nat.le_of_ble_eq_true rfl) dX8_putAbove_195 ⟨Nat.le_of_ble_eq_true rfl, Nat.le_of_ble_eq_true rfl⟩) (fun v32 σ31 H locs hf hw => ?_)
          exact q_eiret hf hx hb hr rfl hk hw dX8_putAbove_198 (Nat.le_of_ble_eq_true rfl) (Nat.le_of_ble_eq_true rfl)
        refine lv_iload hx hb dX8_putAbove_176 (lv_at hl 5 rfl) ?_
        refine q_if_lt (tgt := 199) hx hb hf dX8_putAbove_178 (by decide) (fun hf => ?_) (fun hf => ?_)
        · refine lv_aload_n hx hb dX8_putAbove_199 rfl (lv_at hl 1 rfl) ?_
          refine q_get (v := .int (gI σ5 8 0 20)) hx hb hK hw hown in_X8 ins_X8 (rfl : vwCl[10]? = some (RX8, TX8, 32)) rfl (Nat.le_of_ble_eq_true rfl : 0 < cnt (gn Γ) 8) 20 (by decide) 1374 fl_X8_108 rfl rfl dX8_putAbove_200 ?_
          refine lv_sipush (v := 250) hx hb dX8_putAbove_203 (by decide) ?_
          refine q_ic_ne (tgt := 217) hx hb hf dX8_putAbove_206 (by decide) (fun hf => ?_) (fun hf => ?_)
          · refine lv_aload_n hx hb dX8_putAbove_217 rfl (lv_at hl 1 rfl) ?_
            refine lv_iload_n hx hb dX8_putAbove_218 rfl (lv_at hl 2 rfl) ?_
            refine lv_iload_n hx hb dX8_putAbove_219 rfl (lv_at hl 3 rfl) ?_
            refine lv_fload hx hb dX8_putAbove_220 (lv_at hl 0 rfl) ?_
            refine q_eI hf hw (fun v τ h => q_rV (As := [.int x1, .int x2, .float v26]) (rest := []) (q := (RX8, TX8, 32)) X hK hw rfl (Nat.le_of_ble_eq_true rfl : 0 < cnt (gn Γ) 8) (rfl : vwCl[10]? = _) (kX8_keys h) mvX8_keys lk_X8_202 ⟨Nat.le_of_ble_eq_true rfl, Nat.le_of_ble_eq_true rfl⟩ rfl hl.1 rfl (Nat.le_of_ble_eq_true rfl) dX8_putAbove_222 ⟨Nat.le_of_ble_eq_true rfl, Nat.le_of_ble_eq_true rfl⟩) (fun v34 σ33 H locs hf hw => ?_)
            exact q_eiret hf hx hb hr rfl hk hw dX8_putAbove_225 (Nat.le_of_ble_eq_true rfl) (Nat.le_of_ble_eq_true rfl)
          refine lv_aload_n hx hb dX8_putAbove_209 rfl (lv_at hl 1 rfl) ?_
          refine lv_iconst (v := 4) hx hb dX8_putAbove_210 (by decide) ?_
          refine q_eI hf hw (fun v τ h => q_rV (As := [.int (4 : Int32)]) (rest := []) (q := (RX8, TX8, 32)) X hK hw rfl (Nat.le_of_ble_eq_true rfl : 0 < cnt (gn Γ) 8) (rfl : vwCl[10]? = _) (kX8_fails h) mvX8_fails lk_X8_172 ⟨Nat.le_of_ble_eq_true rfl, Nat.le_of_ble_eq_true rfl⟩ rfl hl.1 rfl (Nat.le_of_ble_eq_true rfl) dX8_putAbove_211 ⟨Nat.le_of_ble_eq_true rfl, Nat.le_of_ble_eq_true rfl⟩) (fun v36 σ35 H locs hf hw => ?_)
          refine lv_goto (tgt := 225) hx hb dX8_putAbove_214 (by decide) ?_
          exact q_eiret hf hx hb hr rfl hk hw dX8_putAbove_225 (Nat.le_of_ble_eq_true rfl) (Nat.le_of_ble_eq_true rfl)
        refine lv_fload hx hb dX8_putAbove_181 (lv_at hl 0 rfl) ?_
        refine lv_aload_n hx hb dX8_putAbove_183 rfl (lv_at hl 1 rfl) ?_
        refine lv_iload hx hb dX8_putAbove_184 (lv_at hl 5 rfl) ?_
        refine q_pF hf hw (fun v h => q_rV (As := [.int v23]) (rest := [.float v26]) (q := (RX8, TX8, 32)) X hK hw rfl (Nat.le_of_ble_eq_true rfl : 0 < cnt (gn Γ) 8) (rfl : vwCl[10]? = _) (kX8_key h) mvX8_key lk_X8_138 ⟨Nat.le_of_ble_eq_true rfl, Nat.le_of_ble_eq_true rfl⟩ rfl hl.1 rfl (Nat.le_of_ble_eq_true rfl) dX8_putAbove_186 ⟨Nat.le_of_ble_eq_true rfl, Nat.le_of_ble_eq_true rfl⟩) (fun v37 H locs hf hw => ?_)
        refine lv_fcmp hx hb dX8_putAbove_189 ?_
        refine q_if_ne (tgt := 199) hx hb hf dX8_putAbove_190 (by decide) (fun hf => ?_) (fun hf => ?_)
        · refine lv_aload_n hx hb dX8_putAbove_199 rfl (lv_at hl 1 rfl) ?_
          refine q_get (v := .int (gI σ5 8 0 20)) hx hb hK hw hown in_X8 ins_X8 (rfl : vwCl[10]? = some (RX8, TX8, 32)) rfl (Nat.le_of_ble_eq_true rfl : 0 < cnt (gn Γ) 8) 20 (by decide) 1374 fl_X8_108 rfl rfl dX8_putAbove_200 ?_
          refine lv_sipush (v := 250) hx hb dX8_putAbove_203 (by decide) ?_
          refine q_ic_ne (tgt := 217) hx hb hf dX8_putAbove_206 (by decide) (fun hf => ?_) (fun hf => ?_)
          · refine lv_aload_n hx hb dX8_putAbove_217 rfl (lv_at hl 1 rfl) ?_
            refine lv_iload_n hx hb dX8_putAbove_218 rfl (lv_at hl 2 rfl) ?_
            refine lv_iload_n hx hb dX8_putAbove_219 rfl (lv_at hl 3 rfl) ?_
            refine lv_fload hx hb dX8_putAbove_220 (lv_at hl 0 rfl) ?_
            refine q_eI hf hw (fun v τ h => q_rV (As := [.int x1, .int x2, .float v26]) (rest := []) (q := (RX8, TX8, 32)) X hK hw rfl (Nat.le_of_ble_eq_true rfl : 0 < cnt (gn Γ) 8) (rfl : vwCl[10]? = _) (kX8_keys h) mvX8_keys lk_X8_202 ⟨Nat.le_of_ble_eq_true rfl, Nat.le_of_ble_eq_true rfl⟩ rfl hl.1 rfl (Nat.le_of_ble_eq_true rfl) dX8_putAbove_222 ⟨Nat.le_of_ble_eq_true rfl, Nat.le_of_ble_eq_true rfl⟩) (fun v39 σ38 H locs hf hw => ?_)
            exact q_eiret hf hx hb hr rfl hk hw dX8_putAbove_225 (Nat.le_of_ble_eq_true rfl) (Nat.le_of_ble_eq_true rfl)
          refine lv_aload_n hx hb dX8_putAbove_209 rfl (lv_at hl 1 rfl) ?_
          refine lv_iconst (v := 4) hx hb dX8_putAbove_210 (by decide) ?_
          refine q_eI hf hw (fun v τ h => q_rV (As := [.int (4 : Int32)]) (rest := []) (q := (RX8, TX8, 32)) X hK hw rfl (Nat.le_of_ble_eq_true rfl : 0 < cnt (gn Γ) 8) (rfl : vwCl[10]? = _) (kX8_fails h) mvX8_fails lk_X8_172 ⟨Nat.le_of_ble_eq_true rfl, Nat.le_of_ble_eq_true rfl⟩ rfl hl.1 rfl (Nat.le_of_ble_eq_true rfl) dX8_putAbove_211 ⟨Nat.le_of_ble_eq_true rfl, Nat.le_of_ble_eq_true rfl⟩) (fun v41 σ40 H locs hf hw => ?_)
          refine lv_goto (tgt := 225) hx hb dX8_putAbove_214 (by decide) ?_
          exact q_eiret hf hx hb hr rfl hk hw dX8_putAbove_225 (Nat.le_of_ble_eq_true rfl) (Nat.le_of_ble_eq_true rfl)
        refine lv_aload_n hx hb dX8_putAbove_193 rfl (lv_at hl 1 rfl) ?_
        refine lv_iconst (v := 3) hx hb dX8_putAbove_194 (by decide) ?_
        refine q_eI hf hw (fun v τ h => q_rV (As := [.int (3 : Int32)]) (rest := []) (q := (RX8, TX8, 32)) X hK hw rfl (Nat.le_of_ble_eq_true rfl : 0 < cnt (gn Γ) 8) (rfl : vwCl[10]? = _) (kX8_fails h) mvX8_fails lk_X8_172 ⟨Nat.le_of_ble_eq_true rfl, Nat.le_of_ble_eq_true rfl⟩ rfl hl.1 rfl (Nat.le_of_ble_eq_true rfl) dX8_putAbove_195 ⟨Nat.le_of_ble_eq_true rfl, Nat.le_of_ble_eq_true rfl⟩) (fun v43 σ42 H locs hf hw => ?_)
        exact q_eiret hf hx hb hr rfl hk hw dX8_putAbove_198 (Nat.le_of_ble_eq_true rfl) (Nat.le_of_ble_eq_true rfl)
      refine lv_aload_n hx hb dX8_putAbove_130 rfl (lv_at hl 0 rfl) ?_
      refine lv_iload_n hx hb dX8_putAbove_131 rfl (lv_at hl 3 rfl) ?_
      refine q_pF hf hw (fun v h => q_rV (As := [.int x3]) (rest := []) (q := (RX8, TX8, 32)) X hK hw rfl (Nat.le_of_ble_eq_true rfl : 0 < cnt (gn Γ) 8) (rfl : vwCl[10]? = _) (kX8_key h) mvX8_key lk_X8_138 ⟨Nat.le_of_ble_eq_true rfl, Nat.le_of_ble_eq_true rfl⟩ rfl hl.1 rfl (Nat.le_of_ble_eq_true rfl) dX8_putAbove_132 ⟨Nat.le_of_ble_eq_true rfl, Nat.le_of_ble_eq_true rfl⟩) (fun v44 H locs hf hw => ?_)
      refine lv_fconst1 hx hb dX8_putAbove_135 ?_
      refine q_fadd hx hb hf dX8_putAbove_136 (fun hf => ?_)
      refine lv_goto (tgt := 154) hx hb dX8_putAbove_137 (by decide) ?_
      refine q_fstore (lv1 := [(0, .ref (ga Γ 8 0)), (1, .int x1), (2, .int x2), (3, .int x3), (4, .int v23)]) hx hb hf dX8_putAbove_154 hl (by decide) rfl (fun v45 ls hf hl => ?_)
      refine lv_aload_n hx hb dX8_putAbove_156 rfl (lv_at hl 1 rfl) ?_
      refine lv_iload_n hx hb dX8_putAbove_157 rfl (lv_at hl 2 rfl) ?_
      refine lv_iload_n hx hb dX8_putAbove_158 rfl (lv_at hl 3 rfl) ?_
      refine q_pI hf hw (fun v h => q_rV (As := [.int x1, .int x2]) (rest := []) (q := (RX8, TX8, 32)) X hK hw rfl (Nat.le_of_ble_eq_true rfl : 0 < cnt (gn Γ) 8) (rfl : vwCl[10]? = _) (kX8_isBarred h) mvX8_isBarred lk_X8_190 ⟨Nat.le_of_ble_eq_true rfl, Nat.le_of_ble_eq_true rfl⟩ rfl hl.1 rfl (Nat.le_of_ble_eq_true rfl) dX8_putAbove_159 ⟨Nat.le_of_ble_eq_true rfl, Nat.le_of_ble_eq_true rfl⟩) (fun v46 H locs hf hw => ?_)
      refine q_if_ne (tgt := 193) hx hb hf dX8_putAbove_162 (by decide) (fun hf => ?_) (fun hf => ?_)
      · refine lv_aload_n hx hb dX8_putAbove_193 rfl (lv_at hl 1 rfl) ?_
        refine lv_iconst (v := 3) hx hb dX8_putAbove_194 (by decide) ?_
        refine q_eI hf hw (fun v τ h => q_rV (As := [.int (3 : Int32)]) (rest := []) (q := (RX8, TX8, 32)) X hK hw rfl (Nat.le_of_ble_eq_true rfl : 0 < cnt (gn Γ) 8) (rfl : vwCl[10]? = _) (kX8_fails h) mvX8_fails lk_X8_172 ⟨Nat.le_of_ble_eq_true rfl, Nat.le_of_ble_eq_true rfl⟩ rfl hl.1 rfl (Nat.le_of_ble_eq_true rfl) dX8_putAbove_195 ⟨Nat.le_of_ble_eq_true rfl, Nat.le_of_ble_eq_true rfl⟩) (fun v48 σ47 H locs hf hw => ?_)
        exact q_eiret hf hx hb hr rfl hk hw dX8_putAbove_198 (Nat.le_of_ble_eq_true rfl) (Nat.le_of_ble_eq_true rfl)
      refine lv_fload hx hb dX8_putAbove_165 (lv_at hl 0 rfl) ?_
      refine lv_aload_n hx hb dX8_putAbove_167 rfl (lv_at hl 1 rfl) ?_
      refine lv_iload_n hx hb dX8_putAbove_168 rfl (lv_at hl 4 rfl) ?_
      refine q_pF hf hw (fun v h => q_rV (As := [.int x3]) (rest := [.float v45]) (q := (RX8, TX8, 32)) X hK hw rfl (Nat.le_of_ble_eq_true rfl : 0 < cnt (gn Γ) 8) (rfl : vwCl[10]? = _) (kX8_key h) mvX8_key lk_X8_138 ⟨Nat.le_of_ble_eq_true rfl, Nat.le_of_ble_eq_true rfl⟩ rfl hl.1 rfl (Nat.le_of_ble_eq_true rfl) dX8_putAbove_169 ⟨Nat.le_of_ble_eq_true rfl, Nat.le_of_ble_eq_true rfl⟩) (fun v49 H locs hf hw => ?_)
      refine lv_fcmp hx hb dX8_putAbove_172 ?_
      refine q_if_eq (tgt := 193) hx hb hf dX8_putAbove_173 (by decide) (fun hf => ?_) (fun hf => ?_)
      · refine lv_aload_n hx hb dX8_putAbove_193 rfl (lv_at hl 1 rfl) ?_
        refine lv_iconst (v := 3) hx hb dX8_putAbove_194 (by decide) ?_
        refine q_eI hf hw (fun v τ h => q_rV (As := [.int (3 : Int32)]) (rest := []) (q := (RX8, TX8, 32)) X hK hw rfl (Nat.le_of_ble_eq_true rfl : 0 < cnt (gn Γ) 8) (rfl : vwCl[10]? = _) (kX8_fails h) mvX8_fails lk_X8_172 ⟨Nat.le_of_ble_eq_true rfl, Nat.le_of_ble_eq_true rfl⟩ rfl hl.1 rfl (Nat.le_of_ble_eq_true rfl) dX8_putAbove_195 ⟨Nat.le_of_ble_eq_true rfl, Nat.le_of_ble_eq_true rfl⟩) (fun v51 σ50 H locs hf hw => ?_)
        exact q_eiret hf hx hb hr rfl hk hw dX8_putAbove_198 (Nat.le_of_ble_eq_true rfl) (Nat.le_of_ble_eq_true rfl)
      refine lv_iload hx hb dX8_putAbove_176 (lv_at hl 5 rfl) ?_
      refine q_if_lt (tgt := 199) hx hb hf dX8_putAbove_178 (by decide) (fun hf => ?_) (fun hf => ?_)
      · refine lv_aload_n hx hb dX8_putAbove_199 rfl (lv_at hl 1 rfl) ?_
        refine q_get (v := .int (gI σ5 8 0 20)) hx hb hK hw hown in_X8 ins_X8 (rfl : vwCl[10]? = some (RX8, TX8, 32)) rfl (Nat.le_of_ble_eq_true rfl : 0 < cnt (gn Γ) 8) 20 (by decide) 1374 fl_X8_108 rfl rfl dX8_putAbove_200 ?_
        refine lv_sipush (v := 250) hx hb dX8_putAbove_203 (by decide) ?_
        refine q_ic_ne (tgt := 217) hx hb hf dX8_putAbove_206 (by decide) (fun hf => ?_) (fun hf => ?_)
        · refine lv_aload_n hx hb dX8_putAbove_217 rfl (lv_at hl 1 rfl) ?_
          refine lv_iload_n hx hb dX8_putAbove_218 rfl (lv_at hl 2 rfl) ?_
          refine lv_iload_n hx hb dX8_putAbove_219 rfl (lv_at hl 3 rfl) ?_
          refine lv_fload hx hb dX8_putAbove_220 (lv_at hl 0 rfl) ?_
          refine q_eI hf hw (fun v τ h => q_rV (As := [.int x1, .int x2, .float v45]) (rest := []) (q := (RX8, TX8, 32)) X hK hw rfl (Nat.le_of_ble_eq_true rfl : 0 < cnt (gn Γ) 8) (rfl : vwCl[10]? = _) (kX8_keys h) mvX8_keys lk_X8_202 ⟨Nat.le_of_ble_eq_true rfl, Nat.le_of_ble_eq_true rfl⟩ rfl hl.1 rfl (Nat.le_of_ble_eq_true rfl) dX8_putAbove_222 ⟨Nat.le_of_ble_eq_true rfl, Nat.le_of_ble_eq_true rfl⟩) (fun v53 σ52 H locs hf hw => ?_)
          exact q_eiret hf hx hb hr rfl hk hw dX8_putAbove_225 (Nat.le_of_ble_eq_true rfl) (Nat.le_of_ble_eq_true rfl)
        refine lv_aload_n hx hb dX8_putAbove_209 rfl (lv_at hl 1 rfl) ?_
        refine lv_iconst (v := 4) hx hb dX8_putAbove_210 (by decide) ?_
        refine q_eI hf hw (fun v τ h => q_rV (As := [.int (4 : Int32)]) (rest := []) (q := (RX8, TX8, 32)) X hK hw rfl (Nat.le_of_ble_eq_true rfl : 0 < cnt (gn Γ) 8) (rfl : vwCl[10]? = _) (kX8_fails h) mvX8_fails lk_X8_172 ⟨Nat.le_of_ble_eq_true rfl, Nat.le_of_ble_eq_true rfl⟩ rfl hl.1 rfl (Nat.le_of_ble_eq_true rfl) dX8_putAbove_211 ⟨Nat.le_of_ble_eq_true rfl, Nat.le_of_ble_eq_true rfl⟩) (fun v55 σ54 H locs hf hw => ?_)
        refine lv_goto (tgt := 225) hx hb dX8_putAbove_214 (by decide) ?_
        exact q_eiret hf hx hb hr rfl hk hw dX8_putAbove_225 (Nat.le_of_ble_eq_true rfl) (Nat.le_of_ble_eq_true rfl)
      refine lv_fload hx hb dX8_putAbove_181 (lv_at hl 0 rfl) ?_
      refine lv_aload_n hx hb dX8_putAbove_183 rfl (lv_at hl 1 rfl) ?_
      refine lv_iload hx hb dX8_putAbove_184 (lv_at hl 5 rfl) ?_
      refine q_pF hf hw (fun v h => q_rV (As := [.int v23]) (rest := [.float v45]) (q := (RX8, TX8, 32)) X hK hw rfl (Nat.le_of_ble_eq_true rfl : 0 < cnt (gn Γ) 8) (rfl : vwCl[10]? = _) (kX8_key h) mvX8_key lk_X8_138 ⟨Nat.le_of_ble_eq_true rfl, Nat.le_of_ble_eq_true rfl⟩ rfl hl.1 rfl (Nat.le_of_ble_eq_true rfl) dX8_putAbove_186 ⟨Nat.le_of_ble_eq_true rfl, Nat.le_of_ble_eq_true rfl⟩) (fun v56 H locs hf hw => ?_)
      refine lv_fcmp hx hb dX8_putAbove_189 ?_
      refine q_if_ne (tgt := 199) hx hb hf dX8_putAbove_190 (by decide) (fun hf => ?_) (fun hf => ?_)
      · refine lv_aload_n hx hb dX8_putAbove_199 rfl (lv_at hl 1 rfl) ?_
        refine q_get (v := .int (gI σ5 8 0 20)) hx hb hK hw hown in_X8 ins_X8 (rfl : vwCl[10]? = some (RX8, TX8, 32)) rfl (Nat.le_of_ble_eq_true rfl : 0 < cnt (gn Γ) 8) 20 (by decide) 1374 fl_X8_108 rfl rfl dX8_putAbove_200 ?_
        refine lv_sipush (v := 250) hx hb dX8_putAbove_203 (by decide) ?_
        refine q_ic_ne (tgt := 217) hx hb hf dX8_putAbove_206 (by decide) (fun hf => ?_) (fun hf => ?_)
        · refine lv_aload_n hx hb dX8_putAbove_217 rfl (lv_at hl 1 rfl) ?_
          refine lv_iload_n hx hb dX8_putAbove_218 rfl (lv_at hl 2 rfl) ?_
          refine lv_iload_n hx hb dX8_putAbove_219 rfl (lv_at hl 3 rfl) ?_
          refine lv_fload hx hb dX8_putAbove_220 (lv_at hl 0 rfl) ?_
          refine q_eI hf hw (fun v τ h => q_rV (As := [.int x1, .int x2, .float v45]) (rest := []) (q := (RX8, TX8, 32)) X hK hw rfl (Nat.le_of_ble_eq_true rfl : 0 < cnt (gn Γ) 8) (rfl : vwCl[10]? = _) (kX8_keys h) mvX8_keys lk_X8_202 ⟨Nat.le_of_ble_eq_true rfl, Nat.le_of_ble_eq_true rfl⟩ rfl hl.1 rfl (Nat.le_of_ble_eq_true rfl) dX8_putAbove_222 ⟨Nat.le_of_ble_eq_true rfl, Nat.le_of_ble_eq_true rfl⟩) (fun v58 σ57 H locs hf hw => ?_)
          exact q_eiret hf hx hb hr rfl hk hw dX8_putAbove_225 (Nat.le_of_ble_eq_true rfl) (Nat.le_of_ble_eq_true rfl)
        refine lv_aload_n hx hb dX8_putAbove_209 rfl (lv_at hl 1 rfl) ?_
        refine lv_iconst (v := 4) hx hb dX8_putAbove_210 (by decide) ?_
        refine q_eI hf hw (fun v τ h => q_rV (As := [.int (4 : Int32)]) (rest := []) (q := (RX8, TX8, 32)) X hK hw rfl (Nat.le_of_ble_eq_true rfl : 0 < cnt (gn Γ) 8) (rfl : vwCl[10]? = _) (kX8_fails h) mvX8_fails lk_X8_172 ⟨Nat.le_of_ble_eq_true rfl, Nat.le_of_ble_eq_true rfl⟩ rfl hl.1 rfl (Nat.le_of_ble_eq_true rfl) dX8_putAbove_211 ⟨Nat.le_of_ble_eq_true rfl, Nat.le_of_ble_eq_true rfl⟩) (fun v60 σ59 H locs hf hw => ?_)
        refine lv_goto (tgt := 225) hx hb dX8_putAbove_214 (by decide) ?_
        exact q_eiret hf hx hb hr rfl hk hw dX8_putAbove_225 (Nat.le_of_ble_eq_true rfl) (Nat.le_of_ble_eq_true rfl)
      refine lv_aload_n hx hb dX8_putAbove_193 rfl (lv_at hl 1 rfl) ?_
      refine lv_iconst (v := 3) hx hb dX8_putAbove_194 (by decide) ?_
      refine q_eI hf hw (fun v τ h => q_rV (As := [.int (3 : Int32)]) (rest := []) (q := (RX8, TX8, 32)) X hK hw rfl (Nat.le_of_ble_eq_true rfl : 0 < cnt (gn Γ) 8) (rfl : vwCl[10]? = _) (kX8_fails h) mvX8_fails lk_X8_172 ⟨Nat.le_of_ble_eq_true rfl, Nat.le_of_ble_eq_true rfl⟩ rfl hl.1 rfl (Nat.le_of_ble_eq_true rfl) dX8_putAbove_195 ⟨Nat.le_of_ble_eq_true rfl, Nat.le_of_ble_eq_true rfl⟩) (fun v62 σ61 H locs hf hw => ?_)
      exact q_eiret hf hx hb hr rfl hk hw dX8_putAbove_198 (Nat.le_of_ble_eq_true rfl) (Nat.le_of_ble_eq_true rfl)
    refine lv_aload_n hx hb dX8_putAbove_44 rfl (lv_at hl 0 rfl) ?_
    refine lv_iconst (v := 2) hx hb dX8_putAbove_45 (by decide) ?_
    refine q_eI hf hw (fun v τ h => q_rV (As := [.int (2 : Int32)]) (rest := []) (q := (RX8, TX8, 32)) X hK hw rfl (Nat.le_of_ble_eq_true rfl : 0 < cnt (gn Γ) 8) (rfl : vwCl[10]? = _) (kX8_fails h) mvX8_fails lk_X8_172 ⟨Nat.le_of_ble_eq_true rfl, Nat.le_of_ble_eq_true rfl⟩ rfl hl.1 rfl (Nat.le_of_ble_eq_true rfl) dX8_putAbove_46 ⟨Nat.le_of_ble_eq_true rfl, Nat.le_of_ble_eq_true rfl⟩) (fun v64 σ63 H locs hf hw => ?_)
    exact q_eiret hf hx hb hr rfl hk hw dX8_putAbove_49 (Nat.le_of_ble_eq_true rfl) (Nat.le_of_ble_eq_true rfl)
  refine lv_aload_n hx hb dX8_putAbove_17 rfl (lv_at hl 0 rfl) ?_
  refine lv_iconst (v := 1) hx hb dX8_putAbove_18 (by decide) ?_
  refine q_eI hf hw (fun v τ h => q_rV (As := [.int (1 : Int32)]) (rest := []) (q := (RX8, TX8, 32)) X hK hw rfl (Nat.le_of_ble_eq_true rfl : 0 < cnt (gn Γ) 8) (rfl : vwCl[10]? = _) (kX8_fails h) mvX8_fails lk_X8_172 ⟨Nat.le_of_ble_eq_true rfl, Nat.le_of_ble_eq_true rfl⟩ rfl hl.1 rfl (Nat.le_of_ble_eq_true rfl) dX8_putAbove_19 ⟨Nat.le_of_ble_eq_true rfl, Nat.le_of_ble_eq_true rfl⟩) (fun v66 σ65 H locs hf hw => ?_)
  exact q_eiret hf hx hb hr rfl hk hw dX8_putAbove_22 (Nat.le_of_ble_eq_true rfl) (Nat.le_of_ble_eq_true rfl)
set_option maxRecDepth 100000 in
theorem kX8_remove {Γ : Gm} {S : List (String × Nat × String)} {l : Launch} {N : Nat} {σ τ : St} {x1 : Int32} {x2 : Int32} {r : Int32}  (hf : fX8_remove N σ x1 x2 = some (r, τ)) : CT Γ S l yX8_remove cX8_remove 3 (some (.int)) 4 90 0 0 [.ref (ga Γ 8 0), .int x1, .int x2] (some (.int r)) σ τ := by
  unfold fX8_remove at hf
  refine ct_body (lv := [(0, .ref (ga Γ 8 0)), (1, .int x1), (2, .int x2)]) (by decide +kernel) rfl (Nat.le_of_ble_eq_true rfl) ?_
  intro p e s m below meth c ls X hr hk hK hw hl
  have hx := X.1
  have hb := X.2.1
  have hown := X.2.2.2
  refine lv_aload_n hx hb dX8_remove_0 rfl (lv_at hl 0 rfl) ?_
  refine lv_iload_n hx hb dX8_remove_1 rfl (lv_at hl 1 rfl) ?_
  refine q_pI hf hw (fun v h => q_rS (As := [.int x1]) (rest := [.ref (ga Γ 8 0)]) X hK hw (kX8_isUser h) msX8_isUser lk_X8_165 ⟨Nat.le_of_ble_eq_true rfl, Nat.le_of_ble_eq_true rfl⟩ rfl hl.1 rfl (Nat.le_of_ble_eq_true rfl) dX8_remove_2 ⟨Nat.le_of_ble_eq_true rfl, Nat.le_of_ble_eq_true rfl⟩) (fun v1 H locs hf hw => ?_)
  refine q_if_eq (tgt := 17) hx hb hf dX8_remove_5 (by decide) (fun hf => ?_) (fun hf => ?_)
  · refine lv_iconst (v := 1) hx hb dX8_remove_17 (by decide) ?_
    refine q_puti (v := (1 : Int32)) hx hb hK hw hown in_X8 ins_X8 tyX8 tyX8_ok nmX8 (rfl : vwCl[10]? = some (RX8, TX8, 32)) (fun _ _ _ => rfl) (Nat.le_of_ble_eq_true rfl : 0 < cnt (gn Γ) 8) 0 (by decide) 1354 fl_X8_97 rfl rfl rfl (fun _ _ _ => Nat.le_of_ble_eq_true rfl) (fun _ _ _ => rfl) hf dX8_remove_18 (fun σ2 H locs hf hw => ?_)
    refine lv_aload_n hx hb dX8_remove_21 rfl (lv_at hl 0 rfl) ?_
    refine q_get (v := .int (gI σ2 8 0 0)) hx hb hK hw hown in_X8 ins_X8 (rfl : vwCl[10]? = some (RX8, TX8, 32)) rfl (Nat.le_of_ble_eq_true rfl : 0 < cnt (gn Γ) 8) 0 (by decide) 1354 fl_X8_97 rfl rfl dX8_remove_22 ?_
    refine q_if_le (tgt := 30) hx hb hf dX8_remove_25 (by decide) (fun hf => ?_) (fun hf => ?_)
    · refine lv_aload_n hx hb dX8_remove_30 rfl (lv_at hl 0 rfl) ?_
      refine lv_iload_n hx hb dX8_remove_31 rfl (lv_at hl 2 rfl) ?_
      refine lv_iconst (v := 0) hx hb dX8_remove_32 (by decide) ?_
      refine q_eV hf hw (fun τ h => q_rV (As := [.int x2, .int (0 : Int32)]) (rest := []) (q := (RX8, TX8, 32)) X hK hw rfl (Nat.le_of_ble_eq_true rfl : 0 < cnt (gn Γ) 8) (rfl : vwCl[10]? = _) (kX8_plans h) mvX8_plans lk_X8_179 ⟨Nat.le_of_ble_eq_true rfl, Nat.le_of_ble_eq_true rfl⟩ rfl hl.1 rfl (Nat.le_of_ble_eq_true rfl) dX8_remove_33 ⟨Nat.le_of_ble_eq_true rfl, Nat.le_of_ble_eq_true rfl⟩) (fun σ3 H locs hf hw => ?_)
      refine lv_aload_n hx hb dX8_remove_36 rfl (lv_at hl 0 rfl) ?_
      refine lv_iload_n hx hb dX8_remove_37 rfl (lv_at hl 1 rfl) ?_
      refine lv_iconst (v := 1) hx hb dX8_remove_38 (by decide) ?_
      refine q_eV hf hw (fun τ h => q_rV (As := [.int x1, .int (1 : Int32)]) (rest := []) (q := (RX8, TX8, 32)) X hK hw rfl (Nat.le_of_ble_eq_true rfl : 0 < cnt (gn Γ) 8) (rfl : vwCl[10]? = _) (kX8_makes h) mvX8_makes lk_X8_186 ⟨Nat.le_of_ble_eq_true rfl, Nat.le_of_ble_eq_true rfl⟩ rfl hl.1 rfl (Nat.le_of_ble_eq_true rfl) dX8_remove_39 ⟨Nat.le_of_ble_eq_true rfl, Nat.le_of_ble_eq_true rfl⟩) (fun σ4 H locs hf hw => ?_)
      refine lv_aload_n hx hb dX8_remove_42 rfl (lv_at hl 0 rfl) ?_
      refine q_pI hf hw (fun v h => q_rV (As := []) (rest := []) (q := (RX8, TX8, 32)) X hK hw rfl (Nat.le_of_ble_eq_true rfl : 0 < cnt (gn Γ) 8) (rfl : vwCl[10]? = _) (kX8_seenMany h) mvX8_seenMany lk_X8_209 ⟨Nat.le_of_ble_eq_true rfl, Nat.le_of_ble_eq_true rfl⟩ rfl hl.1 rfl (Nat.le_of_ble_eq_true rfl) dX8_remove_43 ⟨Nat.le_of_ble_eq_true rfl, Nat.le_of_ble_eq_true rfl⟩) (fun v5 H locs hf hw => ?_)
      exact q_eiret hf hx hb hr rfl hk hw dX8_remove_46 (Nat.le_of_ble_eq_true rfl) (Nat.le_of_ble_eq_true rfl)
    refine lv_iconst (v := 0) hx hb dX8_remove_28 (by decide) ?_
    exact q_eiret hf hx hb hr rfl hk hw dX8_remove_29 (Nat.le_of_ble_eq_true rfl) (Nat.le_of_ble_eq_true rfl)
  refine lv_aload_n hx hb dX8_remove_8 rfl (lv_at hl 0 rfl) ?_
  refine lv_iload_n hx hb dX8_remove_9 rfl (lv_at hl 1 rfl) ?_
  refine lv_iload_n hx hb dX8_remove_10 rfl (lv_at hl 2 rfl) ?_
  refine q_eI hf hw (fun v τ h => q_rV (As := [.int x1, .int x2]) (rest := [.ref (ga Γ 8 0)]) (q := (RX8, TX8, 32)) X hK hw rfl (Nat.le_of_ble_eq_true rfl : 0 < cnt (gn Γ) 8) (rfl : vwCl[10]? = _) (kX8_bar h) mvX8_bar lk_X8_193 ⟨Nat.le_of_ble_eq_true rfl, Nat.le_of_ble_eq_true rfl⟩ rfl hl.1 rfl (Nat.le_of_ble_eq_true rfl) dX8_remove_11 ⟨Nat.le_of_ble_eq_true rfl, Nat.le_of_ble_eq_true rfl⟩) (fun v7 σ6 H locs hf hw => ?_)
  refine lv_goto (tgt := 18) hx hb dX8_remove_14 (by decide) ?_
  refine q_puti (v := v7) hx hb hK hw hown in_X8 ins_X8 tyX8 tyX8_ok nmX8 (rfl : vwCl[10]? = some (RX8, TX8, 32)) (fun _ _ _ => rfl) (Nat.le_of_ble_eq_true rfl : 0 < cnt (gn Γ) 8) 0 (by decide) 1354 fl_X8_97 rfl rfl rfl (fun _ _ _ => Nat.le_of_ble_eq_true rfl) (fun _ _ _ => rfl) hf dX8_remove_18 (fun σ8 H locs hf hw => ?_)
  refine lv_aload_n hx hb dX8_remove_21 rfl (lv_at hl 0 rfl) ?_
  refine q_get (v := .int (gI σ8 8 0 0)) hx hb hK hw hown in_X8 ins_X8 (rfl : vwCl[10]? = some (RX8, TX8, 32)) rfl (Nat.le_of_ble_eq_true rfl : 0 < cnt (gn Γ) 8) 0 (by decide) 1354 fl_X8_97 rfl rfl dX8_remove_22 ?_
  refine q_if_le (tgt := 30) hx hb hf dX8_remove_25 (by decide) (fun hf => ?_) (fun hf => ?_)
  · refine lv_aload_n hx hb dX8_remove_30 rfl (lv_at hl 0 rfl) ?_
    refine lv_iload_n hx hb dX8_remove_31 rfl (lv_at hl 2 rfl) ?_
    refine lv_iconst (v := 0) hx hb dX8_remove_32 (by decide) ?_
    refine q_eV hf hw (fun τ h => q_rV (As := [.int x2, .int (0 : Int32)]) (rest := []) (q := (RX8, TX8, 32)) X hK hw rfl (Nat.le_of_ble_eq_true rfl : 0 < cnt (gn Γ) 8) (rfl : vwCl[10]? = _) (kX8_plans h) mvX8_plans lk_X8_179 ⟨Nat.le_of_ble_eq_true rfl, Nat.le_of_ble_eq_true rfl⟩ rfl hl.1 rfl (Nat.le_of_ble_eq_true rfl) dX8_remove_33 ⟨Nat.le_of_ble_eq_true rfl, Nat.le_of_ble_eq_true rfl⟩) (fun σ9 H locs hf hw => ?_)
    refine lv_aload_n hx hb dX8_remove_36 rfl (lv_at hl 0 rfl) ?_
    refine lv_iload_n hx hb dX8_remove_37 rfl (lv_at hl 1 rfl) ?_
    refine lv_iconst (v := 1) hx hb dX8_remove_38 (by decide) ?_
    refine q_eV hf hw (fun τ h => q_rV (As := [.int x1, .int (1 : Int32)]) (rest := []) (q := (RX8, TX8, 32)) X hK hw rfl (Nat.le_of_ble_eq_true rfl : 0 < cnt (gn Γ) 8) (rfl : vwCl[10]? = _) (kX8_makes h) mvX8_makes lk_X8_186 ⟨Nat.le_of_ble_eq_true rfl, Nat.le_of_ble_eq_true rfl⟩ rfl hl.1 rfl (Nat.le_of_ble_eq_true rfl) dX8_remove_39 ⟨Nat.le_of_ble_eq_true rfl, Nat.le_of_ble_eq_true rfl⟩) (fun σ10 H locs hf hw => ?_)
    refine lv_aload_n hx hb dX8_remove_42 rfl (lv_at hl 0 rfl) ?_
    refine q_pI hf hw (fun v h => q_rV (As := []) (rest := []) (q := (RX8, TX8, 32)) X hK hw rfl (Nat.le_of_ble_eq_true rfl : 0 < cnt (gn Γ) 8) (rfl : vwCl[10]? = _) (kX8_seenMany h) mvX8_seenMany lk_X8_209 ⟨Nat.le_of_ble_eq_true rfl, Nat.le_of_ble_eq_true rfl⟩ rfl hl.1 rfl (Nat.le_of_ble_eq_true rfl) dX8_remove_43 ⟨Nat.le_of_ble_eq_true rfl, Nat.le_of_ble_eq_true rfl⟩) (fun v11 H locs hf hw => ?_)
    exact q_eiret hf hx hb hr rfl hk hw dX8_remove_46 (Nat.le_of_ble_eq_true rfl) (Nat.le_of_ble_eq_true rfl)
  refine lv_iconst (v := 0) hx hb dX8_remove_28 (by decide) ?_
  exact q_eiret hf hx hb hr rfl hk hw dX8_remove_29 (Nat.le_of_ble_eq_true rfl) (Nat.le_of_ble_eq_true rfl)
set_option maxRecDepth 100000 in
theorem kX8_lock {Γ : Gm} {S : List (String × Nat × String)} {l : Launch} {N : Nat} {σ τ : St} {x1 : Int32} {x2 : Int32} {r : Int32}  (hf : fX8_lock N σ x1 x2 = some (r, τ)) : CT Γ S l yX8_lock cX8_lock 5 (some (.int)) 4 90 0 0 [.ref (ga Γ 8 0), .int x1, .int x2] (some (.int r)) σ τ := by
  unfold fX8_lock at hf
  refine ct_body (lv := [(0, .ref (ga Γ 8 0)), (1, .int x1), (2, .int x2)]) (by decide +kernel) rfl (Nat.le_of_ble_eq_true rfl) ?_
  intro p e s m below meth c ls X hr hk hK hw hl
  have hx := X.1
  have hb := X.2.1
  have hown := X.2.2.2
  refine lv_aload_n hx hb dX8_lock_0 rfl (lv_at hl 0 rfl) ?_
  refine lv_iload_n hx hb dX8_lock_1 rfl (lv_at hl 1 rfl) ?_
  refine q_pI hf hw (fun v h => q_rS (As := [.int x1]) (rest := [.ref (ga Γ 8 0)]) X hK hw (kX8_isUser h) msX8_isUser lk_X8_165 ⟨Nat.le_of_ble_eq_true rfl, Nat.le_of_ble_eq_true rfl⟩ rfl hl.1 rfl (Nat.le_of_ble_eq_true rfl) dX8_lock_2 ⟨Nat.le_of_ble_eq_true rfl, Nat.le_of_ble_eq_true rfl⟩) (fun v1 H locs hf hw => ?_)
  refine q_if_eq (tgt := 17) hx hb hf dX8_lock_5 (by decide) (fun hf => ?_) (fun hf => ?_)
  · refine lv_iconst (v := 1) hx hb dX8_lock_17 (by decide) ?_
    refine q_puti (v := (1 : Int32)) hx hb hK hw hown in_X8 ins_X8 tyX8 tyX8_ok nmX8 (rfl : vwCl[10]? = some (RX8, TX8, 32)) (fun _ _ _ => rfl) (Nat.le_of_ble_eq_true rfl : 0 < cnt (gn Γ) 8) 0 (by decide) 1354 fl_X8_97 rfl rfl rfl (fun _ _ _ => Nat.le_of_ble_eq_true rfl) (fun _ _ _ => rfl) hf dX8_lock_18 (fun σ2 H locs hf hw => ?_)
    refine lv_aload_n hx hb dX8_lock_21 rfl (lv_at hl 0 rfl) ?_
    refine q_get (v := .int (gI σ2 8 0 0)) hx hb hK hw hown in_X8 ins_X8 (rfl : vwCl[10]? = some (RX8, TX8, 32)) rfl (Nat.le_of_ble_eq_true rfl : 0 < cnt (gn Γ) 8) 0 (by decide) 1354 fl_X8_97 rfl rfl dX8_lock_22 ?_
    refine q_if_le (tgt := 30) hx hb hf dX8_lock_25 (by decide) (fun hf => ?_) (fun hf => ?_)
    · refine lv_aload_n hx hb dX8_lock_30 rfl (lv_at hl 0 rfl) ?_
      refine lv_bipush (v := 36) hx hb dX8_lock_31 (by decide) ?_
      refine lv_iload_n hx hb dX8_lock_33 rfl (lv_at hl 2 rfl) ?_
      refine lv_iadd hx hb dX8_lock_34 ?_
      refine lv_iload_n hx hb dX8_lock_35 rfl (lv_at hl 1 rfl) ?_
      refine q_eV hf hw (fun τ h => q_rV (As := [.int ((36 : Int32) + x2), .int x1]) (rest := []) (q := (RX8, TX8, 32)) X hK hw rfl (Nat.le_of_ble_eq_true rfl : 0 < cnt (gn Γ) 8) (rfl : vwCl[10]? = _) (kX8_plans h) mvX8_plans lk_X8_179 ⟨Nat.le_of_ble_eq_true rfl, Nat.le_of_ble_eq_true rfl⟩ rfl hl.1 rfl (Nat.le_of_ble_eq_true rfl) dX8_lock_36 ⟨Nat.le_of_ble_eq_true rfl, Nat.le_of_ble_eq_true rfl⟩) (fun σ3 H locs hf hw => ?_)
      refine lv_aload_n hx hb dX8_lock_39 rfl (lv_at hl 0 rfl) ?_
      refine lv_iload_n hx hb dX8_lock_40 rfl (lv_at hl 1 rfl) ?_
      refine lv_iconst (v := 1) hx hb dX8_lock_41 (by decide) ?_
      refine q_eV hf hw (fun τ h => q_rV (As := [.int x1, .int (1 : Int32)]) (rest := []) (q := (RX8, TX8, 32)) X hK hw rfl (Nat.le_of_ble_eq_true rfl : 0 < cnt (gn Γ) 8) (rfl : vwCl[10]? = _) (kX8_makes h) mvX8_makes lk_X8_186 ⟨Nat.le_of_ble_eq_true rfl, Nat.le_of_ble_eq_true rfl⟩ rfl hl.1 rfl (Nat.le_of_ble_eq_true rfl) dX8_lock_42 ⟨Nat.le_of_ble_eq_true rfl, Nat.le_of_ble_eq_true rfl⟩) (fun σ4 H locs hf hw => ?_)
      refine lv_iconst (v := 0) hx hb dX8_lock_45 (by decide) ?_
      refine lv_istore_n (lv' := [(3, .int (0 : Int32)), (0, .ref (ga Γ 8 0)), (1, .int x1), (2, .int x2)]) hx hb dX8_lock_46 rfl hl (by decide) rfl (fun ls hl => ?_)
      refine lv_iconst (v := 0) hx hb dX8_lock_47 (by decide) ?_
      refine lv_istore (lv' := [(4, .int (0 : Int32)), (3, .int (0 : Int32)), (0, .ref (ga Γ 8 0)), (1, .int x1), (2, .int x2)]) hx hb dX8_lock_48 hl (by decide) rfl (fun ls hl => ?_)
      have L50 : ∀ (K : Int32 → Int32 → Option ((Int32 × St))) (hkk : ∀ (y3 : Int32) (y4 : Int32) (H : Heap) (locs : List Loc) (ls : Array Slot), K y3 y4 = some (r, τ) → Sit Γ σ4 s H locs → lv_has ls 5 [(3, .int y3)] → W p l e { frames := 4, cells := 0, slots := 0, locals := 90 } s m [.ref (ga Γ 8 0), .int x1, .int x2].toArray below meth c H locs 0 0 (MQ below (Qg Γ (some (.int r)) τ (AA Γ s.heap.size)) [.ref (ga Γ 8 0), .int x1, .int x2].toArray s 0 0 (AA Γ s.heap.size)) (F0 m 96 ls [])) (n : Nat) (v5 : Int32) (v6 : Int32) (H : Heap) (locs : List Loc) (ls : Array Slot), fX8_lock_L50 K N x1 σ4 n v5 v6 = some (r, τ) → Sit Γ σ4 s H locs → lv_has ls 5 [(0, .ref (ga Γ 8 0)), (1, .int x1), (3, .int v5), (4, .int v6)] → W p l e { frames := 4, cells := 0, slots := 0, locals := 90 } s m [.ref (ga Γ 8 0), .int x1, .int x2].toArray below meth c H locs 0 0 (MQ below (Qg Γ (some (.int r)) τ (AA Γ s.heap.size)) [.ref (ga Γ 8 0), .int x1, .int x2].toArray s 0 0 (AA Γ s.heap.size)) (F0 m 50 ls []) := by
        intro K hkk n
        induction n with
        | zero =>
          intro _ _ _ _ _ hf
          exact nomatch hf
        | succ n ih =>
          intro v5 v6 H locs ls hf hw hl
          refine lv_iload hx hb dX8_lock_50 (lv_at hl 3 rfl) ?_
          refine lv_aload_n hx hb dX8_lock_52 rfl (lv_at hl 0 rfl) ?_
          refine q_get (v := .int (gI σ4 8 0 8)) hx hb hK hw hown in_X8 ins_X8 (rfl : vwCl[10]? = some (RX8, TX8, 32)) rfl (Nat.le_of_ble_eq_true rfl : 0 < cnt (gn Γ) 8) 8 (by decide) 1362 fl_X8_119 rfl rfl dX8_lock_53 ?_
          refine q_ic_ge (tgt := 96) hx hb hf dX8_lock_56 (by decide) (fun hf => ?_) (fun hf => ?_)
          · exact hkk _ _ _ _ _ hf hw (lv_sub hl [2] rfl)
          refine lv_iload_n hx hb dX8_lock_59 rfl (lv_at hl 2 rfl) ?_
          refine lv_aload_n hx hb dX8_lock_60 rfl (lv_at hl 0 rfl) ?_
          refine lv_iload hx hb dX8_lock_61 (lv_at hl 3 rfl) ?_
          refine q_pI hf hw (fun v h => q_rV (As := [.int v6]) (rest := [.int v5]) (q := (RX8, TX8, 32)) X hK hw rfl (Nat.le_of_ble_eq_true rfl : 0 < cnt (gn Γ) 8) (rfl : vwCl[10]? = _) (kX8_isSeen h) mvX8_isSeen lk_X8_125 ⟨Nat.le_of_ble_eq_true rfl, Nat.le_of_ble_eq_true rfl⟩ rfl hl.1 rfl (Nat.le_of_ble_eq_true rfl) dX8_lock_63 ⟨Nat.le_of_ble_eq_true rfl, Nat.le_of_ble_eq_true rfl⟩) (fun v7 H locs hf hw => ?_)
          refine q_if_eq (tgt := 87) hx hb hf dX8_lock_66 (by decide) (fun hf => ?_) (fun hf => ?_)
          · refine lv_iconst (v := 0) hx hb dX8_lock_87 (by decide) ?_
            refine lv_iadd hx hb dX8_lock_88 ?_
            refine q_istore_n (lv1 := [(0, .ref (ga Γ 8 0)), (1, .int x1), (4, .int v6)]) hx hb hf dX8_lock_89 rfl hl (by decide) rfl (fun v8 ls hf hl => ?_)
            refine q_iinc (lv1 := [(3, .int v8), (0, .ref (ga Γ 8 0)), (1, .int x1)]) (d := 1) hx hb hf dX8_lock_90 hl (k := 3) rfl (by decide) (by decide) rfl (fun v9 ls hf hl => ?_)
            refine lv_goto (tgt := 50) hx hb dX8_lock_93 (by decide) ?_
            exact ih _ _ _ _ _ hf hw (lv_sub hl [2, 3, 1, 0] rfl)
          refine lv_aload_n hx hb dX8_lock_69 rfl (lv_at hl 0 rfl) ?_
          refine q_get (v := .ref (ga Γ 157 0)) hx hb hK hw hown in_X8 ins_X8 (rfl : vwCl[10]? = some (RX8, TX8, 32)) rfl (Nat.le_of_ble_eq_true rfl : 0 < cnt (gn Γ) 8) 21 (by decide) 1375 fl_X8_67 rfl rfl dX8_lock_70 ?_
          refine lv_bipush (v := 36) hx hb dX8_lock_73 (by decide) ?_
          refine lv_iload hx hb dX8_lock_75 (lv_at hl 3 rfl) ?_
          refine lv_iadd hx hb dX8_lock_77 ?_
          refine q_iald hx hb hK hw (k := 157) (o := 0) (fun _ _ _ => rfl) (Nat.le_of_ble_eq_true rfl : 0 < cnt (gn Γ) 157) hf dX8_lock_78 (fun hf => ?_)
          refine lv_iload_n hx hb dX8_lock_79 rfl (lv_at hl 1 rfl) ?_
          refine q_ic_ne (tgt := 87) hx hb hf dX8_lock_80 (by decide) (fun hf => ?_) (fun hf => ?_)
          · refine lv_iconst (v := 0) hx hb dX8_lock_87 (by decide) ?_
            refine lv_iadd hx hb dX8_lock_88 ?_
            refine q_istore_n (lv1 := [(0, .ref (ga Γ 8 0)), (1, .int x1), (4, .int v6)]) hx hb hf dX8_lock_89 rfl hl (by decide) rfl (fun v10 ls hf hl => ?_)
            refine q_iinc (lv1 := [(3, .int v10), (0, .ref (ga Γ 8 0)), (1, .int x1)]) (d := 1) hx hb hf dX8_lock_90 hl (k := 3) rfl (by decide) (by decide) rfl (fun v11 ls hf hl => ?_)
            refine lv_goto (tgt := 50) hx hb dX8_lock_93 (by decide) ?_
            exact ih _ _ _ _ _ hf hw (lv_sub hl [2, 3, 1, 0] rfl)
          refine lv_iconst (v := 1) hx hb dX8_lock_83 (by decide) ?_
          refine lv_goto (tgt := 88) hx hb dX8_lock_84 (by decide) ?_
          refine lv_iadd hx hb dX8_lock_88 ?_
          refine q_istore_n (lv1 := [(0, .ref (ga Γ 8 0)), (1, .int x1), (4, .int v6)]) hx hb hf dX8_lock_89 rfl hl (by decide) rfl (fun v12 ls hf hl => ?_)
          refine q_iinc (lv1 := [(3, .int v12), (0, .ref (ga Γ 8 0)), (1, .int x1)]) (d := 1) hx hb hf dX8_lock_90 hl (k := 3) rfl (by decide) (by decide) rfl (fun v13 ls hf hl => ?_)
          refine lv_goto (tgt := 50) hx hb dX8_lock_93 (by decide) ?_
          exact ih _ _ _ _ _ hf hw (lv_sub hl [2, 3, 1, 0] rfl)
      refine L50 _ (fun v14 _ H locs ls hf hw hl => ?_) N (0 : Int32) (0 : Int32) _ _ _ hf hw (lv_sub hl [2, 3, 1, 0] rfl)
      refine lv_iload_n hx hb dX8_lock_96 rfl (lv_at hl 0 rfl) ?_
      exact q_eiret hf hx hb hr rfl hk hw dX8_lock_97 (Nat.le_of_ble_eq_true rfl) (Nat.le_of_ble_eq_true rfl)
    refine lv_iconst (v := 0) hx hb dX8_lock_28 (by decide) ?_
    exact q_eiret hf hx hb hr rfl hk hw dX8_lock_29 (Nat.le_of_ble_eq_true rfl) (Nat.le_of_ble_eq_true rfl)
  refine lv_aload_n hx hb dX8_lock_8 rfl (lv_at hl 0 rfl) ?_
  refine lv_iload_n hx hb dX8_lock_9 rfl (lv_at hl 1 rfl) ?_
  refine lv_iload_n hx hb dX8_lock_10 rfl (lv_at hl 2 rfl) ?_
  refine q_eI hf hw (fun v τ h => q_rV (As := [.int x1, .int x2]) (rest := [.ref (ga Γ 8 0)]) (q := (RX8, TX8, 32)) X hK hw rfl (Nat.le_of_ble_eq_true rfl : 0 < cnt (gn Γ) 8) (rfl : vwCl[10]? = _) (kX8_bar h) mvX8_bar lk_X8_193 ⟨Nat.le_of_ble_eq_true rfl, Nat.le_of_ble_eq_true rfl⟩ rfl hl.1 rfl (Nat.le_of_ble_eq_true rfl) dX8_lock_11 ⟨Nat.le_of_ble_eq_true rfl, Nat.le_of_ble_eq_true rfl⟩) (fun v16 σ15 H locs hf hw => ?_)
  refine lv_goto (tgt := 18) hx hb dX8_lock_14 (by decide) ?_
  refine q_puti (v := v16) hx hb hK hw hown in_X8 ins_X8 tyX8 tyX8_ok nmX8 (rfl : vwCl[10]? = some (RX8, TX8, 32)) (fun _ _ _ => rfl) (Nat.le_of_ble_eq_true rfl : 0 < cnt (gn Γ) 8) 0 (by decide) 1354 fl_X8_97 rfl rfl rfl (fun _ _ _ => Nat.le_of_ble_eq_true rfl) (fun _ _ _ => rfl) hf dX8_lock_18 (fun σ17 H locs hf hw => ?_)
  refine lv_aload_n hx hb dX8_lock_21 rfl (lv_at hl 0 rfl) ?_
  refine q_get (v := .int (gI σ17 8 0 0)) hx hb hK hw hown in_X8 ins_X8 (rfl : vwCl[10]? = some (RX8, TX8, 32)) rfl (Nat.le_of_ble_eq_true rfl : 0 < cnt (gn Γ) 8) 0 (by decide) 1354 fl_X8_97 rfl rfl dX8_lock_22 ?_
  refine q_if_le (tgt := 30) hx hb hf dX8_lock_25 (by decide) (fun hf => ?_) (fun hf => ?_)
  · refine lv_aload_n hx hb dX8_lock_30 rfl (lv_at hl 0 rfl) ?_
    refine lv_bipush (v := 36) hx hb dX8_lock_31 (by decide) ?_
    refine lv_iload_n hx hb dX8_lock_33 rfl (lv_at hl 2 rfl) ?_
    refine lv_iadd hx hb dX8_lock_34 ?_
    refine lv_iload_n hx hb dX8_lock_35 rfl (lv_at hl 1 rfl) ?_
    refine q_eV hf hw (fun τ h => q_rV (As := [.int ((36 : Int32) + x2), .int x1]) (rest := []) (q := (RX8, TX8, 32)) X hK hw rfl (Nat.le_of_ble_eq_true rfl : 0 < cnt (gn Γ) 8) (rfl : vwCl[10]? = _) (kX8_plans h) mvX8_plans lk_X8_179 ⟨Nat.le_of_ble_eq_true rfl, Nat.le_of_ble_eq_true rfl⟩ rfl hl.1 rfl (Nat.le_of_ble_eq_true rfl) dX8_lock_36 ⟨Nat.le_of_ble_eq_true rfl, Nat.le_of_ble_eq_true rfl⟩) (fun σ18 H locs hf hw => ?_)
    refine lv_aload_n hx hb dX8_lock_39 rfl (lv_at hl 0 rfl) ?_
    refine lv_iload_n hx hb dX8_lock_40 rfl (lv_at hl 1 rfl) ?_
    refine lv_iconst (v := 1) hx hb dX8_lock_41 (by decide) ?_
    refine q_eV hf hw (fun τ h => q_rV (As := [.int x1, .int (1 : Int32)]) (rest := []) (q := (RX8, TX8, 32)) X hK hw rfl (Nat.le_of_ble_eq_true rfl : 0 < cnt (gn Γ) 8) (rfl : vwCl[10]? = _) (kX8_makes h) mvX8_makes lk_X8_186 ⟨Nat.le_of_ble_eq_true rfl, Nat.le_of_ble_eq_true rfl⟩ rfl hl.1 rfl (Nat.le_of_ble_eq_true rfl) dX8_lock_42 ⟨Nat.le_of_ble_eq_true rfl, Nat.le_of_ble_eq_true rfl⟩) (fun σ19 H locs hf hw => ?_)
    refine lv_iconst (v := 0) hx hb dX8_lock_45 (by decide) ?_
    refine lv_istore_n (lv' := [(3, .int (0 : Int32)), (0, .ref (ga Γ 8 0)), (1, .int x1), (2, .int x2)]) hx hb dX8_lock_46 rfl hl (by decide) rfl (fun ls hl => ?_)
    refine lv_iconst (v := 0) hx hb dX8_lock_47 (by decide) ?_
    refine lv_istore (lv' := [(4, .int (0 : Int32)), (3, .int (0 : Int32)), (0, .ref (ga Γ 8 0)), (1, .int x1), (2, .int x2)]) hx hb dX8_lock_48 hl (by decide) rfl (fun ls hl => ?_)
    have L50 : ∀ (K : Int32 → Int32 → Option ((Int32 × St))) (hkk : ∀ (y3 : Int32) (y4 : Int32) (H : Heap) (locs : List Loc) (ls : Array Slot), K y3 y4 = some (r, τ) → Sit Γ σ19 s H locs → lv_has ls 5 [(3, .int y3)] → W p l e { frames := 4, cells := 0, slots := 0, locals := 90 } s m [.ref (ga Γ 8 0), .int x1, .int x2].toArray below meth c H locs 0 0 (MQ below (Qg Γ (some (.int r)) τ (AA Γ s.heap.size)) [.ref (ga Γ 8 0), .int x1, .int x2].toArray s 0 0 (AA Γ s.heap.size)) (F0 m 96 ls [])) (n : Nat) (v20 : Int32) (v21 : Int32) (H : Heap) (locs : List Loc) (ls : Array Slot), fX8_lock_L50_2 K N x1 σ19 n v20 v21 = some (r, τ) → Sit Γ σ19 s H locs → lv_has ls 5 [(0, .ref (ga Γ 8 0)), (1, .int x1), (3, .int v20), (4, .int v21)] → W p l e { frames := 4, cells := 0, slots := 0, locals := 90 } s m [.ref (ga Γ 8 0), .int x1, .int x2].toArray below meth c H locs 0 0 (MQ below (Qg Γ (some (.int r)) τ (AA Γ s.heap.size)) [.ref (ga Γ 8 0), .int x1, .int x2].toArray s 0 0 (AA Γ s.heap.size)) (F0 m 50 ls []) := by
      intro K hkk n
      induction n with
      | zero =>
        intro _ _ _ _ _ hf
        exact nomatch hf
      | succ n ih =>
        intro v20 v21 H locs ls hf hw hl
        refine lv_iload hx hb dX8_lock_50 (lv_at hl 3 rfl) ?_
        refine lv_aload_n hx hb dX8_lock_52 rfl (lv_at hl 0 rfl) ?_
        refine q_get (v := .int (gI σ19 8 0 8)) hx hb hK hw hown in_X8 ins_X8 (rfl : vwCl[10]? = some (RX8, TX8, 32)) rfl (Nat.le_of_ble_eq_true rfl : 0 < cnt (gn Γ) 8) 8 (by decide) 1362 fl_X8_119 rfl rfl dX8_lock_53 ?_
        refine q_ic_ge (tgt := 96) hx hb hf dX8_lock_56 (by decide) (fun hf => ?_) (fun hf => ?_)
        · exact hkk _ _ _ _ _ hf hw (lv_sub hl [2] rfl)
        refine lv_iload_n hx hb dX8_lock_59 rfl (lv_at hl 2 rfl) ?_
        refine lv_aload_n hx hb dX8_lock_60 rfl (lv_at hl 0 rfl) ?_
        refine lv_iload hx hb dX8_lock_61 (lv_at hl 3 rfl) ?_
        refine q_pI hf hw (fun v h => q_rV (As := [.int v21]) (rest := [.int v20]) (q := (RX8, TX8, 32)) X hK hw rfl (Nat.le_of_ble_eq_true rfl : 0 < cnt (gn Γ) 8) (rfl : vwCl[10]? = _) (kX8_isSeen h) mvX8_isSeen lk_X8_125 ⟨Nat.le_of_ble_eq_true rfl, Nat.le_of_ble_eq_true rfl⟩ rfl hl.1 rfl (Nat.le_of_ble_eq_true rfl) dX8_lock_63 ⟨Nat.le_of_ble_eq_true rfl, Nat.le_of_ble_eq_true rfl⟩) (fun v22 H locs hf hw => ?_)
        refine q_if_eq (tgt := 87) hx hb hf dX8_lock_66 (by decide) (fun hf => ?_) (fun hf => ?_)
        · refine lv_iconst (v := 0) hx hb dX8_lock_87 (by decide) ?_
          refine lv_iadd hx hb dX8_lock_88 ?_
          refine q_istore_n (lv1 := [(0, .ref (ga Γ 8 0)), (1, .int x1), (4, .int v21)]) hx hb hf dX8_lock_89 rfl hl (by decide) rfl (fun v23 ls hf hl => ?_)
          refine q_iinc (lv1 := [(3, .int v23), (0, .ref (ga Γ 8 0)), (1, .int x1)]) (d := 1) hx hb hf dX8_lock_90 hl (k := 3) rfl (by decide) (by decide) rfl (fun v24 ls hf hl => ?_)
          refine lv_goto (tgt := 50) hx hb dX8_lock_93 (by decide) ?_
          exact ih _ _ _ _ _ hf hw (lv_sub hl [2, 3, 1, 0] rfl)
        refine lv_aload_n hx hb dX8_lock_69 rfl (lv_at hl 0 rfl) ?_
        refine q_get (v := .ref (ga Γ 157 0)) hx hb hK hw hown in_X8 ins_X8 (rfl : vwCl[10]? = some (RX8, TX8, 32)) rfl (Nat.le_of_ble_eq_true rfl : 0 < cnt (gn Γ) 8) 21 (by decide) 1375 fl_X8_67 rfl rfl dX8_lock_70 ?_
        refine lv_bipush (v := 36) hx hb dX8_lock_73 (by decide) ?_
        refine lv_iload hx hb dX8_lock_75 (lv_at hl 3 rfl) ?_
        refine lv_iadd hx hb dX8_lock_77 ?_
        refine q_iald hx hb hK hw (k := 157) (o := 0) (fun _ _ _ => rfl) (Nat.le_of_ble_eq_true rfl : 0 < cnt (gn Γ) 157) hf dX8_lock_78 (fun hf => ?_)
        refine lv_iload_n hx hb dX8_lock_79 rfl (lv_at hl 1 rfl) ?_
        refine q_ic_ne (tgt := 87) hx hb hf dX8_lock_80 (by decide) (fun hf => ?_) (fun hf => ?_)
        · refine lv_iconst (v := 0) hx hb dX8_lock_87 (by decide) ?_
          refine lv_iadd hx hb dX8_lock_88 ?_
          refine q_istore_n (lv1 := [(0, .ref (ga Γ 8 0)), (1, .int x1), (4, .int v21)]) hx hb hf dX8_lock_89 rfl hl (by decide) rfl (fun v25 ls hf hl => ?_)
          refine q_iinc (lv1 := [(3, .int v25), (0, .ref (ga Γ 8 0)), (1, .int x1)]) (d := 1) hx hb hf dX8_lock_90 hl (k := 3) rfl (by decide) (by decide) rfl (fun v26 ls hf hl => ?_)
          refine lv_goto (tgt := 50) hx hb dX8_lock_93 (by decide) ?_
          exact ih _ _ _ _ _ hf hw (lv_sub hl [2, 3, 1, 0] rfl)
        refine lv_iconst (v := 1) hx hb dX8_lock_83 (by decide) ?_
        refine lv_goto (tgt := 88) hx hb dX8_lock_84 (by decide) ?_
        refine lv_iadd hx hb dX8_lock_88 ?_
        refine q_istore_n (lv1 := [(0, .ref (ga Γ 8 0)), (1, .int x1), (4, .int v21)]) hx hb hf dX8_lock_89 rfl hl (by decide) rfl (fun v27 ls hf hl => ?_)
        refine q_iinc (lv1 := [(3, .int v27), (0, .ref (ga Γ 8 0)), (1, .int x1)]) (d := 1) hx hb hf dX8_lock_90 hl (k := 3) rfl (by decide) (by decide) rfl (fun v28 ls hf hl => ?_)
        refine lv_goto (tgt := 50) hx hb dX8_lock_93 (by decide) ?_
        exact ih _ _ _ _ _ hf hw (lv_sub hl [2, 3, 1, 0] rfl)
    refine L50 _ (fun v29 _ H locs ls hf hw hl => ?_) N (0 : Int32) (0 : Int32) _ _ _ hf hw (lv_sub hl [2, 3, 1, 0] rfl)
    refine lv_iload_n hx hb dX8_lock_96 rfl (lv_at hl 0 rfl) ?_
    exact q_eiret hf hx hb hr rfl hk hw dX8_lock_97 (Nat.le_of_ble_eq_true rfl) (Nat.le_of_ble_eq_true rfl)
  refine lv_iconst (v := 0) hx hb dX8_lock_28 (by decide) ?_
  exact q_eiret hf hx hb hr rfl hk hw dX8_lock_29 (Nat.le_of_ble_eq_true rfl) (Nat.le_of_ble_eq_true rfl)
set_option maxRecDepth 100000 in
theorem kX8_unlock {Γ : Gm} {S : List (String × Nat × String)} {l : Launch} {N : Nat} {σ τ : St} {x1 : Int32} {x2 : Int32} {r : Int32}  (hf : fX8_unlock N σ x1 x2 = some (r, τ)) : CT Γ S l yX8_unlock cX8_unlock 4 (some (.int)) 4 90 0 0 [.ref (ga Γ 8 0), .int x1, .int x2] (some (.int r)) σ τ := by
  unfold fX8_unlock at hf
  refine ct_body (lv := [(0, .ref (ga Γ 8 0)), (1, .int x1), (2, .int x2)]) (by decide +kernel) rfl (Nat.le_of_ble_eq_true rfl) ?_
  intro p e s m below meth c ls X hr hk hK hw hl
  have hx := X.1
  have hb := X.2.1
  have hown := X.2.2.2
  refine lv_aload_n hx hb dX8_unlock_0 rfl (lv_at hl 0 rfl) ?_
  refine lv_iconst (v := 0) hx hb dX8_unlock_1 (by decide) ?_
  refine q_puti (v := (0 : Int32)) hx hb hK hw hown in_X8 ins_X8 tyX8 tyX8_ok nmX8 (rfl : vwCl[10]? = some (RX8, TX8, 32)) (fun _ _ _ => rfl) (Nat.le_of_ble_eq_true rfl : 0 < cnt (gn Γ) 8) 0 (by decide) 1354 fl_X8_97 rfl rfl rfl (fun _ _ _ => Nat.le_of_ble_eq_true rfl) (fun _ _ _ => rfl) hf dX8_unlock_2 (fun σ1 H locs hf hw => ?_)
  refine lv_iload_n hx hb dX8_unlock_5 rfl (lv_at hl 1 rfl) ?_
  refine q_pI hf hw (fun v h => q_rS (As := [.int x1]) (rest := []) X hK hw (kX8_isUser h) msX8_isUser lk_X8_165 ⟨Nat.le_of_ble_eq_true rfl, Nat.le_of_ble_eq_true rfl⟩ rfl hl.1 rfl (Nat.le_of_ble_eq_true rfl) dX8_unlock_6 ⟨Nat.le_of_ble_eq_true rfl, Nat.le_of_ble_eq_true rfl⟩) (fun v2 H locs hf hw => ?_)
  refine q_if_ne (tgt := 18) hx hb hf dX8_unlock_9 (by decide) (fun hf => ?_) (fun hf => ?_)
  · refine lv_aload_n hx hb dX8_unlock_18 rfl (lv_at hl 0 rfl) ?_
    refine lv_iload_n hx hb dX8_unlock_19 rfl (lv_at hl 1 rfl) ?_
    refine q_eV hf hw (fun τ h => q_rV (As := [.int x1]) (rest := []) (q := (RX8, TX8, 32)) X hK hw rfl (Nat.le_of_ble_eq_true rfl : 0 < cnt (gn Γ) 8) (rfl : vwCl[10]? = _) (kX8_builds h) mvX8_builds lk_X8_161 ⟨Nat.le_of_ble_eq_true rfl, Nat.le_of_ble_eq_true rfl⟩ rfl hl.1 rfl (Nat.le_of_ble_eq_true rfl) dX8_unlock_20 ⟨Nat.le_of_ble_eq_true rfl, Nat.le_of_ble_eq_true rfl⟩) (fun σ3 H locs hf hw => ?_)
    refine lv_aload_n hx hb dX8_unlock_23 rfl (lv_at hl 0 rfl) ?_
    refine lv_iload_n hx hb dX8_unlock_24 rfl (lv_at hl 2 rfl) ?_
    refine q_pI hf hw (fun v h => q_rV (As := [.int x2]) (rest := []) (q := (RX8, TX8, 32)) X hK hw rfl (Nat.le_of_ble_eq_true rfl : 0 < cnt (gn Γ) 8) (rfl : vwCl[10]? = _) (kX8_isSeen h) mvX8_isSeen lk_X8_125 ⟨Nat.le_of_ble_eq_true rfl, Nat.le_of_ble_eq_true rfl⟩ rfl hl.1 rfl (Nat.le_of_ble_eq_true rfl) dX8_unlock_25 ⟨Nat.le_of_ble_eq_true rfl, Nat.le_of_ble_eq_true rfl⟩) (fun v4 H locs hf hw => ?_)
    refine q_if_ne (tgt := 37) hx hb hf dX8_unlock_28 (by decide) (fun hf => ?_) (fun hf => ?_)
    · refine lv_aload_n hx hb dX8_unlock_37 rfl (lv_at hl 0 rfl) ?_
      refine q_get (v := .ref (ga Γ 157 0)) hx hb hK hw hown in_X8 ins_X8 (rfl : vwCl[10]? = some (RX8, TX8, 32)) rfl (Nat.le_of_ble_eq_true rfl : 0 < cnt (gn Γ) 8) 21 (by decide) 1375 fl_X8_67 rfl rfl dX8_unlock_38 ?_
      refine lv_bipush (v := 36) hx hb dX8_unlock_41 (by decide) ?_
      refine lv_iload_n hx hb dX8_unlock_43 rfl (lv_at hl 2 rfl) ?_
      refine lv_iadd hx hb dX8_unlock_44 ?_
      refine q_iald hx hb hK hw (k := 157) (o := 0) (fun _ _ _ => rfl) (Nat.le_of_ble_eq_true rfl : 0 < cnt (gn Γ) 157) hf dX8_unlock_45 (fun hf => ?_)
      refine q_istore_n (lv1 := [(0, .ref (ga Γ 8 0)), (1, .int x1), (2, .int x2)]) hx hb hf dX8_unlock_46 rfl hl (by decide) rfl (fun v5 ls hf hl => ?_)
      refine lv_iload_n hx hb dX8_unlock_47 rfl (lv_at hl 0 rfl) ?_
      refine lv_iconst (v := (-1)) hx hb dX8_unlock_48 (by decide) ?_
      refine q_ic_ne (tgt := 58) hx hb hf dX8_unlock_49 (by decide) (fun hf => ?_) (fun hf => ?_)
      · refine lv_aload_n hx hb dX8_unlock_58 rfl (lv_at hl 1 rfl) ?_
        refine q_get (v := .int (gI σ3 8 0 20)) hx hb hK hw hown in_X8 ins_X8 (rfl : vwCl[10]? = some (RX8, TX8, 32)) rfl (Nat.le_of_ble_eq_true rfl : 0 < cnt (gn Γ) 8) 20 (by decide) 1374 fl_X8_108 rfl rfl dX8_unlock_59 ?_
        refine lv_sipush (v := 250) hx hb dX8_unlock_62 (by decide) ?_
        refine q_ic_ne (tgt := 74) hx hb hf dX8_unlock_65 (by decide) (fun hf => ?_) (fun hf => ?_)
        · refine lv_aload_n hx hb dX8_unlock_74 rfl (lv_at hl 1 rfl) ?_
          refine lv_bipush (v := 36) hx hb dX8_unlock_75 (by decide) ?_
          refine lv_iload_n hx hb dX8_unlock_77 rfl (lv_at hl 3 rfl) ?_
          refine lv_iadd hx hb dX8_unlock_78 ?_
          refine lv_iconst (v := (-1)) hx hb dX8_unlock_79 (by decide) ?_
          refine q_eV hf hw (fun τ h => q_rV (As := [.int ((36 : Int32) + x2), .int ((-1) : Int32)]) (rest := []) (q := (RX8, TX8, 32)) X hK hw rfl (Nat.le_of_ble_eq_true rfl : 0 < cnt (gn Γ) 8) (rfl : vwCl[10]? = _) (kX8_plans h) mvX8_plans lk_X8_179 ⟨Nat.le_of_ble_eq_true rfl, Nat.le_of_ble_eq_true rfl⟩ rfl hl.1 rfl (Nat.le_of_ble_eq_true rfl) dX8_unlock_80 ⟨Nat.le_of_ble_eq_true rfl, Nat.le_of_ble_eq_true rfl⟩) (fun σ6 H locs hf hw => ?_)
          refine lv_aload_n hx hb dX8_unlock_83 rfl (lv_at hl 1 rfl) ?_
          refine lv_iload_n hx hb dX8_unlock_84 rfl (lv_at hl 2 rfl) ?_
          refine lv_iconst (v := 1) hx hb dX8_unlock_85 (by decide) ?_
          refine q_eV hf hw (fun τ h => q_rV (As := [.int x1, .int (1 : Int32)]) (rest := []) (q := (RX8, TX8, 32)) X hK hw rfl (Nat.le_of_ble_eq_true rfl : 0 < cnt (gn Γ) 8) (rfl : vwCl[10]? = _) (kX8_makes h) mvX8_makes lk_X8_186 ⟨Nat.le_of_ble_eq_true rfl, Nat.le_of_ble_eq_true rfl⟩ rfl hl.1 rfl (Nat.le_of_ble_eq_true rfl) dX8_unlock_86 ⟨Nat.le_of_ble_eq_true rfl, Nat.le_of_ble_eq_true rfl⟩) (fun σ7 H locs hf hw => ?_)
          refine lv_iload_n hx hb dX8_unlock_89 rfl (lv_at hl 0 rfl) ?_
          exact q_eiret hf hx hb hr rfl hk hw dX8_unlock_90 (Nat.le_of_ble_eq_true rfl) (Nat.le_of_ble_eq_true rfl)
        refine lv_aload_n hx hb dX8_unlock_68 rfl (lv_at hl 1 rfl) ?_
        refine lv_iconst (v := 4) hx hb dX8_unlock_69 (by decide) ?_
        refine q_eI hf hw (fun v τ h => q_rV (As := [.int (4 : Int32)]) (rest := []) (q := (RX8, TX8, 32)) X hK hw rfl (Nat.le_of_ble_eq_true rfl : 0 < cnt (gn Γ) 8) (rfl : vwCl[10]? = _) (kX8_fails h) mvX8_fails lk_X8_172 ⟨Nat.le_of_ble_eq_true rfl, Nat.le_of_ble_eq_true rfl⟩ rfl hl.1 rfl (Nat.le_of_ble_eq_true rfl) dX8_unlock_70 ⟨Nat.le_of_ble_eq_true rfl, Nat.le_of_ble_eq_true rfl⟩) (fun v9 σ8 H locs hf hw => ?_)
        exact q_eiret hf hx hb hr rfl hk hw dX8_unlock_73 (Nat.le_of_ble_eq_true rfl) (Nat.le_of_ble_eq_true rfl)
      refine lv_aload_n hx hb dX8_unlock_52 rfl (lv_at hl 1 rfl) ?_
      refine lv_iconst (v := 3) hx hb dX8_unlock_53 (by decide) ?_
      refine q_eI hf hw (fun v τ h => q_rV (As := [.int (3 : Int32)]) (rest := []) (q := (RX8, TX8, 32)) X hK hw rfl (Nat.le_of_ble_eq_true rfl : 0 < cnt (gn Γ) 8) (rfl : vwCl[10]? = _) (kX8_fails h) mvX8_fails lk_X8_172 ⟨Nat.le_of_ble_eq_true rfl, Nat.le_of_ble_eq_true rfl⟩ rfl hl.1 rfl (Nat.le_of_ble_eq_true rfl) dX8_unlock_54 ⟨Nat.le_of_ble_eq_true rfl, Nat.le_of_ble_eq_true rfl⟩) (fun v11 σ10 H locs hf hw => ?_)
      exact q_eiret hf hx hb hr rfl hk hw dX8_unlock_57 (Nat.le_of_ble_eq_true rfl) (Nat.le_of_ble_eq_true rfl)
    refine lv_aload_n hx hb dX8_unlock_31 rfl (lv_at hl 0 rfl) ?_
    refine lv_iconst (v := 2) hx hb dX8_unlock_32 (by decide) ?_
    refine q_eI hf hw (fun v τ h => q_rV (As := [.int (2 : Int32)]) (rest := []) (q := (RX8, TX8, 32)) X hK hw rfl (Nat.le_of_ble_eq_true rfl : 0 < cnt (gn Γ) 8) (rfl : vwCl[10]? = _) (kX8_fails h) mvX8_fails lk_X8_172 ⟨Nat.le_of_ble_eq_true rfl, Nat.le_of_ble_eq_true rfl⟩ rfl hl.1 rfl (Nat.le_of_ble_eq_true rfl) dX8_unlock_33 ⟨Nat.le_of_ble_eq_true rfl, Nat.le_of_ble_eq_true rfl⟩) (fun v13 σ12 H locs hf hw => ?_)
    exact q_eiret hf hx hb hr rfl hk hw dX8_unlock_36 (Nat.le_of_ble_eq_true rfl) (Nat.le_of_ble_eq_true rfl)
  refine lv_aload_n hx hb dX8_unlock_12 rfl (lv_at hl 0 rfl) ?_
  refine lv_iconst (v := 1) hx hb dX8_unlock_13 (by decide) ?_
  refine q_eI hf hw (fun v τ h => q_rV (As := [.int (1 : Int32)]) (rest := []) (q := (RX8, TX8, 32)) X hK hw rfl (Nat.le_of_ble_eq_true rfl : 0 < cnt (gn Γ) 8) (rfl : vwCl[10]? = _) (kX8_fails h) mvX8_fails lk_X8_172 ⟨Nat.le_of_ble_eq_true rfl, Nat.le_of_ble_eq_true rfl⟩ rfl hl.1 rfl (Nat.le_of_ble_eq_true rfl) dX8_unlock_14 ⟨Nat.le_of_ble_eq_true rfl, Nat.le_of_ble_eq_true rfl⟩) (fun v15 σ14 H locs hf hw => ?_)
  exact q_eiret hf hx hb hr rfl hk hw dX8_unlock_17 (Nat.le_of_ble_eq_true rfl) (Nat.le_of_ble_eq_true rfl)
set_option maxRecDepth 100000 in
theorem kX8_isSide {Γ : Gm} {S : List (String × Nat × String)} {l : Launch} {N : Nat} {σ : St} {x1 : Int32} {r : Int32}  (hf : fX8_isSide N σ x1 = some r) : CT Γ S l yX8_isSide cX8_isSide 1 (some (.boolean)) 0 0 0 0 [.int x1] (some (.int r)) σ σ := by
  unfold fX8_isSide at hf
  refine ct_body (lv := [(0, .int x1)]) (by decide +kernel) rfl (Nat.le_of_ble_eq_true rfl) ?_
  intro p e s m below meth c ls X hr hk hK hw hl
  have hx := X.1
  have hb := X.2.1
  have hown := X.2.2.2
  refine lv_iload_n hx hb dX8_isSide_0 rfl (lv_at hl 0 rfl) ?_
  refine lv_bipush (v := 116) hx hb dX8_isSide_1 (by decide) ?_
  refine q_ic_eq (tgt := 24) hx hb hf dX8_isSide_3 (by decide) (fun hf => ?_) (fun hf => ?_)
  · refine lv_iconst (v := 1) hx hb dX8_isSide_24 (by decide) ?_
    refine lv_goto (tgt := 29) hx hb dX8_isSide_25 (by decide) ?_
    exact q_iret hf hx hb hr rfl hk hw dX8_isSide_29 (Nat.le_of_ble_eq_true rfl) (Nat.le_of_ble_eq_true rfl)
  refine lv_iload_n hx hb dX8_isSide_6 rfl (lv_at hl 0 rfl) ?_
  refine lv_bipush (v := 98) hx hb dX8_isSide_7 (by decide) ?_
  refine q_ic_eq (tgt := 24) hx hb hf dX8_isSide_9 (by decide) (fun hf => ?_) (fun hf => ?_)
  · refine lv_iconst (v := 1) hx hb dX8_isSide_24 (by decide) ?_
    refine lv_goto (tgt := 29) hx hb dX8_isSide_25 (by decide) ?_
    exact q_iret hf hx hb hr rfl hk hw dX8_isSide_29 (Nat.le_of_ble_eq_true rfl) (Nat.le_of_ble_eq_true rfl)
  refine lv_iload_n hx hb dX8_isSide_12 rfl (lv_at hl 0 rfl) ?_
  refine lv_bipush (v := 108) hx hb dX8_isSide_13 (by decide) ?_
  refine q_ic_eq (tgt := 24) hx hb hf dX8_isSide_15 (by decide) (fun hf => ?_) (fun hf => ?_)
  · refine lv_iconst (v := 1) hx hb dX8_isSide_24 (by decide) ?_
    refine lv_goto (tgt := 29) hx hb dX8_isSide_25 (by decide) ?_
    exact q_iret hf hx hb hr rfl hk hw dX8_isSide_29 (Nat.le_of_ble_eq_true rfl) (Nat.le_of_ble_eq_true rfl)
  refine lv_iload_n hx hb dX8_isSide_18 rfl (lv_at hl 0 rfl) ?_
  refine lv_bipush (v := 114) hx hb dX8_isSide_19 (by decide) ?_
  refine q_ic_ne (tgt := 28) hx hb hf dX8_isSide_21 (by decide) (fun hf => ?_) (fun hf => ?_)
  · refine lv_iconst (v := 0) hx hb dX8_isSide_28 (by decide) ?_
    exact q_iret hf hx hb hr rfl hk hw dX8_isSide_29 (Nat.le_of_ble_eq_true rfl) (Nat.le_of_ble_eq_true rfl)
  refine lv_iconst (v := 1) hx hb dX8_isSide_24 (by decide) ?_
  refine lv_goto (tgt := 29) hx hb dX8_isSide_25 (by decide) ?_
  exact q_iret hf hx hb hr rfl hk hw dX8_isSide_29 (Nat.le_of_ble_eq_true rfl) (Nat.le_of_ble_eq_true rfl)
set_option maxRecDepth 100000 in
theorem kX8_connect {Γ : Gm} {S : List (String × Nat × String)} {l : Launch} {N : Nat} {σ τ : St} {x1 : Int32} {x2 : Int32} {x3 : Int32} {x4 : Int32} {x5 : Int32} {r : Int32}  (hf : fX8_connect N σ x1 x2 x3 x4 x5 = some (r, τ)) : CT Γ S l yX8_connect cX8_connect 6 (some (.int)) 4 90 0 0 [.ref (ga Γ 8 0), .int x1, .int x2, .int x3, .int x4, .int x5] (some (.int r)) σ τ := by
  unfold fX8_connect at hf
  refine ct_body (lv := [(0, .ref (ga Γ 8 0)), (1, .int x1), (2, .int x2), (3, .int x3), (4, .int x4), (5, .int x5)]) (by decide +kernel) rfl (Nat.le_of_ble_eq_true rfl) ?_
  intro p e s m below meth c ls X hr hk hK hw hl
  have hx := X.1
  have hb := X.2.1
  have hown := X.2.2.2
  refine lv_aload_n hx hb dX8_connect_0 rfl (lv_at hl 0 rfl) ?_
  refine lv_iconst (v := 0) hx hb dX8_connect_1 (by decide) ?_
  refine q_puti (v := (0 : Int32)) hx hb hK hw hown in_X8 ins_X8 tyX8 tyX8_ok nmX8 (rfl : vwCl[10]? = some (RX8, TX8, 32)) (fun _ _ _ => rfl) (Nat.le_of_ble_eq_true rfl : 0 < cnt (gn Γ) 8) 0 (by decide) 1354 fl_X8_97 rfl rfl rfl (fun _ _ _ => Nat.le_of_ble_eq_true rfl) (fun _ _ _ => rfl) hf dX8_connect_2 (fun σ1 H locs hf hw => ?_)
  refine lv_iload_n hx hb dX8_connect_5 rfl (lv_at hl 1 rfl) ?_
  refine q_pI hf hw (fun v h => q_rS (As := [.int x1]) (rest := []) X hK hw (kX8_isUser h) msX8_isUser lk_X8_165 ⟨Nat.le_of_ble_eq_true rfl, Nat.le_of_ble_eq_true rfl⟩ rfl hl.1 rfl (Nat.le_of_ble_eq_true rfl) dX8_connect_6 ⟨Nat.le_of_ble_eq_true rfl, Nat.le_of_ble_eq_true rfl⟩) (fun v2 H locs hf hw => ?_)
  refine q_if_eq (tgt := 33) hx hb hf dX8_connect_9 (by decide) (fun hf => ?_) (fun hf => ?_)
  · refine lv_aload_n hx hb dX8_connect_33 rfl (lv_at hl 0 rfl) ?_
    refine lv_iconst (v := 1) hx hb dX8_connect_34 (by decide) ?_
    refine q_eI hf hw (fun v τ h => q_rV (As := [.int (1 : Int32)]) (rest := []) (q := (RX8, TX8, 32)) X hK hw rfl (Nat.le_of_ble_eq_true rfl : 0 < cnt (gn Γ) 8) (rfl : vwCl[10]? = _) (kX8_fails h) mvX8_fails lk_X8_172 ⟨Nat.le_of_ble_eq_true rfl, Nat.le_of_ble_eq_true rfl⟩ rfl hl.1 rfl (Nat.le_of_ble_eq_true rfl) dX8_connect_35 ⟨Nat.le_of_ble_eq_true rfl, Nat.le_of_ble_eq_true rfl⟩) (fun v4 σ3 H locs hf hw => ?_)
    exact q_eiret hf hx hb hr rfl hk hw dX8_connect_38 (Nat.le_of_ble_eq_true rfl) (Nat.le_of_ble_eq_true rfl)
  refine lv_iload_n hx hb dX8_connect_12 rfl (lv_at hl 3 rfl) ?_
  refine q_pI hf hw (fun v h => q_rS (As := [.int x3]) (rest := []) X hK hw (kX8_isSide h) msX8_isSide lk_X8_212 ⟨Nat.le_of_ble_eq_true rfl, Nat.le_of_ble_eq_true rfl⟩ rfl hl.1 rfl (Nat.le_of_ble_eq_true rfl) dX8_connect_13 ⟨Nat.le_of_ble_eq_true rfl, Nat.le_of_ble_eq_true rfl⟩) (fun v5 H locs hf hw => ?_)
  refine q_if_eq (tgt := 33) hx hb hf dX8_connect_16 (by decide) (fun hf => ?_) (fun hf => ?_)
  · refine lv_aload_n hx hb dX8_connect_33 rfl (lv_at hl 0 rfl) ?_
    refine lv_iconst (v := 1) hx hb dX8_connect_34 (by decide) ?_
    refine q_eI hf hw (fun v τ h => q_rV (As := [.int (1 : Int32)]) (rest := []) (q := (RX8, TX8, 32)) X hK hw rfl (Nat.le_of_ble_eq_true rfl : 0 < cnt (gn Γ) 8) (rfl : vwCl[10]? = _) (kX8_fails h) mvX8_fails lk_X8_172 ⟨Nat.le_of_ble_eq_true rfl, Nat.le_of_ble_eq_true rfl⟩ rfl hl.1 rfl (Nat.le_of_ble_eq_true rfl) dX8_connect_35 ⟨Nat.le_of_ble_eq_true rfl, Nat.le_of_ble_eq_true rfl⟩) (fun v7 σ6 H locs hf hw => ?_)
    exact q_eiret hf hx hb hr rfl hk hw dX8_connect_38 (Nat.le_of_ble_eq_true rfl) (Nat.le_of_ble_eq_true rfl)
  refine lv_iload hx hb dX8_connect_19 (lv_at hl 5 rfl) ?_
  refine q_pI hf hw (fun v h => q_rS (As := [.int x5]) (rest := []) X hK hw (kX8_isSide h) msX8_isSide lk_X8_212 ⟨Nat.le_of_ble_eq_true rfl, Nat.le_of_ble_eq_true rfl⟩ rfl hl.1 rfl (Nat.le_of_ble_eq_true rfl) dX8_connect_21 ⟨Nat.le_of_ble_eq_true rfl, Nat.le_of_ble_eq_true rfl⟩) (fun v8 H locs hf hw => ?_)
  refine q_if_eq (tgt := 33) hx hb hf dX8_connect_24 (by decide) (fun hf => ?_) (fun hf => ?_)
  · refine lv_aload_n hx hb dX8_connect_33 rfl (lv_at hl 0 rfl) ?_
    refine lv_iconst (v := 1) hx hb dX8_connect_34 (by decide) ?_
    refine q_eI hf hw (fun v τ h => q_rV (As := [.int (1 : Int32)]) (rest := []) (q := (RX8, TX8, 32)) X hK hw rfl (Nat.le_of_ble_eq_true rfl : 0 < cnt (gn Γ) 8) (rfl : vwCl[10]? = _) (kX8_fails h) mvX8_fails lk_X8_172 ⟨Nat.le_of_ble_eq_true rfl, Nat.le_of_ble_eq_true rfl⟩ rfl hl.1 rfl (Nat.le_of_ble_eq_true rfl) dX8_connect_35 ⟨Nat.le_of_ble_eq_true rfl, Nat.le_of_ble_eq_true rfl⟩) (fun v10 σ9 H locs hf hw => ?_)
    exact q_eiret hf hx hb hr rfl hk hw dX8_connect_38 (Nat.le_of_ble_eq_true rfl) (Nat.le_of_ble_eq_true rfl)
  refine lv_iload_n hx hb dX8_connect_27 rfl (lv_at hl 2 rfl) ?_
  refine lv_iload hx hb dX8_connect_28 (lv_at hl 4 rfl) ?_
  refine q_ic_ne (tgt := 39) hx hb hf dX8_connect_30 (by decide) (fun hf => ?_) (fun hf => ?_)
  · refine lv_aload_n hx hb dX8_connect_39 rfl (lv_at hl 0 rfl) ?_
    refine lv_iload_n hx hb dX8_connect_40 rfl (lv_at hl 1 rfl) ?_
    refine q_eV hf hw (fun τ h => q_rV (As := [.int x1]) (rest := []) (q := (RX8, TX8, 32)) X hK hw rfl (Nat.le_of_ble_eq_true rfl : 0 < cnt (gn Γ) 8) (rfl : vwCl[10]? = _) (kX8_builds h) mvX8_builds lk_X8_161 ⟨Nat.le_of_ble_eq_true rfl, Nat.le_of_ble_eq_true rfl⟩ rfl hl.1 rfl (Nat.le_of_ble_eq_true rfl) dX8_connect_41 ⟨Nat.le_of_ble_eq_true rfl, Nat.le_of_ble_eq_true rfl⟩) (fun σ11 H locs hf hw => ?_)
    refine lv_aload_n hx hb dX8_connect_44 rfl (lv_at hl 0 rfl) ?_
    refine lv_iload_n hx hb dX8_connect_45 rfl (lv_at hl 2 rfl) ?_
    refine q_pI hf hw (fun v h => q_rV (As := [.int x2]) (rest := []) (q := (RX8, TX8, 32)) X hK hw rfl (Nat.le_of_ble_eq_true rfl : 0 < cnt (gn Γ) 8) (rfl : vwCl[10]? = _) (kX8_isSeen h) mvX8_isSeen lk_X8_125 ⟨Nat.le_of_ble_eq_true rfl, Nat.le_of_ble_eq_true rfl⟩ rfl hl.1 rfl (Nat.le_of_ble_eq_true rfl) dX8_connect_46 ⟨Nat.le_of_ble_eq_true rfl, Nat.le_of_ble_eq_true rfl⟩) (fun v12 H locs hf hw => ?_)
    refine q_if_eq (tgt := 61) hx hb hf dX8_connect_49 (by decide) (fun hf => ?_) (fun hf => ?_)
    · refine lv_aload_n hx hb dX8_connect_61 rfl (lv_at hl 0 rfl) ?_
      refine lv_iconst (v := 2) hx hb dX8_connect_62 (by decide) ?_
      refine q_eI hf hw (fun v τ h => q_rV (As := [.int (2 : Int32)]) (rest := []) (q := (RX8, TX8, 32)) X hK hw rfl (Nat.le_of_ble_eq_true rfl : 0 < cnt (gn Γ) 8) (rfl : vwCl[10]? = _) (kX8_fails h) mvX8_fails lk_X8_172 ⟨Nat.le_of_ble_eq_true rfl, Nat.le_of_ble_eq_true rfl⟩ rfl hl.1 rfl (Nat.le_of_ble_eq_true rfl) dX8_connect_63 ⟨Nat.le_of_ble_eq_true rfl, Nat.le_of_ble_eq_true rfl⟩) (fun v14 σ13 H locs hf hw => ?_)
      exact q_eiret hf hx hb hr rfl hk hw dX8_connect_66 (Nat.le_of_ble_eq_true rfl) (Nat.le_of_ble_eq_true rfl)
    refine lv_aload_n hx hb dX8_connect_52 rfl (lv_at hl 0 rfl) ?_
    refine lv_iload hx hb dX8_connect_53 (lv_at hl 4 rfl) ?_
    refine q_pI hf hw (fun v h => q_rV (As := [.int x4]) (rest := []) (q := (RX8, TX8, 32)) X hK hw rfl (Nat.le_of_ble_eq_true rfl : 0 < cnt (gn Γ) 8) (rfl : vwCl[10]? = _) (kX8_isSeen h) mvX8_isSeen lk_X8_125 ⟨Nat.le_of_ble_eq_true rfl, Nat.le_of_ble_eq_true rfl⟩ rfl hl.1 rfl (Nat.le_of_ble_eq_true rfl) dX8_connect_55 ⟨Nat.le_of_ble_eq_true rfl, Nat.le_of_ble_eq_true rfl⟩) (fun v15 H locs hf hw => ?_)
    refine q_if_ne (tgt := 67) hx hb hf dX8_connect_58 (by decide) (fun hf => ?_) (fun hf => ?_)
    · refine lv_aload_n hx hb dX8_connect_67 rfl (lv_at hl 0 rfl) ?_
      refine q_get (v := .int (gI σ11 8 0 9)) hx hb hK hw hown in_X8 ins_X8 (rfl : vwCl[10]? = some (RX8, TX8, 32)) rfl (Nat.le_of_ble_eq_true rfl : 0 < cnt (gn Γ) 8) 9 (by decide) 1363 fl_X8_122 rfl rfl dX8_connect_68 ?_
      refine lv_bipush (v := 8) hx hb dX8_connect_71 (by decide) ?_
      refine q_ic_eq (tgt := 86) hx hb hf dX8_connect_73 (by decide) (fun hf => ?_) (fun hf => ?_)
      · refine lv_aload_n hx hb dX8_connect_86 rfl (lv_at hl 0 rfl) ?_
        refine lv_iconst (v := 3) hx hb dX8_connect_87 (by decide) ?_
        refine q_eI hf hw (fun v τ h => q_rV (As := [.int (3 : Int32)]) (rest := []) (q := (RX8, TX8, 32)) X hK hw rfl (Nat.le_of_ble_eq_true rfl : 0 < cnt (gn Γ) 8) (rfl : vwCl[10]? = _) (kX8_fails h) mvX8_fails lk_X8_172 ⟨Nat.le_of_ble_eq_true rfl, Nat.le_of_ble_eq_true rfl⟩ rfl hl.1 rfl (Nat.le_of_ble_eq_true rfl) dX8_connect_88 ⟨Nat.le_of_ble_eq_true rfl, Nat.le_of_ble_eq_true rfl⟩) (fun v17 σ16 H locs hf hw => ?_)
        exact q_eiret hf hx hb hr rfl hk hw dX8_connect_91 (Nat.le_of_ble_eq_true rfl) (Nat.le_of_ble_eq_true rfl)
      refine lv_aload_n hx hb dX8_connect_76 rfl (lv_at hl 0 rfl) ?_
      refine q_get (v := .int (gI σ11 8 0 20)) hx hb hK hw hown in_X8 ins_X8 (rfl : vwCl[10]? = some (RX8, TX8, 32)) rfl (Nat.le_of_ble_eq_true rfl : 0 < cnt (gn Γ) 8) 20 (by decide) 1374 fl_X8_108 rfl rfl dX8_connect_77 ?_
      refine lv_sipush (v := 250) hx hb dX8_connect_80 (by decide) ?_
      refine q_ic_ne (tgt := 92) hx hb hf dX8_connect_83 (by decide) (fun hf => ?_) (fun hf => ?_)
      · refine lv_aload_n hx hb dX8_connect_92 rfl (lv_at hl 0 rfl) ?_
        refine q_get (v := .ref (ga Γ 142 0)) hx hb hK hw hown in_X8 ins_X8 (rfl : vwCl[10]? = some (RX8, TX8, 32)) rfl (Nat.le_of_ble_eq_true rfl : 0 < cnt (gn Γ) 8) 3 (by decide) 1357 fl_X8_16 rfl rfl dX8_connect_93 ?_
        refine lv_aload_n hx hb dX8_connect_96 rfl (lv_at hl 0 rfl) ?_
        refine q_get (v := .int (gI σ11 8 0 9)) hx hb hK hw hown in_X8 ins_X8 (rfl : vwCl[10]? = some (RX8, TX8, 32)) rfl (Nat.le_of_ble_eq_true rfl : 0 < cnt (gn Γ) 8) 9 (by decide) 1363 fl_X8_122 rfl rfl dX8_connect_97 ?_
        refine lv_iload_n hx hb dX8_connect_100 rfl (lv_at hl 2 rfl) ?_
        refine q_iast hx hb hK hw (k := 142) (o := 0) (fun _ _ _ => rfl) (Nat.le_of_ble_eq_true rfl : 0 < cnt (gn Γ) 142) hf dX8_connect_101 (fun σ18 H locs hf hw => ?_)
        refine lv_aload_n hx hb dX8_connect_102 rfl (lv_at hl 0 rfl) ?_
        refine q_get (v := .ref (ga Γ 143 0)) hx hb hK hw hown in_X8 ins_X8 (rfl : vwCl[10]? = some (RX8, TX8, 32)) rfl (Nat.le_of_ble_eq_true rfl : 0 < cnt (gn Γ) 8) 4 (by decide) 1358 fl_X8_19 rfl rfl dX8_connect_103 ?_
        refine lv_aload_n hx hb dX8_connect_106 rfl (lv_at hl 0 rfl) ?_
        refine q_get (v := .int (gI σ18 8 0 9)) hx hb hK hw hown in_X8 ins_X8 (rfl : vwCl[10]? = some (RX8, TX8, 32)) rfl (Nat.le_of_ble_eq_true rfl : 0 < cnt (gn Γ) 8) 9 (by decide) 1363 fl_X8_122 rfl rfl dX8_connect_107 ?_
        refine lv_iload hx hb dX8_connect_110 (lv_at hl 4 rfl) ?_
        refine q_iast hx hb hK hw (k := 143) (o := 0) (fun _ _ _ => rfl) (Nat.le_of_ble_eq_true rfl : 0 < cnt (gn Γ) 143) hf dX8_connect_112 (fun σ19 H locs hf hw => ?_)
        refine lv_aload_n hx hb dX8_connect_113 rfl (lv_at hl 0 rfl) ?_
        refine q_get (v := .ref (ga Γ 145 0)) hx hb hK hw hown in_X8 ins_X8 (rfl : vwCl[10]? = some (RX8, TX8, 32)) rfl (Nat.le_of_ble_eq_true rfl : 0 < cnt (gn Γ) 8) 6 (by decide) 1360 fl_X8_26 rfl rfl dX8_connect_114 ?_
        refine lv_aload_n hx hb dX8_connect_117 rfl (lv_at hl 0 rfl) ?_
        refine q_get (v := .int (gI σ19 8 0 9)) hx hb hK hw hown in_X8 ins_X8 (rfl : vwCl[10]? = some (RX8, TX8, 32)) rfl (Nat.le_of_ble_eq_true rfl : 0 < cnt (gn Γ) 8) 9 (by decide) 1363 fl_X8_122 rfl rfl dX8_connect_118 ?_
        refine lv_iload_n hx hb dX8_connect_121 rfl (lv_at hl 3 rfl) ?_
        refine q_cast hx hb hK hw (k := 145) (o := 0) (fun _ _ _ => rfl) (Nat.le_of_ble_eq_true rfl : 0 < cnt (gn Γ) 145) hf dX8_connect_122 (fun σ20 H locs hf hw => ?_)
        refine lv_aload_n hx hb dX8_connect_123 rfl (lv_at hl 0 rfl) ?_
        refine q_get (v := .ref (ga Γ 146 0)) hx hb hK hw hown in_X8 ins_X8 (rfl : vwCl[10]? = some (RX8, TX8, 32)) rfl (Nat.le_of_ble_eq_true rfl : 0 < cnt (gn Γ) 8) 7 (by decide) 1361 fl_X8_30 rfl rfl dX8_connect_124 ?_
        refine lv_aload_n hx hb dX8_connect_127 rfl (lv_at hl 0 rfl) ?_
        refine q_get (v := .int (gI σ20 8 0 9)) hx hb hK hw hown in_X8 ins_X8 (rfl : vwCl[10]? = some (RX8, TX8, 32)) rfl (Nat.le_of_ble_eq_true rfl : 0 < cnt (gn Γ) 8) 9 (by decide) 1363 fl_X8_122 rfl rfl dX8_connect_128 ?_
        refine lv_iload hx hb dX8_connect_131 (lv_at hl 5 rfl) ?_
        refine q_cast hx hb hK hw (k := 146) (o := 0) (fun _ _ _ => rfl) (Nat.le_of_ble_eq_true rfl : 0 < cnt (gn Γ) 146) hf dX8_connect_133 (fun σ21 H locs hf hw => ?_)
        refine lv_aload_n hx hb dX8_connect_134 rfl (lv_at hl 0 rfl) ?_
        refine lv_bipush (v := 48) hx hb dX8_connect_135 (by decide) ?_
        refine lv_aload_n hx hb dX8_connect_137 rfl (lv_at hl 0 rfl) ?_
        refine q_get (v := .int (gI σ21 8 0 9)) hx hb hK hw hown in_X8 ins_X8 (rfl : vwCl[10]? = some (RX8, TX8, 32)) rfl (Nat.le_of_ble_eq_true rfl : 0 < cnt (gn Γ) 8) 9 (by decide) 1363 fl_X8_122 rfl rfl dX8_connect_138 ?_
        refine lv_iadd hx hb dX8_connect_141 ?_
        refine lv_iconst (v := 1) hx hb dX8_connect_142 (by decide) ?_
        refine q_eV hf hw (fun τ h => q_rV (As := [.int ((48 : Int32) + (gI σ21 8 0 9)), .int (1 : Int32)]) (rest := []) (q := (RX8, TX8, 32)) X hK hw rfl (Nat.le_of_ble_eq_true rfl : 0 < cnt (gn Γ) 8) (rfl : vwCl[10]? = _) (kX8_plans h) mvX8_plans lk_X8_179 ⟨Nat.le_of_ble_eq_true rfl, Nat.le_of_ble_eq_true rfl⟩ rfl hl.1 rfl (Nat.le_of_ble_eq_true rfl) dX8_connect_143 ⟨Nat.le_of_ble_eq_true rfl, Nat.le_of_ble_eq_true rfl⟩) (fun σ22 H locs hf hw => ?_)
        refine lv_aload_n hx hb dX8_connect_146 rfl (lv_at hl 0 rfl) ?_
        refine lv_dup hx hb dX8_connect_147 rfl ?_
        refine q_get (v := .int (gI σ22 8 0 9)) hx hb hK hw hown in_X8 ins_X8 (rfl : vwCl[10]? = some (RX8, TX8, 32)) rfl (Nat.le_of_ble_eq_true rfl : 0 < cnt (gn Γ) 8) 9 (by decide) 1363 fl_X8_122 rfl rfl dX8_connect_148 ?_
        refine lv_iconst (v := 1) hx hb dX8_connect_151 (by decide) ?_
        refine lv_iadd hx hb dX8_connect_152 ?_
        refine q_puti (v := ((gI σ22 8 0 9) + (1 : Int32))) hx hb hK hw hown in_X8 ins_X8 tyX8 tyX8_ok nmX8 (rfl : vwCl[10]? = some (RX8, TX8, 32)) (fun _ _ _ => rfl) (Nat.le_of_ble_eq_true rfl : 0 < cnt (gn Γ) 8) 9 (by decide) 1363 fl_X8_122 rfl rfl rfl (fun _ _ _ => Nat.le_of_ble_eq_true rfl) (fun _ _ _ => rfl) hf dX8_connect_153 (fun σ23 H locs hf hw => ?_)
        refine lv_aload_n hx hb dX8_connect_156 rfl (lv_at hl 0 rfl) ?_
        refine lv_iload_n hx hb dX8_connect_157 rfl (lv_at hl 1 rfl) ?_
        refine lv_iconst (v := 1) hx hb dX8_connect_158 (by decide) ?_
        refine q_eV hf hw (fun τ h => q_rV (As := [.int x1, .int (1 : Int32)]) (rest := []) (q := (RX8, TX8, 32)) X hK hw rfl (Nat.le_of_ble_eq_true rfl : 0 < cnt (gn Γ) 8) (rfl : vwCl[10]? = _) (kX8_makes h) mvX8_makes lk_X8_186 ⟨Nat.le_of_ble_eq_true rfl, Nat.le_of_ble_eq_true rfl⟩ rfl hl.1 rfl (Nat.le_of_ble_eq_true rfl) dX8_connect_159 ⟨Nat.le_of_ble_eq_true rfl, Nat.le_of_ble_eq_true rfl⟩) (fun σ24 H locs hf hw => ?_)
        refine lv_aload_n hx hb dX8_connect_162 rfl (lv_at hl 0 rfl) ?_
        refine q_get (v := .int (gI σ24 8 0 9)) hx hb hK hw hown in_X8 ins_X8 (rfl : vwCl[10]? = some (RX8, TX8, 32)) rfl (Nat.le_of_ble_eq_true rfl : 0 < cnt (gn Γ) 8) 9 (by decide) 1363 fl_X8_122 rfl rfl dX8_connect_163 ?_
        refine lv_iconst (v := 1) hx hb dX8_connect_166 (by decide) ?_
        refine lv_isub hx hb dX8_connect_167 ?_
        exact q_eiret hf hx hb hr rfl hk hw dX8_connect_168 (Nat.le_of_ble_eq_true rfl) (Nat.le_of_ble_eq_true rfl)
      refine lv_aload_n hx hb dX8_connect_86 rfl (lv_at hl 0 rfl) ?_
      refine lv_iconst (v := 3) hx hb dX8_connect_87 (by decide) ?_
      refine q_eI hf hw (fun v τ h => q_rV (As := [.int (3 : Int32)]) (rest := []) (q := (RX8, TX8, 32)) X hK hw rfl (Nat.le_of_ble_eq_true rfl : 0 < cnt (gn Γ) 8) (rfl : vwCl[10]? = _) (kX8_fails h) mvX8_fails lk_X8_172 ⟨Nat.le_of_ble_eq_true rfl, Nat.le_of_ble_eq_true rfl⟩ rfl hl.1 rfl (Nat.le_of_ble_eq_true rfl) dX8_connect_88 ⟨Nat.le_of_ble_eq_true rfl, Nat.le_of_ble_eq_true rfl⟩) (fun v26 σ25 H locs hf hw => ?_)
      exact q_eiret hf hx hb hr rfl hk hw dX8_connect_91 (Nat.le_of_ble_eq_true rfl) (Nat.le_of_ble_eq_true rfl)
    refine lv_aload_n hx hb dX8_connect_61 rfl (lv_at hl 0 rfl) ?_
    refine lv_iconst (v := 2) hx hb dX8_connect_62 (by decide) ?_
    refine q_eI hf hw (fun v τ h => q_rV (As := [.int (2 : Int32)]) (rest := []) (q := (RX8, TX8, 32)) X hK hw rfl (Nat.le_of_ble_eq_true rfl : 0 < cnt (gn Γ) 8) (rfl : vwCl[10]? = _) (kX8_fails h) mvX8_fails lk_X8_172 ⟨Nat.le_of_ble_eq_true rfl, Nat.le_of_ble_eq_true rfl⟩ rfl hl.1 rfl (Nat.le_of_ble_eq_true rfl) dX8_connect_63 ⟨Nat.le_of_ble_eq_true rfl, Nat.le_of_ble_eq_true rfl⟩) (fun v28 σ27 H locs hf hw => ?_)
    exact q_eiret hf hx hb hr rfl hk hw dX8_connect_66 (Nat.le_of_ble_eq_true rfl) (Nat.le_of_ble_eq_true rfl)
  refine lv_aload_n hx hb dX8_connect_33 rfl (lv_at hl 0 rfl) ?_
  refine lv_iconst (v := 1) hx hb dX8_connect_34 (by decide) ?_
  refine q_eI hf hw (fun v τ h => q_rV (As := [.int (1 : Int32)]) (rest := []) (q := (RX8, TX8, 32)) X hK hw rfl (Nat.le_of_ble_eq_true rfl : 0 < cnt (gn Γ) 8) (rfl : vwCl[10]? = _) (kX8_fails h) mvX8_fails lk_X8_172 ⟨Nat.le_of_ble_eq_true rfl, Nat.le_of_ble_eq_true rfl⟩ rfl hl.1 rfl (Nat.le_of_ble_eq_true rfl) dX8_connect_35 ⟨Nat.le_of_ble_eq_true rfl, Nat.le_of_ble_eq_true rfl⟩) (fun v30 σ29 H locs hf hw => ?_)
  exact q_eiret hf hx hb hr rfl hk hw dX8_connect_38 (Nat.le_of_ble_eq_true rfl) (Nat.le_of_ble_eq_true rfl)
set_option maxRecDepth 100000 in
theorem kX8_disconnect {Γ : Gm} {S : List (String × Nat × String)} {l : Launch} {N : Nat} {σ τ : St} {x1 : Int32} {x2 : Int32} {r : Int32}  (hf : fX8_disconnect N σ x1 x2 = some (r, τ)) : CT Γ S l yX8_disconnect cX8_disconnect 3 (some (.int)) 4 90 0 0 [.ref (ga Γ 8 0), .int x1, .int x2] (some (.int r)) σ τ := by
  unfold fX8_disconnect at hf
  refine ct_body (lv := [(0, .ref (ga Γ 8 0)), (1, .int x1), (2, .int x2)]) (by decide +kernel) rfl (Nat.le_of_ble_eq_true rfl) ?_
  intro p e s m below meth c ls X hr hk hK hw hl
  have hx := X.1
  have hb := X.2.1
  have hown := X.2.2.2
  refine lv_aload_n hx hb dX8_disconnect_0 rfl (lv_at hl 0 rfl) ?_
  refine lv_iconst (v := 0) hx hb dX8_disconnect_1 (by decide) ?_
  refine q_puti (v := (0 : Int32)) hx hb hK hw hown in_X8 ins_X8 tyX8 tyX8_ok nmX8 (rfl : vwCl[10]? = some (RX8, TX8, 32)) (fun _ _ _ => rfl) (Nat.le_of_ble_eq_true rfl : 0 < cnt (gn Γ) 8) 0 (by decide) 1354 fl_X8_97 rfl rfl rfl (fun _ _ _ => Nat.le_of_ble_eq_true rfl) (fun _ _ _ => rfl) hf dX8_disconnect_2 (fun σ1 H locs hf hw => ?_)
  refine lv_iload_n hx hb dX8_disconnect_5 rfl (lv_at hl 1 rfl) ?_
  refine q_pI hf hw (fun v h => q_rS (As := [.int x1]) (rest := []) X hK hw (kX8_isUser h) msX8_isUser lk_X8_165 ⟨Nat.le_of_ble_eq_true rfl, Nat.le_of_ble_eq_true rfl⟩ rfl hl.1 rfl (Nat.le_of_ble_eq_true rfl) dX8_disconnect_6 ⟨Nat.le_of_ble_eq_true rfl, Nat.le_of_ble_eq_true rfl⟩) (fun v2 H locs hf hw => ?_)
  refine q_if_ne (tgt := 18) hx hb hf dX8_disconnect_9 (by decide) (fun hf => ?_) (fun hf => ?_)
  · refine lv_aload_n hx hb dX8_disconnect_18 rfl (lv_at hl 0 rfl) ?_
    refine lv_iload_n hx hb dX8_disconnect_19 rfl (lv_at hl 1 rfl) ?_
    refine q_eV hf hw (fun τ h => q_rV (As := [.int x1]) (rest := []) (q := (RX8, TX8, 32)) X hK hw rfl (Nat.le_of_ble_eq_true rfl : 0 < cnt (gn Γ) 8) (rfl : vwCl[10]? = _) (kX8_builds h) mvX8_builds lk_X8_161 ⟨Nat.le_of_ble_eq_true rfl, Nat.le_of_ble_eq_true rfl⟩ rfl hl.1 rfl (Nat.le_of_ble_eq_true rfl) dX8_disconnect_20 ⟨Nat.le_of_ble_eq_true rfl, Nat.le_of_ble_eq_true rfl⟩) (fun σ3 H locs hf hw => ?_)
    refine lv_aload_n hx hb dX8_disconnect_23 rfl (lv_at hl 0 rfl) ?_
    refine lv_iload_n hx hb dX8_disconnect_24 rfl (lv_at hl 2 rfl) ?_
    refine q_pI hf hw (fun v h => q_rV (As := [.int x2]) (rest := []) (q := (RX8, TX8, 32)) X hK hw rfl (Nat.le_of_ble_eq_true rfl : 0 < cnt (gn Γ) 8) (rfl : vwCl[10]? = _) (kX8_isJoined h) mvX8_isJoined lk_X8_135 ⟨Nat.le_of_ble_eq_true rfl, Nat.le_of_ble_eq_true rfl⟩ rfl hl.1 rfl (Nat.le_of_ble_eq_true rfl) dX8_disconnect_25 ⟨Nat.le_of_ble_eq_true rfl, Nat.le_of_ble_eq_true rfl⟩) (fun v4 H locs hf hw => ?_)
    refine q_if_ne (tgt := 37) hx hb hf dX8_disconnect_28 (by decide) (fun hf => ?_) (fun hf => ?_)
    · refine lv_aload_n hx hb dX8_disconnect_37 rfl (lv_at hl 0 rfl) ?_
      refine q_get (v := .int (gI σ3 8 0 20)) hx hb hK hw hown in_X8 ins_X8 (rfl : vwCl[10]? = some (RX8, TX8, 32)) rfl (Nat.le_of_ble_eq_true rfl : 0 < cnt (gn Γ) 8) 20 (by decide) 1374 fl_X8_108 rfl rfl dX8_disconnect_38 ?_
      refine lv_sipush (v := 250) hx hb dX8_disconnect_41 (by decide) ?_
      refine q_ic_ne (tgt := 53) hx hb hf dX8_disconnect_44 (by decide) (fun hf => ?_) (fun hf => ?_)
      · refine lv_aload_n hx hb dX8_disconnect_53 rfl (lv_at hl 0 rfl) ?_
        refine lv_bipush (v := 48) hx hb dX8_disconnect_54 (by decide) ?_
        refine lv_iload_n hx hb dX8_disconnect_56 rfl (lv_at hl 2 rfl) ?_
        refine lv_iadd hx hb dX8_disconnect_57 ?_
        refine lv_iconst (v := 0) hx hb dX8_disconnect_58 (by decide) ?_
        refine q_eV hf hw (fun τ h => q_rV (As := [.int ((48 : Int32) + x2), .int (0 : Int32)]) (rest := []) (q := (RX8, TX8, 32)) X hK hw rfl (Nat.le_of_ble_eq_true rfl : 0 < cnt (gn Γ) 8) (rfl : vwCl[10]? = _) (kX8_plans h) mvX8_plans lk_X8_179 ⟨Nat.le_of_ble_eq_true rfl, Nat.le_of_ble_eq_true rfl⟩ rfl hl.1 rfl (Nat.le_of_ble_eq_true rfl) dX8_disconnect_59 ⟨Nat.le_of_ble_eq_true rfl, Nat.le_of_ble_eq_true rfl⟩) (fun σ5 H locs hf hw => ?_)
        refine lv_aload_n hx hb dX8_disconnect_62 rfl (lv_at hl 0 rfl) ?_
        refine lv_iload_n hx hb dX8_disconnect_63 rfl (lv_at hl 1 rfl) ?_
        refine lv_iconst (v := 1) hx hb dX8_disconnect_64 (by decide) ?_
        refine q_eV hf hw (fun τ h => q_rV (As := [.int x1, .int (1 : Int32)]) (rest := []) (q := (RX8, TX8, 32)) X hK hw rfl (Nat.le_of_ble_eq_true rfl : 0 < cnt (gn Γ) 8) (rfl : vwCl[10]? = _) (kX8_makes h) mvX8_makes lk_X8_186 ⟨Nat.le_of_ble_eq_true rfl, Nat.le_of_ble_eq_true rfl⟩ rfl hl.1 rfl (Nat.le_of_ble_eq_true rfl) dX8_disconnect_65 ⟨Nat.le_of_ble_eq_true rfl, Nat.le_of_ble_eq_true rfl⟩) (fun σ6 H locs hf hw => ?_)
        refine lv_aload_n hx hb dX8_disconnect_68 rfl (lv_at hl 0 rfl) ?_
        refine q_pI hf hw (fun v h => q_rV (As := []) (rest := []) (q := (RX8, TX8, 32)) X hK hw rfl (Nat.le_of_ble_eq_true rfl : 0 < cnt (gn Γ) 8) (rfl : vwCl[10]? = _) (kX8_joinedMany h) mvX8_joinedMany lk_X8_216 ⟨Nat.le_of_ble_eq_true rfl, Nat.le_of_ble_eq_true rfl⟩ rfl hl.1 rfl (Nat.le_of_ble_eq_true rfl) dX8_disconnect_69 ⟨Nat.le_of_ble_eq_true rfl, Nat.le_of_ble_eq_true rfl⟩) (fun v7 H locs hf hw => ?_)
        exact q_eiret hf hx hb hr rfl hk hw dX8_disconnect_72 (Nat.le_of_ble_eq_true rfl) (Nat.le_of_ble_eq_true rfl)
      refine lv_aload_n hx hb dX8_disconnect_47 rfl (lv_at hl 0 rfl) ?_
      refine lv_iconst (v := 3) hx hb dX8_disconnect_48 (by decide) ?_
      refine q_eI hf hw (fun v τ h => q_rV (As := [.int (3 : Int32)]) (rest := []) (q := (RX8, TX8, 32)) X hK hw rfl (Nat.le_of_ble_eq_true rfl : 0 < cnt (gn Γ) 8) (rfl : vwCl[10]? = _) (kX8_fails h) mvX8_fails lk_X8_172 ⟨Nat.le_of_ble_eq_true rfl, Nat.le_of_ble_eq_true rfl⟩ rfl hl.1 rfl (Nat.le_of_ble_eq_true rfl) dX8_disconnect_49 ⟨Nat.le_of_ble_eq_true rfl, Nat.le_of_ble_eq_true rfl⟩) (fun v9 σ8 H locs hf hw => ?_)
      exact q_eiret hf hx hb hr rfl hk hw dX8_disconnect_52 (Nat.le_of_ble_eq_true rfl) (Nat.le_of_ble_eq_true rfl)
    refine lv_aload_n hx hb dX8_disconnect_31 rfl (lv_at hl 0 rfl) ?_
    refine lv_iconst (v := 2) hx hb dX8_disconnect_32 (by decide) ?_
    refine q_eI hf hw (fun v τ h => q_rV (As := [.int (2 : Int32)]) (rest := []) (q := (RX8, TX8, 32)) X hK hw rfl (Nat.le_of_ble_eq_true rfl : 0 < cnt (gn Γ) 8) (rfl : vwCl[10]? = _) (kX8_fails h) mvX8_fails lk_X8_172 ⟨Nat.le_of_ble_eq_true rfl, Nat.le_of_ble_eq_true rfl⟩ rfl hl.1 rfl (Nat.le_of_ble_eq_true rfl) dX8_disconnect_33 ⟨Nat.le_of_ble_eq_true rfl, Nat.le_of_ble_eq_true rfl⟩) (fun v11 σ10 H locs hf hw => ?_)
    exact q_eiret hf hx hb hr rfl hk hw dX8_disconnect_36 (Nat.le_of_ble_eq_true rfl) (Nat.le_of_ble_eq_true rfl)
  refine lv_aload_n hx hb dX8_disconnect_12 rfl (lv_at hl 0 rfl) ?_
  refine lv_iconst (v := 1) hx hb dX8_disconnect_13 (by decide) ?_
  refine q_eI hf hw (fun v τ h => q_rV (As := [.int (1 : Int32)]) (rest := []) (q := (RX8, TX8, 32)) X hK hw rfl (Nat.le_of_ble_eq_true rfl : 0 < cnt (gn Γ) 8) (rfl : vwCl[10]? = _) (kX8_fails h) mvX8_fails lk_X8_172 ⟨Nat.le_of_ble_eq_true rfl, Nat.le_of_ble_eq_true rfl⟩ rfl hl.1 rfl (Nat.le_of_ble_eq_true rfl) dX8_disconnect_14 ⟨Nat.le_of_ble_eq_true rfl, Nat.le_of_ble_eq_true rfl⟩) (fun v13 σ12 H locs hf hw => ?_)
  exact q_eiret hf hx hb hr rfl hk hw dX8_disconnect_17 (Nat.le_of_ble_eq_true rfl) (Nat.le_of_ble_eq_true rfl)
set_option maxRecDepth 100000 in
theorem kX8_vote {Γ : Gm} {S : List (String × Nat × String)} {l : Launch} {N : Nat} {σ τ : St} {x1 : Int32} {x2 : Int32} {x3 : Int32} {r : Int32}  (hf : fX8_vote N σ x1 x2 x3 = some (r, τ)) : CT Γ S l yX8_vote cX8_vote 7 (some (.int)) 4 90 0 0 [.ref (ga Γ 8 0), .int x1, .int x2, .int x3] (some (.int r)) σ τ := by
  unfold fX8_vote at hf
  refine ct_body (lv := [(0, .ref (ga Γ 8 0)), (1, .int x1), (2, .int x2), (3, .int x3)]) (by decide +kernel) rfl (Nat.le_of_ble_eq_true rfl) ?_
  intro p e s m below meth c ls X hr hk hK hw hl
  have hx := X.1
  have hb := X.2.1
  have hown := X.2.2.2
  refine lv_aload_n hx hb dX8_vote_0 rfl (lv_at hl 0 rfl) ?_
  refine lv_iconst (v := 0) hx hb dX8_vote_1 (by decide) ?_
  refine q_puti (v := (0 : Int32)) hx hb hK hw hown in_X8 ins_X8 tyX8 tyX8_ok nmX8 (rfl : vwCl[10]? = some (RX8, TX8, 32)) (fun _ _ _ => rfl) (Nat.le_of_ble_eq_true rfl : 0 < cnt (gn Γ) 8) 0 (by decide) 1354 fl_X8_97 rfl rfl rfl (fun _ _ _ => Nat.le_of_ble_eq_true rfl) (fun _ _ _ => rfl) hf dX8_vote_2 (fun σ1 H locs hf hw => ?_)
  refine lv_iload_n hx hb dX8_vote_5 rfl (lv_at hl 1 rfl) ?_
  refine q_pI hf hw (fun v h => q_rS (As := [.int x1]) (rest := []) X hK hw (kX8_isUser h) msX8_isUser lk_X8_165 ⟨Nat.le_of_ble_eq_true rfl, Nat.le_of_ble_eq_true rfl⟩ rfl hl.1 rfl (Nat.le_of_ble_eq_true rfl) dX8_vote_6 ⟨Nat.le_of_ble_eq_true rfl, Nat.le_of_ble_eq_true rfl⟩) (fun v2 H locs hf hw => ?_)
  refine q_if_eq (tgt := 21) hx hb hf dX8_vote_9 (by decide) (fun hf => ?_) (fun hf => ?_)
  · refine lv_aload_n hx hb dX8_vote_21 rfl (lv_at hl 0 rfl) ?_
    refine lv_iconst (v := 1) hx hb dX8_vote_22 (by decide) ?_
    refine q_eI hf hw (fun v τ h => q_rV (As := [.int (1 : Int32)]) (rest := []) (q := (RX8, TX8, 32)) X hK hw rfl (Nat.le_of_ble_eq_true rfl : 0 < cnt (gn Γ) 8) (rfl : vwCl[10]? = _) (kX8_fails h) mvX8_fails lk_X8_172 ⟨Nat.le_of_ble_eq_true rfl, Nat.le_of_ble_eq_true rfl⟩ rfl hl.1 rfl (Nat.le_of_ble_eq_true rfl) dX8_vote_23 ⟨Nat.le_of_ble_eq_true rfl, Nat.le_of_ble_eq_true rfl⟩) (fun v4 σ3 H locs hf hw => ?_)
    exact q_eiret hf hx hb hr rfl hk hw dX8_vote_26 (Nat.le_of_ble_eq_true rfl) (Nat.le_of_ble_eq_true rfl)
  refine lv_iload_n hx hb dX8_vote_12 rfl (lv_at hl 3 rfl) ?_
  refine lv_iconst (v := 0) hx hb dX8_vote_13 (by decide) ?_
  refine lv_iconst (v := 3) hx hb dX8_vote_14 (by decide) ?_
  refine q_pI hf hw (fun v h => q_rS (As := [.int x3, .int (0 : Int32), .int (3 : Int32)]) (rest := []) X hK hw (kX8_isBetween h) msX8_isBetween lk_X8_101 ⟨Nat.le_of_ble_eq_true rfl, Nat.le_of_ble_eq_true rfl⟩ rfl hl.1 rfl (Nat.le_of_ble_eq_true rfl) dX8_vote_15 ⟨Nat.le_of_ble_eq_true rfl, Nat.le_of_ble_eq_true rfl⟩) (fun v5 H locs hf hw => ?_)
  refine q_if_ne (tgt := 27) hx hb hf dX8_vote_18 (by decide) (fun hf => ?_) (fun hf => ?_)
  · refine lv_aload_n hx hb dX8_vote_27 rfl (lv_at hl 0 rfl) ?_
    refine lv_iload_n hx hb dX8_vote_28 rfl (lv_at hl 1 rfl) ?_
    refine q_eV hf hw (fun τ h => q_rV (As := [.int x1]) (rest := []) (q := (RX8, TX8, 32)) X hK hw rfl (Nat.le_of_ble_eq_true rfl : 0 < cnt (gn Γ) 8) (rfl : vwCl[10]? = _) (kX8_builds h) mvX8_builds lk_X8_161 ⟨Nat.le_of_ble_eq_true rfl, Nat.le_of_ble_eq_true rfl⟩ rfl hl.1 rfl (Nat.le_of_ble_eq_true rfl) dX8_vote_29 ⟨Nat.le_of_ble_eq_true rfl, Nat.le_of_ble_eq_true rfl⟩) (fun σ6 H locs hf hw => ?_)
    refine lv_aload_n hx hb dX8_vote_32 rfl (lv_at hl 0 rfl) ?_
    refine lv_iload_n hx hb dX8_vote_33 rfl (lv_at hl 2 rfl) ?_
    refine q_pI hf hw (fun v h => q_rV (As := [.int x2]) (rest := []) (q := (RX8, TX8, 32)) X hK hw rfl (Nat.le_of_ble_eq_true rfl : 0 < cnt (gn Γ) 8) (rfl : vwCl[10]? = _) (kX8_isSeen h) mvX8_isSeen lk_X8_125 ⟨Nat.le_of_ble_eq_true rfl, Nat.le_of_ble_eq_true rfl⟩ rfl hl.1 rfl (Nat.le_of_ble_eq_true rfl) dX8_vote_34 ⟨Nat.le_of_ble_eq_true rfl, Nat.le_of_ble_eq_true rfl⟩) (fun v7 H locs hf hw => ?_)
    refine q_if_ne (tgt := 46) hx hb hf dX8_vote_37 (by decide) (fun hf => ?_) (fun hf => ?_)
    · refine lv_bipush (v := 56) hx hb dX8_vote_46 (by decide) ?_
      refine lv_bipush (v := 12) hx hb dX8_vote_48 (by decide) ?_
      refine lv_iload_n hx hb dX8_vote_50 rfl (lv_at hl 1 rfl) ?_
      refine lv_imul hx hb dX8_vote_51 ?_
      refine lv_iadd hx hb dX8_vote_52 ?_
      refine q_istore (lv1 := [(0, .ref (ga Γ 8 0)), (1, .int x1), (2, .int x2), (3, .int x3)]) hx hb hf dX8_vote_53 hl (by decide) rfl (fun v8 ls hf hl => ?_)
      refine lv_iload_n hx hb dX8_vote_55 rfl (lv_at hl 4 rfl) ?_
      refine lv_aload_n hx hb dX8_vote_56 rfl (lv_at hl 1 rfl) ?_
      refine q_get (v := .ref (ga Γ 157 0)) hx hb hK hw hown in_X8 ins_X8 (rfl : vwCl[10]? = some (RX8, TX8, 32)) rfl (Nat.le_of_ble_eq_true rfl : 0 < cnt (gn Γ) 8) 21 (by decide) 1375 fl_X8_67 rfl rfl dX8_vote_57 ?_
      refine lv_iload hx hb dX8_vote_60 (lv_at hl 0 rfl) ?_
      refine lv_iload_n hx hb dX8_vote_62 rfl (lv_at hl 3 rfl) ?_
      refine lv_iadd hx hb dX8_vote_63 ?_
      refine q_iald hx hb hK hw (k := 157) (o := 0) (fun _ _ _ => rfl) (Nat.le_of_ble_eq_true rfl : 0 < cnt (gn Γ) 157) hf dX8_vote_64 (fun hf => ?_)
      refine lv_isub hx hb dX8_vote_65 ?_
      refine q_istore (lv1 := [(4, .int v8), (0, .ref (ga Γ 8 0)), (1, .int x1), (2, .int x2), (3, .int x3)]) hx hb hf dX8_vote_66 hl (by decide) rfl (fun v9 ls hf hl => ?_)
      refine lv_iconst (v := 0) hx hb dX8_vote_68 (by decide) ?_
      refine lv_istore (lv' := [(6, .int (0 : Int32)), (5, .int v9), (4, .int v8), (0, .ref (ga Γ 8 0)), (1, .int x1), (2, .int x2), (3, .int x3)]) hx hb dX8_vote_69 hl (by decide) rfl (fun ls hl => ?_)
      have L71 : ∀ (K : Int32 → Int32 → Option ((Int32 × St))) (hkk : ∀ (y5 : Int32) (y6 : Int32) (H : Heap) (locs : List Loc) (ls : Array Slot), K y5 y6 = some (r, τ) → Sit Γ σ6 s H locs → lv_has ls 7 [(0, .ref (ga Γ 8 0)), (1, .int x1), (2, .int x2), (3, .int x3), (4, .int v8), (5, .int y5)] → W p l e { frames := 4, cells := 0, slots := 0, locals := 90 } s m [.ref (ga Γ 8 0), .int x1, .int x2, .int x3].toArray below meth c H locs 0 0 (MQ below (Qg Γ (some (.int r)) τ (AA Γ s.heap.size)) [.ref (ga Γ 8 0), .int x1, .int x2, .int x3].toArray s 0 0 (AA Γ s.heap.size)) (F0 m 99 ls [])) (n : Nat) (v10 : Int32) (v11 : Int32) (H : Heap) (locs : List Loc) (ls : Array Slot), fX8_vote_L71 K N σ6 v8 n v10 v11 = some (r, τ) → Sit Γ σ6 s H locs → lv_has ls 7 [(0, .ref (ga Γ 8 0)), (1, .int x1), (2, .int x2), (3, .int x3), (4, .int v8), (5, .int v10), (6, .int v11)] → W p l e { frames := 4, cells := 0, slots := 0, locals := 90 } s m [.ref (ga Γ 8 0), .int x1, .int x2, .int x3].toArray below meth c H locs 0 0 (MQ below (Qg Γ (some (.int r)) τ (AA Γ s.heap.size)) [.ref (ga Γ 8 0), .int x1, .int x2, .int x3].toArray s 0 0 (AA Γ s.heap.size)) (F0 m 71 ls []) := by
        intro K hkk n
        induction n with
        | zero =>
          intro _ _ _ _ _ hf
          exact nomatch hf
        | succ n ih =>
          intro v10 v11 H locs ls hf hw hl
          refine lv_iload hx hb dX8_vote_71 (lv_at hl 6 rfl) ?_
          refine lv_bipush (v := 12) hx hb dX8_vote_73 (by decide) ?_
          refine q_ic_ge (tgt := 99) hx hb hf dX8_vote_75 (by decide) (fun hf => ?_) (fun hf => ?_)
          · exact hkk _ _ _ _ _ hf hw (lv_sub hl [0, 1, 2, 3, 4, 5] rfl)
          refine lv_iload hx hb dX8_vote_78 (lv_at hl 5 rfl) ?_
          refine lv_aload_n hx hb dX8_vote_80 rfl (lv_at hl 0 rfl) ?_
          refine q_get (v := .ref (ga Γ 157 0)) hx hb hK hw hown in_X8 ins_X8 (rfl : vwCl[10]? = some (RX8, TX8, 32)) rfl (Nat.le_of_ble_eq_true rfl : 0 < cnt (gn Γ) 8) 21 (by decide) 1375 fl_X8_67 rfl rfl dX8_vote_81 ?_
          refine lv_iload hx hb dX8_vote_84 (lv_at hl 4 rfl) ?_
          refine lv_iload hx hb dX8_vote_86 (lv_at hl 6 rfl) ?_
          refine lv_iadd hx hb dX8_vote_88 ?_
          refine q_iald hx hb hK hw (k := 157) (o := 0) (fun _ _ _ => rfl) (Nat.le_of_ble_eq_true rfl : 0 < cnt (gn Γ) 157) hf dX8_vote_89 (fun hf => ?_)
          refine lv_iadd hx hb dX8_vote_90 ?_
          refine q_istore (lv1 := [(0, .ref (ga Γ 8 0)), (1, .int x1), (2, .int x2), (3, .int x3), (4, .int v8), (6, .int v11)]) hx hb hf dX8_vote_91 hl (by decide) rfl (fun v12 ls hf hl => ?_)
          refine q_iinc (lv1 := [(5, .int v12), (0, .ref (ga Γ 8 0)), (1, .int x1), (2, .int x2), (3, .int x3), (4, .int v8)]) (d := 1) hx hb hf dX8_vote_93 hl (k := 6) rfl (by decide) (by decide) rfl (fun v13 ls hf hl => ?_)
          refine lv_goto (tgt := 71) hx hb dX8_vote_96 (by decide) ?_
          exact ih _ _ _ _ _ hf hw (lv_sub hl [2, 3, 4, 5, 6, 1, 0] rfl)
      refine L71 _ (fun v14 _ H locs ls hf hw hl => ?_) N v9 (0 : Int32) _ _ _ hf hw (lv_sub hl [3, 4, 5, 6, 2, 1, 0] rfl)
      refine lv_aload_n hx hb dX8_vote_99 rfl (lv_at hl 0 rfl) ?_
      refine q_get (v := .ref (ga Γ 157 0)) hx hb hK hw hown in_X8 ins_X8 (rfl : vwCl[10]? = some (RX8, TX8, 32)) rfl (Nat.le_of_ble_eq_true rfl : 0 < cnt (gn Γ) 8) 21 (by decide) 1375 fl_X8_67 rfl rfl dX8_vote_100 ?_
      refine lv_bipush (v := 92) hx hb dX8_vote_103 (by decide) ?_
      refine q_iald hx hb hK hw (k := 157) (o := 0) (fun _ _ _ => rfl) (Nat.le_of_ble_eq_true rfl : 0 < cnt (gn Γ) 157) hf dX8_vote_105 (fun hf => ?_)
      refine lv_iconst (v := 1) hx hb dX8_vote_106 (by decide) ?_
      refine q_ic_eq (tgt := 116) hx hb hf dX8_vote_107 (by decide) (fun hf => ?_) (fun hf => ?_)
      · refine lv_aload_n hx hb dX8_vote_116 rfl (lv_at hl 0 rfl) ?_
        refine lv_iconst (v := 3) hx hb dX8_vote_117 (by decide) ?_
        refine q_eI hf hw (fun v τ h => q_rV (As := [.int (3 : Int32)]) (rest := []) (q := (RX8, TX8, 32)) X hK hw rfl (Nat.le_of_ble_eq_true rfl : 0 < cnt (gn Γ) 8) (rfl : vwCl[10]? = _) (kX8_fails h) mvX8_fails lk_X8_172 ⟨Nat.le_of_ble_eq_true rfl, Nat.le_of_ble_eq_true rfl⟩ rfl hl.1 rfl (Nat.le_of_ble_eq_true rfl) dX8_vote_118 ⟨Nat.le_of_ble_eq_true rfl, Nat.le_of_ble_eq_true rfl⟩) (fun v16 σ15 H locs hf hw => ?_)
        exact q_eiret hf hx hb hr rfl hk hw dX8_vote_121 (Nat.le_of_ble_eq_true rfl) (Nat.le_of_ble_eq_true rfl)
      refine lv_iload hx hb dX8_vote_110 (lv_at hl 5 rfl) ?_
      refine lv_iconst (v := 5) hx hb dX8_vote_112 (by decide) ?_
      refine q_ic_le (tgt := 122) hx hb hf dX8_vote_113 (by decide) (fun hf => ?_) (fun hf => ?_)
      · refine lv_aload_n hx hb dX8_vote_122 rfl (lv_at hl 0 rfl) ?_
        refine q_get (v := .int (gI σ6 8 0 20)) hx hb hK hw hown in_X8 ins_X8 (rfl : vwCl[10]? = some (RX8, TX8, 32)) rfl (Nat.le_of_ble_eq_true rfl : 0 < cnt (gn Γ) 8) 20 (by decide) 1374 fl_X8_108 rfl rfl dX8_vote_123 ?_
        refine lv_sipush (v := 250) hx hb dX8_vote_126 (by decide) ?_
        refine q_ic_ne (tgt := 138) hx hb hf dX8_vote_129 (by decide) (fun hf => ?_) (fun hf => ?_)
        · refine lv_aload_n hx hb dX8_vote_138 rfl (lv_at hl 0 rfl) ?_
          refine q_get (v := .ref (ga Γ 157 0)) hx hb hK hw hown in_X8 ins_X8 (rfl : vwCl[10]? = some (RX8, TX8, 32)) rfl (Nat.le_of_ble_eq_true rfl : 0 < cnt (gn Γ) 8) 21 (by decide) 1375 fl_X8_67 rfl rfl dX8_vote_139 ?_
          refine lv_iload hx hb dX8_vote_142 (lv_at hl 4 rfl) ?_
          refine lv_iload_n hx hb dX8_vote_144 rfl (lv_at hl 2 rfl) ?_
          refine lv_iadd hx hb dX8_vote_145 ?_
          refine q_iald hx hb hK hw (k := 157) (o := 0) (fun _ _ _ => rfl) (Nat.le_of_ble_eq_true rfl : 0 < cnt (gn Γ) 157) hf dX8_vote_146 (fun hf => ?_)
          refine q_istore (lv1 := [(0, .ref (ga Γ 8 0)), (1, .int x1), (2, .int x2), (3, .int x3), (4, .int v8), (5, .int v14)]) hx hb hf dX8_vote_147 hl (by decide) rfl (fun v17 ls hf hl => ?_)
          refine lv_aload_n hx hb dX8_vote_149 rfl (lv_at hl 1 rfl) ?_
          refine lv_iload hx hb dX8_vote_150 (lv_at hl 5 rfl) ?_
          refine lv_iload_n hx hb dX8_vote_152 rfl (lv_at hl 3 rfl) ?_
          refine lv_iadd hx hb dX8_vote_153 ?_
          refine lv_iload_n hx hb dX8_vote_154 rfl (lv_at hl 4 rfl) ?_
          refine q_eV hf hw (fun τ h => q_rV (As := [.int (v8 + x2), .int x3]) (rest := []) (q := (RX8, TX8, 32)) X hK hw rfl (Nat.le_of_ble_eq_true rfl : 0 < cnt (gn Γ) 8) (rfl : vwCl[10]? = _) (kX8_plans h) mvX8_plans lk_X8_179 ⟨Nat.le_of_ble_eq_true rfl, Nat.le_of_ble_eq_true rfl⟩ rfl hl.1 rfl (Nat.le_of_ble_eq_true rfl) dX8_vote_155 ⟨Nat.le_of_ble_eq_true rfl, Nat.le_of_ble_eq_true rfl⟩) (fun σ18 H locs hf hw => ?_)
          refine lv_aload_n hx hb dX8_vote_158 rfl (lv_at hl 1 rfl) ?_
          refine lv_iload_n hx hb dX8_vote_159 rfl (lv_at hl 2 rfl) ?_
          refine lv_iconst (v := 1) hx hb dX8_vote_160 (by decide) ?_
          refine q_eV hf hw (fun τ h => q_rV (As := [.int x1, .int (1 : Int32)]) (rest := []) (q := (RX8, TX8, 32)) X hK hw rfl (Nat.le_of_ble_eq_true rfl : 0 < cnt (gn Γ) 8) (rfl : vwCl[10]? = _) (kX8_makes h) mvX8_makes lk_X8_186 ⟨Nat.le_of_ble_eq_true rfl, Nat.le_of_ble_eq_true rfl⟩ rfl hl.1 rfl (Nat.le_of_ble_eq_true rfl) dX8_vote_161 ⟨Nat.le_of_ble_eq_true rfl, Nat.le_of_ble_eq_true rfl⟩) (fun σ19 H locs hf hw => ?_)
          refine lv_iload hx hb dX8_vote_164 (lv_at hl 0 rfl) ?_
          exact q_eiret hf hx hb hr rfl hk hw dX8_vote_166 (Nat.le_of_ble_eq_true rfl) (Nat.le_of_ble_eq_true rfl)
        refine lv_aload_n hx hb dX8_vote_132 rfl (lv_at hl 0 rfl) ?_
        refine lv_iconst (v := 4) hx hb dX8_vote_133 (by decide) ?_
        refine q_eI hf hw (fun v τ h => q_rV (As := [.int (4 : Int32)]) (rest := []) (q := (RX8, TX8, 32)) X hK hw rfl (Nat.le_of_ble_eq_true rfl : 0 < cnt (gn Γ) 8) (rfl : vwCl[10]? = _) (kX8_fails h) mvX8_fails lk_X8_172 ⟨Nat.le_of_ble_eq_true rfl, Nat.le_of_ble_eq_true rfl⟩ rfl hl.1 rfl (Nat.le_of_ble_eq_true rfl) dX8_vote_134 ⟨Nat.le_of_ble_eq_true rfl, Nat.le_of_ble_eq_true rfl⟩) (fun v21 σ20 H locs hf hw => ?_)
        exact q_eiret hf hx hb hr rfl hk hw dX8_vote_137 (Nat.le_of_ble_eq_true rfl) (Nat.le_of_ble_eq_true rfl)
      refine lv_aload_n hx hb dX8_vote_116 rfl (lv_at hl 0 rfl) ?_
      refine lv_iconst (v := 3) hx hb dX8_vote_117 (by decide) ?_
      refine q_eI hf hw (fun v τ h => q_rV (As := [.int (3 : Int32)]) (rest := []) (q := (RX8, TX8, 32)) X hK hw rfl (Nat.le_of_ble_eq_true rfl : 0 < cnt (gn Γ) 8) (rfl : vwCl[10]? = _) (kX8_fails h) mvX8_fails lk_X8_172 ⟨Nat.le_of_ble_eq_true rfl, Nat.le_of_ble_eq_true rfl⟩ rfl hl.1 rfl (Nat.le_of_ble_eq_true rfl) dX8_vote_118 ⟨Nat.le_of_ble_eq_true rfl, Nat.le_of_ble_eq_true rfl⟩) (fun v23 σ22 H locs hf hw => ?_)
      exact q_eiret hf hx hb hr rfl hk hw dX8_vote_121 (Nat.le_of_ble_eq_true rfl) (Nat.le_of_ble_eq_true rfl)
    refine lv_aload_n hx hb dX8_vote_40 rfl (lv_at hl 0 rfl) ?_
    refine lv_iconst (v := 2) hx hb dX8_vote_41 (by decide) ?_
    refine q_eI hf hw (fun v τ h => q_rV (As := [.int (2 : Int32)]) (rest := []) (q := (RX8, TX8, 32)) X hK hw rfl (Nat.le_of_ble_eq_true rfl : 0 < cnt (gn Γ) 8) (rfl : vwCl[10]? = _) (kX8_fails h) mvX8_fails lk_X8_172 ⟨Nat.le_of_ble_eq_true rfl, Nat.le_of_ble_eq_true rfl⟩ rfl hl.1 rfl (Nat.le_of_ble_eq_true rfl) dX8_vote_42 ⟨Nat.le_of_ble_eq_true rfl, Nat.le_of_ble_eq_true rfl⟩) (fun v25 σ24 H locs hf hw => ?_)
    exact q_eiret hf hx hb hr rfl hk hw dX8_vote_45 (Nat.le_of_ble_eq_true rfl) (Nat.le_of_ble_eq_true rfl)
  refine lv_aload_n hx hb dX8_vote_21 rfl (lv_at hl 0 rfl) ?_
  refine lv_iconst (v := 1) hx hb dX8_vote_22 (by decide) ?_
  refine q_eI hf hw (fun v τ h => q_rV (As := [.int (1 : Int32)]) (rest := []) (q := (RX8, TX8, 32)) X hK hw rfl (Nat.le_of_ble_eq_true rfl : 0 < cnt (gn Γ) 8) (rfl : vwCl[10]? = _) (kX8_fails h) mvX8_fails lk_X8_172 ⟨Nat.le_of_ble_eq_true rfl, Nat.le_of_ble_eq_true rfl⟩ rfl hl.1 rfl (Nat.le_of_ble_eq_true rfl) dX8_vote_23 ⟨Nat.le_of_ble_eq_true rfl, Nat.le_of_ble_eq_true rfl⟩) (fun v27 σ26 H locs hf hw => ?_)
  exact q_eiret hf hx hb hr rfl hk hw dX8_vote_26 (Nat.le_of_ble_eq_true rfl) (Nat.le_of_ble_eq_true rfl)
set_option maxRecDepth 100000 in
theorem kX8_show {Γ : Gm} {S : List (String × Nat × String)} {l : Launch} {N : Nat} {σ τ : St} {x1 : Int32} {x2 : Int32} {r : Int32}  (hf : fX8_show N σ x1 x2 = some (r, τ)) : CT Γ S l yX8_show cX8_show 4 (some (.boolean)) 4 90 0 0 [.ref (ga Γ 8 0), .int x1, .int x2] (some (.int r)) σ τ := by
  unfold fX8_show at hf
  refine ct_body (lv := [(0, .ref (ga Γ 8 0)), (1, .int x1), (2, .int x2)]) (by decide +kernel) rfl (Nat.le_of_ble_eq_true rfl) ?_
  intro p e s m below meth c ls X hr hk hK hw hl
  have hx := X.1
  have hb := X.2.1
  have hown := X.2.2.2
  refine lv_aload_n hx hb dX8_show_0 rfl (lv_at hl 0 rfl) ?_
  refine lv_iconst (v := 0) hx hb dX8_show_1 (by decide) ?_
  refine q_puti (v := (0 : Int32)) hx hb hK hw hown in_X8 ins_X8 tyX8 tyX8_ok nmX8 (rfl : vwCl[10]? = some (RX8, TX8, 32)) (fun _ _ _ => rfl) (Nat.le_of_ble_eq_true rfl : 0 < cnt (gn Γ) 8) 0 (by decide) 1354 fl_X8_97 rfl rfl rfl (fun _ _ _ => Nat.le_of_ble_eq_true rfl) (fun _ _ _ => rfl) hf dX8_show_2 (fun σ1 H locs hf hw => ?_)
  refine lv_iload_n hx hb dX8_show_5 rfl (lv_at hl 1 rfl) ?_
  refine q_pI hf hw (fun v h => q_rS (As := [.int x1]) (rest := []) X hK hw (kX8_isUser h) msX8_isUser lk_X8_165 ⟨Nat.le_of_ble_eq_true rfl, Nat.le_of_ble_eq_true rfl⟩ rfl hl.1 rfl (Nat.le_of_ble_eq_true rfl) dX8_show_6 ⟨Nat.le_of_ble_eq_true rfl, Nat.le_of_ble_eq_true rfl⟩) (fun v2 H locs hf hw => ?_)
  refine q_if_ne (tgt := 18) hx hb hf dX8_show_9 (by decide) (fun hf => ?_) (fun hf => ?_)
  · refine lv_aload_n hx hb dX8_show_18 rfl (lv_at hl 0 rfl) ?_
    refine q_get (v := .int (gI σ1 8 0 20)) hx hb hK hw hown in_X8 ins_X8 (rfl : vwCl[10]? = some (RX8, TX8, 32)) rfl (Nat.le_of_ble_eq_true rfl : 0 < cnt (gn Γ) 8) 20 (by decide) 1374 fl_X8_108 rfl rfl dX8_show_19 ?_
    refine lv_sipush (v := 250) hx hb dX8_show_22 (by decide) ?_
    refine q_ic_ne (tgt := 34) hx hb hf dX8_show_25 (by decide) (fun hf => ?_) (fun hf => ?_)
    · refine lv_aload_n hx hb dX8_show_34 rfl (lv_at hl 0 rfl) ?_
      refine lv_iload_n hx hb dX8_show_35 rfl (lv_at hl 1 rfl) ?_
      refine q_eV hf hw (fun τ h => q_rV (As := [.int x1]) (rest := []) (q := (RX8, TX8, 32)) X hK hw rfl (Nat.le_of_ble_eq_true rfl : 0 < cnt (gn Γ) 8) (rfl : vwCl[10]? = _) (kX8_builds h) mvX8_builds lk_X8_161 ⟨Nat.le_of_ble_eq_true rfl, Nat.le_of_ble_eq_true rfl⟩ rfl hl.1 rfl (Nat.le_of_ble_eq_true rfl) dX8_show_36 ⟨Nat.le_of_ble_eq_true rfl, Nat.le_of_ble_eq_true rfl⟩) (fun σ3 H locs hf hw => ?_)
      refine lv_aload_n hx hb dX8_show_39 rfl (lv_at hl 0 rfl) ?_
      refine q_get (v := .ref (ga Γ 157 0)) hx hb hK hw hown in_X8 ins_X8 (rfl : vwCl[10]? = some (RX8, TX8, 32)) rfl (Nat.le_of_ble_eq_true rfl : 0 < cnt (gn Γ) 8) 21 (by decide) 1375 fl_X8_67 rfl rfl dX8_show_40 ?_
      refine lv_bipush (v := 92) hx hb dX8_show_43 (by decide) ?_
      refine q_iald hx hb hK hw (k := 157) (o := 0) (fun _ _ _ => rfl) (Nat.le_of_ble_eq_true rfl : 0 < cnt (gn Γ) 157) hf dX8_show_45 (fun hf => ?_)
      refine lv_iconst (v := 1) hx hb dX8_show_46 (by decide) ?_
      refine q_ic_ne (tgt := 54) hx hb hf dX8_show_47 (by decide) (fun hf => ?_) (fun hf => ?_)
      · refine lv_iconst (v := 0) hx hb dX8_show_54 (by decide) ?_
        refine lv_istore_n (lv' := [(3, .int (0 : Int32)), (0, .ref (ga Γ 8 0)), (1, .int x1), (2, .int x2)]) hx hb dX8_show_55 rfl hl (by decide) rfl (fun ls hl => ?_)
        refine lv_aload_n hx hb dX8_show_56 rfl (lv_at hl 1 rfl) ?_
        refine lv_bipush (v := 92) hx hb dX8_show_57 (by decide) ?_
        refine lv_iload_n hx hb dX8_show_59 rfl (lv_at hl 3 rfl) ?_
        refine q_if_eq (tgt := 67) hx hb hf dX8_show_60 (by decide) (fun hf => ?_) (fun hf => ?_)
        · refine lv_iconst (v := 0) hx hb dX8_show_67 (by decide) ?_
          refine q_eV hf hw (fun τ h => q_rV (As := [.int (92 : Int32), .int (0 : Int32)]) (rest := []) (q := (RX8, TX8, 32)) X hK hw rfl (Nat.le_of_ble_eq_true rfl : 0 < cnt (gn Γ) 8) (rfl : vwCl[10]? = _) (kX8_plans h) mvX8_plans lk_X8_179 ⟨Nat.le_of_ble_eq_true rfl, Nat.le_of_ble_eq_true rfl⟩ rfl hl.1 rfl (Nat.le_of_ble_eq_true rfl) dX8_show_68 ⟨Nat.le_of_ble_eq_true rfl, Nat.le_of_ble_eq_true rfl⟩) (fun σ4 H locs hf hw => ?_)
          refine lv_aload_n hx hb dX8_show_71 rfl (lv_at hl 1 rfl) ?_
          refine lv_iload_n hx hb dX8_show_72 rfl (lv_at hl 2 rfl) ?_
          refine lv_iconst (v := 1) hx hb dX8_show_73 (by decide) ?_
          refine q_eV hf hw (fun τ h => q_rV (As := [.int x1, .int (1 : Int32)]) (rest := []) (q := (RX8, TX8, 32)) X hK hw rfl (Nat.le_of_ble_eq_true rfl : 0 < cnt (gn Γ) 8) (rfl : vwCl[10]? = _) (kX8_makes h) mvX8_makes lk_X8_186 ⟨Nat.le_of_ble_eq_true rfl, Nat.le_of_ble_eq_true rfl⟩ rfl hl.1 rfl (Nat.le_of_ble_eq_true rfl) dX8_show_74 ⟨Nat.le_of_ble_eq_true rfl, Nat.le_of_ble_eq_true rfl⟩) (fun σ5 H locs hf hw => ?_)
          refine lv_iload_n hx hb dX8_show_77 rfl (lv_at hl 0 rfl) ?_
          exact q_eiret hf hx hb hr rfl hk hw dX8_show_78 (Nat.le_of_ble_eq_true rfl) (Nat.le_of_ble_eq_true rfl)
        refine lv_iconst (v := 1) hx hb dX8_show_63 (by decide) ?_
        refine lv_goto (tgt := 68) hx hb dX8_show_64 (by decide) ?_
        refine q_eV hf hw (fun τ h => q_rV (As := [.int (92 : Int32), .int (1 : Int32)]) (rest := []) (q := (RX8, TX8, 32)) X hK hw rfl (Nat.le_of_ble_eq_true rfl : 0 < cnt (gn Γ) 8) (rfl : vwCl[10]? = _) (kX8_plans h) mvX8_plans lk_X8_179 ⟨Nat.le_of_ble_eq_true rfl, Nat.le_of_ble_eq_true rfl⟩ rfl hl.1 rfl (Nat.le_of_ble_eq_true rfl) dX8_show_68 ⟨Nat.le_of_ble_eq_true rfl, Nat.le_of_ble_eq_true rfl⟩) (fun σ6 H locs hf hw => ?_)
        refine lv_aload_n hx hb dX8_show_71 rfl (lv_at hl 1 rfl) ?_
        refine lv_iload_n hx hb dX8_show_72 rfl (lv_at hl 2 rfl) ?_
        refine lv_iconst (v := 1) hx hb dX8_show_73 (by decide) ?_
        refine q_eV hf hw (fun τ h => q_rV (As := [.int x1, .int (1 : Int32)]) (rest := []) (q := (RX8, TX8, 32)) X hK hw rfl (Nat.le_of_ble_eq_true rfl : 0 < cnt (gn Γ) 8) (rfl : vwCl[10]? = _) (kX8_makes h) mvX8_makes lk_X8_186 ⟨Nat.le_of_ble_eq_true rfl, Nat.le_of_ble_eq_true rfl⟩ rfl hl.1 rfl (Nat.le_of_ble_eq_true rfl) dX8_show_74 ⟨Nat.le_of_ble_eq_true rfl, Nat.le_of_ble_eq_true rfl⟩) (fun σ7 H locs hf hw => ?_)
        refine lv_iload_n hx hb dX8_show_77 rfl (lv_at hl 0 rfl) ?_
        exact q_eiret hf hx hb hr rfl hk hw dX8_show_78 (Nat.le_of_ble_eq_true rfl) (Nat.le_of_ble_eq_true rfl)
      refine lv_iconst (v := 1) hx hb dX8_show_50 (by decide) ?_
      refine lv_goto (tgt := 55) hx hb dX8_show_51 (by decide) ?_
      refine lv_istore_n (lv' := [(3, .int (1 : Int32)), (0, .ref (ga Γ 8 0)), (1, .int x1), (2, .int x2)]) hx hb dX8_show_55 rfl hl (by decide) rfl (fun ls hl => ?_)
      refine lv_aload_n hx hb dX8_show_56 rfl (lv_at hl 1 rfl) ?_
      refine lv_bipush (v := 92) hx hb dX8_show_57 (by decide) ?_
      refine lv_iload_n hx hb dX8_show_59 rfl (lv_at hl 3 rfl) ?_
      refine q_if_eq (tgt := 67) hx hb hf dX8_show_60 (by decide) (fun hf => ?_) (fun hf => ?_)
      · refine lv_iconst (v := 0) hx hb dX8_show_67 (by decide) ?_
        refine q_eV hf hw (fun τ h => q_rV (As := [.int (92 : Int32), .int (0 : Int32)]) (rest := []) (q := (RX8, TX8, 32)) X hK hw rfl (Nat.le_of_ble_eq_true rfl : 0 < cnt (gn Γ) 8) (rfl : vwCl[10]? = _) (kX8_plans h) mvX8_plans lk_X8_179 ⟨Nat.le_of_ble_eq_true rfl, Nat.le_of_ble_eq_true rfl⟩ rfl hl.1 rfl (Nat.le_of_ble_eq_true rfl) dX8_show_68 ⟨Nat.le_of_ble_eq_true rfl, Nat.le_of_ble_eq_true rfl⟩) (fun σ8 H locs hf hw => ?_)
        refine lv_aload_n hx hb dX8_show_71 rfl (lv_at hl 1 rfl) ?_
        refine lv_iload_n hx hb dX8_show_72 rfl (lv_at hl 2 rfl) ?_
        refine lv_iconst (v := 1) hx hb dX8_show_73 (by decide) ?_
        refine q_eV hf hw (fun τ h => q_rV (As := [.int x1, .int (1 : Int32)]) (rest := []) (q := (RX8, TX8, 32)) X hK hw rfl (Nat.le_of_ble_eq_true rfl : 0 < cnt (gn Γ) 8) (rfl : vwCl[10]? = _) (kX8_makes h) mvX8_makes lk_X8_186 ⟨Nat.le_of_ble_eq_true rfl, Nat.le_of_ble_eq_true rfl⟩ rfl hl.1 rfl (Nat.le_of_ble_eq_true rfl) dX8_show_74 ⟨Nat.le_of_ble_eq_true rfl, Nat.le_of_ble_eq_true rfl⟩) (fun σ9 H locs hf hw => ?_)
        refine lv_iload_n hx hb dX8_show_77 rfl (lv_at hl 0 rfl) ?_
        exact q_eiret hf hx hb hr rfl hk hw dX8_show_78 (Nat.le_of_ble_eq_true rfl) (Nat.le_of_ble_eq_true rfl)
      refine lv_iconst (v := 1) hx hb dX8_show_63 (by decide) ?_
      refine lv_goto (tgt := 68) hx hb dX8_show_64 (by decide) ?_
      refine q_eV hf hw (fun τ h => q_rV (As := [.int (92 : Int32), .int (1 : Int32)]) (rest := []) (q := (RX8, TX8, 32)) X hK hw rfl (Nat.le_of_ble_eq_true rfl : 0 < cnt (gn Γ) 8) (rfl : vwCl[10]? = _) (kX8_plans h) mvX8_plans lk_X8_179 ⟨Nat.le_of_ble_eq_true rfl, Nat.le_of_ble_eq_true rfl⟩ rfl hl.1 rfl (Nat.le_of_ble_eq_true rfl) dX8_show_68 ⟨Nat.le_of_ble_eq_true rfl, Nat.le_of_ble_eq_true rfl⟩) (fun σ10 H locs hf hw => ?_)
      refine lv_aload_n hx hb dX8_show_71 rfl (lv_at hl 1 rfl) ?_
      refine lv_iload_n hx hb dX8_show_72 rfl (lv_at hl 2 rfl) ?_
      refine lv_iconst (v := 1) hx hb dX8_show_73 (by decide) ?_
      refine q_eV hf hw (fun τ h => q_rV (As := [.int x1, .int (1 : Int32)]) (rest := []) (q := (RX8, TX8, 32)) X hK hw rfl (Nat.le_of_ble_eq_true rfl : 0 < cnt (gn Γ) 8) (rfl : vwCl[10]? = _) (kX8_makes h) mvX8_makes lk_X8_186 ⟨Nat.le_of_ble_eq_true rfl, Nat.le_of_ble_eq_true rfl⟩ rfl hl.1 rfl (Nat.le_of_ble_eq_true rfl) dX8_show_74 ⟨Nat.le_of_ble_eq_true rfl, Nat.le_of_ble_eq_true rfl⟩) (fun σ11 H locs hf hw => ?_)
      refine lv_iload_n hx hb dX8_show_77 rfl (lv_at hl 0 rfl) ?_
      exact q_eiret hf hx hb hr rfl hk hw dX8_show_78 (Nat.le_of_ble_eq_true rfl) (Nat.le_of_ble_eq_true rfl)
    refine lv_aload_n hx hb dX8_show_28 rfl (lv_at hl 0 rfl) ?_
    refine lv_iconst (v := 2) hx hb dX8_show_29 (by decide) ?_
    refine q_eI hf hw (fun v τ h => q_rV (As := [.int (2 : Int32)]) (rest := []) (q := (RX8, TX8, 32)) X hK hw rfl (Nat.le_of_ble_eq_true rfl : 0 < cnt (gn Γ) 8) (rfl : vwCl[10]? = _) (kX8_isWrong h) mvX8_isWrong lk_X8_219 ⟨Nat.le_of_ble_eq_true rfl, Nat.le_of_ble_eq_true rfl⟩ rfl hl.1 rfl (Nat.le_of_ble_eq_true rfl) dX8_show_30 ⟨Nat.le_of_ble_eq_true rfl, Nat.le_of_ble_eq_true rfl⟩) (fun v13 σ12 H locs hf hw => ?_)
    exact q_enret hf hx hb hr vn_Z hk hw dX8_show_33 (Nat.le_of_ble_eq_true rfl) (Nat.le_of_ble_eq_true rfl)
  refine lv_aload_n hx hb dX8_show_12 rfl (lv_at hl 0 rfl) ?_
  refine lv_iconst (v := 1) hx hb dX8_show_13 (by decide) ?_
  refine q_eI hf hw (fun v τ h => q_rV (As := [.int (1 : Int32)]) (rest := []) (q := (RX8, TX8, 32)) X hK hw rfl (Nat.le_of_ble_eq_true rfl : 0 < cnt (gn Γ) 8) (rfl : vwCl[10]? = _) (kX8_isWrong h) mvX8_isWrong lk_X8_219 ⟨Nat.le_of_ble_eq_true rfl, Nat.le_of_ble_eq_true rfl⟩ rfl hl.1 rfl (Nat.le_of_ble_eq_true rfl) dX8_show_14 ⟨Nat.le_of_ble_eq_true rfl, Nat.le_of_ble_eq_true rfl⟩) (fun v15 σ14 H locs hf hw => ?_)
  exact q_enret hf hx hb hr vn_Z hk hw dX8_show_17 (Nat.le_of_ble_eq_true rfl) (Nat.le_of_ble_eq_true rfl)
set_option maxRecDepth 100000 in
theorem kX8_takeBack {Γ : Gm} {S : List (String × Nat × String)} {l : Launch} {N : Nat} {σ τ : St} {x1 : Int32} {r : Int32}  (hf : fX8_takeBack N σ x1 = some (r, τ)) : CT Γ S l yX8_takeBack cX8_takeBack 4 (some (.int)) 4 90 0 0 [.ref (ga Γ 8 0), .int x1] (some (.int r)) σ τ := by
  unfold fX8_takeBack at hf
  refine ct_body (lv := [(0, .ref (ga Γ 8 0)), (1, .int x1)]) (by decide +kernel) rfl (Nat.le_of_ble_eq_true rfl) ?_
  intro p e s m below meth c ls X hr hk hK hw hl
  have hx := X.1
  have hb := X.2.1
  have hown := X.2.2.2
  refine lv_aload_n hx hb dX8_takeBack_0 rfl (lv_at hl 0 rfl) ?_
  refine lv_iconst (v := 0) hx hb dX8_takeBack_1 (by decide) ?_
  refine q_puti (v := (0 : Int32)) hx hb hK hw hown in_X8 ins_X8 tyX8 tyX8_ok nmX8 (rfl : vwCl[10]? = some (RX8, TX8, 32)) (fun _ _ _ => rfl) (Nat.le_of_ble_eq_true rfl : 0 < cnt (gn Γ) 8) 0 (by decide) 1354 fl_X8_97 rfl rfl rfl (fun _ _ _ => Nat.le_of_ble_eq_true rfl) (fun _ _ _ => rfl) hf dX8_takeBack_2 (fun σ1 H locs hf hw => ?_)
  refine lv_iload_n hx hb dX8_takeBack_5 rfl (lv_at hl 1 rfl) ?_
  refine q_pI hf hw (fun v h => q_rS (As := [.int x1]) (rest := []) X hK hw (kX8_isUser h) msX8_isUser lk_X8_165 ⟨Nat.le_of_ble_eq_true rfl, Nat.le_of_ble_eq_true rfl⟩ rfl hl.1 rfl (Nat.le_of_ble_eq_true rfl) dX8_takeBack_6 ⟨Nat.le_of_ble_eq_true rfl, Nat.le_of_ble_eq_true rfl⟩) (fun v2 H locs hf hw => ?_)
  refine q_if_ne (tgt := 18) hx hb hf dX8_takeBack_9 (by decide) (fun hf => ?_) (fun hf => ?_)
  · refine lv_aload_n hx hb dX8_takeBack_18 rfl (lv_at hl 0 rfl) ?_
    refine q_get (v := .int (gI σ1 8 0 20)) hx hb hK hw hown in_X8 ins_X8 (rfl : vwCl[10]? = some (RX8, TX8, 32)) rfl (Nat.le_of_ble_eq_true rfl : 0 < cnt (gn Γ) 8) 20 (by decide) 1374 fl_X8_108 rfl rfl dX8_takeBack_19 ?_
    refine lv_iconst (v := 1) hx hb dX8_takeBack_22 (by decide) ?_
    refine lv_isub hx hb dX8_takeBack_23 ?_
    refine q_istore_n (lv1 := [(0, .ref (ga Γ 8 0)), (1, .int x1)]) hx hb hf dX8_takeBack_24 rfl hl (by decide) rfl (fun v3 ls hf hl => ?_)
    have L25 : ∀ (K : Int32 → Option ((Int32 × St))) (hkk : ∀ (y2 : Int32) (H : Heap) (locs : List Loc) (ls : Array Slot), K y2 = some (r, τ) → Sit Γ σ1 s H locs → lv_has ls 4 [(0, .ref (ga Γ 8 0)), (1, .int x1), (2, .int y2)] → W p l e { frames := 4, cells := 0, slots := 0, locals := 90 } s m [.ref (ga Γ 8 0), .int x1].toArray below meth c H locs 0 0 (MQ below (Qg Γ (some (.int r)) τ (AA Γ s.heap.size)) [.ref (ga Γ 8 0), .int x1].toArray s 0 0 (AA Γ s.heap.size)) (F0 m 54 ls [])) (n : Nat) (v4 : Int32) (H : Heap) (locs : List Loc) (ls : Array Slot), fX8_takeBack_L25 K N x1 σ1 n v4 = some (r, τ) → Sit Γ σ1 s H locs → lv_has ls 4 [(0, .ref (ga Γ 8 0)), (1, .int x1), (2, .int v4)] → W p l e { frames := 4, cells := 0, slots := 0, locals := 90 } s m [.ref (ga Γ 8 0), .int x1].toArray below meth c H locs 0 0 (MQ below (Qg Γ (some (.int r)) τ (AA Γ s.heap.size)) [.ref (ga Γ 8 0), .int x1].toArray s 0 0 (AA Γ s.heap.size)) (F0 m 25 ls []) := by
      intro K hkk n
      induction n with
      | zero =>
        intro _ _ _ _ hf
        exact nomatch hf
      | succ n ih =>
        intro v4 H locs ls hf hw hl
        refine lv_iload_n hx hb dX8_takeBack_25 rfl (lv_at hl 2 rfl) ?_
        refine q_if_lt (tgt := 54) hx hb hf dX8_takeBack_26 (by decide) (fun hf => ?_) (fun hf => ?_)
        · exact hkk _ _ _ _ hf hw (lv_sub hl [0, 1, 2] rfl)
        refine lv_aload_n hx hb dX8_takeBack_29 rfl (lv_at hl 0 rfl) ?_
        refine q_get (v := .ref (ga Γ 155 0)) hx hb hK hw hown in_X8 ins_X8 (rfl : vwCl[10]? = some (RX8, TX8, 32)) rfl (Nat.le_of_ble_eq_true rfl : 0 < cnt (gn Γ) 8) 18 (by decide) 1372 fl_X8_59 rfl rfl dX8_takeBack_30 ?_
        refine lv_iload_n hx hb dX8_takeBack_33 rfl (lv_at hl 2 rfl) ?_
        refine q_zald hx hb hK hw (k := 155) (o := 0) (fun _ _ _ => rfl) (Nat.le_of_ble_eq_true rfl : 0 < cnt (gn Γ) 155) hf dX8_takeBack_34 (fun hf => ?_)
        refine q_if_eq (tgt := 48) hx hb hf dX8_takeBack_35 (by decide) (fun hf => ?_) (fun hf => ?_)
        · refine q_iinc (lv1 := [(0, .ref (ga Γ 8 0)), (1, .int x1)]) (d := (-1)) hx hb hf dX8_takeBack_48 hl (k := 2) rfl (by decide) (by decide) rfl (fun v5 ls hf hl => ?_)
          refine lv_goto (tgt := 25) hx hb dX8_takeBack_51 (by decide) ?_
          exact ih _ _ _ _ hf hw (lv_sub hl [1, 2, 0] rfl)
        refine lv_aload_n hx hb dX8_takeBack_38 rfl (lv_at hl 0 rfl) ?_
        refine q_get (v := .ref (ga Γ 147 0)) hx hb hK hw hown in_X8 ins_X8 (rfl : vwCl[10]? = some (RX8, TX8, 32)) rfl (Nat.le_of_ble_eq_true rfl : 0 < cnt (gn Γ) 8) 10 (by decide) 1364 fl_X8_33 rfl rfl dX8_takeBack_39 ?_
        refine lv_iload_n hx hb dX8_takeBack_42 rfl (lv_at hl 2 rfl) ?_
        refine q_iald hx hb hK hw (k := 147) (o := 0) (fun _ _ _ => rfl) (Nat.le_of_ble_eq_true rfl : 0 < cnt (gn Γ) 147) hf dX8_takeBack_43 (fun hf => ?_)
        refine lv_iload_n hx hb dX8_takeBack_44 rfl (lv_at hl 1 rfl) ?_
        refine q_ic_eq (tgt := 54) hx hb hf dX8_takeBack_45 (by decide) (fun hf => ?_) (fun hf => ?_)
        · exact hkk _ _ _ _ hf hw (lv_sub hl [0, 1, 2] rfl)
        refine q_iinc (lv1 := [(0, .ref (ga Γ 8 0)), (1, .int x1)]) (d := (-1)) hx hb hf dX8_takeBack_48 hl (k := 2) rfl (by decide) (by decide) rfl (fun v6 ls hf hl => ?_)
        refine lv_goto (tgt := 25) hx hb dX8_takeBack_51 (by decide) ?_
        exact ih _ _ _ _ hf hw (lv_sub hl [1, 2, 0] rfl)
    refine L25 _ (fun v7 H locs ls hf hw hl => ?_) N v3 _ _ _ hf hw (lv_sub hl [1, 2, 0] rfl)
    refine lv_iload_n hx hb dX8_takeBack_54 rfl (lv_at hl 2 rfl) ?_
    refine q_if_ge (tgt := 64) hx hb hf dX8_takeBack_55 (by decide) (fun hf => ?_) (fun hf => ?_)
    · refine lv_aload_n hx hb dX8_takeBack_64 rfl (lv_at hl 0 rfl) ?_
      refine q_get (v := .int (gI σ1 8 0 20)) hx hb hK hw hown in_X8 ins_X8 (rfl : vwCl[10]? = some (RX8, TX8, 32)) rfl (Nat.le_of_ble_eq_true rfl : 0 < cnt (gn Γ) 8) 20 (by decide) 1374 fl_X8_108 rfl rfl dX8_takeBack_65 ?_
      refine lv_sipush (v := 250) hx hb dX8_takeBack_68 (by decide) ?_
      refine q_ic_ne (tgt := 80) hx hb hf dX8_takeBack_71 (by decide) (fun hf => ?_) (fun hf => ?_)
      · refine lv_aload_n hx hb dX8_takeBack_80 rfl (lv_at hl 0 rfl) ?_
        refine lv_iload_n hx hb dX8_takeBack_81 rfl (lv_at hl 1 rfl) ?_
        refine q_eV hf hw (fun τ h => q_rV (As := [.int x1]) (rest := []) (q := (RX8, TX8, 32)) X hK hw rfl (Nat.le_of_ble_eq_true rfl : 0 < cnt (gn Γ) 8) (rfl : vwCl[10]? = _) (kX8_builds h) mvX8_builds lk_X8_161 ⟨Nat.le_of_ble_eq_true rfl, Nat.le_of_ble_eq_true rfl⟩ rfl hl.1 rfl (Nat.le_of_ble_eq_true rfl) dX8_takeBack_82 ⟨Nat.le_of_ble_eq_true rfl, Nat.le_of_ble_eq_true rfl⟩) (fun σ8 H locs hf hw => ?_)
        refine lv_iconst (v := 0) hx hb dX8_takeBack_85 (by decide) ?_
        refine lv_istore_n (lv' := [(3, .int (0 : Int32)), (0, .ref (ga Γ 8 0)), (1, .int x1), (2, .int v7)]) hx hb dX8_takeBack_86 rfl hl (by decide) rfl (fun ls hl => ?_)
        have L87 : ∀ (K : Int32 → St → Option ((Int32 × St))) (hkk : ∀ (y3 : Int32) (σq : St) (H : Heap) (locs : List Loc) (ls : Array Slot), K y3 σq = some (r, τ) → Sit Γ σq s H locs → lv_has ls 4 [(0, .ref (ga Γ 8 0)), (1, .int x1), (2, .int v7)] → W p l e { frames := 4, cells := 0, slots := 0, locals := 90 } s m [.ref (ga Γ 8 0), .int x1].toArray below meth c H locs 0 0 (MQ below (Qg Γ (some (.int r)) τ (AA Γ s.heap.size)) [.ref (ga Γ 8 0), .int x1].toArray s 0 0 (AA Γ s.heap.size)) (F0 m 148 ls [])) (n : Nat) (v9 : Int32) (σ10 : St) (H : Heap) (locs : List Loc) (ls : Array Slot), fX8_takeBack_L87 K N v7 n v9 σ10 = some (r, τ) → Sit Γ σ10 s H locs → lv_has ls 4 [(0, .ref (ga Γ 8 0)), (1, .int x1), (2, .int v7), (3, .int v9)] → W p l e { frames := 4, cells := 0, slots := 0, locals := 90 } s m [.ref (ga Γ 8 0), .int x1].toArray below meth c H locs 0 0 (MQ below (Qg Γ (some (.int r)) τ (AA Γ s.heap.size)) [.ref (ga Γ 8 0), .int x1].toArray s 0 0 (AA Γ s.heap.size)) (F0 m 87 ls []) := by
          intro K hkk n
          induction n with
          | zero =>
            intro _ _ _ _ _ hf
            exact nomatch hf
          | succ n ih =>
            intro v9 σ10 H locs ls hf hw hl
            refine lv_iload_n hx hb dX8_takeBack_87 rfl (lv_at hl 3 rfl) ?_
            refine lv_aload_n hx hb dX8_takeBack_88 rfl (lv_at hl 0 rfl) ?_
            refine q_get (v := .ref (ga Γ 149 0)) hx hb hK hw hown in_X8 ins_X8 (rfl : vwCl[10]? = some (RX8, TX8, 32)) rfl (Nat.le_of_ble_eq_true rfl : 0 < cnt (gn Γ) 8) 12 (by decide) 1366 fl_X8_39 rfl rfl dX8_takeBack_89 ?_
            refine lv_iload_n hx hb dX8_takeBack_92 rfl (lv_at hl 2 rfl) ?_
            refine q_iald hx hb hK hw (k := 149) (o := 0) (fun _ _ _ => rfl) (Nat.le_of_ble_eq_true rfl : 0 < cnt (gn Γ) 149) hf dX8_takeBack_93 (fun hf => ?_)
            refine q_ic_ge (tgt := 148) hx hb hf dX8_takeBack_94 (by decide) (fun hf => ?_) (fun hf => ?_)
            · exact hkk _ _ _ _ _ hf hw (lv_sub hl [0, 1, 2] rfl)
            refine lv_aload_n hx hb dX8_takeBack_97 rfl (lv_at hl 0 rfl) ?_
            refine q_get (v := .ref (ga Γ 159 0)) hx hb hK hw hown in_X8 ins_X8 (rfl : vwCl[10]? = some (RX8, TX8, 32)) rfl (Nat.le_of_ble_eq_true rfl : 0 < cnt (gn Γ) 8) 23 (by decide) 1377 fl_X8_73 rfl rfl dX8_takeBack_98 ?_
            refine lv_aload_n hx hb dX8_takeBack_101 rfl (lv_at hl 0 rfl) ?_
            refine q_get (v := .ref (ga Γ 150 0)) hx hb hK hw hown in_X8 ins_X8 (rfl : vwCl[10]? = some (RX8, TX8, 32)) rfl (Nat.le_of_ble_eq_true rfl : 0 < cnt (gn Γ) 8) 13 (by decide) 1367 fl_X8_44 rfl rfl dX8_takeBack_102 ?_
            refine lv_iload_n hx hb dX8_takeBack_105 rfl (lv_at hl 2 rfl) ?_
            have ho_b11 := inb_lt (ck_t hf).1
            refine q_aalA hx hb hK hw (k := 150) (o := 0) (fun _ _ _ => rfl) (Nat.le_of_ble_eq_true rfl : 0 < cnt (gn Γ) 150) hf dX8_takeBack_106 (fun hf => ?_)
            refine lv_iload_n hx hb dX8_takeBack_107 rfl (lv_at hl 3 rfl) ?_
            refine q_iald hx hb hK hw (k := 160) (o := (Int32.toNatClampNeg v7)) (fun _ _ _ => rfl) ho_b11 hf dX8_takeBack_108 (fun hf => ?_)
            refine q_iald hx hb hK hw (k := 159) (o := 0) (fun _ _ _ => rfl) (Nat.le_of_ble_eq_true rfl : 0 < cnt (gn Γ) 159) hf dX8_takeBack_109 (fun hf => ?_)
            refine lv_iload_n hx hb dX8_takeBack_110 rfl (lv_at hl 2 rfl) ?_
            refine q_ic_ne (tgt := 142) hx hb hf dX8_takeBack_111 (by decide) (fun hf => ?_) (fun hf => ?_)
            · refine q_iinc (lv1 := [(0, .ref (ga Γ 8 0)), (1, .int x1), (2, .int v7)]) (d := 1) hx hb hf dX8_takeBack_142 hl (k := 3) rfl (by decide) (by decide) rfl (fun v12 ls hf hl => ?_)
              refine lv_goto (tgt := 87) hx hb dX8_takeBack_145 (by decide) ?_
              exact ih _ _ _ _ _ hf hw (lv_sub hl [1, 2, 3, 0] rfl)
            refine lv_aload_n hx hb dX8_takeBack_114 rfl (lv_at hl 0 rfl) ?_
            refine lv_aload_n hx hb dX8_takeBack_115 rfl (lv_at hl 0 rfl) ?_
            refine q_get (v := .ref (ga Γ 150 0)) hx hb hK hw hown in_X8 ins_X8 (rfl : vwCl[10]? = some (RX8, TX8, 32)) rfl (Nat.le_of_ble_eq_true rfl : 0 < cnt (gn Γ) 8) 13 (by decide) 1367 fl_X8_44 rfl rfl dX8_takeBack_116 ?_
            refine lv_iload_n hx hb dX8_takeBack_119 rfl (lv_at hl 2 rfl) ?_
            have ho_b13 := inb_lt (ck_t hf).1
            refine q_aalA hx hb hK hw (k := 150) (o := 0) (fun _ _ _ => rfl) (Nat.le_of_ble_eq_true rfl : 0 < cnt (gn Γ) 150) hf dX8_takeBack_120 (fun hf => ?_)
            refine lv_iload_n hx hb dX8_takeBack_121 rfl (lv_at hl 3 rfl) ?_
            refine q_iald hx hb hK hw (k := 160) (o := (Int32.toNatClampNeg v7)) (fun _ _ _ => rfl) ho_b13 hf dX8_takeBack_122 (fun hf => ?_)
            refine lv_aload_n hx hb dX8_takeBack_123 rfl (lv_at hl 0 rfl) ?_
            refine q_get (v := .ref (ga Γ 152 0)) hx hb hK hw hown in_X8 ins_X8 (rfl : vwCl[10]? = some (RX8, TX8, 32)) rfl (Nat.le_of_ble_eq_true rfl : 0 < cnt (gn Γ) 8) 15 (by decide) 1369 fl_X8_50 rfl rfl dX8_takeBack_124 ?_
            refine lv_iload_n hx hb dX8_takeBack_127 rfl (lv_at hl 2 rfl) ?_
            have ho_b14 := inb_lt (ck_t hf).1
            refine q_aalA hx hb hK hw (k := 152) (o := 0) (fun _ _ _ => rfl) (Nat.le_of_ble_eq_true rfl : 0 < cnt (gn Γ) 152) hf dX8_takeBack_128 (fun hf => ?_)
            refine lv_iload_n hx hb dX8_takeBack_129 rfl (lv_at hl 3 rfl) ?_
            refine q_iald hx hb hK hw (k := 162) (o := (Int32.toNatClampNeg v7)) (fun _ _ _ => rfl) ho_b14 hf dX8_takeBack_130 (fun hf => ?_)
            refine lv_aload_n hx hb dX8_takeBack_131 rfl (lv_at hl 0 rfl) ?_
            refine q_get (v := .ref (ga Γ 154 0)) hx hb hK hw hown in_X8 ins_X8 (rfl : vwCl[10]? = some (RX8, TX8, 32)) rfl (Nat.le_of_ble_eq_true rfl : 0 < cnt (gn Γ) 8) 17 (by decide) 1371 fl_X8_56 rfl rfl dX8_takeBack_132 ?_
            refine lv_iload_n hx hb dX8_takeBack_135 rfl (lv_at hl 2 rfl) ?_
            have ho_b15 := inb_lt (ck_t hf).1
            refine q_aalA hx hb hK hw (k := 154) (o := 0) (fun _ _ _ => rfl) (Nat.le_of_ble_eq_true rfl : 0 < cnt (gn Γ) 154) hf dX8_takeBack_136 (fun hf => ?_)
            refine lv_iload_n hx hb dX8_takeBack_137 rfl (lv_at hl 3 rfl) ?_
            refine q_iald hx hb hK hw (k := 164) (o := (Int32.toNatClampNeg v7)) (fun _ _ _ => rfl) ho_b15 hf dX8_takeBack_138 (fun hf => ?_)
            refine q_eV hf hw (fun τ h => q_rV (As := [.int (gI σ10 160 (Int32.toNatClampNeg v7) (Int32.toNatClampNeg v9)), .int (gI σ10 162 (Int32.toNatClampNeg v7) (Int32.toNatClampNeg v9)), .int (gI σ10 164 (Int32.toNatClampNeg v7) (Int32.toNatClampNeg v9))]) (rest := []) (q := (RX8, TX8, 32)) X hK hw rfl (Nat.le_of_ble_eq_true rfl : 0 < cnt (gn Γ) 8) (rfl : vwCl[10]? = _) (kX8_restores h) mvX8_restores lk_X8_151 ⟨Nat.le_of_ble_eq_true rfl, Nat.le_of_ble_eq_true rfl⟩ rfl hl.1 rfl (Nat.le_of_ble_eq_true rfl) dX8_takeBack_139 ⟨Nat.le_of_ble_eq_true rfl, Nat.le_of_ble_eq_true rfl⟩) (fun σ16 H locs hf hw => ?_)
            refine q_iinc (lv1 := [(0, .ref (ga Γ 8 0)), (1, .int x1), (2, .int v7)]) (d := 1) hx hb hf dX8_takeBack_142 hl (k := 3) rfl (by decide) (by decide) rfl (fun v17 ls hf hl => ?_)
            refine lv_goto (tgt := 87) hx hb dX8_takeBack_145 (by decide) ?_
            exact ih _ _ _ _ _ hf hw (lv_sub hl [1, 2, 3, 0] rfl)
        refine L87 _ (fun _ σ18 H locs ls hf hw hl => ?_) N (0 : Int32) σ8 _ _ _ hf hw (lv_sub hl [1, 2, 3, 0] rfl)
        refine lv_aload_n hx hb dX8_takeBack_148 rfl (lv_at hl 0 rfl) ?_
        refine q_get (v := .ref (ga Γ 155 0)) hx hb hK hw hown in_X8 ins_X8 (rfl : vwCl[10]? = some (RX8, TX8, 32)) rfl (Nat.le_of_ble_eq_true rfl : 0 < cnt (gn Γ) 8) 18 (by decide) 1372 fl_X8_59 rfl rfl dX8_takeBack_149 ?_
        refine lv_iload_n hx hb dX8_takeBack_152 rfl (lv_at hl 2 rfl) ?_
        refine lv_iconst (v := 0) hx hb dX8_takeBack_153 (by decide) ?_
        refine q_zast hx hb hK hw (k := 155) (o := 0) (fun _ _ _ => rfl) (Nat.le_of_ble_eq_true rfl : 0 < cnt (gn Γ) 155) hf dX8_takeBack_154 (fun σ19 H locs hf hw => ?_)
        refine lv_aload_n hx hb dX8_takeBack_155 rfl (lv_at hl 0 rfl) ?_
        refine q_get (v := .int (gI σ19 8 0 27)) hx hb hK hw hown in_X8 ins_X8 (rfl : vwCl[10]? = some (RX8, TX8, 32)) rfl (Nat.le_of_ble_eq_true rfl : 0 < cnt (gn Γ) 8) 27 (by decide) 1381 fl_X8_148 rfl rfl dX8_takeBack_156 ?_
        refine q_istore_n (lv1 := [(0, .ref (ga Γ 8 0)), (1, .int x1), (2, .int v7)]) hx hb hf dX8_takeBack_159 rfl hl (by decide) rfl (fun v20 ls hf hl => ?_)
        refine lv_aload_n hx hb dX8_takeBack_160 rfl (lv_at hl 1 rfl) ?_
        refine lv_iload_n hx hb dX8_takeBack_161 rfl (lv_at hl 2 rfl) ?_
        refine lv_iconst (v := 0) hx hb dX8_takeBack_162 (by decide) ?_
        refine q_eV hf hw (fun τ h => q_rV (As := [.int x1, .int (0 : Int32)]) (rest := []) (q := (RX8, TX8, 32)) X hK hw rfl (Nat.le_of_ble_eq_true rfl : 0 < cnt (gn Γ) 8) (rfl : vwCl[10]? = _) (kX8_makes h) mvX8_makes lk_X8_186 ⟨Nat.le_of_ble_eq_true rfl, Nat.le_of_ble_eq_true rfl⟩ rfl hl.1 rfl (Nat.le_of_ble_eq_true rfl) dX8_takeBack_163 ⟨Nat.le_of_ble_eq_true rfl, Nat.le_of_ble_eq_true rfl⟩) (fun σ21 H locs hf hw => ?_)
        refine lv_iload_n hx hb dX8_takeBack_166 rfl (lv_at hl 0 rfl) ?_
        exact q_eiret hf hx hb hr rfl hk hw dX8_takeBack_167 (Nat.le_of_ble_eq_true rfl) (Nat.le_of_ble_eq_true rfl)
      refine lv_aload_n hx hb dX8_takeBack_74 rfl (lv_at hl 0 rfl) ?_
      refine lv_iconst (v := 3) hx hb dX8_takeBack_75 (by decide) ?_
      refine q_eI hf hw (fun v τ h => q_rV (As := [.int (3 : Int32)]) (rest := []) (q := (RX8, TX8, 32)) X hK hw rfl (Nat.le_of_ble_eq_true rfl : 0 < cnt (gn Γ) 8) (rfl : vwCl[10]? = _) (kX8_fails h) mvX8_fails lk_X8_172 ⟨Nat.le_of_ble_eq_true rfl, Nat.le_of_ble_eq_true rfl⟩ rfl hl.1 rfl (Nat.le_of_ble_eq_true rfl) dX8_takeBack_76 ⟨Nat.le_of_ble_eq_true rfl, Nat.le_of_ble_eq_true rfl⟩) (fun v23 σ22 H locs hf hw => ?_)
      exact q_eiret hf hx hb hr rfl hk hw dX8_takeBack_79 (Nat.le_of_ble_eq_true rfl) (Nat.le_of_ble_eq_true rfl)
    refine lv_aload_n hx hb dX8_takeBack_58 rfl (lv_at hl 0 rfl) ?_
    refine lv_iconst (v := 2) hx hb dX8_takeBack_59 (by decide) ?_
    refine q_eI hf hw (fun v τ h => q_rV (As := [.int (2 : Int32)]) (rest := []) (q := (RX8, TX8, 32)) X hK hw rfl (Nat.le_of_ble_eq_true rfl : 0 < cnt (gn Γ) 8) (rfl : vwCl[10]? = _) (kX8_fails h) mvX8_fails lk_X8_172 ⟨Nat.le_of_ble_eq_true rfl, Nat.le_of_ble_eq_true rfl⟩ rfl hl.1 rfl (Nat.le_of_ble_eq_true rfl) dX8_takeBack_60 ⟨Nat.le_of_ble_eq_true rfl, Nat.le_of_ble_eq_true rfl⟩) (fun v25 σ24 H locs hf hw => ?_)
    exact q_eiret hf hx hb hr rfl hk hw dX8_takeBack_63 (Nat.le_of_ble_eq_true rfl) (Nat.le_of_ble_eq_true rfl)
  refine lv_aload_n hx hb dX8_takeBack_12 rfl (lv_at hl 0 rfl) ?_
  refine lv_iconst (v := 1) hx hb dX8_takeBack_13 (by decide) ?_
  refine q_eI hf hw (fun v τ h => q_rV (As := [.int (1 : Int32)]) (rest := []) (q := (RX8, TX8, 32)) X hK hw rfl (Nat.le_of_ble_eq_true rfl : 0 < cnt (gn Γ) 8) (rfl : vwCl[10]? = _) (kX8_fails h) mvX8_fails lk_X8_172 ⟨Nat.le_of_ble_eq_true rfl, Nat.le_of_ble_eq_true rfl⟩ rfl hl.1 rfl (Nat.le_of_ble_eq_true rfl) dX8_takeBack_14 ⟨Nat.le_of_ble_eq_true rfl, Nat.le_of_ble_eq_true rfl⟩) (fun v27 σ26 H locs hf hw => ?_)
  exact q_eiret hf hx hb hr rfl hk hw dX8_takeBack_17 (Nat.le_of_ble_eq_true rfl) (Nat.le_of_ble_eq_true rfl)
set_option maxRecDepth 100000 in
theorem kX8_isOperation {Γ : Gm} {S : List (String × Nat × String)} {l : Launch} {N : Nat} {σ : St} {x1 : Int32} {r : Int32}  (hf : fX8_isOperation N σ x1 = some r) : CT Γ S l yX8_isOperation cX8_isOperation 2 (some (.boolean)) 1 22 0 0 [.ref (ga Γ 8 0), .int x1] (some (.int r)) σ σ := by
  unfold fX8_isOperation at hf
  refine ct_body (lv := [(0, .ref (ga Γ 8 0)), (1, .int x1)]) (by decide +kernel) rfl (Nat.le_of_ble_eq_true rfl) ?_
  intro p e s m below meth c ls X hr hk hK hw hl
  have hx := X.1
  have hb := X.2.1
  have hown := X.2.2.2
  refine lv_iload_n hx hb dX8_isOperation_0 rfl (lv_at hl 1 rfl) ?_
  refine lv_iconst (v := 0) hx hb dX8_isOperation_1 (by decide) ?_
  refine lv_aload_n hx hb dX8_isOperation_2 rfl (lv_at hl 0 rfl) ?_
  refine q_get (v := .int (gI σ 8 0 20)) hx hb hK hw hown in_X8 ins_X8 (rfl : vwCl[10]? = some (RX8, TX8, 32)) rfl (Nat.le_of_ble_eq_true rfl : 0 < cnt (gn Γ) 8) 20 (by decide) 1374 fl_X8_108 rfl rfl dX8_isOperation_3 ?_
  refine lv_iconst (v := 1) hx hb dX8_isOperation_6 (by decide) ?_
  refine lv_isub hx hb dX8_isOperation_7 ?_
  refine q_pI hf hw (fun v h => q_rS (As := [.int x1, .int (0 : Int32), .int ((gI σ 8 0 20) - (1 : Int32))]) (rest := []) X hK hw (kX8_isBetween h) msX8_isBetween lk_X8_101 ⟨Nat.le_of_ble_eq_true rfl, Nat.le_of_ble_eq_true rfl⟩ rfl hl.1 rfl (Nat.le_of_ble_eq_true rfl) dX8_isOperation_8 ⟨Nat.le_of_ble_eq_true rfl, Nat.le_of_ble_eq_true rfl⟩) (fun v1 H locs hf hw => ?_)
  exact q_nret hf hx hb hr vn_Z hk hw dX8_isOperation_11 (Nat.le_of_ble_eq_true rfl) (Nat.le_of_ble_eq_true rfl)
set_option maxRecDepth 100000 in
theorem kX8_knownMany {Γ : Gm} {S : List (String × Nat × String)} {l : Launch} {N : Nat} {σ : St} {x1 : Int32} {r : Int32}  (hf : fX8_knownMany N σ x1 = some r) : CT Γ S l yX8_knownMany cX8_knownMany 4 (some (.int)) 0 0 0 0 [.ref (ga Γ 8 0), .int x1] (some (.int r)) σ σ := by
  unfold fX8_knownMany at hf
  refine ct_body (lv := [(0, .ref (ga Γ 8 0)), (1, .int x1)]) (by decide +kernel) rfl (Nat.le_of_ble_eq_true rfl) ?_
  intro p e s m below meth c ls X hr hk hK hw hl
  have hx := X.1
  have hb := X.2.1
  have hown := X.2.2.2
  refine lv_iconst (v := 0) hx hb dX8_knownMany_0 (by decide) ?_
  refine lv_istore_n (lv' := [(2, .int (0 : Int32)), (0, .ref (ga Γ 8 0)), (1, .int x1)]) hx hb dX8_knownMany_1 rfl hl (by decide) rfl (fun ls hl => ?_)
  refine lv_iconst (v := 0) hx hb dX8_knownMany_2 (by decide) ?_
  refine lv_istore_n (lv' := [(3, .int (0 : Int32)), (2, .int (0 : Int32)), (0, .ref (ga Γ 8 0)), (1, .int x1)]) hx hb dX8_knownMany_3 rfl hl (by decide) rfl (fun ls hl => ?_)
  have L4 : ∀ (K : Int32 → Int32 → Option (Int32)) (hkk : ∀ (y2 : Int32) (y3 : Int32) (H : Heap) (locs : List Loc) (ls : Array Slot), K y2 y3 = some r → Sit Γ σ s H locs → lv_has ls 4 [(2, .int y2)] → W p l e { frames := 0, cells := 0, slots := 0, locals := 0 } s m [.ref (ga Γ 8 0), .int x1].toArray below meth c H locs 0 0 (MQ below (Qg Γ (some (.int r)) σ (AA Γ s.heap.size)) [.ref (ga Γ 8 0), .int x1].toArray s 0 0 (AA Γ s.heap.size)) (F0 m 37 ls [])) (n : Nat) (v1 : Int32) (v2 : Int32) (H : Heap) (locs : List Loc) (ls : Array Slot), fX8_knownMany_L4 K N σ x1 n v1 v2 = some r → Sit Γ σ s H locs → lv_has ls 4 [(0, .ref (ga Γ 8 0)), (1, .int x1), (2, .int v1), (3, .int v2)] → W p l e { frames := 0, cells := 0, slots := 0, locals := 0 } s m [.ref (ga Γ 8 0), .int x1].toArray below meth c H locs 0 0 (MQ below (Qg Γ (some (.int r)) σ (AA Γ s.heap.size)) [.ref (ga Γ 8 0), .int x1].toArray s 0 0 (AA Γ s.heap.size)) (F0 m 4 ls []) := by
    intro K hkk n
    induction n with
    | zero =>
      intro _ _ _ _ _ hf
      exact nomatch hf
    | succ n ih =>
      intro v1 v2 H locs ls hf hw hl
      refine lv_iload_n hx hb dX8_knownMany_4 rfl (lv_at hl 3 rfl) ?_
      refine lv_aload_n hx hb dX8_knownMany_5 rfl (lv_at hl 0 rfl) ?_
      refine q_get (v := .int (gI σ 8 0 20)) hx hb hK hw hown in_X8 ins_X8 (rfl : vwCl[10]? = some (RX8, TX8, 32)) rfl (Nat.le_of_ble_eq_true rfl : 0 < cnt (gn Γ) 8) 20 (by decide) 1374 fl_X8_108 rfl rfl dX8_knownMany_6 ?_
      refine q_ic_ge (tgt := 37) hx hb hf dX8_knownMany_9 (by decide) (fun hf => ?_) (fun hf => ?_)
      · exact hkk _ _ _ _ _ hf hw (lv_sub hl [2] rfl)
      refine lv_iload_n hx hb dX8_knownMany_12 rfl (lv_at hl 2 rfl) ?_
      refine lv_aload_n hx hb dX8_knownMany_13 rfl (lv_at hl 0 rfl) ?_
      refine q_get (v := .ref (ga Γ 156 0)) hx hb hK hw hown in_X8 ins_X8 (rfl : vwCl[10]? = some (RX8, TX8, 32)) rfl (Nat.le_of_ble_eq_true rfl : 0 < cnt (gn Γ) 8) 19 (by decide) 1373 fl_X8_64 rfl rfl dX8_knownMany_14 ?_
      refine lv_iload_n hx hb dX8_knownMany_17 rfl (lv_at hl 1 rfl) ?_
      have ho_b3 := inb_lt (ck_t hf).1
      refine q_aalB hx hb hK hw (k := 156) (o := 0) (fun _ _ _ => rfl) (Nat.le_of_ble_eq_true rfl : 0 < cnt (gn Γ) 156) hf dX8_knownMany_18 (fun hf => ?_)
      refine lv_iload_n hx hb dX8_knownMany_19 rfl (lv_at hl 3 rfl) ?_
      refine q_zald hx hb hK hw (k := 165) (o := (Int32.toNatClampNeg x1)) (fun _ _ _ => rfl) ho_b3 hf dX8_knownMany_20 (fun hf => ?_)
      refine q_if_eq (tgt := 28) hx hb hf dX8_knownMany_21 (by decide) (fun hf => ?_) (fun hf => ?_)
      · refine lv_iconst (v := 0) hx hb dX8_knownMany_28 (by decide) ?_
        refine lv_iadd hx hb dX8_knownMany_29 ?_
        refine q_istore_n (lv1 := [(0, .ref (ga Γ 8 0)), (1, .int x1), (3, .int v2)]) hx hb hf dX8_knownMany_30 rfl hl (by decide) rfl (fun v4 ls hf hl => ?_)
        refine q_iinc (lv1 := [(2, .int v4), (0, .ref (ga Γ 8 0)), (1, .int x1)]) (d := 1) hx hb hf dX8_knownMany_31 hl (k := 3) rfl (by decide) (by decide) rfl (fun v5 ls hf hl => ?_)
        refine lv_goto (tgt := 4) hx hb dX8_knownMany_34 (by decide) ?_
        exact ih _ _ _ _ _ hf hw (lv_sub hl [2, 3, 1, 0] rfl)
      refine lv_iconst (v := 1) hx hb dX8_knownMany_24 (by decide) ?_
      refine lv_goto (tgt := 29) hx hb dX8_knownMany_25 (by decide) ?_
      refine lv_iadd hx hb dX8_knownMany_29 ?_
      refine q_istore_n (lv1 := [(0, .ref (ga Γ 8 0)), (1, .int x1), (3, .int v2)]) hx hb hf dX8_knownMany_30 rfl hl (by decide) rfl (fun v6 ls hf hl => ?_)
      refine q_iinc (lv1 := [(2, .int v6), (0, .ref (ga Γ 8 0)), (1, .int x1)]) (d := 1) hx hb hf dX8_knownMany_31 hl (k := 3) rfl (by decide) (by decide) rfl (fun v7 ls hf hl => ?_)
      refine lv_goto (tgt := 4) hx hb dX8_knownMany_34 (by decide) ?_
      exact ih _ _ _ _ _ hf hw (lv_sub hl [2, 3, 1, 0] rfl)
  refine L4 _ (fun v8 _ H locs ls hf hw hl => ?_) N (0 : Int32) (0 : Int32) _ _ _ hf hw (lv_sub hl [2, 3, 1, 0] rfl)
  refine lv_iload_n hx hb dX8_knownMany_37 rfl (lv_at hl 0 rfl) ?_
  exact q_iret hf hx hb hr rfl hk hw dX8_knownMany_38 (Nat.le_of_ble_eq_true rfl) (Nat.le_of_ble_eq_true rfl)
set_option maxRecDepth 100000 in
theorem kX8_deliver {Γ : Gm} {S : List (String × Nat × String)} {l : Launch} {N : Nat} {σ τ : St} {x1 : Int32} {x2 : Int32} {r : Int32}  (hf : fX8_deliver N σ x1 x2 = some (r, τ)) : CT Γ S l yX8_deliver cX8_deliver 3 (some (.int)) 2 43 0 0 [.ref (ga Γ 8 0), .int x1, .int x2] (some (.int r)) σ τ := by
  unfold fX8_deliver at hf
  refine ct_body (lv := [(0, .ref (ga Γ 8 0)), (1, .int x1), (2, .int x2)]) (by decide +kernel) rfl (Nat.le_of_ble_eq_true rfl) ?_
  intro p e s m below meth c ls X hr hk hK hw hl
  have hx := X.1
  have hb := X.2.1
  have hown := X.2.2.2
  refine lv_aload_n hx hb dX8_deliver_0 rfl (lv_at hl 0 rfl) ?_
  refine lv_iconst (v := 0) hx hb dX8_deliver_1 (by decide) ?_
  refine q_puti (v := (0 : Int32)) hx hb hK hw hown in_X8 ins_X8 tyX8 tyX8_ok nmX8 (rfl : vwCl[10]? = some (RX8, TX8, 32)) (fun _ _ _ => rfl) (Nat.le_of_ble_eq_true rfl : 0 < cnt (gn Γ) 8) 0 (by decide) 1354 fl_X8_97 rfl rfl rfl (fun _ _ _ => Nat.le_of_ble_eq_true rfl) (fun _ _ _ => rfl) hf dX8_deliver_2 (fun σ1 H locs hf hw => ?_)
  refine lv_iload_n hx hb dX8_deliver_5 rfl (lv_at hl 1 rfl) ?_
  refine q_pI hf hw (fun v h => q_rS (As := [.int x1]) (rest := []) X hK hw (kX8_isUser h) msX8_isUser lk_X8_165 ⟨Nat.le_of_ble_eq_true rfl, Nat.le_of_ble_eq_true rfl⟩ rfl hl.1 rfl (Nat.le_of_ble_eq_true rfl) dX8_deliver_6 ⟨Nat.le_of_ble_eq_true rfl, Nat.le_of_ble_eq_true rfl⟩) (fun v2 H locs hf hw => ?_)
  refine q_if_ne (tgt := 18) hx hb hf dX8_deliver_9 (by decide) (fun hf => ?_) (fun hf => ?_)
  · refine lv_aload_n hx hb dX8_deliver_18 rfl (lv_at hl 0 rfl) ?_
    refine lv_iload_n hx hb dX8_deliver_19 rfl (lv_at hl 2 rfl) ?_
    refine q_pI hf hw (fun v h => q_rV (As := [.int x2]) (rest := []) (q := (RX8, TX8, 32)) X hK hw rfl (Nat.le_of_ble_eq_true rfl : 0 < cnt (gn Γ) 8) (rfl : vwCl[10]? = _) (kX8_isOperation h) mvX8_isOperation lk_X8_222 ⟨Nat.le_of_ble_eq_true rfl, Nat.le_of_ble_eq_true rfl⟩ rfl hl.1 rfl (Nat.le_of_ble_eq_true rfl) dX8_deliver_20 ⟨Nat.le_of_ble_eq_true rfl, Nat.le_of_ble_eq_true rfl⟩) (fun v3 H locs hf hw => ?_)
    refine q_if_ne (tgt := 32) hx hb hf dX8_deliver_23 (by decide) (fun hf => ?_) (fun hf => ?_)
    · refine lv_aload_n hx hb dX8_deliver_32 rfl (lv_at hl 0 rfl) ?_
      refine q_get (v := .ref (ga Γ 156 0)) hx hb hK hw hown in_X8 ins_X8 (rfl : vwCl[10]? = some (RX8, TX8, 32)) rfl (Nat.le_of_ble_eq_true rfl : 0 < cnt (gn Γ) 8) 19 (by decide) 1373 fl_X8_64 rfl rfl dX8_deliver_33 ?_
      refine lv_iload_n hx hb dX8_deliver_36 rfl (lv_at hl 1 rfl) ?_
      have ho_b4 := inb_lt (ck_t hf).1
      refine q_aalB hx hb hK hw (k := 156) (o := 0) (fun _ _ _ => rfl) (Nat.le_of_ble_eq_true rfl : 0 < cnt (gn Γ) 156) hf dX8_deliver_37 (fun hf => ?_)
      refine lv_iload_n hx hb dX8_deliver_38 rfl (lv_at hl 2 rfl) ?_
      refine q_zald hx hb hK hw (k := 165) (o := (Int32.toNatClampNeg x1)) (fun _ _ _ => rfl) ho_b4 hf dX8_deliver_39 (fun hf => ?_)
      refine q_if_eq (tgt := 49) hx hb hf dX8_deliver_40 (by decide) (fun hf => ?_) (fun hf => ?_)
      · refine lv_aload_n hx hb dX8_deliver_49 rfl (lv_at hl 0 rfl) ?_
        refine q_get (v := .ref (ga Γ 156 0)) hx hb hK hw hown in_X8 ins_X8 (rfl : vwCl[10]? = some (RX8, TX8, 32)) rfl (Nat.le_of_ble_eq_true rfl : 0 < cnt (gn Γ) 8) 19 (by decide) 1373 fl_X8_64 rfl rfl dX8_deliver_50 ?_
        refine lv_iload_n hx hb dX8_deliver_53 rfl (lv_at hl 1 rfl) ?_
        have ho_b5 := inb_lt (ck_t hf).1
        refine q_aalB hx hb hK hw (k := 156) (o := 0) (fun _ _ _ => rfl) (Nat.le_of_ble_eq_true rfl : 0 < cnt (gn Γ) 156) hf dX8_deliver_54 (fun hf => ?_)
        refine lv_iload_n hx hb dX8_deliver_55 rfl (lv_at hl 2 rfl) ?_
        refine lv_iconst (v := 1) hx hb dX8_deliver_56 (by decide) ?_
        refine q_zast hx hb hK hw (k := 165) (o := (Int32.toNatClampNeg x1)) (fun _ _ _ => rfl) ho_b5 hf dX8_deliver_57 (fun σ6 H locs hf hw => ?_)
        refine lv_aload_n hx hb dX8_deliver_58 rfl (lv_at hl 0 rfl) ?_
        refine lv_iload_n hx hb dX8_deliver_59 rfl (lv_at hl 1 rfl) ?_
        refine q_pI hf hw (fun v h => q_rV (As := [.int x1]) (rest := []) (q := (RX8, TX8, 32)) X hK hw rfl (Nat.le_of_ble_eq_true rfl : 0 < cnt (gn Γ) 8) (rfl : vwCl[10]? = _) (kX8_knownMany h) mvX8_knownMany lk_X8_225 ⟨Nat.le_of_ble_eq_true rfl, Nat.le_of_ble_eq_true rfl⟩ rfl hl.1 rfl (Nat.le_of_ble_eq_true rfl) dX8_deliver_60 ⟨Nat.le_of_ble_eq_true rfl, Nat.le_of_ble_eq_true rfl⟩) (fun v7 H locs hf hw => ?_)
        exact q_eiret hf hx hb hr rfl hk hw dX8_deliver_63 (Nat.le_of_ble_eq_true rfl) (Nat.le_of_ble_eq_true rfl)
      refine lv_aload_n hx hb dX8_deliver_43 rfl (lv_at hl 0 rfl) ?_
      refine lv_iconst (v := 3) hx hb dX8_deliver_44 (by decide) ?_
      refine q_eI hf hw (fun v τ h => q_rV (As := [.int (3 : Int32)]) (rest := []) (q := (RX8, TX8, 32)) X hK hw rfl (Nat.le_of_ble_eq_true rfl : 0 < cnt (gn Γ) 8) (rfl : vwCl[10]? = _) (kX8_fails h) mvX8_fails lk_X8_172 ⟨Nat.le_of_ble_eq_true rfl, Nat.le_of_ble_eq_true rfl⟩ rfl hl.1 rfl (Nat.le_of_ble_eq_true rfl) dX8_deliver_45 ⟨Nat.le_of_ble_eq_true rfl, Nat.le_of_ble_eq_true rfl⟩) (fun v9 σ8 H locs hf hw => ?_)
      exact q_eiret hf hx hb hr rfl hk hw dX8_deliver_48 (Nat.le_of_ble_eq_true rfl) (Nat.le_of_ble_eq_true rfl)
    refine lv_aload_n hx hb dX8_deliver_26 rfl (lv_at hl 0 rfl) ?_
    refine lv_iconst (v := 2) hx hb dX8_deliver_27 (by decide) ?_
    refine q_eI hf hw (fun v τ h => q_rV (As := [.int (2 : Int32)]) (rest := []) (q := (RX8, TX8, 32)) X hK hw rfl (Nat.le_of_ble_eq_true rfl : 0 < cnt (gn Γ) 8) (rfl : vwCl[10]? = _) (kX8_fails h) mvX8_fails lk_X8_172 ⟨Nat.le_of_ble_eq_true rfl, Nat.le_of_ble_eq_true rfl⟩ rfl hl.1 rfl (Nat.le_of_ble_eq_true rfl) dX8_deliver_28 ⟨Nat.le_of_ble_eq_true rfl, Nat.le_of_ble_eq_true rfl⟩) (fun v11 σ10 H locs hf hw => ?_)
    exact q_eiret hf hx hb hr rfl hk hw dX8_deliver_31 (Nat.le_of_ble_eq_true rfl) (Nat.le_of_ble_eq_true rfl)
  refine lv_aload_n hx hb dX8_deliver_12 rfl (lv_at hl 0 rfl) ?_
  refine lv_iconst (v := 1) hx hb dX8_deliver_13 (by decide) ?_
  refine q_eI hf hw (fun v τ h => q_rV (As := [.int (1 : Int32)]) (rest := []) (q := (RX8, TX8, 32)) X hK hw rfl (Nat.le_of_ble_eq_true rfl : 0 < cnt (gn Γ) 8) (rfl : vwCl[10]? = _) (kX8_fails h) mvX8_fails lk_X8_172 ⟨Nat.le_of_ble_eq_true rfl, Nat.le_of_ble_eq_true rfl⟩ rfl hl.1 rfl (Nat.le_of_ble_eq_true rfl) dX8_deliver_14 ⟨Nat.le_of_ble_eq_true rfl, Nat.le_of_ble_eq_true rfl⟩) (fun v13 σ12 H locs hf hw => ?_)
  exact q_eiret hf hx hb hr rfl hk hw dX8_deliver_17 (Nat.le_of_ble_eq_true rfl) (Nat.le_of_ble_eq_true rfl)
set_option maxRecDepth 100000 in
theorem kX8_sync {Γ : Gm} {S : List (String × Nat × String)} {l : Launch} {N : Nat} {σ τ : St} {x1 : Int32} {x2 : Int32} {r : Int32}  (hf : fX8_sync N σ x1 x2 = some (r, τ)) : CT Γ S l yX8_sync cX8_sync 5 (some (.int)) 2 42 0 0 [.ref (ga Γ 8 0), .int x1, .int x2] (some (.int r)) σ τ := by
  unfold fX8_sync at hf
  refine ct_body (lv := [(0, .ref (ga Γ 8 0)), (1, .int x1), (2, .int x2)]) (by decide +kernel) rfl (Nat.le_of_ble_eq_true rfl) ?_
  intro p e s m below meth c ls X hr hk hK hw hl
  have hx := X.1
  have hb := X.2.1
  have hown := X.2.2.2
  refine lv_aload_n hx hb dX8_sync_0 rfl (lv_at hl 0 rfl) ?_
  refine lv_iconst (v := 0) hx hb dX8_sync_1 (by decide) ?_
  refine q_puti (v := (0 : Int32)) hx hb hK hw hown in_X8 ins_X8 tyX8 tyX8_ok nmX8 (rfl : vwCl[10]? = some (RX8, TX8, 32)) (fun _ _ _ => rfl) (Nat.le_of_ble_eq_true rfl : 0 < cnt (gn Γ) 8) 0 (by decide) 1354 fl_X8_97 rfl rfl rfl (fun _ _ _ => Nat.le_of_ble_eq_true rfl) (fun _ _ _ => rfl) hf dX8_sync_2 (fun σ1 H locs hf hw => ?_)
  refine lv_iload_n hx hb dX8_sync_5 rfl (lv_at hl 1 rfl) ?_
  refine q_pI hf hw (fun v h => q_rS (As := [.int x1]) (rest := []) X hK hw (kX8_isUser h) msX8_isUser lk_X8_165 ⟨Nat.le_of_ble_eq_true rfl, Nat.le_of_ble_eq_true rfl⟩ rfl hl.1 rfl (Nat.le_of_ble_eq_true rfl) dX8_sync_6 ⟨Nat.le_of_ble_eq_true rfl, Nat.le_of_ble_eq_true rfl⟩) (fun v2 H locs hf hw => ?_)
  refine q_if_eq (tgt := 24) hx hb hf dX8_sync_9 (by decide) (fun hf => ?_) (fun hf => ?_)
  · refine lv_aload_n hx hb dX8_sync_24 rfl (lv_at hl 0 rfl) ?_
    refine lv_iconst (v := 1) hx hb dX8_sync_25 (by decide) ?_
    refine q_eI hf hw (fun v τ h => q_rV (As := [.int (1 : Int32)]) (rest := []) (q := (RX8, TX8, 32)) X hK hw rfl (Nat.le_of_ble_eq_true rfl : 0 < cnt (gn Γ) 8) (rfl : vwCl[10]? = _) (kX8_fails h) mvX8_fails lk_X8_172 ⟨Nat.le_of_ble_eq_true rfl, Nat.le_of_ble_eq_true rfl⟩ rfl hl.1 rfl (Nat.le_of_ble_eq_true rfl) dX8_sync_26 ⟨Nat.le_of_ble_eq_true rfl, Nat.le_of_ble_eq_true rfl⟩) (fun v4 σ3 H locs hf hw => ?_)
    exact q_eiret hf hx hb hr rfl hk hw dX8_sync_29 (Nat.le_of_ble_eq_true rfl) (Nat.le_of_ble_eq_true rfl)
  refine lv_iload_n hx hb dX8_sync_12 rfl (lv_at hl 2 rfl) ?_
  refine q_pI hf hw (fun v h => q_rS (As := [.int x2]) (rest := []) X hK hw (kX8_isUser h) msX8_isUser lk_X8_165 ⟨Nat.le_of_ble_eq_true rfl, Nat.le_of_ble_eq_true rfl⟩ rfl hl.1 rfl (Nat.le_of_ble_eq_true rfl) dX8_sync_13 ⟨Nat.le_of_ble_eq_true rfl, Nat.le_of_ble_eq_true rfl⟩) (fun v5 H locs hf hw => ?_)
  refine q_if_eq (tgt := 24) hx hb hf dX8_sync_16 (by decide) (fun hf => ?_) (fun hf => ?_)
  · refine lv_aload_n hx hb dX8_sync_24 rfl (lv_at hl 0 rfl) ?_
    refine lv_iconst (v := 1) hx hb dX8_sync_25 (by decide) ?_
    refine q_eI hf hw (fun v τ h => q_rV (As := [.int (1 : Int32)]) (rest := []) (q := (RX8, TX8, 32)) X hK hw rfl (Nat.le_of_ble_eq_true rfl : 0 < cnt (gn Γ) 8) (rfl : vwCl[10]? = _) (kX8_fails h) mvX8_fails lk_X8_172 ⟨Nat.le_of_ble_eq_true rfl, Nat.le_of_ble_eq_true rfl⟩ rfl hl.1 rfl (Nat.le_of_ble_eq_true rfl) dX8_sync_26 ⟨Nat.le_of_ble_eq_true rfl, Nat.le_of_ble_eq_true rfl⟩) (fun v7 σ6 H locs hf hw => ?_)
    exact q_eiret hf hx hb hr rfl hk hw dX8_sync_29 (Nat.le_of_ble_eq_true rfl) (Nat.le_of_ble_eq_true rfl)
  refine lv_iload_n hx hb dX8_sync_19 rfl (lv_at hl 1 rfl) ?_
  refine lv_iload_n hx hb dX8_sync_20 rfl (lv_at hl 2 rfl) ?_
  refine q_ic_ne (tgt := 30) hx hb hf dX8_sync_21 (by decide) (fun hf => ?_) (fun hf => ?_)
  · refine lv_iconst (v := 0) hx hb dX8_sync_30 (by decide) ?_
    refine lv_istore_n (lv' := [(3, .int (0 : Int32)), (0, .ref (ga Γ 8 0)), (1, .int x1), (2, .int x2)]) hx hb dX8_sync_31 rfl hl (by decide) rfl (fun ls hl => ?_)
    refine lv_iconst (v := 0) hx hb dX8_sync_32 (by decide) ?_
    refine lv_istore (lv' := [(4, .int (0 : Int32)), (3, .int (0 : Int32)), (0, .ref (ga Γ 8 0)), (1, .int x1), (2, .int x2)]) hx hb dX8_sync_33 hl (by decide) rfl (fun ls hl => ?_)
    have L35 : ∀ (K : Int32 → Int32 → St → Option ((Int32 × St))) (hkk : ∀ (y3 : Int32) (y4 : Int32) (σq : St) (H : Heap) (locs : List Loc) (ls : Array Slot), K y3 y4 σq = some (r, τ) → Sit Γ σq s H locs → lv_has ls 5 [(3, .int y3)] → W p l e { frames := 2, cells := 0, slots := 0, locals := 42 } s m [.ref (ga Γ 8 0), .int x1, .int x2].toArray below meth c H locs 0 0 (MQ below (Qg Γ (some (.int r)) τ (AA Γ s.heap.size)) [.ref (ga Γ 8 0), .int x1, .int x2].toArray s 0 0 (AA Γ s.heap.size)) (F0 m 97 ls [])) (n : Nat) (v8 : Int32) (v9 : Int32) (σ10 : St) (H : Heap) (locs : List Loc) (ls : Array Slot), fX8_sync_L35 K N x1 x2 n v8 v9 σ10 = some (r, τ) → Sit Γ σ10 s H locs → lv_has ls 5 [(0, .ref (ga Γ 8 0)), (1, .int x1), (2, .int x2), (3, .int v8), (4, .int v9)] → W p l e { frames := 2, cells := 0, slots := 0, locals := 42 } s m [.ref (ga Γ 8 0), .int x1, .int x2].toArray below meth c H locs 0 0 (MQ below (Qg Γ (some (.int r)) τ (AA Γ s.heap.size)) [.ref (ga Γ 8 0), .int x1, .int x2].toArray s 0 0 (AA Γ s.heap.size)) (F0 m 35 ls []) := by
      intro K hkk n
      induction n with
      | zero =>
        intro _ _ _ _ _ _ hf
        exact nomatch hf
      | succ n ih =>
        intro v8 v9 σ10 H locs ls hf hw hl
        refine lv_iload hx hb dX8_sync_35 (lv_at hl 4 rfl) ?_
        refine lv_aload_n hx hb dX8_sync_37 rfl (lv_at hl 0 rfl) ?_
        refine q_get (v := .int (gI σ10 8 0 20)) hx hb hK hw hown in_X8 ins_X8 (rfl : vwCl[10]? = some (RX8, TX8, 32)) rfl (Nat.le_of_ble_eq_true rfl : 0 < cnt (gn Γ) 8) 20 (by decide) 1374 fl_X8_108 rfl rfl dX8_sync_38 ?_
        refine q_ic_ge (tgt := 97) hx hb hf dX8_sync_41 (by decide) (fun hf => ?_) (fun hf => ?_)
        · exact hkk _ _ _ _ _ _ hf hw (lv_sub hl [3] rfl)
        refine lv_aload_n hx hb dX8_sync_44 rfl (lv_at hl 0 rfl) ?_
        refine q_get (v := .ref (ga Γ 156 0)) hx hb hK hw hown in_X8 ins_X8 (rfl : vwCl[10]? = some (RX8, TX8, 32)) rfl (Nat.le_of_ble_eq_true rfl : 0 < cnt (gn Γ) 8) 19 (by decide) 1373 fl_X8_64 rfl rfl dX8_sync_45 ?_
        refine lv_iload_n hx hb dX8_sync_48 rfl (lv_at hl 1 rfl) ?_
        have ho_b11 := inb_lt (ck_t hf).1
        refine q_aalB hx hb hK hw (k := 156) (o := 0) (fun _ _ _ => rfl) (Nat.le_of_ble_eq_true rfl : 0 < cnt (gn Γ) 156) hf dX8_sync_49 (fun hf => ?_)
        refine lv_iload hx hb dX8_sync_50 (lv_at hl 4 rfl) ?_
        refine q_zald hx hb hK hw (k := 165) (o := (Int32.toNatClampNeg x1)) (fun _ _ _ => rfl) ho_b11 hf dX8_sync_52 (fun hf => ?_)
        refine lv_aload_n hx hb dX8_sync_53 rfl (lv_at hl 0 rfl) ?_
        refine q_get (v := .ref (ga Γ 156 0)) hx hb hK hw hown in_X8 ins_X8 (rfl : vwCl[10]? = some (RX8, TX8, 32)) rfl (Nat.le_of_ble_eq_true rfl : 0 < cnt (gn Γ) 8) 19 (by decide) 1373 fl_X8_64 rfl rfl dX8_sync_54 ?_
        refine lv_iload_n hx hb dX8_sync_57 rfl (lv_at hl 2 rfl) ?_
        have ho_b12 := inb_lt (ck_t hf).1
        refine q_aalB hx hb hK hw (k := 156) (o := 0) (fun _ _ _ => rfl) (Nat.le_of_ble_eq_true rfl : 0 < cnt (gn Γ) 156) hf dX8_sync_58 (fun hf => ?_)
        refine lv_iload hx hb dX8_sync_59 (lv_at hl 4 rfl) ?_
        refine q_zald hx hb hK hw (k := 165) (o := (Int32.toNatClampNeg x2)) (fun _ _ _ => rfl) ho_b12 hf dX8_sync_61 (fun hf => ?_)
        refine q_ic_ne (tgt := 68) hx hb hf dX8_sync_62 (by decide) (fun hf => ?_) (fun hf => ?_)
        · refine lv_aload_n hx hb dX8_sync_68 rfl (lv_at hl 0 rfl) ?_
          refine q_get (v := .ref (ga Γ 156 0)) hx hb hK hw hown in_X8 ins_X8 (rfl : vwCl[10]? = some (RX8, TX8, 32)) rfl (Nat.le_of_ble_eq_true rfl : 0 < cnt (gn Γ) 8) 19 (by decide) 1373 fl_X8_64 rfl rfl dX8_sync_69 ?_
          refine lv_iload_n hx hb dX8_sync_72 rfl (lv_at hl 1 rfl) ?_
          have ho_b13 := inb_lt (ck_t hf).1
          refine q_aalB hx hb hK hw (k := 156) (o := 0) (fun _ _ _ => rfl) (Nat.le_of_ble_eq_true rfl : 0 < cnt (gn Γ) 156) hf dX8_sync_73 (fun hf => ?_)
          refine lv_iload hx hb dX8_sync_74 (lv_at hl 4 rfl) ?_
          refine lv_iconst (v := 1) hx hb dX8_sync_76 (by decide) ?_
          refine q_zast hx hb hK hw (k := 165) (o := (Int32.toNatClampNeg x1)) (fun _ _ _ => rfl) ho_b13 hf dX8_sync_77 (fun σ14 H locs hf hw => ?_)
          refine lv_aload_n hx hb dX8_sync_78 rfl (lv_at hl 0 rfl) ?_
          refine q_get (v := .ref (ga Γ 156 0)) hx hb hK hw hown in_X8 ins_X8 (rfl : vwCl[10]? = some (RX8, TX8, 32)) rfl (Nat.le_of_ble_eq_true rfl : 0 < cnt (gn Γ) 8) 19 (by decide) 1373 fl_X8_64 rfl rfl dX8_sync_79 ?_
          refine lv_iload_n hx hb dX8_sync_82 rfl (lv_at hl 2 rfl) ?_
          have ho_b15 := inb_lt (ck_t hf).1
          refine q_aalB hx hb hK hw (k := 156) (o := 0) (fun _ _ _ => rfl) (Nat.le_of_ble_eq_true rfl : 0 < cnt (gn Γ) 156) hf dX8_sync_83 (fun hf => ?_)
          refine lv_iload hx hb dX8_sync_84 (lv_at hl 4 rfl) ?_
          refine lv_iconst (v := 1) hx hb dX8_sync_86 (by decide) ?_
          refine q_zast hx hb hK hw (k := 165) (o := (Int32.toNatClampNeg x2)) (fun _ _ _ => rfl) ho_b15 hf dX8_sync_87 (fun σ16 H locs hf hw => ?_)
          refine q_iinc (lv1 := [(0, .ref (ga Γ 8 0)), (1, .int x1), (2, .int x2), (4, .int v9)]) (d := 1) hx hb hf dX8_sync_88 hl (k := 3) rfl (by decide) (by decide) rfl (fun v17 ls hf hl => ?_)
          refine q_iinc (lv1 := [(3, .int v17), (0, .ref (ga Γ 8 0)), (1, .int x1), (2, .int x2)]) (d := 1) hx hb hf dX8_sync_91 hl (k := 4) rfl (by decide) (by decide) rfl (fun v18 ls hf hl => ?_)
          refine lv_goto (tgt := 35) hx hb dX8_sync_94 (by decide) ?_
          exact ih _ _ _ _ _ _ hf hw (lv_sub hl [2, 3, 4, 1, 0] rfl)
        refine lv_goto (tgt := 91) hx hb dX8_sync_65 (by decide) ?_
        refine q_iinc (lv1 := [(0, .ref (ga Γ 8 0)), (1, .int x1), (2, .int x2), (3, .int v8)]) (d := 1) hx hb hf dX8_sync_91 hl (k := 4) rfl (by decide) (by decide) rfl (fun v19 ls hf hl => ?_)
        refine lv_goto (tgt := 35) hx hb dX8_sync_94 (by decide) ?_
        exact ih _ _ _ _ _ _ hf hw (lv_sub hl [1, 2, 3, 4, 0] rfl)
    refine L35 _ (fun v20 _ σ21 H locs ls hf hw hl => ?_) N (0 : Int32) (0 : Int32) σ1 _ _ _ hf hw (lv_sub hl [2, 3, 4, 1, 0] rfl)
    refine lv_iload_n hx hb dX8_sync_97 rfl (lv_at hl 0 rfl) ?_
    exact q_eiret hf hx hb hr rfl hk hw dX8_sync_98 (Nat.le_of_ble_eq_true rfl) (Nat.le_of_ble_eq_true rfl)
  refine lv_aload_n hx hb dX8_sync_24 rfl (lv_at hl 0 rfl) ?_
  refine lv_iconst (v := 1) hx hb dX8_sync_25 (by decide) ?_
  refine q_eI hf hw (fun v τ h => q_rV (As := [.int (1 : Int32)]) (rest := []) (q := (RX8, TX8, 32)) X hK hw rfl (Nat.le_of_ble_eq_true rfl : 0 < cnt (gn Γ) 8) (rfl : vwCl[10]? = _) (kX8_fails h) mvX8_fails lk_X8_172 ⟨Nat.le_of_ble_eq_true rfl, Nat.le_of_ble_eq_true rfl⟩ rfl hl.1 rfl (Nat.le_of_ble_eq_true rfl) dX8_sync_26 ⟨Nat.le_of_ble_eq_true rfl, Nat.le_of_ble_eq_true rfl⟩) (fun v23 σ22 H locs hf hw => ?_)
  exact q_eiret hf hx hb hr rfl hk hw dX8_sync_29 (Nat.le_of_ble_eq_true rfl) (Nat.le_of_ble_eq_true rfl)
set_option maxRecDepth 100000 in
theorem kX8_operations {Γ : Gm} {S : List (String × Nat × String)} {l : Launch} {N : Nat} {σ τ : St} {r : Int32}  (hf : fX8_operations N σ = some (r, τ)) : CT Γ S l yX8_operations cX8_operations 1 (some (.int)) 0 0 0 0 [.ref (ga Γ 8 0)] (some (.int r)) σ τ := by
  unfold fX8_operations at hf
  refine ct_body (lv := [(0, .ref (ga Γ 8 0))]) (by decide +kernel) rfl (Nat.le_of_ble_eq_true rfl) ?_
  intro p e s m below meth c ls X hr hk hK hw hl
  have hx := X.1
  have hb := X.2.1
  have hown := X.2.2.2
  refine lv_aload_n hx hb dX8_operations_0 rfl (lv_at hl 0 rfl) ?_
  refine lv_iconst (v := 0) hx hb dX8_operations_1 (by decide) ?_
  refine q_puti (v := (0 : Int32)) hx hb hK hw hown in_X8 ins_X8 tyX8 tyX8_ok nmX8 (rfl : vwCl[10]? = some (RX8, TX8, 32)) (fun _ _ _ => rfl) (Nat.le_of_ble_eq_true rfl : 0 < cnt (gn Γ) 8) 0 (by decide) 1354 fl_X8_97 rfl rfl rfl (fun _ _ _ => Nat.le_of_ble_eq_true rfl) (fun _ _ _ => rfl) hf dX8_operations_2 (fun σ1 H locs hf hw => ?_)
  refine lv_aload_n hx hb dX8_operations_5 rfl (lv_at hl 0 rfl) ?_
  refine q_get (v := .int (gI σ1 8 0 20)) hx hb hK hw hown in_X8 ins_X8 (rfl : vwCl[10]? = some (RX8, TX8, 32)) rfl (Nat.le_of_ble_eq_true rfl : 0 < cnt (gn Γ) 8) 20 (by decide) 1374 fl_X8_108 rfl rfl dX8_operations_6 ?_
  exact q_eiret hf hx hb hr rfl hk hw dX8_operations_9 (Nat.le_of_ble_eq_true rfl) (Nat.le_of_ble_eq_true rfl)
set_option maxRecDepth 100000 in
theorem kX8_userOf {Γ : Gm} {S : List (String × Nat × String)} {l : Launch} {N : Nat} {σ τ : St} {x1 : Int32} {r : Int32}  (hf : fX8_userOf N σ x1 = some (r, τ)) : CT Γ S l yX8_userOf cX8_userOf 2 (some (.int)) 2 43 0 0 [.ref (ga Γ 8 0), .int x1] (some (.int r)) σ τ := by
  unfold fX8_userOf at hf
  refine ct_body (lv := [(0, .ref (ga Γ 8 0)), (1, .int x1)]) (by decide +kernel) rfl (Nat.le_of_ble_eq_true rfl) ?_
  intro p e s m below meth c ls X hr hk hK hw hl
  have hx := X.1
  have hb := X.2.1
  have hown := X.2.2.2
  refine lv_aload_n hx hb dX8_userOf_0 rfl (lv_at hl 0 rfl) ?_
  refine lv_iconst (v := 0) hx hb dX8_userOf_1 (by decide) ?_
  refine q_puti (v := (0 : Int32)) hx hb hK hw hown in_X8 ins_X8 tyX8 tyX8_ok nmX8 (rfl : vwCl[10]? = some (RX8, TX8, 32)) (fun _ _ _ => rfl) (Nat.le_of_ble_eq_true rfl : 0 < cnt (gn Γ) 8) 0 (by decide) 1354 fl_X8_97 rfl rfl rfl (fun _ _ _ => Nat.le_of_ble_eq_true rfl) (fun _ _ _ => rfl) hf dX8_userOf_2 (fun σ1 H locs hf hw => ?_)
  refine lv_aload_n hx hb dX8_userOf_5 rfl (lv_at hl 0 rfl) ?_
  refine lv_iload_n hx hb dX8_userOf_6 rfl (lv_at hl 1 rfl) ?_
  refine q_pI hf hw (fun v h => q_rV (As := [.int x1]) (rest := []) (q := (RX8, TX8, 32)) X hK hw rfl (Nat.le_of_ble_eq_true rfl : 0 < cnt (gn Γ) 8) (rfl : vwCl[10]? = _) (kX8_isOperation h) mvX8_isOperation lk_X8_222 ⟨Nat.le_of_ble_eq_true rfl, Nat.le_of_ble_eq_true rfl⟩ rfl hl.1 rfl (Nat.le_of_ble_eq_true rfl) dX8_userOf_7 ⟨Nat.le_of_ble_eq_true rfl, Nat.le_of_ble_eq_true rfl⟩) (fun v2 H locs hf hw => ?_)
  refine q_if_eq (tgt := 22) hx hb hf dX8_userOf_10 (by decide) (fun hf => ?_) (fun hf => ?_)
  · refine lv_aload_n hx hb dX8_userOf_22 rfl (lv_at hl 0 rfl) ?_
    refine lv_iconst (v := 1) hx hb dX8_userOf_23 (by decide) ?_
    refine q_eI hf hw (fun v τ h => q_rV (As := [.int (1 : Int32)]) (rest := []) (q := (RX8, TX8, 32)) X hK hw rfl (Nat.le_of_ble_eq_true rfl : 0 < cnt (gn Γ) 8) (rfl : vwCl[10]? = _) (kX8_fails h) mvX8_fails lk_X8_172 ⟨Nat.le_of_ble_eq_true rfl, Nat.le_of_ble_eq_true rfl⟩ rfl hl.1 rfl (Nat.le_of_ble_eq_true rfl) dX8_userOf_24 ⟨Nat.le_of_ble_eq_true rfl, Nat.le_of_ble_eq_true rfl⟩) (fun v4 σ3 H locs hf hw => ?_)
    exact q_eiret hf hx hb hr rfl hk hw dX8_userOf_27 (Nat.le_of_ble_eq_true rfl) (Nat.le_of_ble_eq_true rfl)
  refine lv_aload_n hx hb dX8_userOf_13 rfl (lv_at hl 0 rfl) ?_
  refine q_get (v := .ref (ga Γ 147 0)) hx hb hK hw hown in_X8 ins_X8 (rfl : vwCl[10]? = some (RX8, TX8, 32)) rfl (Nat.le_of_ble_eq_true rfl : 0 < cnt (gn Γ) 8) 10 (by decide) 1364 fl_X8_33 rfl rfl dX8_userOf_14 ?_
  refine lv_iload_n hx hb dX8_userOf_17 rfl (lv_at hl 1 rfl) ?_
  refine q_iald hx hb hK hw (k := 147) (o := 0) (fun _ _ _ => rfl) (Nat.le_of_ble_eq_true rfl : 0 < cnt (gn Γ) 147) hf dX8_userOf_18 (fun hf => ?_)
  refine lv_goto (tgt := 27) hx hb dX8_userOf_19 (by decide) ?_
  exact q_eiret hf hx hb hr rfl hk hw dX8_userOf_27 (Nat.le_of_ble_eq_true rfl) (Nat.le_of_ble_eq_true rfl)
set_option maxRecDepth 100000 in
theorem kX8_clockOf {Γ : Gm} {S : List (String × Nat × String)} {l : Launch} {N : Nat} {σ τ : St} {x1 : Int32} {r : Int32}  (hf : fX8_clockOf N σ x1 = some (r, τ)) : CT Γ S l yX8_clockOf cX8_clockOf 2 (some (.int)) 2 43 0 0 [.ref (ga Γ 8 0), .int x1] (some (.int r)) σ τ := by
  unfold fX8_clockOf at hf
  refine ct_body (lv := [(0, .ref (ga Γ 8 0)), (1, .int x1)]) (by decide +kernel) rfl (Nat.le_of_ble_eq_true rfl) ?_
  intro p e s m below meth c ls X hr hk hK hw hl
  have hx := X.1
  have hb := X.2.1
  have hown := X.2.2.2
  refine lv_aload_n hx hb dX8_clockOf_0 rfl (lv_at hl 0 rfl) ?_
  refine lv_iconst (v := 0) hx hb dX8_clockOf_1 (by decide) ?_
  refine q_puti (v := (0 : Int32)) hx hb hK hw hown in_X8 ins_X8 tyX8 tyX8_ok nmX8 (rfl : vwCl[10]? = some (RX8, TX8, 32)) (fun _ _ _ => rfl) (Nat.le_of_ble_eq_true rfl : 0 < cnt (gn Γ) 8) 0 (by decide) 1354 fl_X8_97 rfl rfl rfl (fun _ _ _ => Nat.le_of_ble_eq_true rfl) (fun _ _ _ => rfl) hf dX8_clockOf_2 (fun σ1 H locs hf hw => ?_)
  refine lv_aload_n hx hb dX8_clockOf_5 rfl (lv_at hl 0 rfl) ?_
  refine lv_iload_n hx hb dX8_clockOf_6 rfl (lv_at hl 1 rfl) ?_
  refine q_pI hf hw (fun v h => q_rV (As := [.int x1]) (rest := []) (q := (RX8, TX8, 32)) X hK hw rfl (Nat.le_of_ble_eq_true rfl : 0 < cnt (gn Γ) 8) (rfl : vwCl[10]? = _) (kX8_isOperation h) mvX8_isOperation lk_X8_222 ⟨Nat.le_of_ble_eq_true rfl, Nat.le_of_ble_eq_true rfl⟩ rfl hl.1 rfl (Nat.le_of_ble_eq_true rfl) dX8_clockOf_7 ⟨Nat.le_of_ble_eq_true rfl, Nat.le_of_ble_eq_true rfl⟩) (fun v2 H locs hf hw => ?_)
  refine q_if_eq (tgt := 22) hx hb hf dX8_clockOf_10 (by decide) (fun hf => ?_) (fun hf => ?_)
  · refine lv_aload_n hx hb dX8_clockOf_22 rfl (lv_at hl 0 rfl) ?_
    refine lv_iconst (v := 1) hx hb dX8_clockOf_23 (by decide) ?_
    refine q_eI hf hw (fun v τ h => q_rV (As := [.int (1 : Int32)]) (rest := []) (q := (RX8, TX8, 32)) X hK hw rfl (Nat.le_of_ble_eq_true rfl : 0 < cnt (gn Γ) 8) (rfl : vwCl[10]? = _) (kX8_fails h) mvX8_fails lk_X8_172 ⟨Nat.le_of_ble_eq_true rfl, Nat.le_of_ble_eq_true rfl⟩ rfl hl.1 rfl (Nat.le_of_ble_eq_true rfl) dX8_clockOf_24 ⟨Nat.le_of_ble_eq_true rfl, Nat.le_of_ble_eq_true rfl⟩) (fun v4 σ3 H locs hf hw => ?_)
    exact q_eiret hf hx hb hr rfl hk hw dX8_clockOf_27 (Nat.le_of_ble_eq_true rfl) (Nat.le_of_ble_eq_true rfl)
  refine lv_aload_n hx hb dX8_clockOf_13 rfl (lv_at hl 0 rfl) ?_
  refine q_get (v := .ref (ga Γ 148 0)) hx hb hK hw hown in_X8 ins_X8 (rfl : vwCl[10]? = some (RX8, TX8, 32)) rfl (Nat.le_of_ble_eq_true rfl : 0 < cnt (gn Γ) 8) 11 (by decide) 1365 fl_X8_36 rfl rfl dX8_clockOf_14 ?_
  refine lv_iload_n hx hb dX8_clockOf_17 rfl (lv_at hl 1 rfl) ?_
  refine q_iald hx hb hK hw (k := 148) (o := 0) (fun _ _ _ => rfl) (Nat.le_of_ble_eq_true rfl : 0 < cnt (gn Γ) 148) hf dX8_clockOf_18 (fun hf => ?_)
  refine lv_goto (tgt := 27) hx hb dX8_clockOf_19 (by decide) ?_
  exact q_eiret hf hx hb hr rfl hk hw dX8_clockOf_27 (Nat.le_of_ble_eq_true rfl) (Nat.le_of_ble_eq_true rfl)
