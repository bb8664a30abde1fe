/-! Pure function and contract of the model's areAlike, by program. -/
def fX8_areAlike_L38 (K : Int32 → St → Option ((Int32 × St))) (N : Nat) : Nat → Int32 → St → Option ((Int32 × St))
  | 0, _, _ => none
  | n + 1, v9, σ10 => (if (93 : Int32) ≤ v9 then K v9 σ10 else (ck (inb v9 93) (ck (inb v9 93) (vl (sI σ10 173 0 (Int32.toNatClampNeg v9) (gI σ10 157 0 (Int32.toNatClampNeg v9))) fun σ11 => (vl (v9 + (1 : Int32)) fun v12 => (fX8_areAlike_L38 K N n v12 σ11))))))
def fX8_areAlike_L70 (K : Int32 → Option ((Int32 × St))) (N : Nat) (σ14 : St) : Nat → Int32 → Option ((Int32 × St))
  | 0, _ => none
  | n + 1, v15 => (if (93 : Int32) ≤ v15 then K v15 else (ck (inb v15 93) (ck (inb v15 93) (if (gI σ14 173 0 (Int32.toNatClampNeg v15)) = (gI σ14 157 0 (Int32.toNatClampNeg v15)) then (vl (v15 + (1 : Int32)) fun v16 => (fX8_areAlike_L70 K N σ14 n v16)) else (some ((0 : Int32), σ14))))))
def fX8_areAlike (N : Nat) (σ : St) (x1 : Int32) (x2 : Int32) : Option (Int32 × St) := (vl (sI σ 8 0 0 (0 : Int32)) fun σ1 => (ob (fX8_isUser N σ1 x1) fun v2 => (if v2 = 0 then (o2 (fX8_isWrong N σ1 (1 : Int32)) fun v4 σ3 => (some ((vp_nar .boolean v4), σ3))) else (ob (fX8_isUser N σ1 x2) fun v5 => (if v5 = 0 then (o2 (fX8_isWrong N σ1 (1 : Int32)) fun v18 σ17 => (some ((vp_nar .boolean v18), σ17))) else (ob (fX8_builds N σ1 x1) fun σ6 => (vl (sN σ6) fun σ7 => (fX8_areAlike_L38 (fun _ σ13 => (ob (fX8_builds N σ13 x2) fun σ14 => (fX8_areAlike_L70 (fun _ => (some ((1 : Int32), σ14))) N σ14 N (0 : Int32)))) N N (0 : Int32) σ7))))))))
set_option maxRecDepth 100000 in
theorem kX8_areAlike {Γ : Gm} {S : List (String × Nat × String)} {l : Launch} {N : Nat} {σ τ : St} {x1 : Int32} {x2 : Int32} {r : Int32}  (hg0 : gn Γ = 0) (hf : fX8_areAlike N σ x1 x2 = some (r, τ)) : CT Γ S l yX8_areAlike cX8_areAlike 5 (some (.boolean)) 3 66 1 93 [.ref (ga Γ 8 0), .int x1, .int x2] (some (.int r)) σ τ := by
  unfold fX8_areAlike at hf
  refine ct_body (lv := [(0, .ref (ga Γ 8 0)), (1, .int x1), (2, .int x2)]) (by decide +kernel) rfl (Nat.le_of_ble_eq_true rfl) ?_
  intro p e s m below meth c ls X hr hk hK hw hl
  have hx := X.1
  have hb := X.2.1
  have hown := X.2.2.2
  refine lv_aload_n hx hb dX8_areAlike_0 rfl (lv_at hl 0 rfl) ?_
  refine lv_iconst (v := 0) hx hb dX8_areAlike_1 (by decide) ?_
  refine q_puti (v := (0 : Int32)) hx hb hK hw hown in_X8 ins_X8 tyX8 tyX8_ok nmX8 (rfl : vwCl[10]? = some (RX8, TX8, 32)) (fun _ _ _ => rfl) (Nat.le_of_ble_eq_true rfl : 0 < cnt (gn Γ) 8) 0 (by decide) 1354 fl_X8_97 rfl rfl rfl (fun _ _ _ => Nat.le_of_ble_eq_true rfl) (fun _ _ _ => rfl) hf dX8_areAlike_2 (fun σ1 H locs hf hw => ?_)
  refine lv_iload_n hx hb dX8_areAlike_5 rfl (lv_at hl 1 rfl) ?_
  refine q_pI hf hw (fun v h => q_rS (As := [.int x1]) (rest := []) X hK hw (kX8_isUser h) msX8_isUser lk_X8_165 ⟨Nat.le_of_ble_eq_true rfl, Nat.le_of_ble_eq_true rfl⟩ rfl hl.1 rfl (Nat.le_of_ble_eq_true rfl) dX8_areAlike_6 ⟨Nat.le_of_ble_eq_true rfl, Nat.le_of_ble_eq_true rfl⟩) (fun v2 H locs hf hw => ?_)
  refine q_if_eq (tgt := 19) hx hb hf dX8_areAlike_9 (by decide) (fun hf => ?_) (fun hf => ?_)
  · refine lv_aload_n hx hb dX8_areAlike_19 rfl (lv_at hl 0 rfl) ?_
    refine lv_iconst (v := 1) hx hb dX8_areAlike_20 (by decide) ?_
    refine q_eI hf hw (fun v τ h => q_rV (As := [.int (1 : Int32)]) (rest := []) (q := (RX8, TX8, 32)) X hK hw rfl (Nat.le_of_ble_eq_true rfl : 0 < cnt (gn Γ) 8) (rfl : vwCl[10]? = _) (kX8_isWrong h) mvX8_isWrong lk_X8_219 ⟨Nat.le_of_ble_eq_true rfl, Nat.le_of_ble_eq_true rfl⟩ rfl hl.1 rfl (Nat.le_of_ble_eq_true rfl) dX8_areAlike_21 ⟨Nat.le_of_ble_eq_true rfl, Nat.le_of_ble_eq_true rfl⟩) (fun v4 σ3 H locs hf hw => ?_)
    exact q_enret hf hx hb hr vn_Z hk hw dX8_areAlike_24 (Nat.le_of_ble_eq_true rfl) (Nat.le_of_ble_eq_true rfl)
  refine lv_iload_n hx hb dX8_areAlike_12 rfl (lv_at hl 2 rfl) ?_
  refine q_pI hf hw (fun v h => q_rS (As := [.int x2]) (rest := []) X hK hw (kX8_isUser h) msX8_isUser lk_X8_165 ⟨Nat.le_of_ble_eq_true rfl, Nat.le_of_ble_eq_true rfl⟩ rfl hl.1 rfl (Nat.le_of_ble_eq_true rfl) dX8_areAlike_13 ⟨Nat.le_of_ble_eq_true rfl, Nat.le_of_ble_eq_true rfl⟩) (fun v5 H locs hf hw => ?_)
  refine q_if_ne (tgt := 25) hx hb hf dX8_areAlike_16 (by decide) (fun hf => ?_) (fun hf => ?_)
  · refine lv_aload_n hx hb dX8_areAlike_25 rfl (lv_at hl 0 rfl) ?_
    refine lv_iload_n hx hb dX8_areAlike_26 rfl (lv_at hl 1 rfl) ?_
    refine q_eV hf hw (fun τ h => q_rV (As := [.int x1]) (rest := []) (q := (RX8, TX8, 32)) X hK hw rfl (Nat.le_of_ble_eq_true rfl : 0 < cnt (gn Γ) 8) (rfl : vwCl[10]? = _) (kX8_builds h) mvX8_builds lk_X8_161 ⟨Nat.le_of_ble_eq_true rfl, Nat.le_of_ble_eq_true rfl⟩ rfl hl.1 rfl (Nat.le_of_ble_eq_true rfl) dX8_areAlike_27 ⟨Nat.le_of_ble_eq_true rfl, Nat.le_of_ble_eq_true rfl⟩) (fun σ6 H locs hf hw => ?_)
    refine lv_bipush (v := 93) hx hb dX8_areAlike_30 (by decide) ?_
    refine q_newA hx hb hg0 hK hw hf dX8_areAlike_32 (Nat.le_of_ble_eq_true rfl) (Nat.le_of_ble_eq_true rfl) (fun a8 σ7 H locs hn1 hK1 hf hw => ?_)
    have hG0 := hK.2.1
    have hK := hK1
    have hl : lv_has ls 5 [(0, .ref (ga (gx1 Γ a8) 8 0)), (1, .int x1), (2, .int x2)] := hl
    refine lv_astore_n (lv' := [(3, .ref (ga (gx1 Γ a8) 173 0)), (0, .ref (ga (gx1 Γ a8) 8 0)), (1, .int x1), (2, .int x2)]) hx hb dX8_areAlike_34 rfl hl (by decide) rfl (fun ls hl => ?_)
    refine lv_iconst (v := 0) hx hb dX8_areAlike_35 (by decide) ?_
    refine lv_istore (lv' := [(4, .int (0 : Int32)), (3, .ref (ga (gx1 Γ a8) 173 0)), (0, .ref (ga (gx1 Γ a8) 8 0)), (1, .int x1), (2, .int x2)]) hx hb dX8_areAlike_36 hl (by decide) rfl (fun ls hl => ?_)
    have L38 : ∀ (K : Int32 → St → Option ((Int32 × St))) (hkk : ∀ (y4 : Int32) (σq : St) (H : Heap) (locs : List Loc) (ls : Array Slot), K y4 σq = some (r, τ) → Sit (gx1 Γ a8) σq s H locs → lv_has ls 5 [(0, .ref (ga (gx1 Γ a8) 8 0)), (2, .int x2), (3, .ref (ga (gx1 Γ a8) 173 0))] → W p l e { frames := 3, cells := 1, slots := 93, locals := 66 } s m [.ref (ga Γ 8 0), .int x1, .int x2].toArray below meth c H locs 1 93 (MQ below (Qg Γ (some (.int r)) τ (AA Γ s.heap.size)) [.ref (ga Γ 8 0), .int x1, .int x2].toArray s 1 93 (AA Γ s.heap.size)) (F0 m 62 ls [])) (n : Nat) (v9 : Int32) (σ10 : St) (H : Heap) (locs : List Loc) (ls : Array Slot), fX8_areAlike_L38 K N n v9 σ10 = some (r, τ) → Sit (gx1 Γ a8) σ10 s H locs → lv_has ls 5 [(0, .ref (ga (gx1 Γ a8) 8 0)), (2, .int x2), (3, .ref (ga (gx1 Γ a8) 173 0)), (4, .int v9)] → W p l e { frames := 3, cells := 1, slots := 93, locals := 66 } s m [.ref (ga Γ 8 0), .int x1, .int x2].toArray below meth c H locs 1 93 (MQ below (Qg Γ (some (.int r)) τ (AA Γ s.heap.size)) [.ref (ga Γ 8 0), .int x1, .int x2].toArray s 1 93 (AA Γ s.heap.size)) (F0 m 38 ls []) := by
      intro K hkk n
      induction n with
      | zero =>
        intro _ _ _ _ _ hf
        exact nomatch hf
      | succ n ih =>
        intro v9 σ10 H locs ls hf hw hl
        refine lv_iload hx hb dX8_areAlike_38 (lv_at hl 3 rfl) ?_
        refine lv_bipush (v := 93) hx hb dX8_areAlike_40 (by decide) ?_
        refine q_ic_ge (tgt := 62) hx hb hf dX8_areAlike_42 (by decide) (fun hf => ?_) (fun hf => ?_)
        · exact hkk _ _ _ _ _ hf hw (lv_sub hl [0, 1, 2] rfl)
        refine lv_aload_n hx hb dX8_areAlike_45 rfl (lv_at hl 2 rfl) ?_
        refine lv_iload hx hb dX8_areAlike_46 (lv_at hl 3 rfl) ?_
        refine lv_aload_n hx hb dX8_areAlike_48 rfl (lv_at hl 0 rfl) ?_
        refine q_get (v := .ref (ga (gx1 Γ a8) 157 0)) hx hb hK hw hown in_X8 ins_X8 (rfl : vwCl[10]? = some (RX8, TX8, 32)) rfl (Nat.le_of_ble_eq_true rfl : 0 < cnt (gn (gx1 Γ a8)) 8) 21 (by decide) 1375 fl_X8_67 rfl rfl dX8_areAlike_49 ?_
        refine lv_iload hx hb dX8_areAlike_52 (lv_at hl 3 rfl) ?_
        refine q_iald hx hb hK hw (k := 157) (o := 0) (fun _ _ _ => rfl) (Nat.le_of_ble_eq_true rfl : 0 < cnt (gn (gx1 Γ a8)) 157) hf dX8_areAlike_54 (fun hf => ?_)
        refine q_iast hx hb hK hw (k := 173) (o := 0) (fun _ _ _ => rfl) (Nat.le_of_ble_eq_true rfl : 0 < cnt (gn (gx1 Γ a8)) 173) hf dX8_areAlike_55 (fun σ11 H locs hf hw => ?_)
        refine q_iinc (lv1 := [(0, .ref (ga (gx1 Γ a8) 8 0)), (2, .int x2), (3, .ref (ga (gx1 Γ a8) 173 0))]) (d := 1) hx hb hf dX8_areAlike_56 hl (k := 3) rfl (by decide) (by decide) rfl (fun v12 ls hf hl => ?_)
        refine lv_goto (tgt := 38) hx hb dX8_areAlike_59 (by decide) ?_
        exact ih _ _ _ _ _ hf hw (lv_sub hl [1, 2, 3, 0] rfl)
    refine L38 _ (fun _ σ13 H locs ls hf hw hl => ?_) N (0 : Int32) σ7 _ _ _ hf hw (lv_sub hl [2, 4, 1, 0] rfl)
    refine lv_aload_n hx hb dX8_areAlike_62 rfl (lv_at hl 0 rfl) ?_
    refine lv_iload_n hx hb dX8_areAlike_63 rfl (lv_at hl 1 rfl) ?_
    refine q_eV hf hw (fun τ h => q_rV (As := [.int x2]) (rest := []) (q := (RX8, TX8, 32)) X hK hw rfl (Nat.le_of_ble_eq_true rfl : 0 < cnt (gn (gx1 Γ a8)) 8) (rfl : vwCl[10]? = _) (kX8_builds h) mvX8_builds lk_X8_161 ⟨Nat.le_of_ble_eq_true rfl, Nat.le_of_ble_eq_true rfl⟩ rfl hl.1 rfl (Nat.le_of_ble_eq_true rfl) dX8_areAlike_64 ⟨Nat.le_of_ble_eq_true rfl, Nat.le_of_ble_eq_true rfl⟩) (fun σ14 H locs hf hw => ?_)
    refine lv_iconst (v := 0) hx hb dX8_areAlike_67 (by decide) ?_
    refine lv_istore (lv' := [(4, .int (0 : Int32)), (0, .ref (ga (gx1 Γ a8) 8 0)), (2, .int x2), (3, .ref (ga (gx1 Γ a8) 173 0))]) hx hb dX8_areAlike_68 hl (by decide) rfl (fun ls hl => ?_)
    have L70 : ∀ (K : Int32 → Option ((Int32 × St))) (hkk : ∀ (y4 : Int32) (H : Heap) (locs : List Loc) (ls : Array Slot), K y4 = some (r, τ) → Sit (gx1 Γ a8) σ14 s H locs → lv_has ls 5 [] → W p l e { frames := 3, cells := 1, slots := 93, locals := 66 } s m [.ref (ga Γ 8 0), .int x1, .int x2].toArray below meth c H locs 1 93 (MQ below (Qg Γ (some (.int r)) τ (AA Γ s.heap.size)) [.ref (ga Γ 8 0), .int x1, .int x2].toArray s 1 93 (AA Γ s.heap.size)) (F0 m 99 ls [])) (n : Nat) (v15 : Int32) (H : Heap) (locs : List Loc) (ls : Array Slot), fX8_areAlike_L70 K N σ14 n v15 = some (r, τ) → Sit (gx1 Γ a8) σ14 s H locs → lv_has ls 5 [(0, .ref (ga (gx1 Γ a8) 8 0)), (3, .ref (ga (gx1 Γ a8) 173 0)), (4, .int v15)] → W p l e { frames := 3, cells := 1, slots := 93, locals := 66 } s m [.ref (ga Γ 8 0), .int x1, .int x2].toArray below meth c H locs 1 93 (MQ below (Qg Γ (some (.int r)) τ (AA Γ s.heap.size)) [.ref (ga Γ 8 0), .int x1, .int x2].toArray s 1 93 (AA Γ s.heap.size)) (F0 m 70 ls []) := by
      intro K hkk n
      induction n with
      | zero =>
        intro _ _ _ _ hf
        exact nomatch hf
      | succ n ih =>
        intro v15 H locs ls hf hw hl
        refine lv_iload hx hb dX8_areAlike_70 (lv_at hl 2 rfl) ?_
        refine lv_bipush (v := 93) hx hb dX8_areAlike_72 (by decide) ?_
        refine q_ic_ge (tgt := 99) hx hb hf dX8_areAlike_74 (by decide) (fun hf => ?_) (fun hf => ?_)
        · exact hkk _ _ _ _ hf hw (lv_sub hl [] rfl)
        refine lv_aload_n hx hb dX8_areAlike_77 rfl (lv_at hl 1 rfl) ?_
        refine lv_iload hx hb dX8_areAlike_78 (lv_at hl 2 rfl) ?_
        refine q_iald hx hb hK hw (k := 173) (o := 0) (fun _ _ _ => rfl) (Nat.le_of_ble_eq_true rfl : 0 < cnt (gn (gx1 Γ a8)) 173) hf dX8_areAlike_80 (fun hf => ?_)
        refine lv_aload_n hx hb dX8_areAlike_81 rfl (lv_at hl 0 rfl) ?_
        refine q_get (v := .ref (ga (gx1 Γ a8) 157 0)) hx hb hK hw hown in_X8 ins_X8 (rfl : vwCl[10]? = some (RX8, TX8, 32)) rfl (Nat.le_of_ble_eq_true rfl : 0 < cnt (gn (gx1 Γ a8)) 8) 21 (by decide) 1375 fl_X8_67 rfl rfl dX8_areAlike_82 ?_
        refine lv_iload hx hb dX8_areAlike_85 (lv_at hl 2 rfl) ?_
        refine q_iald hx hb hK hw (k := 157) (o := 0) (fun _ _ _ => rfl) (Nat.le_of_ble_eq_true rfl : 0 < cnt (gn (gx1 Γ a8)) 157) hf dX8_areAlike_87 (fun hf => ?_)
        refine q_ic_eq (tgt := 93) hx hb hf dX8_areAlike_88 (by decide) (fun hf => ?_) (fun hf => ?_)
        · refine q_iinc (lv1 := [(0, .ref (ga (gx1 Γ a8) 8 0)), (3, .ref (ga (gx1 Γ a8) 173 0))]) (d := 1) hx hb hf dX8_areAlike_93 hl (k := 2) rfl (by decide) (by decide) rfl (fun v16 ls hf hl => ?_)
          refine lv_goto (tgt := 70) hx hb dX8_areAlike_96 (by decide) ?_
          exact ih _ _ _ _ hf hw (lv_sub hl [1, 2, 0] rfl)
        refine lv_iconst (v := 0) hx hb dX8_areAlike_91 (by decide) ?_
        have hw := sit_back hG0 hn1 hw
        exact q_eiret hf hx hb hr rfl hk hw dX8_areAlike_92 (Nat.le_of_ble_eq_true rfl) (Nat.le_of_ble_eq_true rfl)
    refine L70 _ (fun _ H locs ls hf hw hl => ?_) N (0 : Int32) _ _ _ hf hw (lv_sub hl [1, 3, 0] rfl)
    refine lv_iconst (v := 1) hx hb dX8_areAlike_99 (by decide) ?_
    have hw := sit_back hG0 hn1 hw
    exact q_eiret hf hx hb hr rfl hk hw dX8_areAlike_100 (Nat.le_of_ble_eq_true rfl) (Nat.le_of_ble_eq_true rfl)
  refine lv_aload_n hx hb dX8_areAlike_19 rfl (lv_at hl 0 rfl) ?_
  refine lv_iconst (v := 1) hx hb dX8_areAlike_20 (by decide) ?_
  refine q_eI hf hw (fun v τ h => q_rV (As := [.int (1 : Int32)]) (rest := []) (q := (RX8, TX8, 32)) X hK hw rfl (Nat.le_of_ble_eq_true rfl : 0 < cnt (gn Γ) 8) (rfl : vwCl[10]? = _) (kX8_isWrong h) mvX8_isWrong lk_X8_219 ⟨Nat.le_of_ble_eq_true rfl, Nat.le_of_ble_eq_true rfl⟩ rfl hl.1 rfl (Nat.le_of_ble_eq_true rfl) dX8_areAlike_21 ⟨Nat.le_of_ble_eq_true rfl, Nat.le_of_ble_eq_true rfl⟩) (fun v18 σ17 H locs hf hw => ?_)
  exact q_enret hf hx hb hr vn_Z hk hw dX8_areAlike_24 (Nat.le_of_ble_eq_true rfl) (Nat.le_of_ble_eq_true rfl)
