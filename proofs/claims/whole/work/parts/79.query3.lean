/-! Questions on operations and the rest. -/
section Q3
variable {A : Ab} {N : Nat} {σ : St}
theorem c_op (hC : CR A σ) (hn : aN A ≤ 250) {z : Int} (hz : rg z) : fX7_needOperation N σ (ij z) = if decide (0 ≤ z ∧ z < aN A) then some (.inl (), σ) else some (.inr EN, σ) := by
  have hz1 := hz.1
  have hz2 := hz.2
  unfold fX7_needOperation
  rw [hC.2.1.1]
  simp (disch := omega) only [ij_l0, ij_l1, ij_l2, ij_l3, ij_l4, ij_l5, ij_l6, ij_l8, ij_l12, ij_l16, ij_l19, ij_l23, ij_l24, ij_l31, ij_l32, ij_l36, ij_l47, ij_l48, ij_l56, ij_l92, ij_l93, ij_l98, ij_l108, ij_l114, ij_l116, ij_l127, ij_l128, ij_l149, ij_l250, ij_l384, ij_l768, ij_l1000, ij_l1536, ij_l3000, ij_l1000000, ij_l1000003, ij_l1000000000, ij_neg, ij_add, ij_sub, ij_mul, ij_lt, ij_le, ij_eq, ij_nat, tn_nat, tn_12, tn_24, tn_36, tn_48, ck_in, ob_s, o2_s, vl_s, ox_l, ox_r, ck_tr, if_pos, if_neg]
  by_cases h : z < 0
  · rw [if_pos h, decide_eq_false (by omega)]; simp
  · rw [if_neg h]
    by_cases g : z < aN A
    · rw [if_pos g, decide_eq_true (by omega)]; simp
    · rw [if_neg g, decide_eq_false (by omega)]; simp
theorem m_isOperation (hM : MR A σ) (hn : aN A ≤ 250) {z : Int} (hz : rg z) : fX8_isOperation N σ (ij z) = some (bi (decide (0 ≤ z ∧ z < aN A))) := by
  unfold fX8_isOperation
  rw [hM.2.1.1]
  simp only [ij_l0, ij_l1, ij_l2, ij_l3, ij_l4, ij_l5, ij_l6, ij_l8, ij_l12, ij_l16, ij_l19, ij_l23, ij_l24, ij_l31, ij_l32, ij_l36, ij_l47, ij_l48, ij_l56, ij_l92, ij_l93, ij_l98, ij_l108, ij_l114, ij_l116, ij_l127, ij_l128, ij_l149, ij_l250, ij_l384, ij_l768, ij_l1000, ij_l1536, ij_l3000, ij_l1000000, ij_l1000003, ij_l1000000000, ij_neg, ij_add, ij_sub, ij_mul]
  rw [m_isBetween hz (by omega) (by omega), ob_s, bi_nar]
  have : decide (0 ≤ z ∧ z ≤ (aN A : Int) - 1) = decide (0 ≤ z ∧ z < aN A) := by
    by_cases g : 0 ≤ z ∧ z < aN A
    · rw [decide_eq_true g, decide_eq_true (by omega)]
    · rw [decide_eq_false g, decide_eq_false (by omega)]
  rw [this]
theorem f_isKnown (hC : CR A σ) {u o : Nat} (hu : u < 3) (ho : o < 250) : fX5_isKnown N σ u (ij o) = some (bi (kn A u o)) := by
  have hk := (hC.2.2.2.1 u hu).1.2.2 o ho
  unfold fX5_isKnown
  rw [f_isAt (b := kn A u o) (by omega) (by omega) (by omega) (by rw [tn_nat]; exact hk), ob_s, bi_nar]
theorem ok_15 (h : Inv A σ) (xs : Nat → Int32) (L : Nat) (i : Int32) : Nxt (g_15 N xs L σ i) := by
  obtain ⟨hI, hC, hM⟩ := h
  refine ⟨A, sI σ 8 0 0 0, ?_, hI, CR_un hC (Un_thr σ _), MR_thr hM _⟩
  unfold g_15 fX7_operations fX8_operations
  rw [ob_s, vl_s, o2_s, gI_sI_eq]
  rw [hC.2.1.1]
  have : (if (20 : Nat) = 0 then (0 : Int32) else gI σ 8 0 20) = ij (aN A) := by rw [if_neg (by omega)]; exact hM.2.1.1
  rw [this, if_pos rfl]
theorem hn1 {H : Hd} (e : H = fun E5 σ3 => (if E5 = "java/util/NoSuchElementException" then (some ((1 : Int32), σ3)) else none)) : ∀ σ, H EN σ = some (1, σ) := by
  subst e
  exact fun σ => by simp [EN]
theorem p_userOf (h : Inv A σ) (hN : 1000 ≤ N) (x : Int32) : PairI (fL_userOf N σ x) (fun τ => fX8_userOf N τ x) := by
  obtain ⟨hI, hC, hM⟩ := h
  obtain ⟨x, rfl, hx⟩ := rg_ex x
  have hn := hI.1.1
  unfold fL_userOf fX7_userOf
  rw [c_op hC hn hx]
  cases e : decide (0 ≤ x ∧ x < aN A) with
  | false =>
    simp only [Bool.false_eq_true, if_false, ox_r]
    refine mkI hI hC (c := 1) rfl (by omega) ⟨ij 0, sI (sI σ 8 0 0 (ij 0)) 8 0 0 (ij 1), ?_, MR_thr (MR_thr hM _) _, (Un_thr _ _).tr (Un_thr _ _), thr_thr _ _, fun q => by omega⟩
    unfold fX8_userOf fX8_fails
    simp only [ij_l0, ij_l1, ij_l2, ij_l3, ij_l4, ij_l5, ij_l6, ij_l8, ij_l12, ij_l16, ij_l19, ij_l23, ij_l24, ij_l31, ij_l32, ij_l36, ij_l47, ij_l48, ij_l56, ij_l92, ij_l93, ij_l98, ij_l108, ij_l114, ij_l116, ij_l127, ij_l128, ij_l149, ij_l250, ij_l384, ij_l768, ij_l1000, ij_l1536, ij_l3000, ij_l1000000, ij_l1000003, ij_l1000000000, ij_neg, ij_add, ij_sub, ij_mul, vl_s]
    rw [m_isOperation (MR_thr hM _) hn hx, e, ob_s, if_pos (by decide), o2_s]
  | true =>
    rw [decide_eq_true_eq] at e
    obtain ⟨o, rfl⟩ : ∃ o : Nat, x = o := ⟨x.toNat, by omega⟩
    have a := (hC.2.1.2.2 o (by omega)).1
    have hua : fX1_userAt N σ (ij o) = some (ij (aUs A o)) := by
      unfold fX1_userAt
      rw [f_intAt (by omega) (by omega) (by omega), tn_nat, a, ob_s]
    simp only [if_true, ox_l]
    rw [hua, ob_s, ox_l, vl_s]
    refine mkI hI (CR_J hC) (c := 0) rfl (by omega) ⟨ij (aUs A o), sI (sJ σ 0 (Int32.toInt64 (ij (aUs A o)))) 8 0 0 (ij 0), ?_, MR_thr (MR_J hM) _, Un_thr _ _, thr_thr _ _, fun _ => gJ_sJ _ _⟩
    have hM2 : MR A (sI (sJ σ 0 (Int32.toInt64 (ij (aUs A o)))) 8 0 0 (ij 0)) := MR_thr (MR_J hM) _
    have a2 := (hM2.2.1.2.1 o (by omega)).1
    unfold fX8_userOf
    simp only [ij_l0, ij_l1, ij_l2, ij_l3, ij_l4, ij_l5, ij_l6, ij_l8, ij_l12, ij_l16, ij_l19, ij_l23, ij_l24, ij_l31, ij_l32, ij_l36, ij_l47, ij_l48, ij_l56, ij_l92, ij_l93, ij_l98, ij_l108, ij_l114, ij_l116, ij_l127, ij_l128, ij_l149, ij_l250, ij_l384, ij_l768, ij_l1000, ij_l1536, ij_l3000, ij_l1000000, ij_l1000003, ij_l1000000000, ij_neg, ij_add, ij_sub, ij_mul, vl_s]
    rw [m_isOperation hM2 hn hx, decide_eq_true (by omega), ob_s, if_neg (by decide)]
    simp (disch := omega) only [ij_l0, ij_l1, ij_l2, ij_l3, ij_l4, ij_l5, ij_l6, ij_l8, ij_l12, ij_l16, ij_l19, ij_l23, ij_l24, ij_l31, ij_l32, ij_l36, ij_l47, ij_l48, ij_l56, ij_l92, ij_l93, ij_l98, ij_l108, ij_l114, ij_l116, ij_l127, ij_l128, ij_l149, ij_l250, ij_l384, ij_l768, ij_l1000, ij_l1536, ij_l3000, ij_l1000000, ij_l1000003, ij_l1000000000, ij_neg, ij_add, ij_sub, ij_mul, ij_lt, ij_le, ij_eq, ij_nat, tn_nat, tn_12, tn_24, tn_36, tn_48, ck_in, ob_s, o2_s, vl_s, ox_l, ox_r, ck_tr, if_pos, if_neg, a2]
theorem p_clockOf (h : Inv A σ) (hN : 1000 ≤ N) (x : Int32) : PairI (fL_clockOf N σ x) (fun τ => fX8_clockOf N τ x) := by
  obtain ⟨hI, hC, hM⟩ := h
  obtain ⟨x, rfl, hx⟩ := rg_ex x
  have hn := hI.1.1
  unfold fL_clockOf fX7_clockOf
  rw [c_op hC hn hx]
  cases e : decide (0 ≤ x ∧ x < aN A) with
  | false =>
    simp only [Bool.false_eq_true, if_false, ox_r]
    refine mkI hI hC (c := 1) rfl (by omega) ⟨ij 0, sI (sI σ 8 0 0 (ij 0)) 8 0 0 (ij 1), ?_, MR_thr (MR_thr hM _) _, (Un_thr _ _).tr (Un_thr _ _), thr_thr _ _, fun q => by omega⟩
    unfold fX8_clockOf fX8_fails
    simp only [ij_l0, ij_l1, ij_l2, ij_l3, ij_l4, ij_l5, ij_l6, ij_l8, ij_l12, ij_l16, ij_l19, ij_l23, ij_l24, ij_l31, ij_l32, ij_l36, ij_l47, ij_l48, ij_l56, ij_l92, ij_l93, ij_l98, ij_l108, ij_l114, ij_l116, ij_l127, ij_l128, ij_l149, ij_l250, ij_l384, ij_l768, ij_l1000, ij_l1536, ij_l3000, ij_l1000000, ij_l1000003, ij_l1000000000, ij_neg, ij_add, ij_sub, ij_mul, vl_s]
    rw [m_isOperation (MR_thr hM _) hn hx, e, ob_s, if_pos (by decide), o2_s]
  | true =>
    rw [decide_eq_true_eq] at e
    obtain ⟨o, rfl⟩ : ∃ o : Nat, x = o := ⟨x.toNat, by omega⟩
    have a := (hC.2.1.2.2 o (by omega)).2.1
    have hua : fX1_clockAt N σ (ij o) = some (ij (aCk A o)) := by
      unfold fX1_clockAt
      rw [f_intAt (by omega) (by omega) (by omega), tn_nat, a, ob_s]
    simp only [if_true, ox_l]
    rw [hua, ob_s, ox_l, vl_s]
    refine mkI hI (CR_J hC) (c := 0) rfl (by omega) ⟨ij (aCk A o), sI (sJ σ 0 (Int32.toInt64 (ij (aCk A o)))) 8 0 0 (ij 0), ?_, MR_thr (MR_J hM) _, Un_thr _ _, thr_thr _ _, fun _ => gJ_sJ _ _⟩
    have hM2 : MR A (sI (sJ σ 0 (Int32.toInt64 (ij (aCk A o)))) 8 0 0 (ij 0)) := MR_thr (MR_J hM) _
    have a2 := (hM2.2.1.2.1 o (by omega)).2.1
    unfold fX8_clockOf
    simp only [ij_l0, ij_l1, ij_l2, ij_l3, ij_l4, ij_l5, ij_l6, ij_l8, ij_l12, ij_l16, ij_l19, ij_l23, ij_l24, ij_l31, ij_l32, ij_l36, ij_l47, ij_l48, ij_l56, ij_l92, ij_l93, ij_l98, ij_l108, ij_l114, ij_l116, ij_l127, ij_l128, ij_l149, ij_l250, ij_l384, ij_l768, ij_l1000, ij_l1536, ij_l3000, ij_l1000000, ij_l1000003, ij_l1000000000, ij_neg, ij_add, ij_sub, ij_mul, vl_s]
    rw [m_isOperation hM2 hn hx, decide_eq_true (by omega), ob_s, if_neg (by decide)]
    simp (disch := omega) only [ij_l0, ij_l1, ij_l2, ij_l3, ij_l4, ij_l5, ij_l6, ij_l8, ij_l12, ij_l16, ij_l19, ij_l23, ij_l24, ij_l31, ij_l32, ij_l36, ij_l47, ij_l48, ij_l56, ij_l92, ij_l93, ij_l98, ij_l108, ij_l114, ij_l116, ij_l127, ij_l128, ij_l149, ij_l250, ij_l384, ij_l768, ij_l1000, ij_l1536, ij_l3000, ij_l1000000, ij_l1000003, ij_l1000000000, ij_neg, ij_add, ij_sub, ij_mul, ij_lt, ij_le, ij_eq, ij_nat, tn_nat, tn_12, tn_24, tn_36, tn_48, ck_in, ob_s, o2_s, vl_s, ox_l, ox_r, ck_tr, if_pos, if_neg, a2]
theorem wB (b : Bool) (σ2 : St) : (if vp_nar .boolean (bi b) = 0 then (vl (sJ σ2 0 (0 : Int64)) fun σ6 => (some ((0 : Int32), σ6))) else (vl (sJ σ2 0 (1 : Int64)) fun σ7 => (some ((0 : Int32), σ7)))) = some (ij 0, sJ σ2 0 (if b then 1 else 0)) := by
  rw [bi_nar]
  cases b with
  | true => rw [if_neg (by decide)]; rfl
  | false => rw [if_pos (by decide)]; rfl
theorem p_knows (h : Inv A σ) (hN : 1000 ≤ N) (x y : Int32) : PairB (fL_knows N σ x y) (fun τ => fX8_knows N τ x y) := by
  obtain ⟨hI, hC, hM⟩ := h
  obtain ⟨x, rfl, hx⟩ := rg_ex x
  obtain ⟨y, rfl, hy⟩ := rg_ex y
  have hn := hI.1.1
  unfold fL_knows fX7_knows
  rw [c_user hx]
  cases e : usz x with
  | false =>
    simp only [Bool.false_eq_true, if_false, ox_r]
    refine mkB hI hC (c := 1) rfl (by omega) ⟨false, sI (sI σ 8 0 0 (ij 0)) 8 0 0 (ij 1), ?_, MR_thr (MR_thr hM _) _, (Un_thr _ _).tr (Un_thr _ _), thr_thr _ _, fun q => by omega⟩
    have e' : decide (0 ≤ x ∧ x ≤ 2) = false := e
    unfold fX8_knows fX8_isWrong
    simp only [ij_l0, ij_l1, ij_l2, ij_l3, ij_l4, ij_l5, ij_l6, ij_l8, ij_l12, ij_l16, ij_l19, ij_l23, ij_l24, ij_l31, ij_l32, ij_l36, ij_l47, ij_l48, ij_l56, ij_l92, ij_l93, ij_l98, ij_l108, ij_l114, ij_l116, ij_l127, ij_l128, ij_l149, ij_l250, ij_l384, ij_l768, ij_l1000, ij_l1536, ij_l3000, ij_l1000000, ij_l1000003, ij_l1000000000, ij_neg, ij_add, ij_sub, ij_mul, vl_s]
    rw [m_isUser hx, e', ob_s, if_pos (by decide), o2_s]
    rfl
  | true =>
    have e' : decide (0 ≤ x ∧ x ≤ 2) = true := e
    obtain ⟨u, rfl, hu⟩ := usz_nat e
    simp only [if_true, tn_nat, ox_l]
    rw [c_op hC hn hy]
    cases e2 : decide (0 ≤ y ∧ y < aN A) with
    | false =>
      simp only [Bool.false_eq_true, if_false, ox_r]
      refine mkB hI hC (c := 2) rfl (by omega) ⟨false, sI (sI σ 8 0 0 (ij 0)) 8 0 0 (ij 2), ?_, MR_thr (MR_thr hM _) _, (Un_thr _ _).tr (Un_thr _ _), thr_thr _ _, fun q => by omega⟩
      unfold fX8_knows fX8_isWrong
      simp only [ij_l0, ij_l1, ij_l2, ij_l3, ij_l4, ij_l5, ij_l6, ij_l8, ij_l12, ij_l16, ij_l19, ij_l23, ij_l24, ij_l31, ij_l32, ij_l36, ij_l47, ij_l48, ij_l56, ij_l92, ij_l93, ij_l98, ij_l108, ij_l114, ij_l116, ij_l127, ij_l128, ij_l149, ij_l250, ij_l384, ij_l768, ij_l1000, ij_l1536, ij_l3000, ij_l1000000, ij_l1000003, ij_l1000000000, ij_neg, ij_add, ij_sub, ij_mul, vl_s]
      rw [m_isUser hx, e', ob_s, if_neg (by decide), m_isOperation (MR_thr hM _) hn hy, e2, ob_s, if_pos (by decide), o2_s]
      rfl
    | true =>
      rw [decide_eq_true_eq] at e2
      obtain ⟨o, rfl⟩ : ∃ o : Nat, y = o := ⟨y.toNat, by omega⟩
      simp only [if_true, ox_l]
      rw [f_isKnown hC hu (by omega), ob_s, ox_l, wB]
      have hM2 : MR A (sI (sJ σ 0 (if kn A u o then 1 else 0)) 8 0 0 (ij 0)) := MR_thr (MR_J hM) _
      refine mkB hI (CR_J hC) (c := 0) rfl (by omega) ⟨kn A u o, sI (sJ σ 0 (if kn A u o then 1 else 0)) 8 0 0 (ij 0), ?_, hM2, Un_thr _ _, thr_thr _ _, fun _ => gJ_sJ _ _⟩
      have a2 := hM2.2.1.2.2 u o hu (by omega)
      unfold fX8_knows
      simp only [ij_l0, ij_l1, ij_l2, ij_l3, ij_l4, ij_l5, ij_l6, ij_l8, ij_l12, ij_l16, ij_l19, ij_l23, ij_l24, ij_l31, ij_l32, ij_l36, ij_l47, ij_l48, ij_l56, ij_l92, ij_l93, ij_l98, ij_l108, ij_l114, ij_l116, ij_l127, ij_l128, ij_l149, ij_l250, ij_l384, ij_l768, ij_l1000, ij_l1536, ij_l3000, ij_l1000000, ij_l1000003, ij_l1000000000, ij_neg, ij_add, ij_sub, ij_mul, vl_s]
      rw [m_isUser hx, e', ob_s, if_neg (by decide), m_isOperation hM2 hn hy, decide_eq_true (by omega), ob_s, if_neg (by decide)]
      simp (disch := omega) only [ij_l0, ij_l1, ij_l2, ij_l3, ij_l4, ij_l5, ij_l6, ij_l8, ij_l12, ij_l16, ij_l19, ij_l23, ij_l24, ij_l31, ij_l32, ij_l36, ij_l47, ij_l48, ij_l56, ij_l92, ij_l93, ij_l98, ij_l108, ij_l114, ij_l116, ij_l127, ij_l128, ij_l149, ij_l250, ij_l384, ij_l768, ij_l1000, ij_l1536, ij_l3000, ij_l1000000, ij_l1000003, ij_l1000000000, ij_neg, ij_add, ij_sub, ij_mul, ij_lt, ij_le, ij_eq, ij_nat, tn_nat, tn_12, tn_24, tn_36, tn_48, ck_in, ob_s, o2_s, vl_s, ox_l, ox_r, ck_tr, if_pos, if_neg, a2, bi_nar]
theorem p_sees (h : Inv A σ) (hN : 1000 ≤ N) (x y : Int32) : PairB (fL_sees N σ x y) (fun τ => fX8_sees N τ x y) := by
  obtain ⟨hI, hC, hM⟩ := h
  obtain ⟨x, rfl, hx⟩ := rg_ex x
  obtain ⟨y, rfl, hy⟩ := rg_ex y
  unfold fL_sees fX7_sees
  rw [c_user hx]
  cases e : usz x with
  | false =>
    simp only [Bool.false_eq_true, if_false, ox_r]
    refine mkB hI hC (c := 1) rfl (by omega) ?_
    rcases m_nobody hI hM hN hx with ⟨_, τ, t1, t2, t3, t4⟩ | ⟨u, rfl, hu, _⟩
    · refine ⟨false, τ, ?_, t2, t3, t4, fun q => by omega⟩
      unfold fX8_sees
      rw [t1]; rfl
    · rw [usz_ij hu] at e; cases e
  | true =>
    obtain ⟨u, rfl, hu⟩ := usz_nat e
    simp only [if_true, tn_nat, ox_l]
    rw [f_isSeen (CR_VW hI hu hC) hy.1 hy.2, ob_s, ox_l, wB]
    refine mkB hI (CR_J hC) (c := 0) rfl (by omega) ?_
    rcases m_nobody (σ := sJ σ 0 (if snz A (bv A (kn A u)) y then 1 else 0)) hI (MR_J hM) hN hx with ⟨q, _⟩ | ⟨u', e', hu', τ, t1, t2, t3, t4⟩
    · rw [usz_ij hu] at q; cases q
    · have : u = u' := by omega
      subst this
      refine ⟨snz A (bv A (kn A u)) y, τ, ?_, t2.1, t3, t4, fun _ => gJ_sJ _ _⟩
      unfold fX8_sees
      rw [t1, o2_s, if_pos (by decide), m_isSeen (MB_WM hI t2) hy.1 hy.2, ob_s]
      cases snz A (bv A (kn A u)) y with
      | true => rw [if_neg (by decide)]; rfl
      | false => rw [if_pos (by decide)]; rfl
theorem p_area (h : Inv A σ) (hN : 1000 ≤ N) (x : Int32) : PairJ (fL_area N σ x) (fun τ => fX8_area N τ x) := by
  obtain ⟨hI, hC, hM⟩ := h
  obtain ⟨x, rfl, hx⟩ := rg_ex x
  unfold fL_area fX7_area
  rw [c_user hx]
  cases e : usz x with
  | false =>
    simp only [Bool.false_eq_true, if_false, ox_r]
    refine mkJ hI hC (c := 1) rfl (by omega) ?_
    rcases m_nobody hI hM hN hx with ⟨_, τ, t1, t2, t3, t4⟩ | ⟨u, rfl, hu, _⟩
    · refine ⟨0, τ, ?_, t2, t3, t4, fun q => by omega⟩
      unfold fX8_area
      rw [t1]; rfl
    · rw [usz_ij hu] at e; cases e
  | true =>
    obtain ⟨u, rfl, hu⟩ := usz_nat e
    simp only [if_true, tn_nat, ox_l]
    rw [f_sumOfAreas (CR_VW hI hu hC) (by omega), ob_s, ox_l, vl_s]
    refine mkJ hI (CR_J hC) (c := 0) rfl (by omega) ?_
    rcases m_nobody (σ := sJ σ 0 (lj (sar A (bv A (kn A u)) 12))) hI (MR_J hM) hN hx with ⟨q, _⟩ | ⟨u', e', hu', τ, t1, t2, t3, t4⟩
    · rw [usz_ij hu] at q; cases q
    · have : u = u' := by omega
      subst this
      have hW := MB_WM hI t2
      have hsh := hI.2.1.1
      refine ⟨lj (sar A (bv A (kn A u)) 12), τ, ?_, t2.1, t3, t4, fun _ => gJ_sJ _ _⟩
      unfold fX8_area
      rw [t1, o2_s, if_pos (by decide), sar_cut hI.2.1 hsh]
      refine lp_end (fun n j => fX8_area_L15 (fun v10 _ => (some (v10, τ))) N τ n (lj (sar A (bv A (kn A u)) j)) (ij j)) (a := 0) (b := aSh A) (by omega) (fun n j _ hj => ?_) (fun n => ?_) N (by omega)
      · have hw := hI.2.1.2.2.1 j
        have hwm := m_width hW hj
        have l0 : (0 : Int64) = lj 0 := rfl
        simp only [fX8_area_L15]
        rw [hW.1.1, m_seen hW (by omega)]
        by_cases e : sn A (bv A (kn A u)) j = true
        · have hp : aW A j * aH A j ≤ 8 * 8 := Nat.mul_le_mul (by omega) (by omega)
          have hpi : ((aW A j : Int) * aH A j) = ((aW A j * aH A j : Nat) : Int) := by simp
          simp (disch := omega) only [ij_l0, ij_l1, ij_l2, ij_l3, ij_l4, ij_l5, ij_l6, ij_l8, ij_l12, ij_l16, ij_l19, ij_l23, ij_l24, ij_l31, ij_l32, ij_l36, ij_l47, ij_l48, ij_l56, ij_l92, ij_l93, ij_l98, ij_l108, ij_l114, ij_l116, ij_l127, ij_l128, ij_l149, ij_l250, ij_l384, ij_l768, ij_l1000, ij_l1536, ij_l3000, ij_l1000000, ij_l1000003, ij_l1000000000, ij_neg, ij_add, ij_sub, ij_mul, ij_lt, ij_le, ij_eq, ij_nat, tn_nat, tn_12, tn_24, tn_36, tn_48, ck_in, ob_s, o2_s, vl_s, ox_l, ox_r, ck_tr, if_pos, if_neg, bi_z, e, hwm.1, hwm.2.1, hpi, ij_l, lj_add]
          simp [sar, e]
        · simp (disch := omega) only [ij_l0, ij_l1, ij_l2, ij_l3, ij_l4, ij_l5, ij_l6, ij_l8, ij_l12, ij_l16, ij_l19, ij_l23, ij_l24, ij_l31, ij_l32, ij_l36, ij_l47, ij_l48, ij_l56, ij_l92, ij_l93, ij_l98, ij_l108, ij_l114, ij_l116, ij_l127, ij_l128, ij_l149, ij_l250, ij_l384, ij_l768, ij_l1000, ij_l1536, ij_l3000, ij_l1000000, ij_l1000003, ij_l1000000000, ij_neg, ij_add, ij_sub, ij_mul, ij_lt, ij_le, ij_eq, ij_nat, tn_nat, tn_12, tn_24, tn_36, tn_48, ck_in, ob_s, o2_s, vl_s, ox_l, ox_r, ck_tr, if_pos, if_neg, bi_z, e, l0, lj_add]
          simp [sar, e]
      · simp only [fX8_area_L15]
        rw [hW.1.1]
        simp (disch := omega) only [ij_l0, ij_l1, ij_l2, ij_l3, ij_l4, ij_l5, ij_l6, ij_l8, ij_l12, ij_l16, ij_l19, ij_l23, ij_l24, ij_l31, ij_l32, ij_l36, ij_l47, ij_l48, ij_l56, ij_l92, ij_l93, ij_l98, ij_l108, ij_l114, ij_l116, ij_l127, ij_l128, ij_l149, ij_l250, ij_l384, ij_l768, ij_l1000, ij_l1536, ij_l3000, ij_l1000000, ij_l1000003, ij_l1000000000, ij_neg, ij_add, ij_sub, ij_mul, ij_lt, ij_le, ij_eq, ij_nat, tn_nat, tn_12, tn_24, tn_36, tn_48, ck_in, ob_s, o2_s, vl_s, ox_l, ox_r, ck_tr, if_pos, if_neg]
theorem f2d_nn {a : UInt32} (h : FP.Core.val32 a ≠ .nan) : FP.Core.val64 (FP.f2d a) ≠ .nan := by
  have h1 : FP.fIsNaN a = false := (FP.Core.notNaN_iff32 a).mpr h
  exact (FP.Core.notNaN_iff _).mp ((FP.f2d_nan a).trans h1)
theorem p_keyOf (h : Inv A σ) (hN : 1000 ≤ N) (x y : Int32) : PairF (fL_keyOf N σ x y) (fun τ => fX8_keyOf N τ x y) := by
  obtain ⟨hI, hC, hM⟩ := h
  obtain ⟨x, rfl, hx⟩ := rg_ex x
  obtain ⟨y, rfl, hy⟩ := rg_ex y
  unfold fL_keyOf fX7_keyOf
  rw [c_view hI hC hx hy]
  cases e : usz x with
  | false =>
    simp only [Bool.false_eq_true, if_false, ox_r]
    refine mkF hI hC (c := 1) rfl (by omega) ?_
    rcases m_unseen hI hM hN hx hy with ⟨_, τ, t1, t2, t3, t4⟩ | ⟨u, rfl, hu, _⟩ | ⟨u, s, rfl, hu, _⟩
    · refine ⟨0, τ, ?_, t2, t3, t4, fun q => by omega⟩
      unfold fX8_keyOf
      rw [t1]; rfl
    · rw [usz_ij hu] at e; cases e
    · rw [usz_ij hu] at e; cases e
  | true =>
    obtain ⟨u, rfl, hu⟩ := usz_nat e
    cases e2 : snz A (bv A (kn A u)) y with
    | false =>
      simp only [if_true, tn_nat, e2, Bool.false_eq_true, if_false, ox_r]
      refine mkF hI hC (c := 2) rfl (by omega) ?_
      rcases m_unseen hI hM hN hx hy with ⟨q, _⟩ | ⟨u', e', hu', _, τ, t1, t2, t3, t4⟩ | ⟨u', s, e', hu', rfl, q, _⟩
      · rw [usz_ij hu] at q; cases q
      · refine ⟨0, τ, ?_, t2, t3, t4, fun q => by omega⟩
        unfold fX8_keyOf
        rw [t1]; rfl
      · have : u = u' := by omega
        subst this
        rw [snz_nat, q] at e2
        cases e2
    | true =>
      obtain ⟨s, rfl, hs⟩ := snz_ex e2
      have hs2 := sn12 hI hs
      have hV := CR_VW hI hu hC
      have hk := f2d_nn (kyB_nn (v_ky hV hs2))
      simp only [if_true, tn_nat, e2, ox_l]
      rw [f_keyAt hV hs2, ob_s, ox_l, nn64_of hk, ck_tr, vl_s]
      refine mkF hI (CR_D hC) (c := 0) rfl (by omega) ?_
      rcases m_unseen (σ := sD σ 0 (FP.f2d (ky (bv A (kn A u)) s))) hI (MR_D hM) hN hx hy with ⟨q, _⟩ | ⟨u', e', hu', q, _⟩ | ⟨u', s', e', hu', e3, q, τ, t1, t2, t3, t4⟩
      · rw [usz_ij hu] at q; cases q
      · have : u = u' := by omega
        subst this
        rw [snz_nat, hs] at q
        cases q
      · have : u = u' := by omega
        subst this
        refine ⟨ky (bv A (kn A u)) s, τ, ?_, t2.1, t3, t4, fun _ => ⟨gD_sD _ _, hk⟩⟩
        unfold fX8_keyOf
        rw [t1, o2_s, if_pos (by decide), (m_key (MB_WM hI t2) hs2).1, ob_s]
theorem fdiv_ij {a b : Nat} (ha : a ≤ 1000) (hb : b ≤ 1000) (h : b ≠ 0) : FP.Core.val32 (FP.fdiv (FP.i2f (ij a)) (FP.i2f (ij b))) ≠ .nan := by
  refine (FP.Core.notNaN_iff32 _).mp (FP.Core.fdiv_out (FP.Core.i2f_fin _).notNaN (FP.Core.i2f_fin _) ?_)
  intro hz
  have h1 := (FP.Core.zero_bits232 _).mp hz
  refine FP.Core.i2f_ne_zero (v := ij b) ?_ h1
  intro q
  have q2 : ij (b : Int) = ij 0 := q
  rw [ij_eq (by omega) (by omega) (by omega) (by omega)] at q2
  omega
theorem p_frameShare (h : Inv A σ) (hN : 1000 ≤ N) (x : Int32) : PairF (fL_frameShare N σ x) (fun τ => fX8_frameShare N τ x) := by
  obtain ⟨hI, hC, hM⟩ := h
  obtain ⟨x, rfl, hx⟩ := rg_ex x
  unfold fL_frameShare fX7_frameShare
  rw [c_user hx]
  cases e : usz x with
  | false =>
    simp only [Bool.false_eq_true, if_false, ox_r]
    refine mkF hI hC (c := 1) rfl (by omega) ?_
    rcases m_nobody hI hM hN hx with ⟨_, τ, t1, t2, t3, t4⟩ | ⟨u, rfl, hu, _⟩
    · refine ⟨0, τ, ?_, t2, t3, t4, fun q => by omega⟩
      unfold fX8_frameShare
      rw [t1]; rfl
    · rw [usz_ij hu] at e; cases e
  | true =>
    obtain ⟨u, rfl, hu⟩ := usz_nat e
    have hV := CR_VW hI hu hC
    have hsh := hI.2.1.1
    have hc1 := ct_le (sn A (bv A (kn A u))) 12
    have hc2 := ct_le (fun s => sn A (bv A (kn A u)) s && decide (aFr A s = 1)) 12
    have hcut : ct (fun s => sn A (bv A (kn A u)) s && decide (aFr A s = 1)) 12 = ct (fun s => sn A (bv A (kn A u)) s && decide (aFr A s = 1)) (aSh A) := ct_cut hsh (fun k h1 _ => by
      have hf : sn A (bv A (kn A u)) k = false := by rw [← Bool.not_eq_true]; intro z; have := sn_lt z; omega
      simp [hf])
    have hmod : ∀ τ, MB A u τ → ∀ (C : Int32 → Int32 → Option (UInt32 × St)), fX8_frameShare_L14 C N τ N (ij 0) (ij 0) = C (ij (ct (fun s => sn A (bv A (kn A u)) s && decide (aFr A s = 1)) 12)) (ij (aSh A)) := by
      intro τ ht C
      have hW := MB_WM hI ht
      rw [hcut]
      refine lp_end (fun n j => fX8_frameShare_L14 C N τ n (ij (ct (fun s => sn A (bv A (kn A u)) s && decide (aFr A s = 1)) j)) (ij j)) (a := 0) (b := aSh A) (by omega) (fun n j _ hj => ?_) (fun n => ?_) N (by omega)
      · have hc := ct_le (fun s => sn A (bv A (kn A u)) s && decide (aFr A s = 1)) j
        have hw := hI.2.1.2.2.1 j
        have hwm := m_width hW hj
        simp only [fX8_frameShare_L14]
        rw [hW.1.1, m_seen hW (by omega)]
        by_cases e : sn A (bv A (kn A u)) j = true
        · by_cases e2 : aFr A j = 1
          · simp (disch := omega) only [ij_l0, ij_l1, ij_l2, ij_l3, ij_l4, ij_l5, ij_l6, ij_l8, ij_l12, ij_l16, ij_l19, ij_l23, ij_l24, ij_l31, ij_l32, ij_l36, ij_l47, ij_l48, ij_l56, ij_l92, ij_l93, ij_l98, ij_l108, ij_l114, ij_l116, ij_l127, ij_l128, ij_l149, ij_l250, ij_l384, ij_l768, ij_l1000, ij_l1536, ij_l3000, ij_l1000000, ij_l1000003, ij_l1000000000, ij_neg, ij_add, ij_sub, ij_mul, ij_lt, ij_le, ij_eq, ij_nat, tn_nat, tn_12, tn_24, tn_36, tn_48, ck_in, ob_s, o2_s, vl_s, ox_l, ox_r, ck_tr, if_pos, if_neg, bi_z, e, hwm.2.2]
            simp [ct, e, e2]
          · have e3 : aFr A j = 0 := by omega
            simp (disch := omega) only [ij_l0, ij_l1, ij_l2, ij_l3, ij_l4, ij_l5, ij_l6, ij_l8, ij_l12, ij_l16, ij_l19, ij_l23, ij_l24, ij_l31, ij_l32, ij_l36, ij_l47, ij_l48, ij_l56, ij_l92, ij_l93, ij_l98, ij_l108, ij_l114, ij_l116, ij_l127, ij_l128, ij_l149, ij_l250, ij_l384, ij_l768, ij_l1000, ij_l1536, ij_l3000, ij_l1000000, ij_l1000003, ij_l1000000000, ij_neg, ij_add, ij_sub, ij_mul, ij_lt, ij_le, ij_eq, ij_nat, tn_nat, tn_12, tn_24, tn_36, tn_48, ck_in, ob_s, o2_s, vl_s, ox_l, ox_r, ck_tr, if_pos, if_neg, bi_z, e, hwm.2.2]
            simp [ct, e, e3]
        · simp (disch := omega) only [ij_l0, ij_l1, ij_l2, ij_l3, ij_l4, ij_l5, ij_l6, ij_l8, ij_l12, ij_l16, ij_l19, ij_l23, ij_l24, ij_l31, ij_l32, ij_l36, ij_l47, ij_l48, ij_l56, ij_l92, ij_l93, ij_l98, ij_l108, ij_l114, ij_l116, ij_l127, ij_l128, ij_l149, ij_l250, ij_l384, ij_l768, ij_l1000, ij_l1536, ij_l3000, ij_l1000000, ij_l1000003, ij_l1000000000, ij_neg, ij_add, ij_sub, ij_mul, ij_lt, ij_le, ij_eq, ij_nat, tn_nat, tn_12, tn_24, tn_36, tn_48, ck_in, ob_s, o2_s, vl_s, ox_l, ox_r, ck_tr, if_pos, if_neg, bi_z, e]
          simp [ct, e]
      · simp only [fX8_frameShare_L14]
        rw [hW.1.1]
        simp (disch := omega) only [ij_l0, ij_l1, ij_l2, ij_l3, ij_l4, ij_l5, ij_l6, ij_l8, ij_l12, ij_l16, ij_l19, ij_l23, ij_l24, ij_l31, ij_l32, ij_l36, ij_l47, ij_l48, ij_l56, ij_l92, ij_l93, ij_l98, ij_l108, ij_l114, ij_l116, ij_l127, ij_l128, ij_l149, ij_l250, ij_l384, ij_l768, ij_l1000, ij_l1536, ij_l3000, ij_l1000000, ij_l1000003, ij_l1000000000, ij_neg, ij_add, ij_sub, ij_mul, ij_lt, ij_le, ij_eq, ij_nat, tn_nat, tn_12, tn_24, tn_36, tn_48, ck_in, ob_s, o2_s, vl_s, ox_l, ox_r, ck_tr, if_pos, if_neg]
    simp only [if_true, tn_nat, ox_l]
    rw [f_countShapes hV (by omega), ob_s]
    by_cases e2 : ct (sn A (bv A (kn A u))) 12 = 0
    · rw [e2]
      have : (if ij ((0 : Nat) : Int) = 0 then (some ((.inr "java/lang/ArithmeticException" : UInt32 ⊕ String), σ)) else (ob (fX6_countFrames N σ u) fun v4 => (ck (nn32 (FP.fdiv (FP.i2f v4) (FP.i2f (ij ((0 : Nat) : Int))))) (some (.inl (FP.fdiv (FP.i2f v4) (FP.i2f (ij ((0 : Nat) : Int)))), σ))))) = some ((.inr "java/lang/ArithmeticException" : UInt32 ⊕ String), σ) := if_pos rfl
      rw [this, ox_r]
      refine mkF hI hC (c := 2) rfl (by omega) ?_
      rcases m_nobody hI hM hN hx with ⟨q, _⟩ | ⟨u', e', hu', τ, t1, t2, t3, t4⟩
      · rw [usz_ij hu] at q; cases q
      · have : u = u' := by omega
        subst this
        refine ⟨FP.i2f (ij 0), sI τ 8 0 0 (ij 2), ?_, MR_thr t2.1 _, t3.tr (Un_thr _ _), thr_thr _ _, fun q => by omega⟩
        unfold fX8_frameShare fX8_fails
        rw [t1, o2_s, if_pos (by decide)]
        simp only [ij_l0, ij_l1, ij_l2, ij_l3, ij_l4, ij_l5, ij_l6, ij_l8, ij_l12, ij_l16, ij_l19, ij_l23, ij_l24, ij_l31, ij_l32, ij_l36, ij_l47, ij_l48, ij_l56, ij_l92, ij_l93, ij_l98, ij_l108, ij_l114, ij_l116, ij_l127, ij_l128, ij_l149, ij_l250, ij_l384, ij_l768, ij_l1000, ij_l1536, ij_l3000, ij_l1000000, ij_l1000003, ij_l1000000000, ij_neg, ij_add, ij_sub, ij_mul]
        rw [hmod τ t2, m_seenMany (MB_WM hI t2) (by omega), e2, ob_s, if_pos (show ij ((0 : Nat) : Int) = ij 0 from rfl), vl_s, o2_s]
    · have hd := fdiv_ij (a := ct (fun s => sn A (bv A (kn A u)) s && decide (aFr A s = 1)) 12) (b := ct (sn A (bv A (kn A u))) 12) (by omega) (by omega) e2
      have hne : ¬ ij (ct (sn A (bv A (kn A u))) 12) = 0 := by
        intro q
        have q2 : ij (ct (sn A (bv A (kn A u))) 12 : Int) = ij 0 := q
        rw [ij_eq (by omega) (by omega) (by omega) (by omega)] at q2
        omega
      rw [if_neg hne, f_countFrames hV (by omega), ob_s, nn32_of hd, ck_tr, ox_l, nn64_of (f2d_nn hd), ck_tr, vl_s]
      refine mkF hI (CR_D hC) (c := 0) rfl (by omega) ?_
      rcases m_nobody (σ := sD σ 0 (FP.f2d (FP.fdiv (FP.i2f (ij (ct (fun s => sn A (bv A (kn A u)) s && decide (aFr A s = 1)) 12))) (FP.i2f (ij (ct (sn A (bv A (kn A u))) 12)))))) hI (MR_D hM) hN hx with ⟨q, _⟩ | ⟨u', e', hu', τ, t1, t2, t3, t4⟩
      · rw [usz_ij hu] at q; cases q
      · have : u = u' := by omega
        subst this
        refine ⟨FP.fdiv (FP.i2f (ij (ct (fun s => sn A (bv A (kn A u)) s && decide (aFr A s = 1)) 12))) (FP.i2f (ij (ct (sn A (bv A (kn A u))) 12))), τ, ?_, t2.1, t3, t4, fun _ => ⟨gD_sD _ _, f2d_nn hd⟩⟩
        unfold fX8_frameShare
        rw [t1, o2_s, if_pos (by decide)]
        simp only [ij_l0]
        rw [hmod τ t2, m_seenMany (MB_WM hI t2) (by omega), ob_s, if_neg (show ¬ ij (ct (sn A (bv A (kn A u))) 12 : Int) = ij 0 from hne), ob_s, nn32_of hd, ck_tr]
end Q3
