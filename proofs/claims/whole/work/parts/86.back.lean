/-! Steps on both sides: takeBack. -/
def lop (A : Ab) (u : Nat) : Nat → Int
  | 0 => -1
  | m + 1 => if aSt A m = 1 ∧ aUs A m = u then (m : Int) else lop A u m
section S8
variable {A : Ab} {N : Nat} {σ : St}
theorem lop_sp (A : Ab) (u : Nat) : ∀ m, lop A u m = -1 ∨ ∃ s : Nat, lop A u m = s ∧ s < m ∧ aSt A s = 1 ∧ aUs A s = u := by
  intro m
  induction m with
  | zero => exact Or.inl rfl
  | succ m ih =>
    simp only [lop]
    by_cases e : aSt A m = 1 ∧ aUs A m = u
    · rw [if_pos e]; exact Or.inr ⟨m, rfl, by omega, e⟩
    · rw [if_neg e]
      rcases ih with h | ⟨s, h1, h2, h3⟩
      · exact Or.inl h
      · exact Or.inr ⟨s, h1, by omega, h3⟩
theorem f_lop (hO : OpsOK A) (hL : LgC A σ) {u : Nat} (hu : u < 3) : ∀ m, m ≤ aN A → ∀ n, m < n → fX1_lastOpenStepOf_L7 (fun _ => (some ((-1) : Int32))) N σ (ij u) n (ij ((m : Int) - 1)) = some (ij (lop A u m)) := by
  intro m
  have hn := hO.1
  induction m with
  | zero =>
    intro _ n hn'
    obtain ⟨k, rfl⟩ : ∃ k, n = k + 1 := ⟨n - 1, by omega⟩
    simp only [fX1_lastOpenStepOf_L7]
    rw [if_pos (by decide)]
    rfl
  | succ m ih =>
    intro hm n hn'
    obtain ⟨k, rfl⟩ : ∃ k, n = k + 1 := ⟨n - 1, by omega⟩
    have a := hL.2.2 m (by omega)
    have b := hO.2.1 m (by omega)
    have hst : gI σ 102 0 ((m : Int)).toNat = bi (aSt A m == 1) := by
      rw [tn_nat, a.2.2.1, bi_ij]
      by_cases q : aSt A m = 1
      · simp [q]
      · have q0 : aSt A m = 0 := by omega
        simp [q0]
    have hua : fX1_userAt N σ (ij m) = some (ij (aUs A m)) := by
      unfold fX1_userAt
      rw [f_intAt (by omega) (by omega) (by omega), tn_nat, a.1, ob_s]
    have ih' := ih (by omega) k (by omega)
    simp only [fX1_lastOpenStepOf_L7]
    rw [show (((m + 1 : Nat) : Int) - 1) = (m : Int) by omega, f_isAt (by omega) (by omega) (by omega) hst, ob_s, hua]
    have c0 : ij (m : Int) + (-1 : Int32) = ij ((m : Int) - 1) := by
      simp only [ij_l0, ij_l1, ij_l2, ij_l3, ij_l4, ij_l5, ij_l6, ij_l8, ij_l12, ij_l16, ij_l19, ij_l23, ij_l24, ij_l31, ij_l32, ij_l36, ij_l47, ij_l48, ij_l56, ij_l92, ij_l93, ij_l98, ij_l108, ij_l114, ij_l116, ij_l127, ij_l128, ij_l149, ij_l250, ij_l384, ij_l768, ij_l1000, ij_l1536, ij_l3000, ij_l1000000, ij_l1000003, ij_l1000000000, ij_neg, ij_add, ij_sub, ij_mul]
      rw [show (m : Int) + -1 = (m : Int) - 1 by omega]
    rw [c0]
    have c1 : ¬ ij (m : Int) < 0 := by
      have : (ij (m : Int) < ij 0) = ((m : Int) < 0) := ij_lt (by omega) (by omega) (by omega) (by omega)
      intro q
      have q2 : ij (m : Int) < ij 0 := q
      rw [this] at q2
      omega
    have c2 : (ij (aUs A m) = ij u) = (aUs A m = u) := by
      rw [ij_eq (by omega) (by omega) (by omega) (by omega), eq_iff_iff]
      omega
    rw [if_neg c1]
    simp only [lop, vl_s, ob_s, c2]
    by_cases q : aSt A m = 1
    · have q1 : (aSt A m == 1) = true := by simp [q]
      rw [q1, if_neg (by decide)]
      by_cases g : aUs A m = u
      · rw [if_pos g, if_pos ⟨q, g⟩]
      · rw [if_neg g, if_neg (fun z => g z.2)]
        exact ih'
    · have q1 : (aSt A m == 1) = false := by simp [q]
      rw [q1, if_pos (by decide), if_neg (fun z => q z.1)]
      exact ih'
theorem m_lop (hO : OpsOK A) (hL : LgM A σ) {u : Nat} (hu : u < 3) (K : Int32 → Option (Int32 × St)) : ∀ m, m ≤ aN A → ∀ n, m < n → fX8_takeBack_L25 K N (ij u) σ n (ij ((m : Int) - 1)) = K (ij (lop A u m)) := by
  intro m
  have hn := hO.1
  induction m with
  | zero =>
    intro _ n hn'
    obtain ⟨k, rfl⟩ : ∃ k, n = k + 1 := ⟨n - 1, by omega⟩
    simp only [fX8_takeBack_L25]
    rw [if_pos (by decide)]
    rfl
  | succ m ih =>
    intro hm n hn'
    obtain ⟨k, rfl⟩ : ∃ k, n = k + 1 := ⟨n - 1, by omega⟩
    have a := hL.2.1 m (by omega)
    have b := hO.2.1 m (by omega)
    have ih' := ih (by omega) k (by omega)
    simp only [fX8_takeBack_L25]
    rw [show (((m + 1 : Nat) : Int) - 1) = (m : Int) by omega]
    have c0 : ij (m : Int) + (-1 : Int32) = ij ((m : Int) - 1) := by
      simp only [ij_l0, ij_l1, ij_l2, ij_l3, ij_l4, ij_l5, ij_l6, ij_l8, ij_l12, ij_l16, ij_l19, ij_l23, ij_l24, ij_l31, ij_l32, ij_l36, ij_l47, ij_l48, ij_l56, ij_l92, ij_l93, ij_l98, ij_l108, ij_l114, ij_l116, ij_l127, ij_l128, ij_l149, ij_l250, ij_l384, ij_l768, ij_l1000, ij_l1536, ij_l3000, ij_l1000000, ij_l1000003, ij_l1000000000, ij_neg, ij_add, ij_sub, ij_mul]
      rw [show (m : Int) + -1 = (m : Int) - 1 by omega]
    rw [c0]
    have a1 := a.2.2.2.1
    have a2 := a.1
    have c2 : (ij (aUs A m) = ij u) = (aUs A m = u) := by
      rw [ij_eq (by omega) (by omega) (by omega) (by omega), eq_iff_iff]
      omega
    have c3 : (ij (aSt A m) = ij 0) = (aSt A m = 0) := by
      rw [ij_eq (by omega) (by omega) (by omega) (by omega), eq_iff_iff]
      omega
    simp (disch := omega) only [ij_l0, ij_l1, ij_l2, ij_l3, ij_l4, ij_l5, ij_l6, ij_l8, ij_l12, ij_l16, ij_l19, ij_l23, ij_l24, ij_l31, ij_l32, ij_l36, ij_l47, ij_l48, ij_l56, ij_l92, ij_l93, ij_l98, ij_l108, ij_l114, ij_l116, ij_l127, ij_l128, ij_l149, ij_l250, ij_l384, ij_l768, ij_l1000, ij_l1536, ij_l3000, ij_l1000000, ij_l1000003, ij_l1000000000, ij_neg, ij_add, ij_sub, ij_mul, ij_lt, ij_le, ij_eq, ij_nat, tn_nat, tn_12, tn_24, tn_36, tn_48, ck_in, ob_s, o2_s, vl_s, ox_l, ox_r, ck_tr, if_pos, if_neg, a1, a2, c2, c3]
    simp only [lop]
    by_cases q : aSt A m = 1
    · rw [if_neg (by omega)]
      by_cases g : aUs A m = u
      · rw [if_pos (by omega), if_pos ⟨q, g⟩]
      · rw [if_neg (by omega), if_neg (fun z => g z.2)]
        exact ih'
    · rw [if_pos (by omega), if_neg (fun z => q z.1)]
      exact ih'
theorem m_undo {u s : Nat} (hI : Inv0 A) (hM : MB A u σ) (hN : 1000000 ≤ N) (hn : aN A < 250) (hu : u < 3) (hs : s < aN A) (hB : BdM A (kn A u) σ) :
    ∃ τ, fX8_takeBack_L87 (fun _ σ18 => (ck (inb (ij s) 250) (vl (sI σ18 155 0 (Int32.toNatClampNeg (ij s)) (vp_nar .boolean (0 : Int32))) fun σ19 => (vl (gI σ19 8 0 27) fun v20 => (ob (fX8_makes N σ19 (ij u) (0 : Int32)) fun σ21 => (some (v20, σ21))))))) N (ij s) N (ij 0) σ = some (ij (unL A (kn A u) s (aLen A s)).length, τ) ∧ MR (stp (clA A s) u 0 (unL A (kn A u) s (aLen A s))) τ ∧ Un Tm σ τ ∧ gI τ 8 0 0 = gI σ 8 0 0 := by
  have hO := hI.1
  have ao := hO.2.1 s hs
  have hM := hM.1
  have hL : rwsOK (clA A s) (unL A (kn A u) s (aLen A s)) := unL_ok hO hI.2.1 (fun f hf => (hB f hf).1) hs _ (Nat.le_refl _)
  obtain ⟨τ, e, hPt, hLg, hBd, hPL, pU, p0⟩ := lp_st (fun n j τ => fX8_takeBack_L87 (fun _ σ18 => (ck (inb (ij s) 250) (vl (sI σ18 155 0 (Int32.toNatClampNeg (ij s)) (vp_nar .boolean (0 : Int32))) fun σ19 => (vl (gI σ19 8 0 27) fun v20 => (ob (fX8_makes N σ19 (ij u) (0 : Int32)) fun σ21 => (some (v20, σ21))))))) N (ij s) n (ij j) τ)
    (fun j τ => PtM A τ ∧ LgM A τ ∧ BdM A (kn A u) τ ∧ PL A u (unL A (kn A u) s j) τ ∧ Un Tm σ τ ∧ gI τ 8 0 0 = gI σ 8 0 0) (Nat.zero_le (aLen A s)) (fun n j τ _ hj hP => by
      obtain ⟨hPt, hLg, hBd, hPL, pU, p0⟩ := hP
      have hlen := unL_len A (kn A u) s j
      have a := hLg.2.1 s hs
      have ak := a.2.2.2.2 j hj
      have af := (ao.2.2.2.2 j hj)
      have hb := (hBd (aFd A s j) af.1)
      have hbs := bs_le hO hb.1
      have b1 := hb.2.2.2
      have a3 := a.2.2.1
      have c1 : (ij ((bs A (kn A u) (aFd A s j) : Int) - 1) = ij s) = (bs A (kn A u) (aFd A s j) = s + 1) := by
        rw [ij_eq (by omega) (by omega) (by omega) (by omega), eq_iff_iff]
        omega
      have f93 := af.1
      simp only [fX8_takeBack_L87]
      simp (disch := omega) only [ij_l0, ij_l1, ij_l2, ij_l3, ij_l4, ij_l5, ij_l6, ij_l8, ij_l12, ij_l16, ij_l19, ij_l23, ij_l24, ij_l31, ij_l32, ij_l36, ij_l47, ij_l48, ij_l56, ij_l92, ij_l93, ij_l98, ij_l108, ij_l114, ij_l116, ij_l127, ij_l128, ij_l149, ij_l250, ij_l384, ij_l768, ij_l1000, ij_l1536, ij_l3000, ij_l1000000, ij_l1000003, ij_l1000000000, ij_neg, ij_add, ij_sub, ij_mul, ij_lt, ij_le, ij_eq, ij_nat, tn_nat, tn_12, tn_24, tn_36, tn_48, ck_in, ob_s, o2_s, vl_s, ox_l, ox_r, ck_tr, if_pos, if_neg, a3, ak.1, ak.2.2.1, ak.2.2.2.2, b1, c1]
      by_cases g : bs A (kn A u) (aFd A s j) = s + 1
      · obtain ⟨τ', t1, t2, t3, t4⟩ := m_restores (N := N) hPL (by omega) (v := aOv A s j) (s := aOs A s j) f93
        refine ⟨τ', ?_, ?_, ?_, ?_, ?_, ?_, ?_⟩
        · rw [if_pos g, t1, ob_s]
          rfl
        · exact PtM_cg hPt (t4 8 (by omega)) (t4 9 (by omega)) (fun c h1 h2 => t3.I c 0 (by unfold Tp; simp; omega))
        · exact LgM_cg hLg (t4 20 (by omega)) (fun c q hc => t3.I c q (by unfold Tp; simp; omega))
        · exact BdM_cg hBd (fun c h1 h2 => t3.I c 0 (by unfold Tp; simp; omega))
        · simp only [unL]
          rw [if_pos g]
          exact t2
        · exact pU.tr (t3.mono (fun c o h => by unfold Tm at h; unfold Tp; simp at h ⊢; omega))
        · exact (t4 0 (by omega)).trans p0
      · refine ⟨τ, ?_, hPt, hLg, hBd, ?_, pU, p0⟩
        · rw [if_neg g]
          rfl
        · simp only [unL]
          rw [if_neg g]
          exact hPL) N σ (by omega) ⟨hM.1, hM.2.1, hB, PL_nil hM, Un.rfl, rfl⟩
  have e2 : N - (aLen A s - 0) = (N - aLen A s - 1) + 1 := by omega
  have a3 := (hLg.2.1 s hs).2.2.1
  have e' := e
  simp only [e2, fX8_takeBack_L87] at e'
  -- the state with the taken back step closed
  obtain ⟨τ1, hτ1⟩ : ∃ τ1, τ1 = sI τ 155 0 s (ij 0) := ⟨_, rfl⟩
  have g1 : ∀ c q x, c ≠ 155 → gI τ1 c q x = gI τ c q x := fun c q x h => by rw [hτ1]; exact gI_sI_ne h
  have hPt1 : PtM (clA A s) τ1 := PtM_cg (A := A) hPt (g1 _ _ _ (by omega)) (g1 _ _ _ (by omega)) (fun c h1 h2 => by funext x; exact g1 _ _ _ (by omega))
  have hBd1 : BdM (clA A s) (kn (clA A s) u) τ1 := by
    rw [(clA_same A s).bm]
    exact BdM_cg hBd (fun c h1 h2 => by funext x; exact g1 _ _ _ (by omega))
  have hPL1 : PL (clA A s) u (unL A (kn A u) s (aLen A s)) τ1 := by
    unfold PL at hPL ⊢
    rw [(clA_same A s).bv_.1, (clA_same A s).bv_.2]
    simp (disch := omega) only [g1]
    exact hPL
  have hLg1 : LgM (clA A s) τ1 := by
    obtain ⟨l1, l2, l3⟩ := hLg
    refine ⟨?_, fun o ho => ?_, fun v x hv hx => ?_⟩
    · rw [g1 _ _ _ (by omega)]; exact l1
    · obtain ⟨q1, q2, q3, q4, q5⟩ := l2 o ho
      refine ⟨?_, ?_, ?_, ?_, fun k hk => ?_⟩
      · rw [g1 _ _ _ (by omega)]; exact q1
      · rw [g1 _ _ _ (by omega)]; exact q2
      · rw [g1 _ _ _ (by omega)]; exact q3
      · rw [hτ1, gI_sI_eq]
        show _ = ij (if 3 = 3 ∧ o = s then 0 else aSt A o : Nat)
        by_cases z : o = s
        · rw [if_pos z, if_pos ⟨rfl, z⟩]; rfl
        · rw [if_neg z, if_neg (fun y => z y.2)]; exact q4
      · simp (disch := omega) only [g1]
        exact q5 k hk
    · rw [g1 _ _ _ (by omega)]; exact l3 v x hv hx
  obtain ⟨τ2, v1, v2, v3, v4, v5⟩ := m_makes (N := N) (Inv0_clA hI s) hn (by omega) hPt1 hLg1 hu (st := 0) (by omega) hBd1 hPL1 hL
  refine ⟨τ2, ?_, v2, ?_, ?_⟩
  · refine Eq.trans e' ?_
    have n1 : vp_nar .boolean (ij 0) = ij 0 := rfl
    have h27 : gI τ1 8 0 27 = ij (unL A (kn A u) s (aLen A s)).length := hPL1.1
    have v1' : fX8_makes N τ1 (ij u) (ij 0) = some τ2 := v1
    have hn250 := hO.1
    simp (disch := omega) only [ij_l0, ij_l1, ij_l2, ij_l3, ij_l4, ij_l5, ij_l6, ij_l8, ij_l12, ij_l16, ij_l19, ij_l23, ij_l24, ij_l31, ij_l32, ij_l36, ij_l47, ij_l48, ij_l56, ij_l92, ij_l93, ij_l98, ij_l108, ij_l114, ij_l116, ij_l127, ij_l128, ij_l149, ij_l250, ij_l384, ij_l768, ij_l1000, ij_l1536, ij_l3000, ij_l1000000, ij_l1000003, ij_l1000000000, ij_neg, ij_add, ij_sub, ij_mul, ij_lt, ij_le, ij_eq, ij_nat, tn_nat, tn_12, tn_24, tn_36, tn_48, ck_in, ob_s, o2_s, vl_s, ox_l, ox_r, ck_tr, if_pos, if_neg, a3, n1]
    rw [← hτ1, h27, v1', ob_s]
  · exact (pU.tr (by rw [hτ1]; exact Un.sI _ _ _ rfl)).tr v4
  · rw [v5, g1 _ _ _ (by omega)]; exact p0
theorem p_takeBack (h : Inv A σ) (hN : 1000000 ≤ N) (x : Int32) : PairI (fL_takeBack N σ x) (fun τ => fX8_takeBack N τ x) := by
  obtain ⟨hI, hC, hM⟩ := h
  obtain ⟨x, rfl, hx⟩ := rg_ex x
  have hn := hI.1.1
  obtain ⟨k1, k2, k3⟩ := h123s (H := fun E5 σ3 => (if E5 = "java/lang/IllegalArgumentException" then (some ((1 : Int32), σ3)) else (if E5 = "java/util/NoSuchElementException" then (some ((2 : Int32), σ3)) else (if E5 = "java/lang/IllegalStateException" then (some ((3 : Int32), σ3)) else none)))) rfl
  unfold fL_takeBack fX7_takeBack
  rw [c_user hx]
  cases e : usz x with
  | false =>
    simp only [Bool.false_eq_true, if_false, ox_r]
    refine mkI hI hC (c := 1) (k1 σ) (by omega) ⟨ij 0, sI (sI σ 8 0 0 (ij 0)) 8 0 0 (ij 1), ?_, MR_thr (MR_thr hM _) _, (Un_thr _ _).tr (Un_thr _ _), thr_thr _ _, fun q => by omega⟩
    unfold fX8_takeBack
    rw [vl_s, m_isUser hx, usd _ e, ob_s, if_pos (by decide), m_fails, o2_s]
    rfl
  | true =>
    obtain ⟨u, rfl, hu⟩ := usz_nat e
    simp only [if_true, tn_nat, ox_l]
    have hlo : fX1_lastOpenStepOf N σ (ij u) = some (ij (lop A u (aN A))) := by
      unfold fX1_lastOpenStepOf
      rw [hC.2.1.1, vl_s, show ij (aN A : Int) - (1 : Int32) = ij ((aN A : Int) - 1) from ij_sub _ 1]
      exact f_lop hI.1 hC.2.1 hu (aN A) (Nat.le_refl _) N (by omega)
    have hmd : ∀ σ', MR A σ' → fX8_takeBack N σ' (ij u) = (if (0 : Int) ≤ lop A u (aN A) then (if aN A = 250 then some (ij 0, sI (sI σ' 8 0 0 (ij 0)) 8 0 0 (ij 3)) else (ob (fX8_builds N (sI σ' 8 0 0 (ij 0)) (ij u)) fun σ8 => (fX8_takeBack_L87 (fun _ σ18 => (ck (inb (ij (lop A u (aN A))) 250) (vl (sI σ18 155 0 (Int32.toNatClampNeg (ij (lop A u (aN A)))) (vp_nar .boolean (0 : Int32))) fun σ19 => (vl (gI σ19 8 0 27) fun v20 => (ob (fX8_makes N σ19 (ij u) (0 : Int32)) fun σ21 => (some (v20, σ21))))))) N (ij (lop A u (aN A))) N (0 : Int32) σ8))) else some (ij 0, sI (sI σ' 8 0 0 (ij 0)) 8 0 0 (ij 2))) := by
      intro σ' hM'
      have hM0 := MR_thr hM' (ij 0)
      have mf := m_full hM0 hn
      have l250 : (ij 0 ≤ ij (lop A u (aN A))) = ((0 : Int) ≤ lop A u (aN A)) := by
        rcases lop_sp A u (aN A) with q | ⟨s, q, q2, _⟩ <;> exact ij_le (by omega) (by omega) (by omega) (by omega)
      unfold fX8_takeBack
      rw [vl_s, m_isUser hx, usd _ e, ob_s, if_neg (by decide), vl_s]
      have h20 : gI (sI σ' 8 0 0 (ij 0)) 8 0 20 = ij (aN A) := hM0.2.1.1
      simp only [ij_l0, ij_l1, ij_l2, ij_l3, ij_l4, ij_l5, ij_l6, ij_l8, ij_l12, ij_l16, ij_l19, ij_l23, ij_l24, ij_l31, ij_l32, ij_l36, ij_l47, ij_l48, ij_l56, ij_l92, ij_l93, ij_l98, ij_l108, ij_l114, ij_l116, ij_l127, ij_l128, ij_l149, ij_l250, ij_l384, ij_l768, ij_l1000, ij_l1536, ij_l3000, ij_l1000000, ij_l1000003, ij_l1000000000, ij_neg, ij_add, ij_sub, ij_mul]
      rw [h20, ij_sub, m_lop hI.1 hM0.2.1 hu _ (aN A) (Nat.le_refl _) N (by omega)]
      rw [h20] at mf
      simp only [m_fails, o2_s, l250, mf]
    rw [hlo, ob_s]
    rcases lop_sp A u (aN A) with q | ⟨s, q, q2, q3, q4⟩
    · rw [q] at hmd
      rw [q, if_pos (by decide), ox_r]
      refine mkI hI hC (c := 2) (k2 σ) (by omega) ⟨ij 0, sI (sI σ 8 0 0 (ij 0)) 8 0 0 (ij 2), ?_, MR_thr (MR_thr hM _) _, (Un_thr _ _).tr (Un_thr _ _), thr_thr _ _, fun q => by omega⟩
      rw [hmd σ hM, if_neg (by decide)]
    · rw [q] at hmd
      have c0 : ¬ ij (s : Int) = (-1 : Int32) := by
        have : (ij (s : Int) = ij (-1)) = ((s : Int) = -1) := ij_eq (by omega) (by omega) (by omega) (by omega)
        intro z
        have z2 : ij (s : Int) = ij (-1) := z
        rw [this] at z2
        omega
      rw [q, if_neg c0, c_room hC hn]
      by_cases e4 : aN A = 250
      · rw [if_pos e4, ox_r, ox_r]
        refine mkI hI hC (c := 3) (k3 σ) (by omega) ⟨ij 0, sI (sI σ 8 0 0 (ij 0)) 8 0 0 (ij 3), ?_, MR_thr (MR_thr hM _) _, (Un_thr _ _).tr (Un_thr _ _), thr_thr _ _, fun q => by omega⟩
        rw [hmd σ hM, if_pos (by omega), if_pos e4]
      · obtain ⟨τ, t1, t2, t3, t4⟩ := f_undo (N := N) hI hC hN (by omega) hu q2 q3
        rw [if_neg e4, ox_l, t1, o2_s, ox_l, vl_s]
        obtain ⟨L, hL⟩ : ∃ L : Nat, L = (unL A (kn A u) s (aLen A s)).length := ⟨_, rfl⟩
        have hM1 : MR A (sJ τ 0 (Int32.toInt64 (ij (unL A (kn A u) s (aLen A s)).length))) := MR_J (MR_un hM t3)
        obtain ⟨τ1, w1, w2, w3, w4⟩ := m_start (N := N) hI hM1 (by omega) hu
        obtain ⟨τ2, v1, v2, v3, v4⟩ := m_undo (N := N) hI w2 hN (by omega) hu q2 w2.2
        refine mkI t4 (CR_J t2) (c := 0) rfl (by omega) ⟨ij (unL A (kn A u) s (aLen A s)).length, τ2, ?_, v2, w3.tr v3, v4.trans w4, fun _ => gJ_sJ _ _⟩
        rw [hmd _ hM1, if_pos (by omega), if_neg e4, w1, ob_s]
        exact v1
end S8
