/-! Questions on both sides: topAt. -/
section S13
variable {A : Ab} {N : Nat} {σ : St} {β : Nat → Nat}
theorem m_isCovering (h : WM A β σ) {s : Nat} (hs : s < aSh A) {c r : Int} (hc : rg c) (hr : rg r) : fX8_isCovering N σ (ij s) (ij c) (ij r) = some (bi (ovr A β s c r)) := by
  have hsh := h.2.2.2.1
  have w1 := m_width h hs
  have c1 := mrg_cl h (s := s) (by omega)
  have ww := h.2.2.2.2.2.1 s
  unfold fX8_isCovering ovr
  rw [m_column h (by omega), ob_s, ob_s, m_row h (by omega)]
  simp (disch := omega) only [ij_l0, ij_l1, ij_l2, ij_l3, ij_l4, ij_l5, ij_l6, ij_l8, ij_l12, ij_l16, ij_l19, ij_l23, ij_l24, ij_l31, ij_l32, ij_l36, ij_l47, ij_l48, ij_l56, ij_l92, ij_l93, ij_l98, ij_l108, ij_l114, ij_l116, ij_l127, ij_l128, ij_l149, ij_l250, ij_l384, ij_l768, ij_l1000, ij_l1536, ij_l3000, ij_l1000000, ij_l1000003, ij_l1000000000, ij_neg, ij_add, ij_sub, ij_mul, ij_lt, ij_le, ij_eq, ij_nat, tn_nat, tn_12, tn_24, tn_36, tn_48, ck_in, ob_s, o2_s, vl_s, ox_l, ox_r, ck_tr, if_pos, if_neg, w1.1, w1.2.1]
  rw [m_isBetween hc (by omega) (by omega), ob_s]
  by_cases a1 : (cl β s : Int) ≤ c ∧ c ≤ cl β s + aW A s - 1
  · rw [decide_eq_true a1, if_neg (by decide), m_isBetween hr (by omega) (by omega), ob_s]
    by_cases a2 : (rwv β s : Int) ≤ r ∧ r ≤ rwv β s + aH A s - 1
    · rw [decide_eq_true a2, if_neg (by decide), decide_eq_true (by omega)]; rfl
    · rw [decide_eq_false a2, if_pos (by decide), decide_eq_false (by omega)]; rfl
  · rw [decide_eq_false a1, if_pos (by decide), decide_eq_false (by omega)]; rfl
theorem m_topLoop (h : WM A β σ) (hN : 1000 ≤ N) {c r : Int} (hc : rg c) (hr : rg r) (K : Int32 → Int32 → Option (Int32 × St)) : fX8_topAt_L40 K N (ij c) (ij r) σ N (ij (-1)) (ij 0) = K (ij (tp A β c r (aSh A))) (ij (aSh A)) := by
  have hS := h.2.2.2
  have hsh := hS.1
  refine lp_end (fun n j => fX8_topAt_L40 K N (ij c) (ij r) σ n (ij (tp A β c r j)) (ij j)) (a := 0) (b := aSh A) (by omega) (fun n j _ hj => ?_) (fun n => ?_) N (by omega)
  · have w1 := (m_width h hj).2.2
    have hf1 := (hS.2.2.1 j).2.2.2
    have hcv := m_isCovering (N := N) h hj hc hr
    have rj := m_rank (N := N) h (by omega) (s := j) (by omega)
    simp only [fX8_topAt_L40]
    rw [h.1.1, m_seen h (by omega)]
    by_cases e : sn A β j = true
    · by_cases e1 : aFr A j = 0
      · have i1 : (ij ((aFr A j : Nat) : Int) = ij 0) = True := by rw [e1]; exact eq_true rfl
        by_cases e2 : ovr A β j c r = true
        · rcases tp_rg A β c r j with q | ⟨q1, q2, q3⟩
          · have hst : tp A β c r (j + 1) = j := by simp only [tp]; rw [if_pos ⟨e, e1, e2, Or.inl q⟩]
            rw [hst, q]
            simp (disch := omega) only [ij_l0, ij_l1, ij_l2, ij_l3, ij_l4, ij_l5, ij_l6, ij_l8, ij_l12, ij_l16, ij_l19, ij_l23, ij_l24, ij_l31, ij_l32, ij_l36, ij_l47, ij_l48, ij_l56, ij_l92, ij_l93, ij_l98, ij_l108, ij_l114, ij_l116, ij_l127, ij_l128, ij_l149, ij_l250, ij_l384, ij_l768, ij_l1000, ij_l1536, ij_l3000, ij_l1000000, ij_l1000003, ij_l1000000000, ij_neg, ij_add, ij_sub, ij_mul, ij_lt, ij_le, ij_eq, ij_nat, tn_nat, tn_12, tn_24, tn_36, tn_48, ck_in, ob_s, o2_s, vl_s, ox_l, ox_r, ck_tr, if_pos, if_neg, bi_z, e, w1, i1, hcv, e2, if_true, Bool.true_eq_false, if_false]
            rfl
          · obtain ⟨k, hk⟩ : ∃ k : Nat, tp A β c r j = k := ⟨(tp A β c r j).toNat, by omega⟩
            rw [hk] at q1 q2 q3
            rw [tn_nat] at q3
            have hkj : k < j := by omega
            have rk' := m_rank (N := N) h (by omega) (s := k) (by omega)
            have hle : (ij (rk A β j) ≤ ij (rk A β k)) = ((rk A β j : Int) ≤ rk A β k) := by
              have l1 := rk_lt hS e
              have l2 := rk_lt hS q3
              have l3 := ct_le (sn A β) 12
              exact ij_le (by omega) (by omega) (by omega) (by omega)
            have hk0 : (ij (k : Int) < ij 0) = ((k : Int) < 0) := ij_lt (by omega) (by omega) (by omega) (by omega)
            have iff1 := rk_iff hS q3 e
            by_cases e3 : blw β k j = true
            · have hst : tp A β c r (j + 1) = j := by simp only [tp]; rw [if_pos ⟨e, e1, e2, Or.inr (by rw [hk]; exact e3)⟩]
              have := iff1.mpr e3
              rw [hst, hk]
              simp (disch := omega) only [ij_l0, ij_l1, ij_l2, ij_l3, ij_l4, ij_l5, ij_l6, ij_l8, ij_l12, ij_l16, ij_l19, ij_l23, ij_l24, ij_l31, ij_l32, ij_l36, ij_l47, ij_l48, ij_l56, ij_l92, ij_l93, ij_l98, ij_l108, ij_l114, ij_l116, ij_l127, ij_l128, ij_l149, ij_l250, ij_l384, ij_l768, ij_l1000, ij_l1536, ij_l3000, ij_l1000000, ij_l1000003, ij_l1000000000, ij_neg, ij_add, ij_sub, ij_mul, ij_le, if_neg, ck_in, ob_s, vl_s, ij_nat, tn_nat, bi_z, e, w1, i1, hcv, e2, if_true, Bool.true_eq_false, if_false, hk0, rj, rk', hle]
              rfl
            · have hst : tp A β c r (j + 1) = k := by simp only [tp]; rw [hk, if_neg (by rintro ⟨_, _, _, z | z⟩; omega; exact e3 z)]
              have : ¬ rk A β k < rk A β j := fun z => e3 (iff1.mp z)
              rw [hst, hk]
              simp (disch := omega) only [ij_l0, ij_l1, ij_l2, ij_l3, ij_l4, ij_l5, ij_l6, ij_l8, ij_l12, ij_l16, ij_l19, ij_l23, ij_l24, ij_l31, ij_l32, ij_l36, ij_l47, ij_l48, ij_l56, ij_l92, ij_l93, ij_l98, ij_l108, ij_l114, ij_l116, ij_l127, ij_l128, ij_l149, ij_l250, ij_l384, ij_l768, ij_l1000, ij_l1536, ij_l3000, ij_l1000000, ij_l1000003, ij_l1000000000, ij_neg, ij_add, ij_sub, ij_mul, ij_le, if_neg, if_pos, ck_in, ob_s, vl_s, ij_nat, tn_nat, bi_z, e, w1, i1, hcv, e2, if_true, Bool.true_eq_false, if_false, hk0, rj, rk', hle]
              rfl
        · have e2' : ovr A β j c r = false := by simpa using e2
          have hst : tp A β c r (j + 1) = tp A β c r j := by simp only [tp]; rw [if_neg (fun z => e2 z.2.2.1)]
          rw [hst]
          simp (disch := omega) only [ij_l0, ij_l1, ij_l2, ij_l3, ij_l4, ij_l5, ij_l6, ij_l8, ij_l12, ij_l16, ij_l19, ij_l23, ij_l24, ij_l31, ij_l32, ij_l36, ij_l47, ij_l48, ij_l56, ij_l92, ij_l93, ij_l98, ij_l108, ij_l114, ij_l116, ij_l127, ij_l128, ij_l149, ij_l250, ij_l384, ij_l768, ij_l1000, ij_l1536, ij_l3000, ij_l1000000, ij_l1000003, ij_l1000000000, ij_neg, ij_add, ij_sub, ij_mul, ij_lt, ij_le, ij_eq, ij_nat, tn_nat, tn_12, tn_24, tn_36, tn_48, ck_in, ob_s, o2_s, vl_s, ox_l, ox_r, ck_tr, if_pos, if_neg, bi_z, e, w1, i1, hcv, e2', if_true, Bool.true_eq_false, if_false]
          rfl
      · have e1' : aFr A j = 1 := by omega
        have i1 : (ij ((aFr A j : Nat) : Int) = ij 0) = False := by rw [e1']; exact eq_false (by decide)
        have hst : tp A β c r (j + 1) = tp A β c r j := by simp only [tp]; rw [if_neg (fun z => e1 z.2.1)]
        rw [hst]
        simp (disch := omega) only [ij_l0, ij_l1, ij_l2, ij_l3, ij_l4, ij_l5, ij_l6, ij_l8, ij_l12, ij_l16, ij_l19, ij_l23, ij_l24, ij_l31, ij_l32, ij_l36, ij_l47, ij_l48, ij_l56, ij_l92, ij_l93, ij_l98, ij_l108, ij_l114, ij_l116, ij_l127, ij_l128, ij_l149, ij_l250, ij_l384, ij_l768, ij_l1000, ij_l1536, ij_l3000, ij_l1000000, ij_l1000003, ij_l1000000000, ij_neg, ij_add, ij_sub, ij_mul, ij_lt, ij_le, ij_eq, ij_nat, tn_nat, tn_12, tn_24, tn_36, tn_48, ck_in, ob_s, o2_s, vl_s, ox_l, ox_r, ck_tr, if_pos, if_neg, bi_z, e, w1, i1, Bool.true_eq_false, if_false]
        rfl
    · have e' : sn A β j = false := by simpa using e
      have hst : tp A β c r (j + 1) = tp A β c r j := by simp only [tp]; rw [if_neg (fun z => e z.1)]
      rw [hst]
      simp (disch := omega) only [ij_l0, ij_l1, ij_l2, ij_l3, ij_l4, ij_l5, ij_l6, ij_l8, ij_l12, ij_l16, ij_l19, ij_l23, ij_l24, ij_l31, ij_l32, ij_l36, ij_l47, ij_l48, ij_l56, ij_l92, ij_l93, ij_l98, ij_l108, ij_l114, ij_l116, ij_l127, ij_l128, ij_l149, ij_l250, ij_l384, ij_l768, ij_l1000, ij_l1536, ij_l3000, ij_l1000000, ij_l1000003, ij_l1000000000, ij_neg, ij_add, ij_sub, ij_mul, ij_lt, ij_le, ij_eq, ij_nat, tn_nat, tn_12, tn_24, tn_36, tn_48, ck_in, ob_s, o2_s, vl_s, ox_l, ox_r, ck_tr, if_pos, if_neg, bi_z, e', if_true]
      rfl
  · simp only [fX8_topAt_L40]
    rw [h.1.1]
    simp (disch := omega) only [ij_l0, ij_l1, ij_l2, ij_l3, ij_l4, ij_l5, ij_l6, ij_l8, ij_l12, ij_l16, ij_l19, ij_l23, ij_l24, ij_l31, ij_l32, ij_l36, ij_l47, ij_l48, ij_l56, ij_l92, ij_l93, ij_l98, ij_l108, ij_l114, ij_l116, ij_l127, ij_l128, ij_l149, ij_l250, ij_l384, ij_l768, ij_l1000, ij_l1536, ij_l3000, ij_l1000000, ij_l1000003, ij_l1000000000, ij_neg, ij_add, ij_sub, ij_mul, ij_lt, ij_le, ij_eq, ij_nat, tn_nat, tn_12, tn_24, tn_36, tn_48, ck_in, ob_s, o2_s, vl_s, ox_l, ox_r, ck_tr, if_pos, if_neg]
theorem f_cellAtN {x y : Int} (hx : rg x) (hy : rg y) (h : ¬ (0 ≤ x ∧ x ≤ 23 ∧ 0 ≤ y ∧ y ≤ 15)) : fX7_cellAt N σ (ij x) (ij y) = some (-1) := by
  obtain ⟨x1, x2⟩ := hx
  obtain ⟨y1, y2⟩ := hy
  unfold fX7_cellAt
  by_cases a1 : x < 0
  · simp (disch := omega) only [ij_l0, ij_l1, ij_l2, ij_l3, ij_l4, ij_l5, ij_l6, ij_l8, ij_l12, ij_l16, ij_l19, ij_l23, ij_l24, ij_l31, ij_l32, ij_l36, ij_l47, ij_l48, ij_l56, ij_l92, ij_l93, ij_l98, ij_l108, ij_l114, ij_l116, ij_l127, ij_l128, ij_l149, ij_l250, ij_l384, ij_l768, ij_l1000, ij_l1536, ij_l3000, ij_l1000000, ij_l1000003, ij_l1000000000, ij_neg, ij_add, ij_sub, ij_mul, ij_lt, ij_le, ij_eq, ij_nat, tn_nat, tn_12, tn_24, tn_36, tn_48, ck_in, ob_s, o2_s, vl_s, ox_l, ox_r, ck_tr, if_pos, if_neg]
  · by_cases a2 : 24 ≤ x
    · simp (disch := omega) only [ij_l0, ij_l1, ij_l2, ij_l3, ij_l4, ij_l5, ij_l6, ij_l8, ij_l12, ij_l16, ij_l19, ij_l23, ij_l24, ij_l31, ij_l32, ij_l36, ij_l47, ij_l48, ij_l56, ij_l92, ij_l93, ij_l98, ij_l108, ij_l114, ij_l116, ij_l127, ij_l128, ij_l149, ij_l250, ij_l384, ij_l768, ij_l1000, ij_l1536, ij_l3000, ij_l1000000, ij_l1000003, ij_l1000000000, ij_neg, ij_add, ij_sub, ij_mul, ij_lt, ij_le, ij_eq, ij_nat, tn_nat, tn_12, tn_24, tn_36, tn_48, ck_in, ob_s, o2_s, vl_s, ox_l, ox_r, ck_tr, if_pos, if_neg]
    · by_cases a3 : y < 0
      · simp (disch := omega) only [ij_l0, ij_l1, ij_l2, ij_l3, ij_l4, ij_l5, ij_l6, ij_l8, ij_l12, ij_l16, ij_l19, ij_l23, ij_l24, ij_l31, ij_l32, ij_l36, ij_l47, ij_l48, ij_l56, ij_l92, ij_l93, ij_l98, ij_l108, ij_l114, ij_l116, ij_l127, ij_l128, ij_l149, ij_l250, ij_l384, ij_l768, ij_l1000, ij_l1536, ij_l3000, ij_l1000000, ij_l1000003, ij_l1000000000, ij_neg, ij_add, ij_sub, ij_mul, ij_lt, ij_le, ij_eq, ij_nat, tn_nat, tn_12, tn_24, tn_36, tn_48, ck_in, ob_s, o2_s, vl_s, ox_l, ox_r, ck_tr, if_pos, if_neg]
      · simp (disch := omega) only [ij_l0, ij_l1, ij_l2, ij_l3, ij_l4, ij_l5, ij_l6, ij_l8, ij_l12, ij_l16, ij_l19, ij_l23, ij_l24, ij_l31, ij_l32, ij_l36, ij_l47, ij_l48, ij_l56, ij_l92, ij_l93, ij_l98, ij_l108, ij_l114, ij_l116, ij_l127, ij_l128, ij_l149, ij_l250, ij_l384, ij_l768, ij_l1000, ij_l1536, ij_l3000, ij_l1000000, ij_l1000003, ij_l1000000000, ij_neg, ij_add, ij_sub, ij_mul, ij_lt, ij_le, ij_eq, ij_nat, tn_nat, tn_12, tn_24, tn_36, tn_48, ck_in, ob_s, o2_s, vl_s, ox_l, ox_r, ck_tr, if_pos, if_neg]
theorem p_topAt (h : Inv A σ) (hN : 1000000 ≤ N) (x1 x2 x3 : Int32) : PairI (fL_topAt N σ x1 x2 x3) (fun τ => fX8_topAt N τ x1 x2 x3) := by
  obtain ⟨hI, hC, hM⟩ := h
  obtain ⟨z, rfl, hz⟩ := rg_ex x1
  obtain ⟨x, rfl, hx⟩ := rg_ex x2
  obtain ⟨y, rfl, hy⟩ := rg_ex x3
  have k1 : H1 (fun E5 σ3 => (if E5 = "java/lang/IllegalArgumentException" then (some ((1 : Int32), σ3)) else (if E5 = "java/util/NoSuchElementException" then (some ((2 : Int32), σ3)) else none))) := (h12 rfl).1
  have k2 : H2 (fun E5 σ3 => (if E5 = "java/lang/IllegalArgumentException" then (some ((1 : Int32), σ3)) else (if E5 = "java/util/NoSuchElementException" then (some ((2 : Int32), σ3)) else none))) := (h12 rfl).2
  unfold fL_topAt fX7_topAt
  rw [c_user hz]
  cases e : usz z with
  | false =>
    simp only [Bool.false_eq_true, if_false, ox_r]
    refine mkI hI hC (c := 1) (k1 σ) (by omega) ⟨ij 0, sI (sI σ 8 0 0 (ij 0)) 8 0 0 (ij 1), ?_, MR_thr (MR_thr hM _) _, (Un_thr _ _).tr (Un_thr _ _), thr_thr _ _, fun q => by omega⟩
    unfold fX8_topAt
    rw [vl_s, m_isUser hz, usd _ e, ob_s, if_pos (by decide), m_fails, o2_s]
    rfl
  | true =>
    obtain ⟨u, rfl, hu⟩ := usz_nat e
    simp only [if_true, tn_nat, ox_l]
    have ob : ∀ τ, fX8_isOnBoard N τ (ij x) (ij y) (1 : Int32) (1 : Int32) = some (bi (decide (0 ≤ x ∧ x ≤ 23 ∧ 0 ≤ y ∧ y ≤ 15))) := fun τ => m_isOnBoard (w := 1) (h := 1) hx hy (by omega) (by omega)
    by_cases ef : 0 ≤ x ∧ x ≤ 23 ∧ 0 ≤ y ∧ y ≤ 15
    · have hV := CR_VW hI hu hC
      have l12 := hI.2.1.1
      have c9 : ¬ ij (y * 24 + x) = (-1 : Int32) := by
        have : (ij (y * 24 + x) = ij (-1)) = (y * 24 + x = -1) := ij_eq (by omega) (by omega) (by omega) (by omega)
        intro q
        have q2 : ij (y * 24 + x) = ij (-1) := q
        rw [this] at q2
        omega
      rw [f_cellAt (by omega) (by omega), ob_s, if_neg c9, f_topOn hV (by omega) (by omega) (by omega) (by omega) (by omega), ob_s, tp_cut x y hI.2.1 l12]
      have hmd : ∀ σ' τ, fX8_builds N (sI σ' 8 0 0 (ij 0)) (ij u) = some τ → MB A u τ → fX8_topAt N σ' (ij u) (ij x) (ij y) = if (0 : Int32) ≤ ij (tp A (bv A (kn A u)) x y (aSh A)) then some (ij (tp A (bv A (kn A u)) x y (aSh A)), τ) else some (ij 0, sI τ 8 0 0 (ij 2)) := by
        intro σ' τ t1 ht
        have t1' : fX8_builds N (sI σ' 8 0 0 (0 : Int32)) (ij u) = some τ := t1
        have hl := m_topLoop (N := N) (MB_WM hI ht) (by omega) hx hy (fun v20 _ => (if 0 ≤ v20 then (some (v20, τ)) else (o2 (fX8_fails N τ (2 : Int32)) fun v22 σ21 => (some (v22, σ21)))))
        unfold fX8_topAt
        rw [vl_s, m_isUser hz, usd _ e, ob_s, if_neg (by decide), ob, decide_eq_true ef, ob_s, if_neg (by decide), t1', ob_s, vl_s]
        refine Eq.trans hl ?_
        rw [m_fails, o2_s]
        rfl
      rcases tp_rg A (bv A (kn A u)) x y (aSh A) with q | ⟨q1, q2, q3⟩
      · rw [q] at hmd
        rw [q, if_pos (by decide), ox_r]
        obtain ⟨τ, t1, t2, t3, t4⟩ := m_start (N := N) hI hM (by omega) hu
        refine mkI hI hC (c := 2) (k2 σ) (by omega) ⟨ij 0, sI τ 8 0 0 (ij 2), ?_, MR_thr t2.1 _, t3.tr (Un_thr _ _), thr_thr _ _, fun q => by omega⟩
        rw [hmd σ τ t1 t2, if_neg (by decide)]
      · obtain ⟨k, hk⟩ : ∃ k : Nat, tp A (bv A (kn A u)) x y (aSh A) = k := ⟨(tp A (bv A (kn A u)) x y (aSh A)).toNat, by omega⟩
        rw [hk] at hmd q2
        have c8 : ¬ ij (k : Int) = (-1 : Int32) := by
          have : (ij (k : Int) = ij (-1)) = ((k : Int) = -1) := ij_eq (by omega) (by omega) (by omega) (by omega)
          intro q
          have q2 : ij (k : Int) = ij (-1) := q
          rw [this] at q2
          omega
        have c7 : (0 : Int32) ≤ ij (k : Int) := by
          have : (ij 0 ≤ ij (k : Int)) = ((0 : Int) ≤ k) := ij_le (by omega) (by omega) (by omega) (by omega)
          show ij 0 ≤ ij (k : Int)
          rw [this]
          omega
        rw [hk, if_neg c8, ox_l, vl_s]
        obtain ⟨τ, t1, t2, t3, t4⟩ := m_start (N := N) (σ := sJ σ 0 (Int32.toInt64 (ij (k : Int)))) hI (MR_J hM) (by omega) hu
        refine mkI hI (CR_J hC) (c := 0) rfl (by omega) ⟨ij k, τ, ?_, t2.1, t3, t4, fun _ => gJ_sJ _ _⟩
        rw [hmd _ τ t1 t2, if_pos c7]
    · rw [f_cellAtN hx hy ef, ob_s, if_pos rfl, ox_r]
      refine mkI hI hC (c := 1) (k1 σ) (by omega) ⟨ij 0, sI (sI σ 8 0 0 (ij 0)) 8 0 0 (ij 1), ?_, MR_thr (MR_thr hM _) _, (Un_thr _ _).tr (Un_thr _ _), thr_thr _ _, fun q => by omega⟩
      unfold fX8_topAt
      rw [vl_s, m_isUser hz, usd _ e, ob_s, if_neg (by decide), ob, decide_eq_false ef, ob_s, if_pos (by decide), m_fails, o2_s]
      rfl
end S13
