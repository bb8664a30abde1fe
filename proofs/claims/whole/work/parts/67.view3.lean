/-! The rest of what the class sees on a board. -/
section V3
variable {A : Ab} {β : Nat → Nat} {o N : Nat} {σ : St}
theorem f_topOn (h : VW A β o σ) (hN : 100 ≤ N) {c r : Int} (c1 : -1000 ≤ c) (c2 : c ≤ 1000) (r1 : -1000 ≤ r) (r2 : r ≤ 1000) : fX6_topOn N σ o (ij c) (ij r) = some (ij (tp A β c r 12)) := by
  unfold fX6_topOn
  simp only [vl_s, ij_l0, ij_l1, ij_l2, ij_l3, ij_l4, ij_l5, ij_l6, ij_l8, ij_l12, ij_l16, ij_l19, ij_l23, ij_l24, ij_l31, ij_l32, ij_l36, ij_l47, ij_l48, ij_l56, ij_l92, ij_l93, ij_l98, ij_l108, ij_l114, ij_l116, ij_l127, ij_l128, ij_l149, ij_l250, ij_l384, ij_l768, ij_l1000, ij_l1536, ij_l3000, ij_l1000000, ij_l1000003, ij_l1000000000, ij_neg, ij_add, ij_sub, ij_mul]
  refine lp_end (fun n j => fX6_topOn_L5 (fun v14 _ => (some v14)) N σ o (ij c) (ij r) n (ij (tp A β c r j)) (ij j)) (a := 0) (b := 12) (by omega) (fun n j _ hj => ?_) (fun n => ?_) N (by omega)
  · have hr := tp_rg A β c r j
    have hS := h.2.2.2
    simp only [fX6_topOn_L5]
    rw [f_seen h hj]
    by_cases e : sn A β j = true
    · have hl := sn_lt e
      have hf := (hS.2.2.1 j).2.2.2
      rw [f_isFrameAt h.1 hS hl, f_isOver h hl c1 c2 r1 r2]
      by_cases e1 : aFr A j = 0
      · by_cases e2 : ovr A β j c r = true
        · rcases hr with q | ⟨q1, q2, q3⟩
          · have hst : tp A β c r (j + 1) = j := by simp only [tp]; rw [if_pos ⟨e, e1, e2, Or.inl q⟩]
            rw [hst, q]
            simp (disch := omega) only [ij_l0, ij_l1, ij_l2, ij_l3, ij_l4, ij_l5, ij_l6, ij_l8, ij_l12, ij_l16, ij_l19, ij_l23, ij_l24, ij_l31, ij_l32, ij_l36, ij_l47, ij_l48, ij_l56, ij_l92, ij_l93, ij_l98, ij_l108, ij_l114, ij_l116, ij_l127, ij_l128, ij_l149, ij_l250, ij_l384, ij_l768, ij_l1000, ij_l1536, ij_l3000, ij_l1000000, ij_l1000003, ij_l1000000000, ij_neg, ij_add, ij_sub, ij_mul, ij_lt, ij_le, ij_eq, ij_nat, tn_nat, tn_12, tn_24, tn_36, tn_48, ck_in, ob_s, o2_s, vl_s, ox_l, ox_r, ck_tr, bi_z, if_pos, if_neg, e, e1, e2]
            simp
          · have hk : ∃ k : Nat, tp A β c r j = k := ⟨(tp A β c r j).toNat, by omega⟩
            obtain ⟨k, hk⟩ := hk
            rw [hk] at q1 q2 q3
            by_cases e3 : blw β k j = true
            · have hst : tp A β c r (j + 1) = j := by simp only [tp]; rw [if_pos ⟨e, e1, e2, Or.inr (by rw [hk]; exact e3)⟩]
              rw [hst, hk, f_isBelow h (by omega) hj]
              simp (disch := omega) only [ij_l0, ij_l1, ij_l2, ij_l3, ij_l4, ij_l5, ij_l6, ij_l8, ij_l12, ij_l16, ij_l19, ij_l23, ij_l24, ij_l31, ij_l32, ij_l36, ij_l47, ij_l48, ij_l56, ij_l92, ij_l93, ij_l98, ij_l108, ij_l114, ij_l116, ij_l127, ij_l128, ij_l149, ij_l250, ij_l384, ij_l768, ij_l1000, ij_l1536, ij_l3000, ij_l1000000, ij_l1000003, ij_l1000000000, ij_neg, ij_add, ij_sub, ij_mul, ij_lt, ij_le, ij_eq, ij_nat, tn_nat, tn_12, tn_24, tn_36, tn_48, ck_in, ob_s, o2_s, vl_s, ox_l, ox_r, ck_tr, bi_z, if_pos, if_neg, e, e1, e2, e3]
              simp
            · have hst : tp A β c r (j + 1) = k := by simp only [tp]; rw [if_neg (by rw [hk]; exact fun q => q.2.2.2.elim (fun z => by omega) e3), hk]
              have e3' : blw β k j = false := by simpa using e3
              rw [hst, hk, f_isBelow h (by omega) hj]
              simp (disch := omega) only [ij_l0, ij_l1, ij_l2, ij_l3, ij_l4, ij_l5, ij_l6, ij_l8, ij_l12, ij_l16, ij_l19, ij_l23, ij_l24, ij_l31, ij_l32, ij_l36, ij_l47, ij_l48, ij_l56, ij_l92, ij_l93, ij_l98, ij_l108, ij_l114, ij_l116, ij_l127, ij_l128, ij_l149, ij_l250, ij_l384, ij_l768, ij_l1000, ij_l1536, ij_l3000, ij_l1000000, ij_l1000003, ij_l1000000000, ij_neg, ij_add, ij_sub, ij_mul, ij_lt, ij_le, ij_eq, ij_nat, tn_nat, tn_12, tn_24, tn_36, tn_48, ck_in, ob_s, o2_s, vl_s, ox_l, ox_r, ck_tr, bi_z, if_pos, if_neg, e, e1, e2, e3']
              simp
        · have hst : tp A β c r (j + 1) = tp A β c r j := by simp only [tp]; rw [if_neg (fun q => e2 q.2.2.1)]
          have e2' : ovr A β j c r = false := by simpa using e2
          rw [hst]
          simp (disch := omega) only [ij_l0, ij_l1, ij_l2, ij_l3, ij_l4, ij_l5, ij_l6, ij_l8, ij_l12, ij_l16, ij_l19, ij_l23, ij_l24, ij_l31, ij_l32, ij_l36, ij_l47, ij_l48, ij_l56, ij_l92, ij_l93, ij_l98, ij_l108, ij_l114, ij_l116, ij_l127, ij_l128, ij_l149, ij_l250, ij_l384, ij_l768, ij_l1000, ij_l1536, ij_l3000, ij_l1000000, ij_l1000003, ij_l1000000000, ij_neg, ij_add, ij_sub, ij_mul, ij_lt, ij_le, ij_eq, ij_nat, tn_nat, tn_12, tn_24, tn_36, tn_48, ck_in, ob_s, o2_s, vl_s, ox_l, ox_r, ck_tr, bi_z, if_pos, if_neg, e, e1, e2']
          simp
      · have hst : tp A β c r (j + 1) = tp A β c r j := by simp only [tp]; rw [if_neg (fun q => e1 q.2.1)]
        have e1' : aFr A j = 1 := by omega
        rw [hst]
        simp (disch := omega) only [ij_l0, ij_l1, ij_l2, ij_l3, ij_l4, ij_l5, ij_l6, ij_l8, ij_l12, ij_l16, ij_l19, ij_l23, ij_l24, ij_l31, ij_l32, ij_l36, ij_l47, ij_l48, ij_l56, ij_l92, ij_l93, ij_l98, ij_l108, ij_l114, ij_l116, ij_l127, ij_l128, ij_l149, ij_l250, ij_l384, ij_l768, ij_l1000, ij_l1536, ij_l3000, ij_l1000000, ij_l1000003, ij_l1000000000, ij_neg, ij_add, ij_sub, ij_mul, ij_lt, ij_le, ij_eq, ij_nat, tn_nat, tn_12, tn_24, tn_36, tn_48, ck_in, ob_s, o2_s, vl_s, ox_l, ox_r, ck_tr, bi_z, if_pos, if_neg, e, e1']
        simp
    · have e' : sn A β j = false := by simpa using e
      have hst : tp A β c r (j + 1) = tp A β c r j := by simp only [tp]; rw [if_neg (fun q => e q.1)]
      rw [hst]
      simp (disch := omega) only [ij_l0, ij_l1, ij_l2, ij_l3, ij_l4, ij_l5, ij_l6, ij_l8, ij_l12, ij_l16, ij_l19, ij_l23, ij_l24, ij_l31, ij_l32, ij_l36, ij_l47, ij_l48, ij_l56, ij_l92, ij_l93, ij_l98, ij_l108, ij_l114, ij_l116, ij_l127, ij_l128, ij_l149, ij_l250, ij_l384, ij_l768, ij_l1000, ij_l1536, ij_l3000, ij_l1000000, ij_l1000003, ij_l1000000000, ij_neg, ij_add, ij_sub, ij_mul, ij_lt, ij_le, ij_eq, ij_nat, tn_nat, tn_12, tn_24, tn_36, tn_48, ck_in, ob_s, o2_s, vl_s, ox_l, ox_r, ck_tr, bi_z, if_pos, if_neg, e']
      simp
  · simp only [fX6_topOn_L5]
    simp (disch := omega) only [ij_l0, ij_l1, ij_l2, ij_l3, ij_l4, ij_l5, ij_l6, ij_l8, ij_l12, ij_l16, ij_l19, ij_l23, ij_l24, ij_l31, ij_l32, ij_l36, ij_l47, ij_l48, ij_l56, ij_l92, ij_l93, ij_l98, ij_l108, ij_l114, ij_l116, ij_l127, ij_l128, ij_l149, ij_l250, ij_l384, ij_l768, ij_l1000, ij_l1536, ij_l3000, ij_l1000000, ij_l1000003, ij_l1000000000, ij_neg, ij_add, ij_sub, ij_mul, ij_lt, ij_le, ij_eq, ij_nat, tn_nat, tn_12, tn_24, tn_36, tn_48, ck_in, ob_s, o2_s, vl_s, ox_l, ox_r, ck_tr, if_pos, if_neg]
theorem f_countCovered (h : VW A β o σ) (hN : 100 ≤ N) {s : Nat} (hs : s < aSh A) : fX6_countCovered N σ o (ij s) = some (ij (ct (fun t => decide (t ≠ s) && sn A β t && ins A β t s) 12)) := by
  have hS := h.2.2.2
  unfold fX6_countCovered
  refine lp_end (fun n j => fX6_countCovered_L4 (fun v10 _ => (some v10)) N σ o (ij s) n (ij (ct (fun t => decide (t ≠ s) && sn A β t && ins A β t s) j)) (ij j)) (a := 0) (b := 12) (by omega) (fun n j _ hj => ?_) (fun n => ?_) N (by omega)
  · have l := hS.1
    have hc := ct_le (fun t => decide (t ≠ s) && sn A β t && ins A β t s) j
    simp only [fX6_countCovered_L4]
    rw [f_seen h hj]
    by_cases e : sn A β j = true
    · rw [f_covers h hs (sn_lt e)]
      by_cases e1 : j = s
      · simp (disch := omega) only [ij_l0, ij_l1, ij_l2, ij_l3, ij_l4, ij_l5, ij_l6, ij_l8, ij_l12, ij_l16, ij_l19, ij_l23, ij_l24, ij_l31, ij_l32, ij_l36, ij_l47, ij_l48, ij_l56, ij_l92, ij_l93, ij_l98, ij_l108, ij_l114, ij_l116, ij_l127, ij_l128, ij_l149, ij_l250, ij_l384, ij_l768, ij_l1000, ij_l1536, ij_l3000, ij_l1000000, ij_l1000003, ij_l1000000000, ij_neg, ij_add, ij_sub, ij_mul, ij_lt, ij_le, ij_eq, ij_nat, tn_nat, tn_12, tn_24, tn_36, tn_48, ck_in, ob_s, o2_s, vl_s, ox_l, ox_r, ck_tr, if_pos, if_neg, bi_z, e, e1]
        simp [ct]
      · have e1' : ¬ (j : Int) = s := by omega
        by_cases e2 : ins A β j s = true
        · simp (disch := omega) only [ij_l0, ij_l1, ij_l2, ij_l3, ij_l4, ij_l5, ij_l6, ij_l8, ij_l12, ij_l16, ij_l19, ij_l23, ij_l24, ij_l31, ij_l32, ij_l36, ij_l47, ij_l48, ij_l56, ij_l92, ij_l93, ij_l98, ij_l108, ij_l114, ij_l116, ij_l127, ij_l128, ij_l149, ij_l250, ij_l384, ij_l768, ij_l1000, ij_l1536, ij_l3000, ij_l1000000, ij_l1000003, ij_l1000000000, ij_neg, ij_add, ij_sub, ij_mul, ij_lt, ij_le, ij_eq, ij_nat, tn_nat, tn_12, tn_24, tn_36, tn_48, ck_in, ob_s, o2_s, vl_s, ox_l, ox_r, ck_tr, if_pos, if_neg, bi_z, e, e1', e2]
          simp [ct, e, e1, e2]
        · simp (disch := omega) only [ij_l0, ij_l1, ij_l2, ij_l3, ij_l4, ij_l5, ij_l6, ij_l8, ij_l12, ij_l16, ij_l19, ij_l23, ij_l24, ij_l31, ij_l32, ij_l36, ij_l47, ij_l48, ij_l56, ij_l92, ij_l93, ij_l98, ij_l108, ij_l114, ij_l116, ij_l127, ij_l128, ij_l149, ij_l250, ij_l384, ij_l768, ij_l1000, ij_l1536, ij_l3000, ij_l1000000, ij_l1000003, ij_l1000000000, ij_neg, ij_add, ij_sub, ij_mul, ij_lt, ij_le, ij_eq, ij_nat, tn_nat, tn_12, tn_24, tn_36, tn_48, ck_in, ob_s, o2_s, vl_s, ox_l, ox_r, ck_tr, if_pos, if_neg, bi_z, e, e1', e2]
          simp [ct, e, e1, e2]
    · simp (disch := omega) only [ij_l0, ij_l1, ij_l2, ij_l3, ij_l4, ij_l5, ij_l6, ij_l8, ij_l12, ij_l16, ij_l19, ij_l23, ij_l24, ij_l31, ij_l32, ij_l36, ij_l47, ij_l48, ij_l56, ij_l92, ij_l93, ij_l98, ij_l108, ij_l114, ij_l116, ij_l127, ij_l128, ij_l149, ij_l250, ij_l384, ij_l768, ij_l1000, ij_l1536, ij_l3000, ij_l1000000, ij_l1000003, ij_l1000000000, ij_neg, ij_add, ij_sub, ij_mul, ij_lt, ij_le, ij_eq, ij_nat, tn_nat, tn_12, tn_24, tn_36, tn_48, ck_in, ob_s, o2_s, vl_s, ox_l, ox_r, ck_tr, if_pos, if_neg, bi_z, e]
      by_cases e1 : (j : Int) = s <;> simp [ct, e, e1]
  · simp only [fX6_countCovered_L4]
    simp (disch := omega) only [ij_l0, ij_l1, ij_l2, ij_l3, ij_l4, ij_l5, ij_l6, ij_l8, ij_l12, ij_l16, ij_l19, ij_l23, ij_l24, ij_l31, ij_l32, ij_l36, ij_l47, ij_l48, ij_l56, ij_l92, ij_l93, ij_l98, ij_l108, ij_l114, ij_l116, ij_l127, ij_l128, ij_l149, ij_l250, ij_l384, ij_l768, ij_l1000, ij_l1536, ij_l3000, ij_l1000000, ij_l1000003, ij_l1000000000, ij_neg, ij_add, ij_sub, ij_mul, ij_lt, ij_le, ij_eq, ij_nat, tn_nat, tn_12, tn_24, tn_36, tn_48, ck_in, ob_s, o2_s, vl_s, ox_l, ox_r, ck_tr, if_pos, if_neg]
theorem f_lockerAt (h : VW A β o σ) {s : Nat} (hs : s < 12) : fX6_lockerAt N σ o (ij s) = some (ij ((β (36 + s) : Int) - 1)) ∧ β (36 + s) ≤ 3 := by
  have hb := (h.2.2.1 (36 + s) (by omega)).2.2.2.1 (by omega) (by omega)
  refine ⟨?_, hb⟩
  unfold fX6_lockerAt
  simp only [ij_l0, ij_l1, ij_l2, ij_l3, ij_l4, ij_l5, ij_l6, ij_l8, ij_l12, ij_l16, ij_l19, ij_l23, ij_l24, ij_l31, ij_l32, ij_l36, ij_l47, ij_l48, ij_l56, ij_l92, ij_l93, ij_l98, ij_l108, ij_l114, ij_l116, ij_l127, ij_l128, ij_l149, ij_l250, ij_l384, ij_l768, ij_l1000, ij_l1536, ij_l3000, ij_l1000000, ij_l1000003, ij_l1000000000, ij_neg, ij_add, ij_sub, ij_mul]
  rw [v_val2 h (by omega) (by omega), show ((36 : Int) + s).toNat = 36 + s by omega, cvF_n _ (by omega), ob_s, f2i_cv (by omega), ij_sub]
theorem f_isLockedByOther (h : VW A β o σ) {s u : Nat} (hs : s < 12) (hu : u < 3) : fX6_isLockedByOther N σ o (ij u) (ij s) = some (bi (lkb β u s)) := by
  obtain ⟨h1, h2⟩ := f_lockerAt (N := N) h hs
  unfold fX6_isLockedByOther lkb
  rw [h1]
  simp (disch := omega) only [ij_l0, ij_l1, ij_l2, ij_l3, ij_l4, ij_l5, ij_l6, ij_l8, ij_l12, ij_l16, ij_l19, ij_l23, ij_l24, ij_l31, ij_l32, ij_l36, ij_l47, ij_l48, ij_l56, ij_l92, ij_l93, ij_l98, ij_l108, ij_l114, ij_l116, ij_l127, ij_l128, ij_l149, ij_l250, ij_l384, ij_l768, ij_l1000, ij_l1536, ij_l3000, ij_l1000000, ij_l1000003, ij_l1000000000, ij_neg, ij_add, ij_sub, ij_mul, ij_lt, ij_le, ij_eq, ij_nat, tn_nat, tn_12, tn_24, tn_36, tn_48, ck_in, ob_s, o2_s, vl_s, ox_l, ox_r, ck_tr, if_pos, if_neg]
  by_cases e : β (36 + s) = 0
  · simp [e, bi_f]
  · by_cases e1 : β (36 + s) = u + 1
    · simp [e1, bi_f]
    · have e2 : ¬ ((β (36 + s) : Int) - 1 = -1) := by omega
      have e3 : ¬ ((β (36 + s) : Int) - 1 = u) := by omega
      simp [e, e1, e2, e3, bi_t]
theorem f_isCarried (h : VW A β o σ) {u fr s : Nat} (hu : u < 3) (hf : fr < aSh A) (hs : s < 12) : fX6_isCarried N σ o (ij u) (ij fr) (ij s) = some (bi (crd A β u fr s)) := by
  unfold fX6_isCarried crd
  rw [f_seen h hs]
  by_cases e : sn A β s = true
  · rw [f_covers h hf (sn_lt e), f_isLockedByOther h hs hu]
    cases e1 : ins A β s fr <;> cases e2 : lkb β u s <;> simp (disch := omega) only [ij_l0, ij_l1, ij_l2, ij_l3, ij_l4, ij_l5, ij_l6, ij_l8, ij_l12, ij_l16, ij_l19, ij_l23, ij_l24, ij_l31, ij_l32, ij_l36, ij_l47, ij_l48, ij_l56, ij_l92, ij_l93, ij_l98, ij_l108, ij_l114, ij_l116, ij_l127, ij_l128, ij_l149, ij_l250, ij_l384, ij_l768, ij_l1000, ij_l1536, ij_l3000, ij_l1000000, ij_l1000003, ij_l1000000000, ij_neg, ij_add, ij_sub, ij_mul, ij_lt, ij_le, ij_eq, ij_nat, tn_nat, tn_12, tn_24, tn_36, tn_48, ck_in, ob_s, o2_s, vl_s, ox_l, ox_r, ck_tr, if_pos, if_neg, bi_z, e] <;> simp [bi_t, bi_f]
  · simp (disch := omega) only [ij_l0, ij_l1, ij_l2, ij_l3, ij_l4, ij_l5, ij_l6, ij_l8, ij_l12, ij_l16, ij_l19, ij_l23, ij_l24, ij_l31, ij_l32, ij_l36, ij_l47, ij_l48, ij_l56, ij_l92, ij_l93, ij_l98, ij_l108, ij_l114, ij_l116, ij_l127, ij_l128, ij_l149, ij_l250, ij_l384, ij_l768, ij_l1000, ij_l1536, ij_l3000, ij_l1000000, ij_l1000003, ij_l1000000000, ij_neg, ij_add, ij_sub, ij_mul, ij_lt, ij_le, ij_eq, ij_nat, tn_nat, tn_12, tn_24, tn_36, tn_48, ck_in, ob_s, o2_s, vl_s, ox_l, ox_r, ck_tr, if_pos, if_neg, bi_z, e]
    simp [e, bi_f]
theorem f_countLockedBy (h : VW A β o σ) (hN : 100 ≤ N) {u : Nat} (hu : u < 3) : fX6_countLockedBy N σ o (ij u) = some (ij (ct (fun s => sn A β s && decide (β (36 + s) = u + 1)) 12)) := by
  unfold fX6_countLockedBy
  refine lp_end (fun n j => fX6_countLockedBy_L4 (fun v9 _ => (some v9)) N σ o (ij u) n (ij (ct (fun s => sn A β s && decide (β (36 + s) = u + 1)) j)) (ij j)) (a := 0) (b := 12) (by omega) (fun n j _ hj => ?_) (fun n => ?_) N (by omega)
  · obtain ⟨h1, h2⟩ := f_lockerAt (N := N) h hj
    have hc := ct_le (fun s => sn A β s && decide (β (36 + s) = u + 1)) j
    simp only [fX6_countLockedBy_L4]
    rw [f_seen h hj, h1]
    by_cases e : sn A β j = true
    · by_cases e1 : β (36 + j) = u + 1
      · have e2 : ((β (36 + j) : Int) - 1 = u) := by omega
        simp (disch := omega) only [ij_l0, ij_l1, ij_l2, ij_l3, ij_l4, ij_l5, ij_l6, ij_l8, ij_l12, ij_l16, ij_l19, ij_l23, ij_l24, ij_l31, ij_l32, ij_l36, ij_l47, ij_l48, ij_l56, ij_l92, ij_l93, ij_l98, ij_l108, ij_l114, ij_l116, ij_l127, ij_l128, ij_l149, ij_l250, ij_l384, ij_l768, ij_l1000, ij_l1536, ij_l3000, ij_l1000000, ij_l1000003, ij_l1000000000, ij_neg, ij_add, ij_sub, ij_mul, ij_lt, ij_le, ij_eq, ij_nat, tn_nat, tn_12, tn_24, tn_36, tn_48, ck_in, ob_s, o2_s, vl_s, ox_l, ox_r, ck_tr, if_pos, if_neg, bi_z, e, e2]
        simp [ct, e, e1]
      · have e2 : ¬ ((β (36 + j) : Int) - 1 = u) := by omega
        simp (disch := omega) only [ij_l0, ij_l1, ij_l2, ij_l3, ij_l4, ij_l5, ij_l6, ij_l8, ij_l12, ij_l16, ij_l19, ij_l23, ij_l24, ij_l31, ij_l32, ij_l36, ij_l47, ij_l48, ij_l56, ij_l92, ij_l93, ij_l98, ij_l108, ij_l114, ij_l116, ij_l127, ij_l128, ij_l149, ij_l250, ij_l384, ij_l768, ij_l1000, ij_l1536, ij_l3000, ij_l1000000, ij_l1000003, ij_l1000000000, ij_neg, ij_add, ij_sub, ij_mul, ij_lt, ij_le, ij_eq, ij_nat, tn_nat, tn_12, tn_24, tn_36, tn_48, ck_in, ob_s, o2_s, vl_s, ox_l, ox_r, ck_tr, if_pos, if_neg, bi_z, e, e2]
        simp [ct, e, e1]
    · simp (disch := omega) only [ij_l0, ij_l1, ij_l2, ij_l3, ij_l4, ij_l5, ij_l6, ij_l8, ij_l12, ij_l16, ij_l19, ij_l23, ij_l24, ij_l31, ij_l32, ij_l36, ij_l47, ij_l48, ij_l56, ij_l92, ij_l93, ij_l98, ij_l108, ij_l114, ij_l116, ij_l127, ij_l128, ij_l149, ij_l250, ij_l384, ij_l768, ij_l1000, ij_l1536, ij_l3000, ij_l1000000, ij_l1000003, ij_l1000000000, ij_neg, ij_add, ij_sub, ij_mul, ij_lt, ij_le, ij_eq, ij_nat, tn_nat, tn_12, tn_24, tn_36, tn_48, ck_in, ob_s, o2_s, vl_s, ox_l, ox_r, ck_tr, if_pos, if_neg, bi_z, e]
      simp [ct, e]
  · simp only [fX6_countLockedBy_L4]
    simp (disch := omega) only [ij_l0, ij_l1, ij_l2, ij_l3, ij_l4, ij_l5, ij_l6, ij_l8, ij_l12, ij_l16, ij_l19, ij_l23, ij_l24, ij_l31, ij_l32, ij_l36, ij_l47, ij_l48, ij_l56, ij_l92, ij_l93, ij_l98, ij_l108, ij_l114, ij_l116, ij_l127, ij_l128, ij_l149, ij_l250, ij_l384, ij_l768, ij_l1000, ij_l1536, ij_l3000, ij_l1000000, ij_l1000003, ij_l1000000000, ij_neg, ij_add, ij_sub, ij_mul, ij_lt, ij_le, ij_eq, ij_nat, tn_nat, tn_12, tn_24, tn_36, tn_48, ck_in, ob_s, o2_s, vl_s, ox_l, ox_r, ck_tr, if_pos, if_neg]
theorem f_areVotesShown (h : VW A β o σ) : fX6_areVotesShown N σ o = some (bi (β 92 == 1)) := by
  have hb := (h.2.2.1 92 (by omega)).2.2.2.2.2.2 (by omega)
  unfold fX6_areVotesShown
  simp only [ij_l0, ij_l1, ij_l2, ij_l3, ij_l4, ij_l5, ij_l6, ij_l8, ij_l12, ij_l16, ij_l19, ij_l23, ij_l24, ij_l31, ij_l32, ij_l36, ij_l47, ij_l48, ij_l56, ij_l92, ij_l93, ij_l98, ij_l108, ij_l114, ij_l116, ij_l127, ij_l128, ij_l149, ij_l250, ij_l384, ij_l768, ij_l1000, ij_l1536, ij_l3000, ij_l1000000, ij_l1000003, ij_l1000000000, ij_neg, ij_add, ij_sub, ij_mul]
  rw [v_val2 h (by omega) (by omega), show ((92 : Int)).toNat = 92 by rfl, cvF_n _ (by omega), ob_s]
  simp (disch := omega) only [fc_zero]
  by_cases e : β 92 = 0
  · simp [e, bi_f]
  · have e1 : β 92 = 1 := by omega
    simp [e1, bi_t]
theorem f_votesBy (h : VW A β o σ) {u s : Nat} (hu : u < 3) (hs : s < 12) : fX6_votesBy N σ o (ij u) (ij s) = some (ij (β (56 + 12 * u + s))) ∧ β (56 + 12 * u + s) ≤ 3 := by
  have hb := (h.2.2.1 (56 + 12 * u + s) (by omega)).2.2.2.2.2.1 (by omega) (by omega)
  refine ⟨?_, hb⟩
  unfold fX6_votesBy fX7_voteField
  simp only [ij_l0, ij_l1, ij_l2, ij_l3, ij_l4, ij_l5, ij_l6, ij_l8, ij_l12, ij_l16, ij_l19, ij_l23, ij_l24, ij_l31, ij_l32, ij_l36, ij_l47, ij_l48, ij_l56, ij_l92, ij_l93, ij_l98, ij_l108, ij_l114, ij_l116, ij_l127, ij_l128, ij_l149, ij_l250, ij_l384, ij_l768, ij_l1000, ij_l1536, ij_l3000, ij_l1000000, ij_l1000003, ij_l1000000000, ij_neg, ij_add, ij_sub, ij_mul, ob_s]
  rw [v_val2 h (by omega) (by omega), show ((56 : Int) + u * 12 + s).toNat = 56 + 12 * u + s by omega, cvF_n _ (by omega), ob_s, f2i_cv (by omega)]
theorem vtb_le (h : VW A β o σ) {u : Nat} (hu : u < 3) : ∀ j, j ≤ 12 → vtb β u j ≤ 3 * j := by
  intro j
  induction j with
  | zero => intro _; exact Nat.le_refl _
  | succ j ih =>
    intro hj
    have hb := (f_votesBy (N := 0) h hu (s := j) (by omega)).2
    have := ih (by omega)
    simp only [vtb]
    omega
theorem f_allVotesBy (h : VW A β o σ) (hN : 100 ≤ N) {u : Nat} (hu : u < 3) : fX6_allVotesBy N σ o (ij u) = some (ij (vtb β u 12)) := by
  unfold fX6_allVotesBy
  refine lp_end (fun n j => fX6_allVotesBy_L4 (fun v6 _ => (some v6)) N σ o (ij u) n (ij (vtb β u j)) (ij j)) (a := 0) (b := 12) (by omega) (fun n j _ hj => ?_) (fun n => ?_) N (by omega)
  · simp only [fX6_allVotesBy_L4]
    rw [(f_votesBy h hu hj).1]
    simp (disch := omega) only [ij_l0, ij_l1, ij_l2, ij_l3, ij_l4, ij_l5, ij_l6, ij_l8, ij_l12, ij_l16, ij_l19, ij_l23, ij_l24, ij_l31, ij_l32, ij_l36, ij_l47, ij_l48, ij_l56, ij_l92, ij_l93, ij_l98, ij_l108, ij_l114, ij_l116, ij_l127, ij_l128, ij_l149, ij_l250, ij_l384, ij_l768, ij_l1000, ij_l1536, ij_l3000, ij_l1000000, ij_l1000003, ij_l1000000000, ij_neg, ij_add, ij_sub, ij_mul, ij_lt, ij_le, ij_eq, ij_nat, tn_nat, tn_12, tn_24, tn_36, tn_48, ck_in, ob_s, o2_s, vl_s, ox_l, ox_r, ck_tr, if_pos, if_neg]
    simp [vtb]
  · simp only [fX6_allVotesBy_L4]
    simp (disch := omega) only [ij_l0, ij_l1, ij_l2, ij_l3, ij_l4, ij_l5, ij_l6, ij_l8, ij_l12, ij_l16, ij_l19, ij_l23, ij_l24, ij_l31, ij_l32, ij_l36, ij_l47, ij_l48, ij_l56, ij_l92, ij_l93, ij_l98, ij_l108, ij_l114, ij_l116, ij_l127, ij_l128, ij_l149, ij_l250, ij_l384, ij_l768, ij_l1000, ij_l1536, ij_l3000, ij_l1000000, ij_l1000003, ij_l1000000000, ij_neg, ij_add, ij_sub, ij_mul, ij_lt, ij_le, ij_eq, ij_nat, tn_nat, tn_12, tn_24, tn_36, tn_48, ck_in, ob_s, o2_s, vl_s, ox_l, ox_r, ck_tr, if_pos, if_neg]
theorem f_allVotesFor (h : VW A β o σ) (hN : 100 ≤ N) {s : Nat} (hs : s < 12) : fX6_allVotesFor N σ o (ij s) = some (ij (vtf β s)) ∧ vtf β s ≤ 9 := by
  have b0 := f_votesBy (N := N) h (u := 0) (by omega) hs
  have b1 := f_votesBy (N := N) h (u := 1) (by omega) hs
  have b2 := f_votesBy (N := N) h (u := 2) (by omega) hs
  have b0' : β (56 + s) ≤ 3 := b0.2
  have b1' : β (68 + s) ≤ 3 := b1.2
  have b2' : β (80 + s) ≤ 3 := b2.2
  refine ⟨?_, by unfold vtf; omega⟩
  unfold fX6_allVotesFor
  refine lp_end (fun n j => fX6_allVotesFor_L4 (fun v6 _ => (some v6)) N σ o (ij s) n (ij (if j = 0 then 0 else if j = 1 then β (56 + s) else if j = 2 then β (56 + s) + β (68 + s) else vtf β s : Nat)) (ij j)) (a := 0) (b := 3) (by omega) (fun n j _ hj => ?_) (fun n => ?_) N (by omega)
  · simp only [fX6_allVotesFor_L4]
    rw [(f_votesBy h hj hs).1]
    have hj3 : j = 0 ∨ j = 1 ∨ j = 2 := by omega
    rcases hj3 with rfl | rfl | rfl <;> simp (disch := omega) only [ij_l0, ij_l1, ij_l2, ij_l3, ij_l4, ij_l5, ij_l6, ij_l8, ij_l12, ij_l16, ij_l19, ij_l23, ij_l24, ij_l31, ij_l32, ij_l36, ij_l47, ij_l48, ij_l56, ij_l92, ij_l93, ij_l98, ij_l108, ij_l114, ij_l116, ij_l127, ij_l128, ij_l149, ij_l250, ij_l384, ij_l768, ij_l1000, ij_l1536, ij_l3000, ij_l1000000, ij_l1000003, ij_l1000000000, ij_neg, ij_add, ij_sub, ij_mul, ij_lt, ij_le, ij_eq, ij_nat, tn_nat, tn_12, tn_24, tn_36, tn_48, ck_in, ob_s, o2_s, vl_s, ox_l, ox_r, ck_tr, if_pos, if_neg] <;> simp [vtf]
  · simp only [fX6_allVotesFor_L4]
    simp (disch := omega) only [ij_l0, ij_l1, ij_l2, ij_l3, ij_l4, ij_l5, ij_l6, ij_l8, ij_l12, ij_l16, ij_l19, ij_l23, ij_l24, ij_l31, ij_l32, ij_l36, ij_l47, ij_l48, ij_l56, ij_l92, ij_l93, ij_l98, ij_l108, ij_l114, ij_l116, ij_l127, ij_l128, ij_l149, ij_l250, ij_l384, ij_l768, ij_l1000, ij_l1536, ij_l3000, ij_l1000000, ij_l1000003, ij_l1000000000, ij_neg, ij_add, ij_sub, ij_mul, ij_lt, ij_le, ij_eq, ij_nat, tn_nat, tn_12, tn_24, tn_36, tn_48, ck_in, ob_s, o2_s, vl_s, ox_l, ox_r, ck_tr, if_pos, if_neg]
theorem f_mostVoted (h : VW A β o σ) (hN : 100 ≤ N) : fX6_mostVoted N σ o = some (ij (mv A β 12)) := by
  unfold fX6_mostVoted
  simp only [vl_s, ij_l0, ij_l1, ij_l2, ij_l3, ij_l4, ij_l5, ij_l6, ij_l8, ij_l12, ij_l16, ij_l19, ij_l23, ij_l24, ij_l31, ij_l32, ij_l36, ij_l47, ij_l48, ij_l56, ij_l92, ij_l93, ij_l98, ij_l108, ij_l114, ij_l116, ij_l127, ij_l128, ij_l149, ij_l250, ij_l384, ij_l768, ij_l1000, ij_l1536, ij_l3000, ij_l1000000, ij_l1000003, ij_l1000000000, ij_neg, ij_add, ij_sub, ij_mul]
  refine lp_end (fun n j => fX6_mostVoted_L6 (fun v11 _ _ => (some v11)) N σ o n (ij (mv A β j)) (ij (vz β (mv A β j))) (ij j)) (a := 0) (b := 12) (by omega) (fun n j _ hj => ?_) (fun n => ?_) N (by omega)
  · have hr := mv_rg A β j
    obtain ⟨a1, a2⟩ := f_allVotesFor (N := N) h hN hj
    have hv : vz β (mv A β j) ≤ 9 := by
      unfold vz
      split
      · omega
      · exact (f_allVotesFor (N := N) h hN (s := (mv A β j).toNat) (by omega)).2
    simp only [fX6_mostVoted_L6]
    rw [f_seen h hj, a1]
    by_cases e : sn A β j = true
    · by_cases e1 : vz β (mv A β j) < vtf β j
      · have hst : mv A β (j + 1) = j := by simp only [mv]; rw [if_pos ⟨e, e1⟩]
        have hz : vz β (j : Int) = vtf β j := by unfold vz; rw [if_neg (by omega), tn_nat]
        rw [hst, hz]
        simp (disch := omega) only [ij_l0, ij_l1, ij_l2, ij_l3, ij_l4, ij_l5, ij_l6, ij_l8, ij_l12, ij_l16, ij_l19, ij_l23, ij_l24, ij_l31, ij_l32, ij_l36, ij_l47, ij_l48, ij_l56, ij_l92, ij_l93, ij_l98, ij_l108, ij_l114, ij_l116, ij_l127, ij_l128, ij_l149, ij_l250, ij_l384, ij_l768, ij_l1000, ij_l1536, ij_l3000, ij_l1000000, ij_l1000003, ij_l1000000000, ij_neg, ij_add, ij_sub, ij_mul, ij_lt, ij_le, ij_eq, ij_nat, tn_nat, tn_12, tn_24, tn_36, tn_48, ck_in, ob_s, o2_s, vl_s, ox_l, ox_r, ck_tr, if_pos, if_neg, bi_z, e]
        simp
      · have hst : mv A β (j + 1) = mv A β j := by simp only [mv]; rw [if_neg (fun q => e1 q.2)]
        rw [hst]
        simp (disch := omega) only [ij_l0, ij_l1, ij_l2, ij_l3, ij_l4, ij_l5, ij_l6, ij_l8, ij_l12, ij_l16, ij_l19, ij_l23, ij_l24, ij_l31, ij_l32, ij_l36, ij_l47, ij_l48, ij_l56, ij_l92, ij_l93, ij_l98, ij_l108, ij_l114, ij_l116, ij_l127, ij_l128, ij_l149, ij_l250, ij_l384, ij_l768, ij_l1000, ij_l1536, ij_l3000, ij_l1000000, ij_l1000003, ij_l1000000000, ij_neg, ij_add, ij_sub, ij_mul, ij_lt, ij_le, ij_eq, ij_nat, tn_nat, tn_12, tn_24, tn_36, tn_48, ck_in, ob_s, o2_s, vl_s, ox_l, ox_r, ck_tr, if_pos, if_neg, bi_z, e]
        simp
    · have hst : mv A β (j + 1) = mv A β j := by simp only [mv]; rw [if_neg (fun q => e q.1)]
      rw [hst]
      simp (disch := omega) only [ij_l0, ij_l1, ij_l2, ij_l3, ij_l4, ij_l5, ij_l6, ij_l8, ij_l12, ij_l16, ij_l19, ij_l23, ij_l24, ij_l31, ij_l32, ij_l36, ij_l47, ij_l48, ij_l56, ij_l92, ij_l93, ij_l98, ij_l108, ij_l114, ij_l116, ij_l127, ij_l128, ij_l149, ij_l250, ij_l384, ij_l768, ij_l1000, ij_l1536, ij_l3000, ij_l1000000, ij_l1000003, ij_l1000000000, ij_neg, ij_add, ij_sub, ij_mul, ij_lt, ij_le, ij_eq, ij_nat, tn_nat, tn_12, tn_24, tn_36, tn_48, ck_in, ob_s, o2_s, vl_s, ox_l, ox_r, ck_tr, if_pos, if_neg, bi_z, e]
      simp
  · simp only [fX6_mostVoted_L6]
    simp (disch := omega) only [ij_l0, ij_l1, ij_l2, ij_l3, ij_l4, ij_l5, ij_l6, ij_l8, ij_l12, ij_l16, ij_l19, ij_l23, ij_l24, ij_l31, ij_l32, ij_l36, ij_l47, ij_l48, ij_l56, ij_l92, ij_l93, ij_l98, ij_l108, ij_l114, ij_l116, ij_l127, ij_l128, ij_l149, ij_l250, ij_l384, ij_l768, ij_l1000, ij_l1536, ij_l3000, ij_l1000000, ij_l1000003, ij_l1000000000, ij_neg, ij_add, ij_sub, ij_mul, ij_lt, ij_le, ij_eq, ij_nat, tn_nat, tn_12, tn_24, tn_36, tn_48, ck_in, ob_s, o2_s, vl_s, ox_l, ox_r, ck_tr, if_pos, if_neg]
theorem f_sumUp (h : VW A β o σ) (hN : 100 ≤ N) : fX6_sumUp N σ o = some (su A β 12) := by
  unfold fX6_sumUp
  refine lp_end (fun n j => fX6_sumUp_L4 (fun v13 _ => (some v13)) N σ o n (su A β j) (ij j)) (a := 0) (b := 12) (by omega) (fun n j _ hj => ?_) (fun n => ?_) N (by omega)
  · have c12 : ¬ (12 : Int32) ≤ ij j := by simp (disch := omega) only [ij_l12, ij_le]; omega
    have c1 : ij (j : Int) + 1 = ij ((j + 1 : Nat) : Int) := by rw [ij_l1, ij_add]; rfl
    simp only [fX6_sumUp_L4]
    rw [f_seen h hj, f_columnAt h hj, f_rowAt h hj, f_rankAt h hN hj]
    unfold fX6_join
    rw [if_neg c12]
    simp only [ob_s, vl_s, c1]
    by_cases e : sn A β j = true
    · simp only [e, su, if_true]
      rw [if_neg (by decide)]
      rfl
    · simp only [e, su, if_false, Bool.false_eq_true]
      rw [if_pos (by decide)]
  · have c12 : (12 : Int32) ≤ ij ((12 : Nat) : Int) := by decide
    simp only [fX6_sumUp_L4]
    rw [if_pos c12]
theorem f_countFrames (h : VW A β o σ) (hN : 100 ≤ N) : fX6_countFrames N σ o = some (ij (ct (fun s => sn A β s && decide (aFr A s = 1)) 12)) := by
  have hS := h.2.2.2
  unfold fX6_countFrames
  refine lp_end (fun n j => fX6_countFrames_L4 (fun v9 _ => (some v9)) N σ o n (ij (ct (fun s => sn A β s && decide (aFr A s = 1)) j)) (ij j)) (a := 0) (b := 12) (by omega) (fun n j _ hj => ?_) (fun n => ?_) N (by omega)
  · have hc := ct_le (fun s => sn A β s && decide (aFr A s = 1)) j
    simp only [fX6_countFrames_L4]
    rw [f_seen h hj]
    by_cases e : sn A β j = true
    · rw [f_isFrameAt h.1 hS (sn_lt e)]
      by_cases e1 : aFr A j = 1
      · simp (disch := omega) only [ij_l0, ij_l1, ij_l2, ij_l3, ij_l4, ij_l5, ij_l6, ij_l8, ij_l12, ij_l16, ij_l19, ij_l23, ij_l24, ij_l31, ij_l32, ij_l36, ij_l47, ij_l48, ij_l56, ij_l92, ij_l93, ij_l98, ij_l108, ij_l114, ij_l116, ij_l127, ij_l128, ij_l149, ij_l250, ij_l384, ij_l768, ij_l1000, ij_l1536, ij_l3000, ij_l1000000, ij_l1000003, ij_l1000000000, ij_neg, ij_add, ij_sub, ij_mul, ij_lt, ij_le, ij_eq, ij_nat, tn_nat, tn_12, tn_24, tn_36, tn_48, ck_in, ob_s, o2_s, vl_s, ox_l, ox_r, ck_tr, if_pos, if_neg, bi_z, e, e1]
        simp [ct, e, e1]
      · simp (disch := omega) only [ij_l0, ij_l1, ij_l2, ij_l3, ij_l4, ij_l5, ij_l6, ij_l8, ij_l12, ij_l16, ij_l19, ij_l23, ij_l24, ij_l31, ij_l32, ij_l36, ij_l47, ij_l48, ij_l56, ij_l92, ij_l93, ij_l98, ij_l108, ij_l114, ij_l116, ij_l127, ij_l128, ij_l149, ij_l250, ij_l384, ij_l768, ij_l1000, ij_l1536, ij_l3000, ij_l1000000, ij_l1000003, ij_l1000000000, ij_neg, ij_add, ij_sub, ij_mul, ij_lt, ij_le, ij_eq, ij_nat, tn_nat, tn_12, tn_24, tn_36, tn_48, ck_in, ob_s, o2_s, vl_s, ox_l, ox_r, ck_tr, if_pos, if_neg, bi_z, e, e1]
        simp [ct, e, e1]
    · simp (disch := omega) only [ij_l0, ij_l1, ij_l2, ij_l3, ij_l4, ij_l5, ij_l6, ij_l8, ij_l12, ij_l16, ij_l19, ij_l23, ij_l24, ij_l31, ij_l32, ij_l36, ij_l47, ij_l48, ij_l56, ij_l92, ij_l93, ij_l98, ij_l108, ij_l114, ij_l116, ij_l127, ij_l128, ij_l149, ij_l250, ij_l384, ij_l768, ij_l1000, ij_l1536, ij_l3000, ij_l1000000, ij_l1000003, ij_l1000000000, ij_neg, ij_add, ij_sub, ij_mul, ij_lt, ij_le, ij_eq, ij_nat, tn_nat, tn_12, tn_24, tn_36, tn_48, ck_in, ob_s, o2_s, vl_s, ox_l, ox_r, ck_tr, if_pos, if_neg, bi_z, e]
      simp [ct, e]
  · simp only [fX6_countFrames_L4]
    simp (disch := omega) only [ij_l0, ij_l1, ij_l2, ij_l3, ij_l4, ij_l5, ij_l6, ij_l8, ij_l12, ij_l16, ij_l19, ij_l23, ij_l24, ij_l31, ij_l32, ij_l36, ij_l47, ij_l48, ij_l56, ij_l92, ij_l93, ij_l98, ij_l108, ij_l114, ij_l116, ij_l127, ij_l128, ij_l149, ij_l250, ij_l384, ij_l768, ij_l1000, ij_l1536, ij_l3000, ij_l1000000, ij_l1000003, ij_l1000000000, ij_neg, ij_add, ij_sub, ij_mul, ij_lt, ij_le, ij_eq, ij_nat, tn_nat, tn_12, tn_24, tn_36, tn_48, ck_in, ob_s, o2_s, vl_s, ox_l, ox_r, ck_tr, if_pos, if_neg]
theorem f_sumOfAreas (h : VW A β o σ) (hN : 100 ≤ N) : fX6_sumOfAreas N σ o = some (lj (sar A β 12)) := by
  have hS := h.2.2.2
  unfold fX6_sumOfAreas
  refine lp_end (fun n j => fX6_sumOfAreas_L4 (fun v9 _ => (some v9)) N σ o n (lj (sar A β j)) (ij j)) (a := 0) (b := 12) (by omega) (fun n j _ hj => ?_) (fun n => ?_) N (by omega)
  · simp only [fX6_sumOfAreas_L4]
    rw [f_seen h hj]
    by_cases e : sn A β j = true
    · have hl := sn_lt e
      have hw := hS.2.2.1 j
      rw [f_widthAt h.1 hS hl, f_heightAt h.1 hS hl]
      simp (disch := omega) only [ij_l0, ij_l1, ij_l2, ij_l3, ij_l4, ij_l5, ij_l6, ij_l8, ij_l12, ij_l16, ij_l19, ij_l23, ij_l24, ij_l31, ij_l32, ij_l36, ij_l47, ij_l48, ij_l56, ij_l92, ij_l93, ij_l98, ij_l108, ij_l114, ij_l116, ij_l127, ij_l128, ij_l149, ij_l250, ij_l384, ij_l768, ij_l1000, ij_l1536, ij_l3000, ij_l1000000, ij_l1000003, ij_l1000000000, ij_neg, ij_add, ij_sub, ij_mul, ij_lt, ij_le, ij_eq, ij_nat, tn_nat, tn_12, tn_24, tn_36, tn_48, ck_in, ob_s, o2_s, vl_s, ox_l, ox_r, ck_tr, if_pos, if_neg, bi_z, e, ij_l, lj_add, lj_mul]
      simp [sar, e]
    · simp (disch := omega) only [ij_l0, ij_l1, ij_l2, ij_l3, ij_l4, ij_l5, ij_l6, ij_l8, ij_l12, ij_l16, ij_l19, ij_l23, ij_l24, ij_l31, ij_l32, ij_l36, ij_l47, ij_l48, ij_l56, ij_l92, ij_l93, ij_l98, ij_l108, ij_l114, ij_l116, ij_l127, ij_l128, ij_l149, ij_l250, ij_l384, ij_l768, ij_l1000, ij_l1536, ij_l3000, ij_l1000000, ij_l1000003, ij_l1000000000, ij_neg, ij_add, ij_sub, ij_mul, ij_lt, ij_le, ij_eq, ij_nat, tn_nat, tn_12, tn_24, tn_36, tn_48, ck_in, ob_s, o2_s, vl_s, ox_l, ox_r, ck_tr, if_pos, if_neg, bi_z, e]
      simp [sar, e]
  · simp only [fX6_sumOfAreas_L4]
    simp (disch := omega) only [ij_l0, ij_l1, ij_l2, ij_l3, ij_l4, ij_l5, ij_l6, ij_l8, ij_l12, ij_l16, ij_l19, ij_l23, ij_l24, ij_l31, ij_l32, ij_l36, ij_l47, ij_l48, ij_l56, ij_l92, ij_l93, ij_l98, ij_l108, ij_l114, ij_l116, ij_l127, ij_l128, ij_l149, ij_l250, ij_l384, ij_l768, ij_l1000, ij_l1536, ij_l3000, ij_l1000000, ij_l1000003, ij_l1000000000, ij_neg, ij_add, ij_sub, ij_mul, ij_lt, ij_le, ij_eq, ij_nat, tn_nat, tn_12, tn_24, tn_36, tn_48, ck_in, ob_s, o2_s, vl_s, ox_l, ox_r, ck_tr, if_pos, if_neg]
theorem f_isSeenConnector (h : VW A β o σ) {z : Int} (h1 : -2147483648 ≤ z) (h2 : z < 2147483648) : fX6_isSeenConnector N σ o (ij z) = some (bi (jndz A β z)) := by
  have hS := h.2.2.2
  have hcn := hS.2.1
  unfold fX6_isSeenConnector fX2_hasConnector jndz
  rw [h.1.2.1]
  by_cases g1 : 0 ≤ z
  · by_cases g2 : z < aCn A
    · obtain ⟨c, rfl⟩ : ∃ c : Nat, z = c := ⟨z.toNat, by omega⟩
      have hp := h.1.2.2.2 c (by omega) (by omega)
      have hc := hS.2.2.2 c (by omega)
      have hv : fX0_valueAt N σ o (ij (48 + (c : Int))) = some (FP.i2f (ij (β (48 + c)))) := by
        rw [v_val2 h (by omega) (by omega), show ((48 : Int) + c).toNat = 48 + c by omega, cvF_n _ (by omega)]
      have hb := (h.2.2.1 (48 + c) (by omega)).2.2.2.2.1 (by omega) (by omega)
      have s1 := f_seen (N := N) h (s := aOne A c) (by have := hS.1; omega)
      have s2 := f_seen (N := N) h (s := aOth A c) (by have := hS.1; omega)
      have o1 : fX2_shapeOfEnd N σ (ij c) (ij 1) = some (ij (aOne A c)) := by
        unfold fX2_shapeOfEnd fX7_intAt
        simp (disch := omega) only [ij_l0, ij_l1, ij_l2, ij_l3, ij_l4, ij_l5, ij_l6, ij_l8, ij_l12, ij_l16, ij_l19, ij_l23, ij_l24, ij_l31, ij_l32, ij_l36, ij_l47, ij_l48, ij_l56, ij_l92, ij_l93, ij_l98, ij_l108, ij_l114, ij_l116, ij_l127, ij_l128, ij_l149, ij_l250, ij_l384, ij_l768, ij_l1000, ij_l1536, ij_l3000, ij_l1000000, ij_l1000003, ij_l1000000000, ij_neg, ij_add, ij_sub, ij_mul, ij_lt, ij_le, ij_eq, ij_nat, tn_nat, tn_12, tn_24, tn_36, tn_48, ck_in, ob_s, o2_s, vl_s, ox_l, ox_r, ck_tr, if_pos, if_neg, ij_ofn, hp.1]
      have o2 : fX2_shapeOfEnd N σ (ij c) (ij 0) = some (ij (aOth A c)) := by
        unfold fX2_shapeOfEnd fX7_intAt
        simp (disch := omega) only [ij_l0, ij_l1, ij_l2, ij_l3, ij_l4, ij_l5, ij_l6, ij_l8, ij_l12, ij_l16, ij_l19, ij_l23, ij_l24, ij_l31, ij_l32, ij_l36, ij_l47, ij_l48, ij_l56, ij_l92, ij_l93, ij_l98, ij_l108, ij_l114, ij_l116, ij_l127, ij_l128, ij_l149, ij_l250, ij_l384, ij_l768, ij_l1000, ij_l1536, ij_l3000, ij_l1000000, ij_l1000003, ij_l1000000000, ij_neg, ij_add, ij_sub, ij_mul, ij_lt, ij_le, ij_eq, ij_nat, tn_nat, tn_12, tn_24, tn_36, tn_48, ck_in, ob_s, o2_s, vl_s, ox_l, ox_r, ck_tr, if_pos, if_neg, ij_ofn, hp.2.1]
        simp
      simp (disch := omega) only [ij_l0, ij_l1, ij_l2, ij_l3, ij_l4, ij_l5, ij_l6, ij_l8, ij_l12, ij_l16, ij_l19, ij_l23, ij_l24, ij_l31, ij_l32, ij_l36, ij_l47, ij_l48, ij_l56, ij_l92, ij_l93, ij_l98, ij_l108, ij_l114, ij_l116, ij_l127, ij_l128, ij_l149, ij_l250, ij_l384, ij_l768, ij_l1000, ij_l1536, ij_l3000, ij_l1000000, ij_l1000003, ij_l1000000000, ij_neg, ij_add, ij_sub, ij_mul, ij_lt, ij_le, ij_eq, ij_nat, tn_nat, tn_12, tn_24, tn_36, tn_48, ck_in, ob_s, o2_s, vl_s, ox_l, ox_r, ck_tr, if_pos, if_neg, hv, o1, o2, s1, s2, fc_zero, bi_z]
      have g2' : c < aCn A := by omega
      unfold jnd
      by_cases e : β (48 + c) = 0
      · simp [e, bi_f]
      · have e1 : β (48 + c) = 1 := by omega
        cases q1 : sn A β (aOne A c) <;> cases q2 : sn A β (aOth A c) <;> simp [e1, q1, q2, g2', bi_f, bi_t]
    · simp (disch := omega) only [ij_l0, ij_l1, ij_l2, ij_l3, ij_l4, ij_l5, ij_l6, ij_l8, ij_l12, ij_l16, ij_l19, ij_l23, ij_l24, ij_l31, ij_l32, ij_l36, ij_l47, ij_l48, ij_l56, ij_l92, ij_l93, ij_l98, ij_l108, ij_l114, ij_l116, ij_l127, ij_l128, ij_l149, ij_l250, ij_l384, ij_l768, ij_l1000, ij_l1536, ij_l3000, ij_l1000000, ij_l1000003, ij_l1000000000, ij_neg, ij_add, ij_sub, ij_mul, ij_lt, ij_le, ij_eq, ij_nat, tn_nat, tn_12, tn_24, tn_36, tn_48, ck_in, ob_s, o2_s, vl_s, ox_l, ox_r, ck_tr, if_pos, if_neg]
      have : ¬ z.toNat < aCn A := by omega
      unfold jnd
      simp [this, bi_f]
  · simp (disch := omega) only [ij_l0, ij_l1, ij_l2, ij_l3, ij_l4, ij_l5, ij_l6, ij_l8, ij_l12, ij_l16, ij_l19, ij_l23, ij_l24, ij_l31, ij_l32, ij_l36, ij_l47, ij_l48, ij_l56, ij_l92, ij_l93, ij_l98, ij_l108, ij_l114, ij_l116, ij_l127, ij_l128, ij_l149, ij_l250, ij_l384, ij_l768, ij_l1000, ij_l1536, ij_l3000, ij_l1000000, ij_l1000003, ij_l1000000000, ij_neg, ij_add, ij_sub, ij_mul, ij_lt, ij_le, ij_eq, ij_nat, tn_nat, tn_12, tn_24, tn_36, tn_48, ck_in, ob_s, o2_s, vl_s, ox_l, ox_r, ck_tr, if_pos, if_neg]
    simp [g1, bi_f]
theorem f_jnd (h : VW A β o σ) {c : Nat} (hc : c < 8) : fX6_isSeenConnector N σ o (ij c) = some (bi (jnd A β c)) := by
  rw [f_isSeenConnector h (by omega) (by omega)]
  unfold jndz
  simp
theorem f_countConnectors (h : VW A β o σ) (hN : 100 ≤ N) : fX6_countConnectors N σ o = some (ij (ct (jnd A β) 8)) := by
  unfold fX6_countConnectors
  refine lp_end (fun n j => fX6_countConnectors_L4 (fun v7 _ => (some v7)) N σ o n (ij (ct (jnd A β) j)) (ij j)) (a := 0) (b := 8) (by omega) (fun n j _ hj => ?_) (fun n => ?_) N (by omega)
  · have hc := ct_le (jnd A β) j
    simp only [fX6_countConnectors_L4]
    rw [f_jnd h hj]
    simp (disch := omega) only [ij_l0, ij_l1, ij_l2, ij_l3, ij_l4, ij_l5, ij_l6, ij_l8, ij_l12, ij_l16, ij_l19, ij_l23, ij_l24, ij_l31, ij_l32, ij_l36, ij_l47, ij_l48, ij_l56, ij_l92, ij_l93, ij_l98, ij_l108, ij_l114, ij_l116, ij_l127, ij_l128, ij_l149, ij_l250, ij_l384, ij_l768, ij_l1000, ij_l1536, ij_l3000, ij_l1000000, ij_l1000003, ij_l1000000000, ij_neg, ij_add, ij_sub, ij_mul, ij_lt, ij_le, ij_eq, ij_nat, tn_nat, tn_12, tn_24, tn_36, tn_48, ck_in, ob_s, o2_s, vl_s, ox_l, ox_r, ck_tr, if_pos, if_neg, bi_z]
    cases e : jnd A β j <;> simp [ct, e]
  · simp only [fX6_countConnectors_L4]
    simp (disch := omega) only [ij_l0, ij_l1, ij_l2, ij_l3, ij_l4, ij_l5, ij_l6, ij_l8, ij_l12, ij_l16, ij_l19, ij_l23, ij_l24, ij_l31, ij_l32, ij_l36, ij_l47, ij_l48, ij_l56, ij_l92, ij_l93, ij_l98, ij_l108, ij_l114, ij_l116, ij_l127, ij_l128, ij_l149, ij_l250, ij_l384, ij_l768, ij_l1000, ij_l1536, ij_l3000, ij_l1000000, ij_l1000003, ij_l1000000000, ij_neg, ij_add, ij_sub, ij_mul, ij_lt, ij_le, ij_eq, ij_nat, tn_nat, tn_12, tn_24, tn_36, tn_48, ck_in, ob_s, o2_s, vl_s, ox_l, ox_r, ck_tr, if_pos, if_neg]
end V3
