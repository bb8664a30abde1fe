/-! The class's map, the whole of it. -/
section R5
variable {A : Ab} {N : Nat} {σ : St} {β : Nat → Nat} {o : Nat}
theorem f_drawAll (hN : 1000 ≤ N) (K : St → Option St) : ∃ τ, fX4_draw_L2 (fun _ s => K s) N N (ij 0) σ = K τ ∧ Un T127 σ τ ∧ ∀ c, c < 384 → gI τ 127 0 c = bi true := by
  obtain ⟨τ, e, hU, hP⟩ := lp_st (fun n j τ => fX4_draw_L2 (fun _ s => K s) N n (ij j) τ) (fun j τ => Un T127 σ τ ∧ ∀ c, c < j → gI τ 127 0 c = bi true) (Nat.zero_le 384) (fun n j τ _ hj hP => by
      obtain ⟨hU, hP⟩ := hP
      have n0 : vp_nar .boolean (ij 1) = bi true := rfl
      refine ⟨sI τ 127 0 j (bi true), ?_, hU.tr (Un.sI _ _ _ rfl), fun c hc => ?_⟩
      · simp only [fX4_draw_L2]
        simp (disch := omega) only [ij_l0, ij_l1, ij_l2, ij_l3, ij_l4, ij_l5, ij_l6, ij_l8, ij_l12, ij_l16, ij_l19, ij_l23, ij_l24, ij_l31, ij_l32, ij_l36, ij_l47, ij_l48, ij_l56, ij_l92, ij_l93, ij_l98, ij_l108, ij_l114, ij_l116, ij_l127, ij_l128, ij_l149, ij_l250, ij_l384, ij_l768, ij_l1000, ij_l1536, ij_l3000, ij_l1000000, ij_l1000003, ij_l1000000000, ij_neg, ij_add, ij_sub, ij_mul, ij_lt, ij_le, ij_eq, ij_nat, tn_nat, tn_12, tn_24, tn_36, tn_48, ck_in, ob_s, o2_s, vl_s, ox_l, ox_r, ck_tr, if_pos, if_neg, n0]
        rfl
      · rw [gI_sI_eq]
        by_cases g : c = j
        · rw [if_pos g]
        · rw [if_neg g]; exact hP c (by omega)) N σ (by omega) ⟨Un.rfl, fun c hc => by omega⟩
  refine ⟨τ, ?_, hU, hP⟩
  refine Eq.trans e ?_
  have e2 : N - (384 - 0) = (N - 384 - 1) + 1 := by omega
  show fX4_draw_L2 _ N (N - (384 - 0)) _ τ = _
  rw [e2]
  simp only [fX4_draw_L2]
  simp (disch := omega) only [ij_l0, ij_l1, ij_l2, ij_l3, ij_l4, ij_l5, ij_l6, ij_l8, ij_l12, ij_l16, ij_l19, ij_l23, ij_l24, ij_l31, ij_l32, ij_l36, ij_l47, ij_l48, ij_l56, ij_l92, ij_l93, ij_l98, ij_l108, ij_l114, ij_l116, ij_l127, ij_l128, ij_l149, ij_l250, ij_l384, ij_l768, ij_l1000, ij_l1536, ij_l3000, ij_l1000000, ij_l1000003, ij_l1000000000, ij_neg, ij_add, ij_sub, ij_mul, ij_lt, ij_le, ij_eq, ij_nat, tn_nat, tn_12, tn_24, tn_36, tn_48, ck_in, ob_s, o2_s, vl_s, ox_l, ox_r, ck_tr, if_pos, if_neg]
theorem f_drawShapes (h : VW A β o σ) (hN : 1000 ≤ N) (h1 : ∀ c, c < 384 → gI σ 127 0 c = bi true) (K : St → Option St) : ∃ τ, fX4_draw_L24 (fun _ s => K s) N o N (ij 0) σ = K τ ∧ Un T127 σ τ ∧ ∀ c, c < 384 → gI τ 127 0 c = bi (opn A β c) := by
  have hS := h.2.2.2
  have l12 := hS.1
  obtain ⟨τ, e, hU, hP⟩ := lp_st (fun n j τ => fX4_draw_L24 (fun _ s => K s) N o n (ij j) τ) (fun j τ => Un T127 σ τ ∧ ∀ c, c < 384 → gI τ 127 0 c = bi (!cov A β c j)) (Nat.zero_le 12) (fun n j τ _ hj hP => by
      obtain ⟨hU, hP⟩ := hP
      have hV := VW_127 h hU
      have hs := f_seen (N := N) hV hj
      simp only [fX4_draw_L24]
      rw [hs]
      cases s1 : sn A β j with
      | false =>
        refine ⟨τ, ?_, hU, fun c hc => ?_⟩
        · simp (disch := omega) only [ij_l0, ij_l1, ij_l2, ij_l3, ij_l4, ij_l5, ij_l6, ij_l8, ij_l12, ij_l16, ij_l19, ij_l23, ij_l24, ij_l31, ij_l32, ij_l36, ij_l47, ij_l48, ij_l56, ij_l92, ij_l93, ij_l98, ij_l108, ij_l114, ij_l116, ij_l127, ij_l128, ij_l149, ij_l250, ij_l384, ij_l768, ij_l1000, ij_l1536, ij_l3000, ij_l1000000, ij_l1000003, ij_l1000000000, ij_neg, ij_add, ij_sub, ij_mul, ij_lt, ij_le, ij_eq, ij_nat, tn_nat, tn_12, tn_24, tn_36, tn_48, ck_in, ob_s, o2_s, vl_s, ox_l, ox_r, ck_tr, if_pos, if_neg, bi_z, if_true]
          rfl
        · rw [hP c hc]
          simp only [cov, s1, Bool.false_and, Bool.or_false]
      | true =>
        have hl := sn_lt s1
        have hf := f_isFrameAt (N := N) hV.1 hS hl
        have hf1 := (hS.2.2.1 j).2.2.2
        by_cases s2 : aFr A j = 0
        · have d1 : decide (aFr A j = 1) = false := decide_eq_false (by omega)
          rw [d1] at hf
          obtain ⟨τ', t1, t2, t3⟩ := f_block (N := N) hV hN hl
          refine ⟨τ', ?_, hU.tr t2, fun c hc => ?_⟩
          · simp (disch := omega) only [ij_l0, ij_l1, ij_l2, ij_l3, ij_l4, ij_l5, ij_l6, ij_l8, ij_l12, ij_l16, ij_l19, ij_l23, ij_l24, ij_l31, ij_l32, ij_l36, ij_l47, ij_l48, ij_l56, ij_l92, ij_l93, ij_l98, ij_l108, ij_l114, ij_l116, ij_l127, ij_l128, ij_l149, ij_l250, ij_l384, ij_l768, ij_l1000, ij_l1536, ij_l3000, ij_l1000000, ij_l1000003, ij_l1000000000, ij_neg, ij_add, ij_sub, ij_mul, ij_lt, ij_le, ij_eq, ij_nat, tn_nat, tn_12, tn_24, tn_36, tn_48, ck_in, ob_s, o2_s, vl_s, ox_l, ox_r, ck_tr, if_pos, if_neg, bi_z, Bool.true_eq_false, if_false, if_true, hf, t1]
            rfl
          · rw [t3 c hc, hP c hc]
            have d2 : decide (aFr A j = 0) = true := decide_eq_true s2
            simp only [cov, s1, d2, Bool.true_and]
            cases ovr A β j (c % 24 : Nat) (c / 24 : Nat) with
            | true => rw [if_pos rfl, Bool.or_true]; rfl
            | false => rw [if_neg (by decide), Bool.or_false]
        · have d1 : decide (aFr A j = 1) = true := decide_eq_true (by omega)
          rw [d1] at hf
          refine ⟨τ, ?_, hU, fun c hc => ?_⟩
          · simp (disch := omega) only [ij_l0, ij_l1, ij_l2, ij_l3, ij_l4, ij_l5, ij_l6, ij_l8, ij_l12, ij_l16, ij_l19, ij_l23, ij_l24, ij_l31, ij_l32, ij_l36, ij_l47, ij_l48, ij_l56, ij_l92, ij_l93, ij_l98, ij_l108, ij_l114, ij_l116, ij_l127, ij_l128, ij_l149, ij_l250, ij_l384, ij_l768, ij_l1000, ij_l1536, ij_l3000, ij_l1000000, ij_l1000003, ij_l1000000000, ij_neg, ij_add, ij_sub, ij_mul, ij_lt, ij_le, ij_eq, ij_nat, tn_nat, tn_12, tn_24, tn_36, tn_48, ck_in, ob_s, o2_s, vl_s, ox_l, ox_r, ck_tr, if_pos, if_neg, bi_z, Bool.true_eq_false, if_false, hf]
            rfl
          · rw [hP c hc]
            have d2 : decide (aFr A j = 0) = false := decide_eq_false s2
            simp only [cov, d2, Bool.and_false, Bool.false_and, Bool.or_false]) N σ (by omega) ⟨Un.rfl, fun c hc => by rw [h1 c hc]; rfl⟩
  refine ⟨τ, ?_, hU, fun c hc => ?_⟩
  · refine Eq.trans e ?_
    have e2 : N - (12 - 0) = (N - 12 - 1) + 1 := by omega
    show fX4_draw_L24 _ N o (N - (12 - 0)) _ τ = _
    rw [e2]
    simp only [fX4_draw_L24]
    simp (disch := omega) only [ij_l0, ij_l1, ij_l2, ij_l3, ij_l4, ij_l5, ij_l6, ij_l8, ij_l12, ij_l16, ij_l19, ij_l23, ij_l24, ij_l31, ij_l32, ij_l36, ij_l47, ij_l48, ij_l56, ij_l92, ij_l93, ij_l98, ij_l108, ij_l114, ij_l116, ij_l127, ij_l128, ij_l149, ij_l250, ij_l384, ij_l768, ij_l1000, ij_l1536, ij_l3000, ij_l1000000, ij_l1000003, ij_l1000000000, ij_neg, ij_add, ij_sub, ij_mul, ij_lt, ij_le, ij_eq, ij_nat, tn_nat, tn_12, tn_24, tn_36, tn_48, ck_in, ob_s, o2_s, vl_s, ox_l, ox_r, ck_tr, if_pos, if_neg]
  · rw [hP c hc, cov_cut hS c l12]
    rfl
/-- the column and the row where an end of a connector lies -/
def eX (A : Ab) (β : Nat → Nat) (s d : Nat) : Int := if d = 108 then (cl β s : Int) - 1 else if d = 114 then (cl β s : Int) + aW A s else (cl β s : Int) + ((aW A s : Int) - 1) / 2
def eY (A : Ab) (β : Nat → Nat) (s d : Nat) : Int := if d = 116 then (rwv β s : Int) - 1 else if d = 98 then (rwv β s : Int) + aH A s else (rwv β s : Int) + ((aH A s : Int) - 1) / 2
def eC (x y : Int) : Int := if 0 ≤ x ∧ x ≤ 23 ∧ 0 ≤ y ∧ y ≤ 15 then y * 24 + x else -1
theorem f_cellAtE {x y : Int} (hx : rg x) (hy : rg y) : fX7_cellAt N σ (ij x) (ij y) = some (ij (eC x y)) := by
  unfold eC
  by_cases g : 0 ≤ x ∧ x ≤ 23 ∧ 0 ≤ y ∧ y ≤ 15
  · rw [if_pos g, f_cellAt (by omega) (by omega)]
  · rw [if_neg g, f_cellAtN hx hy g]
    rfl
end R5
