/-! Steps on both sides: move. -/
section S12
variable {A : Ab} {N : Nat} {σ : St}
theorem cyL_cut {K : Nat → Bool} {u sh cell : Nat} (hsh : sh < aSh A) : ∀ j, aSh A ≤ j → cyL A K u sh cell j = cyL A K u sh cell (aSh A) := by
  intro j
  induction j with
  | zero => intro h; omega
  | succ j ih =>
    intro h
    by_cases e : aSh A = j + 1
    · rw [e]
    · have hf : crd A (bv A K) u sh j = false := by
        have : sn A (bv A K) j = false := by
          rw [← Bool.not_eq_true]
          intro z
          have := sn_lt z
          omega
        unfold crd
        rw [this]
        rfl
      simp only [cyL]
      rw [if_neg (by rw [hf]; simp; omega)]
      exact ih (by omega)
theorem m_moveStep {u sh j : Nat} (hI : Inv0 A) (hPt : PtM A σ) (hBd : BdM A (kn A u) σ) (hu : u < 3) (hsh : sh < aSh A) (hj : j < aSh A) (K : Int32 → Int32 → St → Option (Int32 × St)) (dx dy l : Int) (n : Nat) :
    fX8_move_L102_2 K N (ij u) (ij sh) (ij dx) (ij dy) (n + 1) (ij l) (ij j) σ = if j = sh ∨ (aFr A sh = 1 ∧ crd A (bv A (kn A u)) u sh j = true) then ob (fX8_plans N σ (ij ((12 + j : Nat) : Int)) (ij (32 * (cl (bv A (kn A u)) j + dx) + rwv (bv A (kn A u)) j + dy))) fun σ1 => fX8_move_L102_2 K N (ij u) (ij sh) (ij dx) (ij dy) n (ij (l + 1)) (ij ((j + 1 : Nat) : Int)) σ1 else fX8_move_L102_2 K N (ij u) (ij sh) (ij dx) (ij dy) n (ij l) (ij ((j + 1 : Nat) : Int)) σ := by
  have hW : WM A (bv A (kn A u)) σ := ⟨hPt, fun f hf => (hBd f hf).2.2.1, BOK_bv hI.1 hI.2.1 (fun f hf => (hBd f hf).1), hI.2.1⟩
  have l12 := hI.2.1.1
  have hc := m_column (N := N) hW (s := j) (by omega)
  have hr := m_row (N := N) hW (s := j) (by omega)
  have h8 := hPt.1
  have hfr := (m_width hW hsh).2.2
  have hf1 := (hI.2.1.2.2.1 sh).2.2.2
  have e1 : ((j : Int) = (sh : Int)) = (j = sh) := by rw [eq_iff_iff]; omega
  simp only [fX8_move_L102_2]
  by_cases a : j = sh
  · rw [if_pos (Or.inl a)]
    have a' : (j : Int) = sh := by omega
    have hc' := hc
    have hr' := hr
    simp (disch := omega) only [ij_l0, ij_l1, ij_l2, ij_l3, ij_l4, ij_l5, ij_l6, ij_l8, ij_l12, ij_l16, ij_l19, ij_l23, ij_l24, ij_l31, ij_l32, ij_l36, ij_l47, ij_l48, ij_l56, ij_l92, ij_l93, ij_l98, ij_l108, ij_l114, ij_l116, ij_l127, ij_l128, ij_l149, ij_l250, ij_l384, ij_l768, ij_l1000, ij_l1536, ij_l3000, ij_l1000000, ij_l1000003, ij_l1000000000, ij_neg, ij_add, ij_sub, ij_mul, ij_lt, ij_le, ij_eq, ij_nat, tn_nat, tn_12, tn_24, tn_36, tn_48, ck_in, ob_s, o2_s, vl_s, ox_l, ox_r, ck_tr, if_pos, if_neg, h8, e1, a, if_true, hc, hr]
    rw [a] at hc' hr'
    simp (disch := omega) only [ij_l0, ij_l1, ij_l2, ij_l3, ij_l4, ij_l5, ij_l6, ij_l8, ij_l12, ij_l16, ij_l19, ij_l23, ij_l24, ij_l31, ij_l32, ij_l36, ij_l47, ij_l48, ij_l56, ij_l92, ij_l93, ij_l98, ij_l108, ij_l114, ij_l116, ij_l127, ij_l128, ij_l149, ij_l250, ij_l384, ij_l768, ij_l1000, ij_l1536, ij_l3000, ij_l1000000, ij_l1000003, ij_l1000000000, ij_neg, ij_add, ij_sub, ij_mul, ij_lt, ij_le, ij_eq, ij_nat, tn_nat, tn_12, tn_24, tn_36, tn_48, ck_in, ob_s, o2_s, vl_s, ox_l, ox_r, ck_tr, if_pos, if_neg, hc', hr']
    rfl
  · by_cases b : aFr A sh = 1
    · cases c : crd A (bv A (kn A u)) u sh j with
      | true =>
        rw [if_pos (Or.inr ⟨b, rfl⟩)]
        unfold crd at c
        rw [Bool.and_eq_true, Bool.and_eq_true] at c
        have s1 := m_seen (N := N) hW (s := j) (by omega)
        have s2 := m_isInside (N := N) hW hj hsh
        have s3 := m_isBarred (N := N) hW (s := j) (u := u) (by omega) hu
        have c3 : lkb (bv A (kn A u)) u j = false := by simpa using c.2
        rw [c.1.1] at s1
        rw [c.1.2] at s2
        rw [c3] at s3
        rw [b] at hfr
        have i1 : (ij 1 = ij 0) = False := eq_false (by decide)
        simp (disch := omega) only [ij_l0, ij_l1, ij_l2, ij_l3, ij_l4, ij_l5, ij_l6, ij_l8, ij_l12, ij_l16, ij_l19, ij_l23, ij_l24, ij_l31, ij_l32, ij_l36, ij_l47, ij_l48, ij_l56, ij_l92, ij_l93, ij_l98, ij_l108, ij_l114, ij_l116, ij_l127, ij_l128, ij_l149, ij_l250, ij_l384, ij_l768, ij_l1000, ij_l1536, ij_l3000, ij_l1000000, ij_l1000003, ij_l1000000000, ij_neg, ij_add, ij_sub, ij_mul, ij_lt, ij_le, ij_eq, ij_nat, tn_nat, tn_12, tn_24, tn_36, tn_48, ck_in, ob_s, o2_s, vl_s, ox_l, ox_r, ck_tr, if_pos, if_neg, h8, e1, a, if_false, hfr, s1, s2, s3, bi_z, Bool.true_eq_false, if_true, hc, hr, i1]
        rfl
      | false =>
        rw [if_neg (show ¬ (j = sh ∨ (aFr A sh = 1 ∧ false = true)) by simp [a])]
        have s1 := m_seen (N := N) hW (s := j) (by omega)
        have s2 := m_isInside (N := N) hW hj hsh
        have s3 := m_isBarred (N := N) hW (s := j) (u := u) (by omega) hu
        unfold crd at c
        rw [b] at hfr
        cases d1 : sn A (bv A (kn A u)) j with
        | false =>
          rw [d1] at s1
          simp (disch := omega) only [ij_l0, ij_l1, ij_l2, ij_l3, ij_l4, ij_l5, ij_l6, ij_l8, ij_l12, ij_l16, ij_l19, ij_l23, ij_l24, ij_l31, ij_l32, ij_l36, ij_l47, ij_l48, ij_l56, ij_l92, ij_l93, ij_l98, ij_l108, ij_l114, ij_l116, ij_l127, ij_l128, ij_l149, ij_l250, ij_l384, ij_l768, ij_l1000, ij_l1536, ij_l3000, ij_l1000000, ij_l1000003, ij_l1000000000, ij_neg, ij_add, ij_sub, ij_mul, ij_lt, ij_le, ij_eq, ij_nat, tn_nat, tn_12, tn_24, tn_36, tn_48, ck_in, ob_s, o2_s, vl_s, ox_l, ox_r, ck_tr, if_pos, if_neg, h8, e1, a, if_false, hfr, s1, bi_z, if_true]
          rfl
        | true =>
          rw [d1] at s1
          cases d2 : ins A (bv A (kn A u)) j sh with
          | false =>
            rw [d2] at s2
            simp (disch := omega) only [ij_l0, ij_l1, ij_l2, ij_l3, ij_l4, ij_l5, ij_l6, ij_l8, ij_l12, ij_l16, ij_l19, ij_l23, ij_l24, ij_l31, ij_l32, ij_l36, ij_l47, ij_l48, ij_l56, ij_l92, ij_l93, ij_l98, ij_l108, ij_l114, ij_l116, ij_l127, ij_l128, ij_l149, ij_l250, ij_l384, ij_l768, ij_l1000, ij_l1536, ij_l3000, ij_l1000000, ij_l1000003, ij_l1000000000, ij_neg, ij_add, ij_sub, ij_mul, ij_lt, ij_le, ij_eq, ij_nat, tn_nat, tn_12, tn_24, tn_36, tn_48, ck_in, ob_s, o2_s, vl_s, ox_l, ox_r, ck_tr, if_pos, if_neg, h8, e1, a, if_false, hfr, s1, s2, bi_z, Bool.true_eq_false, if_true]
            rfl
          | true =>
            rw [d2] at s2
            cases d3 : lkb (bv A (kn A u)) u j with
            | false => rw [d1, d2, d3] at c; cases c
            | true =>
              rw [d3] at s3
              simp (disch := omega) only [ij_l0, ij_l1, ij_l2, ij_l3, ij_l4, ij_l5, ij_l6, ij_l8, ij_l12, ij_l16, ij_l19, ij_l23, ij_l24, ij_l31, ij_l32, ij_l36, ij_l47, ij_l48, ij_l56, ij_l92, ij_l93, ij_l98, ij_l108, ij_l114, ij_l116, ij_l127, ij_l128, ij_l149, ij_l250, ij_l384, ij_l768, ij_l1000, ij_l1536, ij_l3000, ij_l1000000, ij_l1000003, ij_l1000000000, ij_neg, ij_add, ij_sub, ij_mul, ij_lt, ij_le, ij_eq, ij_nat, tn_nat, tn_12, tn_24, tn_36, tn_48, ck_in, ob_s, o2_s, vl_s, ox_l, ox_r, ck_tr, if_pos, if_neg, h8, e1, a, if_false, hfr, s1, s2, s3, bi_z, Bool.true_eq_false, if_true]
              rfl
    · rw [if_neg (show ¬ (j = sh ∨ (aFr A sh = 1 ∧ crd A (bv A (kn A u)) u sh j = true)) by simp [a, b])]
      have b0 : aFr A sh = 0 := by omega
      rw [b0] at hfr
      have i1 : (ij ((0 : Nat) : Int) = ij 0) = True := eq_true rfl
      simp (disch := omega) only [ij_l0, ij_l1, ij_l2, ij_l3, ij_l4, ij_l5, ij_l6, ij_l8, ij_l12, ij_l16, ij_l19, ij_l23, ij_l24, ij_l31, ij_l32, ij_l36, ij_l47, ij_l48, ij_l56, ij_l92, ij_l93, ij_l98, ij_l108, ij_l114, ij_l116, ij_l127, ij_l128, ij_l149, ij_l250, ij_l384, ij_l768, ij_l1000, ij_l1536, ij_l3000, ij_l1000000, ij_l1000003, ij_l1000000000, ij_neg, ij_add, ij_sub, ij_mul, ij_lt, ij_le, ij_eq, ij_nat, tn_nat, tn_12, tn_24, tn_36, tn_48, ck_in, ob_s, o2_s, vl_s, ox_l, ox_r, ck_tr, if_pos, if_neg, h8, e1, a, if_false, hfr, i1, if_true]
      rfl
theorem m_move (hI : Inv0 A) (hN : 1000000 ≤ N) (hn : aN A < 250) {u sh x y : Nat} (hu : u < 3) (hB : MB A u σ) (hsh : sn A (bv A (kn A u)) sh = true) (hx : x + aW A sh ≤ 24) (hy : y + aH A sh ≤ 16) (hx2 : x < 24) (hy2 : y < 16) :
    ∃ τ, fX8_move_L102_2 (fun v168 _ σ169 => (ob (fX8_makes N σ169 (ij u) (1 : Int32)) fun σ170 => (some (v168, σ170)))) N (ij u) (ij sh) (ij ((x : Int) - cl (bv A (kn A u)) sh)) (ij ((y : Int) - rwv (bv A (kn A u)) sh)) N (0 : Int32) (0 : Int32) σ = some (ij (cyL A (kn A u) u sh (y * 24 + x) 12).length, τ) ∧ MR (stp A u 1 (cyL A (kn A u) u sh (y * 24 + x) 12)) τ ∧ Un Tm σ τ ∧ gI τ 8 0 0 = gI σ 8 0 0 := by
  obtain ⟨hM, hBd⟩ := hB
  have ls := sn_lt hsh
  have l12 := hI.2.1.1
  have hb := BOK_bv hI.1 hI.2.1 (fun f hf => (hBd f hf).1)
  have hL := cyL_ok (u := u) hI hn (fun f hf => (hBd f hf).1) hsh (cell := y * 24 + x) (by omega) (by omega) (by omega) 12 (by omega)
  obtain ⟨τ, e, hPt, hLg, hBd', hPL, pU, p0⟩ := lp_st (fun n j τ => fX8_move_L102_2 (fun v168 _ σ169 => (ob (fX8_makes N σ169 (ij u) (1 : Int32)) fun σ170 => (some (v168, σ170)))) N (ij u) (ij sh) (ij ((x : Int) - cl (bv A (kn A u)) sh)) (ij ((y : Int) - rwv (bv A (kn A u)) sh)) n (ij (cyL A (kn A u) u sh (y * 24 + x) j).length) (ij j) τ)
    (fun j τ => PtM A τ ∧ LgM A τ ∧ BdM A (kn A u) τ ∧ PL A u (cyL A (kn A u) u sh (y * 24 + x) j) τ ∧ Un Tm σ τ ∧ gI τ 8 0 0 = gI σ 8 0 0) (Nat.zero_le (aSh A)) (fun n j τ _ hj hP => by
      obtain ⟨hPt, hLg, hBd', hPL, pU, p0⟩ := hP
      have hlen := cyL_len A (kn A u) u sh (y * 24 + x) j
      by_cases g : j = sh ∨ (aFr A sh = 1 ∧ crd A (bv A (kn A u)) u sh j = true)
      · have p := cy_pos hI.2.1 hb hsh (cell := y * 24 + x) (by omega) (by omega) (by omega) g
        obtain ⟨τ', t1, t2, t3, t4⟩ := m_plans (N := N) hPL hLg.1 (by omega) (f := 12 + j) (v := bv A (kn A u) (12 + j) + (y * 24 + x) - bv A (kn A u) (12 + sh)) (by omega) (x := ij (32 * ((cl (bv A (kn A u)) j : Int) + ((x : Int) - cl (bv A (kn A u)) sh)) + rwv (bv A (kn A u)) j + ((y : Int) - rwv (bv A (kn A u)) sh))) (by
          rw [mvI_pl _ (by omega) (by omega)]
          congr 1
          omega)
        refine ⟨τ', ?_, ?_, ?_, ?_, ?_, ?_, ?_⟩
        · rw [m_moveStep hI hPt hBd' hu ls hj, if_pos g, t1, ob_s]
          have e3 : (cyL A (kn A u) u sh (y * 24 + x) (j + 1)).length = (cyL A (kn A u) u sh (y * 24 + x) j).length + 1 := by
            simp only [cyL]
            rw [if_pos g]
            simp
          rw [e3]
          rfl
        · exact PtM_cg hPt (t4 8 (by omega)) (t4 9 (by omega)) (fun c h1 h2 => t3.I c 0 (by unfold Tp; simp; omega))
        · exact LgM_cg hLg (t4 20 (by omega)) (fun c q hc => t3.I c q (by unfold Tp; simp; omega))
        · exact BdM_cg hBd' (fun c h1 h2 => t3.I c 0 (by unfold Tp; simp; omega))
        · simp only [cyL]
          rw [if_pos g]
          exact t2
        · exact pU.tr (t3.mono (fun c o h => by unfold Tm at h; unfold Tp; simp at h ⊢; omega))
        · exact (t4 0 (by omega)).trans p0
      · refine ⟨τ, ?_, hPt, hLg, hBd', ?_, pU, p0⟩
        · rw [m_moveStep hI hPt hBd' hu ls hj, if_neg g]
          have e3 : cyL A (kn A u) u sh (y * 24 + x) (j + 1) = cyL A (kn A u) u sh (y * 24 + x) j := by
            simp only [cyL]
            rw [if_neg g]
          rw [e3]
        · simp only [cyL]
          rw [if_neg g]
          exact hPL) N σ (by omega) ⟨hM.1, hM.2.1, hBd, PL_nil hM, Un.rfl, rfl⟩
  have hcut := cyL_cut (A := A) (K := kn A u) (u := u) (cell := y * 24 + x) ls 12 l12
  rw [← hcut] at hPL e
  obtain ⟨τ2, v1, v2, v3, v4, v5⟩ := m_makes (N := N) hI hn (by omega) hPt hLg hu (st := 1) (by omega) hBd' hPL hL
  refine ⟨τ2, ?_, v2, pU.tr v4, v5.trans p0⟩
  refine Eq.trans e ?_
  have e2 : N - (aSh A - 0) = (N - aSh A - 1) + 1 := by omega
  show fX8_move_L102_2 _ N _ _ _ _ (N - (aSh A - 0)) _ _ τ = _
  have v1' : fX8_makes N τ (ij u) (1 : Int32) = some τ2 := v1
  rw [e2]
  simp only [fX8_move_L102_2]
  rw [hPt.1, if_pos (by simp (disch := omega) only [ij_le]; omega), v1', ob_s]
theorem f_hasShape (hC : CR A σ) (hS : aSh A ≤ 12) {z : Int} (hz : rg z) : fX2_hasShape N σ (ij z) = some (bi (decide (0 ≤ z ∧ z < aSh A))) := by
  obtain ⟨z1, z2⟩ := hz
  unfold fX2_hasShape
  rw [hC.1.1]
  by_cases a1 : z < 0
  · simp (disch := omega) only [ij_l0, ij_l1, ij_l2, ij_l3, ij_l4, ij_l5, ij_l6, ij_l8, ij_l12, ij_l16, ij_l19, ij_l23, ij_l24, ij_l31, ij_l32, ij_l36, ij_l47, ij_l48, ij_l56, ij_l92, ij_l93, ij_l98, ij_l108, ij_l114, ij_l116, ij_l127, ij_l128, ij_l149, ij_l250, ij_l384, ij_l768, ij_l1000, ij_l1536, ij_l3000, ij_l1000000, ij_l1000003, ij_l1000000000, ij_neg, ij_add, ij_sub, ij_mul, ij_lt, ij_le, ij_eq, ij_nat, tn_nat, tn_12, tn_24, tn_36, tn_48, ck_in, ob_s, o2_s, vl_s, ox_l, ox_r, ck_tr, if_pos, if_neg]
    rw [decide_eq_false (by omega)]
    rfl
  · by_cases a2 : (aSh A : Int) ≤ z
    · simp (disch := omega) only [ij_l0, ij_l1, ij_l2, ij_l3, ij_l4, ij_l5, ij_l6, ij_l8, ij_l12, ij_l16, ij_l19, ij_l23, ij_l24, ij_l31, ij_l32, ij_l36, ij_l47, ij_l48, ij_l56, ij_l92, ij_l93, ij_l98, ij_l108, ij_l114, ij_l116, ij_l127, ij_l128, ij_l149, ij_l250, ij_l384, ij_l768, ij_l1000, ij_l1536, ij_l3000, ij_l1000000, ij_l1000003, ij_l1000000000, ij_neg, ij_add, ij_sub, ij_mul, ij_lt, ij_le, ij_eq, ij_nat, tn_nat, tn_12, tn_24, tn_36, tn_48, ck_in, ob_s, o2_s, vl_s, ox_l, ox_r, ck_tr, if_pos, if_neg]
      rw [decide_eq_false (by omega)]
      rfl
    · simp (disch := omega) only [ij_l0, ij_l1, ij_l2, ij_l3, ij_l4, ij_l5, ij_l6, ij_l8, ij_l12, ij_l16, ij_l19, ij_l23, ij_l24, ij_l31, ij_l32, ij_l36, ij_l47, ij_l48, ij_l56, ij_l92, ij_l93, ij_l98, ij_l108, ij_l114, ij_l116, ij_l127, ij_l128, ij_l149, ij_l250, ij_l384, ij_l768, ij_l1000, ij_l1536, ij_l3000, ij_l1000000, ij_l1000003, ij_l1000000000, ij_neg, ij_add, ij_sub, ij_mul, ij_lt, ij_le, ij_eq, ij_nat, tn_nat, tn_12, tn_24, tn_36, tn_48, ck_in, ob_s, o2_s, vl_s, ox_l, ox_r, ck_tr, if_pos, if_neg]
      rw [decide_eq_true (by omega)]
      rfl
theorem p_move (h : Inv A σ) (hN : 1000000 ≤ N) (x1 x2 x3 x4 : Int32) : PairI (fL_move N σ x1 x2 x3 x4) (fun τ => fX8_move N τ x1 x2 x3 x4) := by
  obtain ⟨hI, hC, hM⟩ := h
  obtain ⟨z, rfl, hz⟩ := rg_ex x1
  obtain ⟨s, rfl, hs⟩ := rg_ex x2
  obtain ⟨x, rfl, hx⟩ := rg_ex x3
  obtain ⟨y, rfl, hy⟩ := rg_ex x4
  have hn := hI.1.1
  have l12 := hI.2.1.1
  obtain ⟨k1, k2, k3, k4⟩ := h1234 (H := fun E5 σ3 => (if E5 = "java/lang/IllegalArgumentException" then (some ((1 : Int32), σ3)) else (if E5 = "java/util/NoSuchElementException" then (some ((2 : Int32), σ3)) else (if E5 = "java/lang/UnsupportedOperationException" then (some ((3 : Int32), σ3)) else (if E5 = "java/lang/IllegalStateException" then (some ((4 : Int32), σ3)) else none))))) rfl
  have mb : ∀ τ, MR A τ → fX8_isBetween N τ (ij s) (0 : Int32) ((gI τ 8 0 8) - (1 : Int32)) = some (bi (decide (0 ≤ s ∧ s < aSh A))) := fun τ hm => by
    rw [hm.1.1, show ij (aSh A : Int) - (1 : Int32) = ij ((aSh A : Int) - 1) from ij_sub _ 1]
    refine (m_isBetween (b := 0) (c := (aSh A : Int) - 1) hs (by omega) (by omega)).trans ?_
    congr 2
    by_cases q : 0 ≤ s ∧ s < aSh A
    · rw [decide_eq_true q, decide_eq_true (by omega)]
    · rw [decide_eq_false q, decide_eq_false (by omega)]
  unfold fL_move fX7_move
  rw [c_user hz]
  cases e : usz z with
  | false =>
    simp only [Bool.false_eq_true, if_false, ox_r]
    refine mkI hI hC (c := 1) (k1 σ) (by omega) ⟨ij 0, sI (sI σ 8 0 0 (ij 0)) 8 0 0 (ij 1), ?_, MR_thr (MR_thr hM _) _, (Un_thr _ _).tr (Un_thr _ _), thr_thr _ _, fun q => by omega⟩
    have mb0 : fX8_isBetween N (sI σ 8 0 0 (0 : Int32)) (ij s) (0 : Int32) ((gI (sI σ 8 0 0 (0 : Int32)) 8 0 8) - (1 : Int32)) = _ := mb _ (MR_thr hM (ij 0))
    unfold fX8_move
    rw [vl_s, mb0, ob_s, m_isUser hz, usd _ e, ob_s, if_pos (by decide), m_fails, o2_s]
    rfl
  | true =>
    obtain ⟨u, rfl, hu⟩ := usz_nat e
    simp only [if_true, tn_nat, ox_l]
    rw [f_hasShape hC l12 hs, ob_s]
    -- what bar's refusal gives
    have pos : ∀ c : Int, 0 < c → c ≤ 9 → ¬ ij c ≤ 0 := by
      intro c c1 c2
      have : (ij c ≤ ij 0) = (c ≤ 0) := ij_le (by omega) (by omega) (by omega) (by omega)
      intro q
      have q2 : ij c ≤ ij 0 := q
      rw [this] at q2
      omega
    by_cases es : 0 ≤ s ∧ s < aSh A
    · obtain ⟨s, rfl⟩ : ∃ m : Nat, s = m := ⟨s.toNat, by omega⟩
      have ls : s < aSh A := by omega
      have hwh := hI.2.1.2.2.1 s
      rw [decide_eq_true es, if_neg (by decide), f_widthAt hC.1 hI.2.1 ls, ob_s, f_heightAt hC.1 hI.2.1 ls, ob_s, f_fits hx hy (by omega) (by omega), ob_s]
      -- the model up to the check of the place
      have hmd : ∀ σ', MR A σ' → fX8_move N σ' (ij u) (ij s) (ij x) (ij y) = if fit x y (aW A s) (aH A s) = false then some (ij 0, sI (sI σ' 8 0 0 (ij 0)) 8 0 0 (ij 1)) else (o2 (fX8_bar N (sI σ' 8 0 0 (ij 0)) (ij u) (ij s)) fun v90 σ89 => (vl (sI σ89 8 0 0 v90) fun σ91 => (if (gI σ91 8 0 0) ≤ 0 then (ob (fX8_column N σ91 (ij s)) fun v92 => (vl (ij x - v92) fun v93 => (ob (fX8_row N σ91 (ij s)) fun v94 => (vl (ij y - v94) fun v95 => (fX8_move_L102_2 (fun v168 _ σ169 => (ob (fX8_makes N σ169 (ij u) (1 : Int32)) fun σ170 => (some (v168, σ170)))) N (ij u) (ij s) v93 v95 N (0 : Int32) (0 : Int32) σ91))))) else (some ((0 : Int32), σ91))))) := by
        intro σ' hM'
        have hM0 := MR_thr hM' (ij 0)
        obtain ⟨_, _, p3, _⟩ := hM0.1
        obtain ⟨w1, w2, w3⟩ := p3 s (by omega) ls
        have w1' : gI (sI σ' 8 0 0 (0 : Int32)) 140 0 s = ij (aW A s) := w1
        have w2' : gI (sI σ' 8 0 0 (0 : Int32)) 141 0 s = ij (aH A s) := w2
        have mb0 : fX8_isBetween N (sI σ' 8 0 0 (0 : Int32)) (ij s) (0 : Int32) ((gI (sI σ' 8 0 0 (0 : Int32)) 8 0 8) - (1 : Int32)) = _ := mb _ hM0
        unfold fX8_move
        rw [vl_s, mb0, decide_eq_true es, ob_s, m_isUser hz, usd _ e, ob_s, if_neg (by decide), if_neg (by decide)]
        rw [show inb (ij (s : Int)) 12 = true from inb_ij (by omega) (by omega) (by omega), ck_tr, ck_tr, ij_natN (by omega), w1', w2', m_isOnBoard hx hy (by omega) (by omega), ob_s]
        by_cases ef : fit x y (aW A s) (aH A s) = false
        · rw [ef, if_pos (by decide), if_pos rfl, m_fails, o2_s]
          rfl
        · have ef' : fit x y (aW A s) (aH A s) = true := by simpa using ef
          rw [ef', if_neg (by decide), if_neg (by decide)]
          rfl
      cases ef : fit x y (aW A s) (aH A s) with
      | false =>
        rw [if_pos (by decide), ox_r]
        refine mkI hI hC (c := 1) (k1 σ) (by omega) ⟨ij 0, sI (sI σ 8 0 0 (ij 0)) 8 0 0 (ij 1), ?_, MR_thr (MR_thr hM _) _, (Un_thr _ _).tr (Un_thr _ _), thr_thr _ _, fun q => by omega⟩
        rw [hmd σ hM, if_pos ef]
      | true =>
        rw [ef] at hmd
        have ef2 := ef
        unfold fit at ef2
        rw [decide_eq_true_eq] at ef2
        have hwp := hwh.1 ls
        obtain ⟨x, rfl⟩ : ∃ m : Nat, x = m := ⟨x.toNat, by omega⟩
        obtain ⟨y, rfl⟩ : ∃ m : Nat, y = m := ⟨y.toNat, by omega⟩
        rw [if_neg (by decide), c_change hI hC hu hs]
        -- a refusal by bar
        have ref : ∀ c : Int, 0 < c → c ≤ 9 → (∀ τ, MR A τ → ∃ τ2, fX8_bar N τ (ij u) (ij s) = some (ij c, τ2) ∧ MB A u τ2 ∧ Un Tm τ τ2) →
            ∃ r τ, fX8_move N σ (ij u) (ij s) (ij x) (ij y) = some (r, τ) ∧ MR A τ ∧ Un Tm σ τ ∧ gI τ 8 0 0 = ij c ∧ (c = 0 → gJ σ 0 = Int32.toInt64 r) := by
          intro c c1 c2 hb
          obtain ⟨τ2, b1, b2, b3⟩ := hb (sI σ 8 0 0 (ij 0)) (MR_thr hM _)
          refine ⟨0, sI τ2 8 0 0 (ij c), ?_, MR_thr b2.1 _, ((Un_thr _ _).tr b3).tr (Un_thr _ _), thr_thr _ _, fun q => by omega⟩
          rw [hmd σ hM, if_neg (by decide), b1, o2_s, vl_s, thr_thr τ2 (ij c), if_neg (pos c c1 c2)]
        cases e2 : snz A (bv A (kn A u)) s with
        | false =>
          simp only [Bool.false_eq_true, if_false, ox_r]
          refine mkI hI hC (c := 2) (k2 σ) (by omega) (ref 2 (by omega) (by omega) (fun τ hm => ?_))
          obtain ⟨τ2, b1, b2, b3⟩ := m_bar (N := N) (σ := τ) hI hm (by omega) hu hs
          rw [e2] at b1
          exact ⟨τ2, b1, b2, b3⟩
        | true =>
          have hss : sn A (bv A (kn A u)) s = true := by rw [snz_nat] at e2; exact e2
          simp only [if_true, tn_nat]
          cases e3 : lkb (bv A (kn A u)) u s with
          | true =>
            simp only [if_true, ox_r]
            refine mkI hI hC (c := 3) (k3 σ) (by omega) (ref 3 (by omega) (by omega) (fun τ hm => ?_))
            obtain ⟨τ2, b1, b2, b3⟩ := m_bar (N := N) (σ := τ) hI hm (by omega) hu hs
            rw [e2, tn_nat, e3] at b1
            exact ⟨τ2, b1, b2, b3⟩
          | false =>
            simp only [Bool.false_eq_true, if_false, ox_l]
            rw [c_room hC hn]
            by_cases e4 : aN A = 250
            · rw [if_pos e4, ox_r, ox_r]
              refine mkI hI hC (c := 4) (k4 σ) (by omega) (ref 4 (by omega) (by omega) (fun τ hm => ?_))
              obtain ⟨τ2, b1, b2, b3⟩ := m_bar (N := N) (σ := τ) hI hm (by omega) hu hs
              rw [e2, tn_nat, e3, e4] at b1
              exact ⟨τ2, b1, b2, b3⟩
            · obtain ⟨τ, t1, t2, t3, t4⟩ := f_carry (N := N) hI hC hN (by omega) hu hss (cell := y * 24 + x) (by omega) (by omega) (by omega)
              rw [if_neg e4, ox_l, f_cellAt (by omega) (by omega), ob_s, show (y : Int) * 24 + x = ((y * 24 + x : Nat) : Int) by omega, t1, o2_s, ox_l, vl_s]
              have hM1 : MR A (sJ τ 0 (Int32.toInt64 (ij (cyL A (kn A u) u s (y * 24 + x) 12).length))) := MR_J (MR_un hM t3)
              obtain ⟨τ2, b1, b2, b3⟩ := m_bar (N := N) (σ := sI (sJ τ 0 (Int32.toInt64 (ij (cyL A (kn A u) u s (y * 24 + x) 12).length))) 8 0 0 (ij 0)) hI (MR_thr hM1 _) (by omega) hu hs
              rw [e2, tn_nat, e3] at b1
              simp only [if_true, Bool.false_eq_true, if_false, if_neg e4] at b1
              have hB3 : MB A u (sI τ2 8 0 0 (ij 0)) := MB_thr b2 _
              obtain ⟨τ3, w1, w2, w3, w4⟩ := m_move (N := N) hI hN (by omega) hu hB3 hss (x := x) (y := y) (by omega) (by omega) (by omega) (by omega)
              have hW := MB_WM hI hB3
              refine mkI t4 (CR_J t2) (c := 0) rfl (by omega) ⟨ij (cyL A (kn A u) u s (y * 24 + x) 12).length, τ3, ?_, w2, (((Un_thr _ _).tr b3).tr (Un_thr _ _)).tr w3, w4.trans (thr_thr _ _), fun _ => gJ_sJ _ _⟩
              rw [hmd _ hM1, if_neg (by decide), b1, o2_s, vl_s, thr_thr τ2 (ij 0), if_pos (by decide), m_column hW (by omega), ob_s, vl_s, m_row hW (by omega), ob_s, vl_s, ij_sub, ij_sub]
              exact w1
    · rw [decide_eq_false es, if_pos (by decide), c_change hI hC hu hs]
      have e2 : snz A (bv A (kn A u)) s = false := by
        rw [← Bool.not_eq_true]
        intro q
        obtain ⟨t, rfl, ht⟩ := snz_ex q
        have := sn_lt ht
        exact es ⟨by omega, by omega⟩
      rw [e2]
      simp only [Bool.false_eq_true, if_false, ox_r]
      have hM0 := MR_thr hM (ij 0)
      obtain ⟨τ2, b1, b2, b3⟩ := m_bar (N := N) (σ := sI σ 8 0 0 (ij 0)) hI hM0 (by omega) hu hs
      rw [e2] at b1
      simp only [Bool.false_eq_true, if_false] at b1
      refine mkI hI hC (c := 2) (k2 σ) (by omega) ⟨0, sI τ2 8 0 0 (ij 2), ?_, MR_thr b2.1 _, ((Un_thr _ _).tr b3).tr (Un_thr _ _), thr_thr _ _, fun q => by omega⟩
      have b1' : fX8_bar N (sI σ 8 0 0 (0 : Int32)) (ij u) (ij s) = some (ij 2, τ2) := b1
      have mb0 : fX8_isBetween N (sI σ 8 0 0 (0 : Int32)) (ij s) (0 : Int32) ((gI (sI σ 8 0 0 (0 : Int32)) 8 0 8) - (1 : Int32)) = _ := mb _ hM0
      unfold fX8_move
      rw [vl_s, mb0, decide_eq_false es, ob_s, m_isUser hz, usd _ e, ob_s, if_neg (by decide), if_pos (by decide), b1', o2_s, vl_s, thr_thr τ2 (ij 2), if_neg (pos 2 (by omega) (by omega))]
end S12
