/-! addShape, the model's side. -/
section S10
variable {A : Ab} {N : Nat} {σ : St} {w h fr : Nat}
theorem m_addTail (hI : Inv0 A) (hN : 1000000 ≤ N) (hn : aN A < 250) {u : Nat} (hu : u < 3) (hB : MB A u σ) (hs : aSh A < 12) (hw : 1 ≤ w ∧ w ≤ 8) (hh : 1 ≤ h ∧ h ≤ 8) (b : Bool) {x y : Nat} (hx : x + w ≤ 24) (hy : y + h ≤ 16) {a : UInt32} (ha : kyB a) (hz : kz (aN A + 1) a) :
    ∃ τ, (ck (inb (gI σ 8 0 8) 12) (vl (sI σ 140 0 (Int32.toNatClampNeg (gI σ 8 0 8)) (ij w)) fun σ19 => (ck (inb (gI σ19 8 0 8) 12) (vl (sI σ19 141 0 (Int32.toNatClampNeg (gI σ19 8 0 8)) (ij h)) fun σ20 => (ck (inb (gI σ20 8 0 8) 12) (vl (sI σ20 144 0 (Int32.toNatClampNeg (gI σ20 8 0 8)) (vp_nar .boolean (bi b))) fun σ21 => (ob (fX8_plans N σ21 (gI σ21 8 0 8) (1 : Int32)) fun σ22 => (ob (fX8_plans N σ22 ((12 : Int32) + (gI σ22 8 0 8)) (((32 : Int32) * (ij x)) + (ij y))) fun σ23 => (ob (fJxf58ca_floatToIntBits_5c35a N σ23 a) fun v24 => (ob (fX8_plans N σ23 ((24 : Int32) + (gI σ23 8 0 8)) v24) fun σ25 => (vl (sI σ25 8 0 8 ((gI σ25 8 0 8) + (1 : Int32))) fun σ26 => (ob (fX8_makes N σ26 (ij u) (1 : Int32)) fun σ27 => (some (((gI σ27 8 0 8) - (1 : Int32)), σ27)))))))))))))) = some (ij (aSh A), τ) ∧ MR (stp (shA A w h (if b then 1 else 0)) u 1 (adL (shA A w h (if b then 1 else 0)) u (aSh A) (y * 24 + x) a)) τ ∧ Un Tm σ τ ∧ gI τ 8 0 0 = gI σ 8 0 0 := by
  obtain ⟨hM, hBd⟩ := hB
  have h8 := hM.1.1
  simp (disch := omega) only [ij_l0, ij_l1, ij_l2, ij_l3, ij_l4, ij_l5, ij_l6, ij_l8, ij_l12, ij_l16, ij_l19, ij_l23, ij_l24, ij_l31, ij_l32, ij_l36, ij_l47, ij_l48, ij_l56, ij_l92, ij_l93, ij_l98, ij_l108, ij_l114, ij_l116, ij_l127, ij_l128, ij_l149, ij_l250, ij_l384, ij_l768, ij_l1000, ij_l1536, ij_l3000, ij_l1000000, ij_l1000003, ij_l1000000000, ij_neg, ij_add, ij_sub, ij_mul, ij_lt, ij_le, ij_eq, ij_nat, tn_nat, tn_12, tn_24, tn_36, tn_48, ck_in, ob_s, o2_s, vl_s, ox_l, ox_r, ck_tr, if_pos, if_neg, h8, gI_sI_ne, bi_nar]
  obtain ⟨σ1, hσ1⟩ : ∃ σ1, σ1 = sI (sI (sI σ 140 0 (aSh A) (ij w)) 141 0 (aSh A) (ij h)) 144 0 (aSh A) (bi b) := ⟨_, rfl⟩
  rw [← hσ1]
  have g1 : ∀ c q z, c ≠ 140 → c ≠ 141 → c ≠ 144 → gI σ1 c q z = gI σ c q z := fun c q z z1 z2 z3 => by rw [hσ1, gI_sI_ne z3, gI_sI_ne z2, gI_sI_ne z1]
  have u1 : Un Tm σ σ1 := by
    rw [hσ1]
    exact ((Un.sI _ _ _ rfl).tr (Un.sI _ _ _ rfl)).tr (Un.sI _ _ _ rfl)
  have hIB := Inv0_sh (fr := if b then 1 else 0) hI hs hw hh (by cases b <;> simp)
  have hP1 : PL (shA A w h (if b then 1 else 0)) u [] σ1 := ⟨by rw [g1 _ _ _ (by omega) (by omega) (by omega)]; exact hM.2.2, fun k hk => by simp at hk⟩
  have h20 : gI σ1 8 0 20 = ij (aN (shA A w h (if b then 1 else 0))) := by rw [g1 _ _ _ (by omega) (by omega) (by omega)]; exact hM.2.1.1
  have h88 : gI σ1 8 0 8 = ij (aSh A) := by rw [g1 _ _ _ (by omega) (by omega) (by omega)]; exact h8
  obtain ⟨τ1, a1, a2, a3, a4⟩ := m_plans (N := N) hP1 h20 (by simp) (f := aSh A) (v := 1) (by omega) (x := ij 1) (mvI_n 1 (by omega)).symm
  obtain ⟨τ2, b1, b2, b3, b4⟩ := m_plans (N := N) a2 ((a4 20 (by omega)).trans h20) (by simp) (f := 12 + aSh A) (v := y * 24 + x) (by omega) (x := ij (32 * x + y : Nat)) (by rw [mvI_pl _ (by omega) (by omega)]; congr 1; omega)
  obtain ⟨τ3, c1, c2, c3, c4⟩ := m_plans (N := N) b2 (((b4 20 (by omega)).trans (a4 20 (by omega))).trans h20) (by simp) (f := 24 + aSh A) (v := a.toNat) (by omega) (mvI_key (by omega) a).symm
  have e8a : gI τ1 8 0 8 = ij (aSh A) := (a4 8 (by omega)).trans h88
  have e8b : gI τ2 8 0 8 = ij (aSh A) := (b4 8 (by omega)).trans e8a
  have e8c : gI τ3 8 0 8 = ij (aSh A) := (c4 8 (by omega)).trans e8b
  have u3 : Un Tp σ1 τ3 := (a3.tr b3).tr c3
  obtain ⟨σ2, hσ2⟩ : ∃ σ2, σ2 = sI τ3 8 0 8 (ij ((aSh A : Int) + 1)) := ⟨_, rfl⟩
  have g2 : ∀ c q z, c ≠ 8 → gI σ2 c q z = gI τ3 c q z := fun c q z z1 => by rw [hσ2, gI_sI_ne z1]
  have g28 : ∀ z, z ≠ 8 → gI σ2 8 0 z = gI τ3 8 0 z := fun z hz => by rw [hσ2, gI_sI_eq, if_neg hz]
  have k3 : ∀ j, j ≠ 27 → gI τ3 8 0 j = gI σ1 8 0 j := fun j hj => ((c4 j hj).trans (b4 j hj)).trans (a4 j hj)
  have gp : ∀ c, 140 ≤ c → c ≤ 165 → ∀ q, gI σ2 c q = gI σ1 c q := fun c c1 c2 q => by
    have : gI τ3 c q = gI σ1 c q := u3.I c q (by unfold Tp; simp; omega)
    funext z
    rw [g2 _ _ _ (by omega), this]
  have hPt : PtM (shA A w h (if b then 1 else 0)) σ2 := by
    obtain ⟨p1, p2, p3, p4⟩ := hM.1
    refine ⟨?_, ?_, fun s hs1 hs2 => ?_, fun c hc1 hc2 => ?_⟩
    · rw [hσ2, gI_sI_eq, if_pos rfl]; rfl
    · rw [g28 9 (by omega), k3 9 (by omega), g1 _ _ _ (by omega) (by omega) (by omega)]; exact p2
    · rw [shA_W, shA_H, shA_Fr, gp 140 (by omega) (by omega), gp 141 (by omega) (by omega), gp 144 (by omega) (by omega), hσ1]
      rw [shA_Sh] at hs2
      simp (disch := omega) only [gI_sI_ne, gI_sI_eq]
      by_cases e : s = aSh A
      · rw [if_pos e, if_pos e, if_pos e, if_pos e, if_pos e, if_pos e]
        exact ⟨rfl, rfl, by rw [bi_ij]; cases b <;> rfl⟩
      · rw [if_neg e, if_neg e, if_neg e, if_neg e, if_neg e, if_neg e]
        exact p3 s hs1 (by omega)
    · rw [gp 142 (by omega) (by omega), gp 143 (by omega) (by omega), gp 145 (by omega) (by omega), gp 146 (by omega) (by omega)]
      simp (disch := omega) only [g1]
      exact p4 c hc1 hc2
  have hLg : LgM (shA A w h (if b then 1 else 0)) σ2 := by
    refine LgM_cg (A := A) hM.2.1 ?_ (fun c q hc => ?_)
    · rw [g28 20 (by omega), k3 20 (by omega), g1 _ _ _ (by omega) (by omega) (by omega)]
    · rw [gp c (by omega) (by omega)]
      funext z
      exact g1 _ _ _ (by omega) (by omega) (by omega)
  have hBd2 : BdM (shA A w h (if b then 1 else 0)) (kn (shA A w h (if b then 1 else 0)) u) σ2 := by
    rw [(shA_same A w h _).bm]
    refine BdM_cg hBd (fun c h1 h2 => ?_)
    rw [gp c (by omega) (by omega)]
    funext z
    exact g1 _ _ _ (by omega) (by omega) (by omega)
  have hPL : PL (shA A w h (if b then 1 else 0)) u (adL (shA A w h (if b then 1 else 0)) u (aSh A) (y * 24 + x) a) σ2 := by
    have c2' : PL (shA A w h (if b then 1 else 0)) u (adL (shA A w h (if b then 1 else 0)) u (aSh A) (y * 24 + x) a) τ3 := c2
    unfold PL at c2' ⊢
    rw [g28 27 (by omega)]
    simp (disch := omega) only [g2]
    exact c2'
  have hW : aW (shA A w h (if b then 1 else 0)) (aSh A) = w := by rw [shA_W, if_pos rfl]
  have hH : aH (shA A w h (if b then 1 else 0)) (aSh A) = h := by rw [shA_H, if_pos rfl]
  have hR := adL_ok hIB hn (fun f hf => (hBd2 f hf).1) (s := aSh A) (cell := y * 24 + x) (a := a) (by rw [shA_Sh]; omega) (by omega) (by omega) (by omega) ha hz
  obtain ⟨τ, m1, m2, m3, m4, m5⟩ := m_makes (N := N) hIB hn (by omega) hPt hLg hu (st := 1) (by omega) hBd2 hPL hR
  have u2 : Un Tm τ3 σ2 := by rw [hσ2]; exact Un.sI _ _ _ rfl
  refine ⟨τ, ?_, m2, ((u1.tr (u3.mono (fun c o z => by unfold Tm at z; unfold Tp; simp at z ⊢; omega))).tr u2).tr m4, ?_⟩
  · have m1' : fX8_makes N σ2 (ij u) (ij 1) = some τ := m1
    have h8e : gI τ 8 0 8 = ij ((aSh A : Int) + 1) := m2.1.1
    rw [a1, ob_s, e8a]
    rw [show ij 12 + ij (aSh A : Int) = ij ((12 + aSh A : Nat) : Int) by rw [ij_add]; rfl, show (32 : Int) * x + y = ((32 * x + y : Nat) : Int) by omega, b1, ob_s, m_bits ha, ob_s, e8b]
    rw [show ij 24 + ij (aSh A : Int) = ij ((24 + aSh A : Nat) : Int) by rw [ij_add]; rfl, c1, ob_s, e8c, ij_add, ← hσ2, m1', ob_s, h8e, ij_sub]
    congr 3
    omega
  · rw [m5, g28 0 (by omega), k3 0 (by omega), g1 _ _ _ (by omega) (by omega) (by omega)]
noncomputable def nk (A : Ab) (β : Nat → Nat) : UInt32 := if ct (sn A β) 12 = 0 then 0 else FP.fadd (ky β (hi_ A β)) 1065353216
theorem p_addShape (h0 : Inv A σ) (hN : 1000000 ≤ N) (x1 x2 x3 x4 x5 : Int32) (b : Bool) : PairI (fL_addShape N σ x1 x2 x3 x4 x5 (bi b)) (fun τ => fX8_addShape N τ x1 x2 x3 x4 x5 (bi b)) := by
  obtain ⟨hI, hC, hM⟩ := h0
  obtain ⟨z, rfl, hz⟩ := rg_ex x1
  obtain ⟨x, rfl, hx⟩ := rg_ex x2
  obtain ⟨y, rfl, hy⟩ := rg_ex x3
  obtain ⟨w, rfl, hw⟩ := rg_ex x4
  obtain ⟨h, rfl, hh⟩ := rg_ex x5
  have hn := hI.1.1
  have l12 := hI.2.1.1
  obtain ⟨k1, k2⟩ := h12s (H := fun E5 σ3 => (if E5 = "java/lang/IllegalArgumentException" then (some ((1 : Int32), σ3)) else (if E5 = "java/lang/IllegalStateException" then (some ((2 : Int32), σ3)) else none))) rfl
  -- a refusal
  have ref : ∀ c : Int, 1 ≤ c → c ≤ 9 → fX8_addShape N σ (ij z) (ij x) (ij y) (ij w) (ij h) (bi b) = some (ij 0, sI (sI σ 8 0 0 (ij 0)) 8 0 0 (ij c)) → ∃ r τ, fX8_addShape N σ (ij z) (ij x) (ij y) (ij w) (ij h) (bi b) = some (r, τ) ∧ MR A τ ∧ Un Tm σ τ ∧ gI τ 8 0 0 = ij c ∧ (c = 0 → gJ σ 0 = Int32.toInt64 r) := fun c c1 c2 e => ⟨_, _, e, MR_thr (MR_thr hM _) _, (Un_thr _ _).tr (Un_thr _ _), thr_thr _ _, fun q => by omega⟩
  unfold fL_addShape fX7_addShape
  rw [c_user hz]
  cases e : usz z with
  | false =>
    simp only [Bool.false_eq_true, if_false, ox_r]
    refine mkI hI hC (c := 1) (k1 σ) (by omega) (ref 1 (by omega) (by omega) ?_)
    unfold fX8_addShape
    rw [vl_s, m_isUser hz, usd _ e, ob_s, if_pos (by decide), m_fails, o2_s]
    rfl
  | true =>
    obtain ⟨u, rfl, hu⟩ := usz_nat e
    simp only [if_true, tn_nat, ox_l]
    have mw : ∀ (τ : St) (q : Int), rg q → fX8_isBetween N τ (ij q) (1 : Int32) (8 : Int32) = some (bi (decide (1 ≤ q ∧ q ≤ 8))) := fun τ q hq => m_isBetween (b := 1) (c := 8) hq (by omega) (by omega)
    rw [f_isSide hw, ob_s]
    by_cases ew : 1 ≤ w ∧ w ≤ 8
    · rw [decide_eq_true ew, if_neg (by decide), f_isSide hh, ob_s]
      by_cases eh : 1 ≤ h ∧ h ≤ 8
      · rw [decide_eq_true eh, if_neg (by decide), f_fits hx hy (by omega) (by omega), ob_s]
        -- the model behind the three checks
        have hmd : ∀ σ' : St, fX8_addShape N σ' (ij u) (ij x) (ij y) (ij w) (ij h) (bi b) = if fit x y w h = false then some (ij 0, sI (sI σ' 8 0 0 (ij 0)) 8 0 0 (ij 1)) else fX8_addShape N σ' (ij u) (ij x) (ij y) (ij w) (ij h) (bi b) := by
          intro σ'
          by_cases ef : fit x y w h = false
          · rw [if_pos ef]
            unfold fX8_addShape
            rw [vl_s, m_isUser hz, usd _ e, ob_s, if_neg (by decide), mw _ _ hw, decide_eq_true ew, ob_s, if_neg (by decide), mw _ _ hh, decide_eq_true eh, ob_s, if_neg (by decide), m_isOnBoard hx hy (by omega) (by omega), ef, ob_s, if_pos (by decide), m_fails, o2_s]
            rfl
          · rw [if_neg ef]
        cases ef : fit x y w h with
        | false =>
          rw [if_pos (by decide), ox_r]
          refine mkI hI hC (c := 1) (k1 σ) (by omega) (ref 1 (by omega) (by omega) ?_)
          rw [hmd, if_pos ef]
        | true =>
          clear hmd
          have ef2 := ef
          unfold fit at ef2
          rw [decide_eq_true_eq] at ef2
          obtain ⟨w, rfl⟩ : ∃ m : Nat, w = m := ⟨w.toNat, by omega⟩
          obtain ⟨h, rfl⟩ : ∃ m : Nat, h = m := ⟨h.toNat, by omega⟩
          obtain ⟨x, rfl⟩ : ∃ m : Nat, x = m := ⟨x.toNat, by omega⟩
          obtain ⟨y, rfl⟩ : ∃ m : Nat, y = m := ⟨y.toNat, by omega⟩
          have hV := CR_VW hI hu hC
          rw [if_neg (by decide)]
          -- the model behind the checks
          have hmd : ∀ σ' : St, MR A σ' → fX8_addShape N σ' (ij u) (ij x) (ij y) (ij w) (ij h) (bi b) = if aSh A = 12 ∨ aN A = 250 then some (ij 0, sI (sI σ' 8 0 0 (ij 0)) 8 0 0 (ij 2)) else (ob (fX8_builds N (sI σ' 8 0 0 (ij 0)) (ij u)) fun σ14 => (ob (fX8_greatest N σ14) fun v15 => (if 0 ≤ v15 then (ob (fX8_greatest N σ14) fun v16 => (ob (fX8_key N σ14 v16) fun v17 => (ck (nn32 (FP.fadd v17 (1065353216 : UInt32))) (vl (FP.fadd v17 (1065353216 : UInt32)) fun v18 => (ck (inb (gI σ14 8 0 8) 12) (vl (sI σ14 140 0 (Int32.toNatClampNeg (gI σ14 8 0 8)) (ij w)) fun σ19 => (ck (inb (gI σ19 8 0 8) 12) (vl (sI σ19 141 0 (Int32.toNatClampNeg (gI σ19 8 0 8)) (ij h)) fun σ20 => (ck (inb (gI σ20 8 0 8) 12) (vl (sI σ20 144 0 (Int32.toNatClampNeg (gI σ20 8 0 8)) (vp_nar .boolean (bi b))) fun σ21 => (ob (fX8_plans N σ21 (gI σ21 8 0 8) (1 : Int32)) fun σ22 => (ob (fX8_plans N σ22 ((12 : Int32) + (gI σ22 8 0 8)) (((32 : Int32) * (ij x)) + (ij y))) fun σ23 => (ob (fJxf58ca_floatToIntBits_5c35a N σ23 v18) fun v24 => (ob (fX8_plans N σ23 ((24 : Int32) + (gI σ23 8 0 8)) v24) fun σ25 => (vl (sI σ25 8 0 8 ((gI σ25 8 0 8) + (1 : Int32))) fun σ26 => (ob (fX8_makes N σ26 (ij u) (1 : Int32)) fun σ27 => (some (((gI σ27 8 0 8) - (1 : Int32)), σ27)))))))))))))))))) else (ck (inb (gI σ14 8 0 8) 12) (vl (sI σ14 140 0 (Int32.toNatClampNeg (gI σ14 8 0 8)) (ij w)) fun σ28 => (ck (inb (gI σ28 8 0 8) 12) (vl (sI σ28 141 0 (Int32.toNatClampNeg (gI σ28 8 0 8)) (ij h)) fun σ29 => (ck (inb (gI σ29 8 0 8) 12) (vl (sI σ29 144 0 (Int32.toNatClampNeg (gI σ29 8 0 8)) (vp_nar .boolean (bi b))) fun σ30 => (ob (fX8_plans N σ30 (gI σ30 8 0 8) (1 : Int32)) fun σ31 => (ob (fX8_plans N σ31 ((12 : Int32) + (gI σ31 8 0 8)) (((32 : Int32) * (ij x)) + (ij y))) fun σ32 => (ob (fJxf58ca_floatToIntBits_5c35a N σ32 (0 : UInt32)) fun v33 => (ob (fX8_plans N σ32 ((24 : Int32) + (gI σ32 8 0 8)) v33) fun σ34 => (vl (sI σ34 8 0 8 ((gI σ34 8 0 8) + (1 : Int32))) fun σ35 => (ob (fX8_makes N σ35 (ij u) (1 : Int32)) fun σ36 => (some (((gI σ36 8 0 8) - (1 : Int32)), σ36))))))))))))))))) := by
            intro σ' hM'
            have hM0 := MR_thr hM' (ij 0)
            have mf : (gI (sI σ' 8 0 0 (0 : Int32)) 8 0 20 = (250 : Int32)) = (aN A = 250) := m_full hM0 hn
            have m12 : (gI (sI σ' 8 0 0 (0 : Int32)) 8 0 8 = (12 : Int32)) = (aSh A = 12) := by
              have q1 : gI (sI σ' 8 0 0 (0 : Int32)) 8 0 8 = ij (aSh A) := hM0.1.1
              rw [q1, show (12 : Int32) = ij 12 from rfl, ij_eq (by omega) (by omega) (by omega) (by omega), eq_iff_iff]
              omega
            unfold fX8_addShape
            rw [vl_s, m_isUser hz, usd _ e, ob_s, if_neg (by decide), mw _ _ hw, decide_eq_true ew, ob_s, if_neg (by decide), mw _ _ hh, decide_eq_true eh, ob_s, if_neg (by decide), m_isOnBoard hx hy (by omega) (by omega), ef, ob_s, if_neg (by decide)]
            simp only [mf, m12, m_fails, o2_s]
            by_cases e12 : aSh A = 12
            · rw [if_pos e12, if_pos (Or.inl e12)]
              rfl
            · by_cases e4 : aN A = 250
              · rw [if_neg e12, if_pos e4, if_pos (Or.inr e4)]
                rfl
              · rw [if_neg e12, if_neg e4, if_neg (by omega)]
                rfl
          have h7 : (gI σ 2 0 7 < (12 : Int32)) = (aSh A < 12) := by
            rw [hC.1.1, show (12 : Int32) = ij 12 from rfl, ij_lt (by omega) (by omega) (by omega) (by omega), eq_iff_iff]
            omega
          simp only [h7]
          by_cases e12 : aSh A = 12
          · rw [if_neg (by omega), ox_r]
            refine mkI hI hC (c := 2) (k2 σ) (by omega) (ref 2 (by omega) (by omega) ?_)
            rw [hmd σ hM, if_pos (Or.inl e12)]
          · rw [if_pos (by omega), c_room hC hn]
            by_cases e4 : aN A = 250
            · rw [if_pos e4, ox_r, ox_r]
              refine mkI hI hC (c := 2) (k2 σ) (by omega) (ref 2 (by omega) (by omega) ?_)
              rw [hmd σ hM, if_pos (Or.inr e4)]
            · rw [if_neg e4, ox_l, f_countShapes hV (by omega), ob_s]
              have e0 : (ij (ct (sn A (bv A (kn A u))) 12) = (0 : Int32)) = (ct (sn A (bv A (kn A u))) 12 = 0) := by
                have hc := ct_le (sn A (bv A (kn A u))) 12
                rw [show (0 : Int32) = ij 0 from rfl, ij_eq (by omega) (by omega) (by omega) (by omega), eq_iff_iff]
                omega
              rcases f_greatestKey (N := N) hV (by omega) with ⟨c0, ca, _⟩ | ⟨t, ht, cp, hhi, hg⟩
              · rw [if_pos (by rw [e0]; exact c0)]
                obtain ⟨τ, t1, t2, t3, t4⟩ := f_addTail hI hC hN (by omega) hu (by omega) (w := w) (h := h) (by omega) (by omega) b (x := x) (y := y) (by omega) (by omega) kyB_0 (kz_0 _)
                refine mkI t4 (CR_J t2) (c := 0) (τ1 := sJ τ 0 (Int32.toInt64 (ij (aSh A)))) ?_ (by omega) ?_
                · refine (congrArg (fun q => ox q _ _) t1).trans ?_
                  rw [ox_l, vl_s]
                  rfl
                · have hM1 : MR A (sJ τ 0 (Int32.toInt64 (ij (aSh A)))) := MR_J (MR_un hM t3)
                  obtain ⟨τ1, w1, w2, w3, w4⟩ := m_start (N := N) hI hM1 (by omega) hu
                  obtain ⟨τ2, v1, v2, v3, v4⟩ := m_addTail hI hN (by omega) hu w2 (by omega) (w := w) (h := h) (by omega) (by omega) b (x := x) (y := y) (by omega) (by omega) kyB_0 (kz_0 _)
                  refine ⟨ij (aSh A), τ2, ?_, v2, w3.tr v3, v4.trans w4, fun _ => gJ_sJ _ _⟩
                  have hgr : gr A (bv A (kn A u)) (aSh A) = -1 := by
                    rcases gr_sp A (bv A (kn A u)) (aSh A) with ⟨q, _⟩ | ⟨t', r1, r2, r3, r4⟩
                    · exact q
                    · rw [ca t'] at r3; cases r3
                  rw [hmd _ hM1, if_neg (by omega), w1, ob_s, m_greatest (MB_WM hI w2) (by omega), ob_s, hgr, if_neg (by decide)]
                  exact v1
              · have hka := kyB_add1 (v_ky hV ht)
                have hza := kz_add1 (show aN A < 1000 by omega) (v_kz hV ht)
                obtain ⟨a, ha⟩ : ∃ a, a = FP.fadd (ky (bv A (kn A u)) t) 1065353216 := ⟨_, rfl⟩
                rw [← ha] at hka hza
                rw [if_neg (by rw [e0]; omega), hg, ob_s, ← ha, nn32_of (kyB_nn hka), ck_tr, vl_s]
                obtain ⟨τ, t1, t2, t3, t4⟩ := f_addTail hI hC hN (by omega) hu (by omega) (w := w) (h := h) (by omega) (by omega) b (x := x) (y := y) (by omega) (by omega) hka hza
                refine mkI t4 (CR_J t2) (c := 0) (τ1 := sJ τ 0 (Int32.toInt64 (ij (aSh A)))) ?_ (by omega) ?_
                · refine (congrArg (fun q => ox q _ _) t1).trans ?_
                  rw [ox_l, vl_s]
                  rfl
                · have hM1 : MR A (sJ τ 0 (Int32.toInt64 (ij (aSh A)))) := MR_J (MR_un hM t3)
                  obtain ⟨τ1, w1, w2, w3, w4⟩ := m_start (N := N) hI hM1 (by omega) hu
                  obtain ⟨τ2, v1, v2, v3, v4⟩ := m_addTail hI hN (by omega) hu w2 (by omega) (w := w) (h := h) (by omega) (by omega) b (x := x) (y := y) (by omega) (by omega) hka hza
                  refine ⟨ij (aSh A), τ2, ?_, v2, w3.tr v3, v4.trans w4, fun _ => gJ_sJ _ _⟩
                  rcases gr_sp A (bv A (kn A u)) (aSh A) with ⟨_, q⟩ | ⟨t', r1, r2, r3, r4⟩
                  · have := hhi.1
                    rw [q t (sn_lt this)] at this; cases this
                  · have hh' : IsHi A (bv A (kn A u)) t' := ⟨r3, fun z hz => r4 z (sn_lt hz) hz⟩
                    have hae : FP.fadd (ky (bv A (kn A u)) t') 1065353216 = a := by rw [ha, hi_add hh', hi_add hhi]
                    have c9 : (0 : Int32) ≤ ij (t' : Int) := by
                      have : (ij 0 ≤ ij (t' : Int)) = ((0 : Int) ≤ t') := ij_le (by omega) (by omega) (by omega) (by omega)
                      show ij 0 ≤ ij (t' : Int)
                      rw [this]
                      omega
                    rw [hmd _ hM1, if_neg (by omega), w1, ob_s, m_greatest (MB_WM hI w2) (by omega), ob_s, r1, if_pos c9, ob_s, (m_key (MB_WM hI w2) (by omega)).1, ob_s, hae, nn32_of (kyB_nn hka), ck_tr, vl_s]
                    exact v1
      · rw [decide_eq_false eh, if_pos (by decide), ox_r]
        refine mkI hI hC (c := 1) (k1 σ) (by omega) (ref 1 (by omega) (by omega) ?_)
        unfold fX8_addShape
        rw [vl_s, m_isUser hz, usd _ e, ob_s, if_neg (by decide), mw _ _ hw, decide_eq_true ew, ob_s, if_neg (by decide), mw _ _ hh, decide_eq_false eh, ob_s, if_pos (by decide), m_fails, o2_s]
        rfl
    · rw [decide_eq_false ew, if_pos (by decide), ox_r]
      refine mkI hI hC (c := 1) (k1 σ) (by omega) (ref 1 (by omega) (by omega) ?_)
      unfold fX8_addShape
      rw [vl_s, m_isUser hz, usd _ e, ob_s, if_neg (by decide), mw _ _ hw, decide_eq_false ew, ob_s, if_pos (by decide), m_fails, o2_s]
      rfl
end S10
