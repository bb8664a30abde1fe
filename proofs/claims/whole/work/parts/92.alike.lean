/-! Questions on both sides: areAlike. -/
section S14
variable {A : Ab} {N : Nat} {σ : St}
theorem nz_p : fX7_isNegativeZero N σ 0 = some (bi false) := by
  unfold fX7_isNegativeZero
  rw [if_pos (by decide +kernel), show nn32 (FP.fdiv 1065353216 0) = true by decide +kernel, ck_tr, if_pos (by decide +kernel)]
  rfl
theorem nz_n : fX7_isNegativeZero N σ 2147483648 = some (bi true) := by
  unfold fX7_isNegativeZero
  rw [if_pos (by decide +kernel), show nn32 (FP.fdiv 1065353216 2147483648) = true by decide +kernel, ck_tr, if_neg (by decide +kernel)]
  rfl
theorem fk_0 : fk 0 = 0 := by decide
theorem f_isNegZero {a : UInt32} (ha : kyB a) : fX7_isNegativeZero N σ a = some (bi (a == 2147483648)) := by
  by_cases e : fk a = fk 0
  · rcases fk_same e with h | ⟨h | h, _⟩
    · rw [h, nz_p]; rfl
    · rw [h, nz_p]; rfl
    · rw [h, nz_n]; rfl
  · unfold fX7_isNegativeZero
    have c1 : (Op.cmpValue (FP.fcmp a 0) CmpOp.l = (0 : Int32)) = (fk a = fk 0) := fk_l_eq ha kyB_0
    rw [if_neg (by rw [c1]; exact e)]
    have : (a == 2147483648) = false := by
      rw [beq_eq_false_iff_ne]
      rintro rfl
      exact e (by decide)
    rw [this]
    rfl
theorem f_isSameValue {a b : UInt32} (ha : kyB a) (hb : kyB b) : fX7_isSameValue N σ a b = some (bi (a == b)) := by
  unfold fX7_isSameValue
  have c1 : (Op.cmpValue (FP.fcmp a b) CmpOp.l = (0 : Int32)) = (fk a = fk b) := fk_l_eq ha hb
  by_cases e : fk a = fk b
  · rw [if_pos (by rw [c1]; exact e), f_isNegZero ha, f_isNegZero hb, ob_s, ob_s]
    rcases fk_same e with h | ⟨h | h, g | g⟩
    · rw [h, if_pos rfl]; simp [bi]
    · rw [h, g]; rfl
    · rw [h, g]; rfl
    · rw [h, g]; rfl
    · rw [h, g]; rfl
  · rw [if_neg (by rw [c1]; exact e)]
    have : (a == b) = false := by
      rw [beq_eq_false_iff_ne]
      rintro rfl
      exact e rfl
    rw [this]
    rfl
theorem vok_bnd {f v : Nat} (h : vok A f v) (hf : ¬ (24 ≤ f ∧ f < 36)) : v < 384 := by
  obtain ⟨h1, h2, h3, h4, h5, h6, h7⟩ := h
  by_cases a1 : f < 12
  · have := h1 a1; omega
  · by_cases a2 : f < 24
    · exact (h2 (by omega) a2).1
    · by_cases a3 : f < 48
      · have := h4 (by omega) a3; omega
      · by_cases a4 : f < 56
        · have := h5 (by omega) a4; omega
        · by_cases a5 : f < 92
          · have := h6 (by omega) a5; omega
          · have := h7 (by omega); omega
theorem cv_kyB {f v : Nat} (h : vok A f v) : kyB (cvF f v) := by
  by_cases e : 24 ≤ f ∧ f < 36
  · rw [cvF_k v e.1 e.2]
    exact (kyB_of (h.2.2.1 e.1 e.2).1).1
  · have hb := vok_bnd h e
    rw [cvF_n v (by omega)]
    have z := zv_i (i := (v : Int)) (by omega)
    have o1 := FP.Core.one32_pos
    refine kz_kyB (m := 384) (by omega) ⟨z.2, ?_, ?_⟩
    · rw [z.1]
      exact Int.mul_le_mul_of_nonneg_right (by omega) (by omega)
    · rw [z.1]
      have q1 : 0 ≤ (v : Int) * (FP.Core.one32 : Int) := Int.mul_nonneg (by omega) (by omega)
      have q2 : 0 ≤ ((384 : Nat) : Int) * (FP.Core.one32 : Int) := Int.mul_nonneg (by omega) (by omega)
      omega
theorem cv_inj {f v w : Nat} (h : vok A f v) (g : vok A f w) (e : cvF f v = cvF f w) : v = w := by
  by_cases q : 24 ≤ f ∧ f < 36
  · rw [cvF_k v q.1 q.2, cvF_k w q.1 q.2] at e
    have h1 := (kyB_of (h.2.2.1 q.1 q.2).1).2
    have h2 := (kyB_of (g.2.2.1 q.1 q.2).1).2
    rw [← h1, ← h2, e]
  · have hv := vok_bnd h q
    have hw := vok_bnd g q
    rw [cvF_n v (by omega), cvF_n w (by omega)] at e
    have h1 := f2i_cv (v := v) (by omega)
    have h2 := f2i_cv (v := w) (by omega)
    rw [e, h2] at h1
    have := (ij_eq (a := (w : Int)) (b := (v : Int)) (by omega) (by omega) (by omega) (by omega)) ▸ h1
    omega
theorem mv_inj {f v w : Nat} (h : vok A f v) (g : vok A f w) (e : mvI f v = mvI f w) : v = w := by
  by_cases q : 24 ≤ f ∧ f < 36
  · rw [mvI_ky v q.1 q.2, mvI_ky w q.1 q.2] at e
    have h1 := (kyB_of (h.2.2.1 q.1 q.2).1).2
    have h2 := (kyB_of (g.2.2.1 q.1 q.2).1).2
    have e2 : UInt32.ofNat v = UInt32.ofNat w := by
      have := congrArg Int32.toUInt32 e
      simpa using this
    rw [← h1, ← h2, e2]
  · have hv := vok_bnd h q
    have hw := vok_bnd g q
    by_cases q1 : 12 ≤ f ∧ f < 24
    · rw [mvI_pl v q1.1 q1.2, mvI_pl w q1.1 q1.2, ij_eq (by omega) (by omega) (by omega) (by omega)] at e
      omega
    · by_cases q2 : 36 ≤ f ∧ f < 48
      · rw [mvI_lk v q2.1 q2.2, mvI_lk w q2.1 q2.2, ij_eq (by omega) (by omega) (by omega) (by omega)] at e
        omega
      · rw [mvI_n v (by omega), mvI_n w (by omega), ij_eq (by omega) (by omega) (by omega) (by omega)] at e
        omega
/-- where two boards differ first -/
def dfr (β γ : Nat → Nat) : Nat → Bool := fun f => decide (β f ≠ γ f)
theorem f_hasSame {u w : Nat} (h : VW A (bv A (kn A u)) u σ) (g : VW A (bv A (kn A w)) w σ) (hN : 1000 ≤ N) : fX0_hasSameValues N σ u w = if ff (dfr (bv A (kn A u)) (bv A (kn A w))) 93 0 = -1 then some 1 else some 0 := by
  unfold fX0_hasSameValues
  refine lp_ff (fun n j => fX0_hasSameValues_L2 (fun _ => (some (1 : Int32))) N σ u w n (ij j)) _ (fun z : Int => if z = -1 then some (1 : Int32) else some 0) (b := 93) (fun n j hj => ?_) (fun n => ?_) N (by omega)
  · have a := h.2.1 j hj
    have b := g.2.1 j hj
    have va := h.2.2.1 j hj
    have vb := g.2.2.1 j hj
    simp only [fX0_hasSameValues_L2]
    simp (disch := omega) only [ij_l0, ij_l1, ij_l2, ij_l3, ij_l4, ij_l5, ij_l6, ij_l8, ij_l12, ij_l16, ij_l19, ij_l23, ij_l24, ij_l31, ij_l32, ij_l36, ij_l47, ij_l48, ij_l56, ij_l92, ij_l93, ij_l98, ij_l108, ij_l114, ij_l116, ij_l127, ij_l128, ij_l149, ij_l250, ij_l384, ij_l768, ij_l1000, ij_l1536, ij_l3000, ij_l1000000, ij_l1000003, ij_l1000000000, ij_neg, ij_add, ij_sub, ij_mul, ij_lt, ij_le, ij_eq, ij_nat, tn_nat, tn_12, tn_24, tn_36, tn_48, ck_in, ob_s, o2_s, vl_s, ox_l, ox_r, ck_tr, if_pos, if_neg, a, b]
    rw [f_isSameValue (cv_kyB va) (cv_kyB vb), ob_s]
    by_cases e : bv A (kn A u) j = bv A (kn A w) j
    · have e1 : (cvF j (bv A (kn A u) j) == cvF j (bv A (kn A w) j)) = true := by rw [e]; simp
      have e2 : dfr (bv A (kn A u)) (bv A (kn A w)) j = false := by unfold dfr; simp [e]
      rw [e1, e2, if_neg (by decide), if_neg (by decide)]
      rfl
    · have e1 : (cvF j (bv A (kn A u) j) == cvF j (bv A (kn A w) j)) = false := by
        rw [beq_eq_false_iff_ne]
        exact fun q => e (cv_inj va vb q)
      have e2 : dfr (bv A (kn A u)) (bv A (kn A w)) j = true := by unfold dfr; simp [e]
      rw [e1, e2, if_pos (by decide), if_pos rfl]
  · simp only [fX0_hasSameValues_L2]
    simp (disch := omega) only [ij_l0, ij_l1, ij_l2, ij_l3, ij_l4, ij_l5, ij_l6, ij_l8, ij_l12, ij_l16, ij_l19, ij_l23, ij_l24, ij_l31, ij_l32, ij_l36, ij_l47, ij_l48, ij_l56, ij_l92, ij_l93, ij_l98, ij_l108, ij_l114, ij_l116, ij_l127, ij_l128, ij_l149, ij_l250, ij_l384, ij_l768, ij_l1000, ij_l1536, ij_l3000, ij_l1000000, ij_l1000003, ij_l1000000000, ij_neg, ij_add, ij_sub, ij_mul, ij_lt, ij_le, ij_eq, ij_nat, tn_nat, tn_12, tn_24, tn_36, tn_48, ck_in, ob_s, o2_s, vl_s, ox_l, ox_r, ck_tr, if_pos, if_neg]
    rfl
def T173 : Nat → Nat → Bool := fun c q => c == 173 && q == 0
theorem Un_sN (σ : St) : Un T173 σ (sN σ) := by
  refine ⟨fun c o e => ⟨?_, rfl⟩, rfl, fun _ => rfl⟩
  have : ¬ (c = 173 ∧ o = 0) := by
    rintro ⟨rfl, rfl⟩
    unfold T173 at e
    simp at e
  exact if_neg this
theorem MR_173 {σ τ : St} (hM : MR A σ) (hU : Un T173 σ τ) : MR A τ := by
  obtain ⟨m1, m2, m3⟩ := hM
  have h8 : gI τ 8 0 = gI σ 8 0 := hU.I 8 0 rfl
  exact ⟨PtM_cg m1 (by rw [h8]) (by rw [h8]) (fun c h1 h2 => hU.I c 0 (by unfold T173; simp; omega)), LgM_cg m2 (by rw [h8]) (fun c q hc => hU.I c q (by unfold T173; simp; omega)), by rw [h8]; exact m3⟩
theorem m_build2 (hI : Inv0 A) (hM : MR A σ) (hN : 1000 ≤ N) {u : Nat} (hu : u < 3) : ∃ τ, fX8_builds N σ (ij u) = some τ ∧ MB A u τ ∧ Un Tn σ τ := by
  obtain ⟨τ, t1, t2, _⟩ := m_build (N := N) hI hM hN hu
  obtain ⟨τ', s1, _, s3⟩ := m_builds (N := N) hM.2.1 hI.1 hN hu
  rw [t1] at s1
  injection s1 with s1
  exact ⟨τ, t1, t2, s1 ▸ s3⟩
theorem m_copy (hN : 1000 ≤ N) {m : Nat → Int32} (hm : ∀ f, f < 93 → gI σ 157 0 f = m f) (K : St → Option (Int32 × St)) : ∃ τ, fX8_areAlike_L38 (fun _ s => K s) N N (ij 0) σ = K τ ∧ Un T173 σ τ ∧ ∀ f, f < 93 → gI τ 173 0 f = m f := by
  obtain ⟨τ, e, hU, hP⟩ := lp_st (fun n j τ => fX8_areAlike_L38 (fun _ s => K s) N n (ij j) τ) (fun j τ => Un T173 σ τ ∧ ∀ f, f < j → gI τ 173 0 f = m f) (Nat.zero_le 93) (fun n j τ _ hj hP => by
      obtain ⟨hU, hP⟩ := hP
      refine ⟨sI τ 173 0 j (gI τ 157 0 j), ?_, hU.tr (Un.sI _ _ _ rfl), fun f hf => ?_⟩
      · simp only [fX8_areAlike_L38]
        simp (disch := omega) only [ij_l0, ij_l1, ij_l2, ij_l3, ij_l4, ij_l5, ij_l6, ij_l8, ij_l12, ij_l16, ij_l19, ij_l23, ij_l24, ij_l31, ij_l32, ij_l36, ij_l47, ij_l48, ij_l56, ij_l92, ij_l93, ij_l98, ij_l108, ij_l114, ij_l116, ij_l127, ij_l128, ij_l149, ij_l250, ij_l384, ij_l768, ij_l1000, ij_l1536, ij_l3000, ij_l1000000, ij_l1000003, ij_l1000000000, ij_neg, ij_add, ij_sub, ij_mul, ij_lt, ij_le, ij_eq, ij_nat, tn_nat, tn_12, tn_24, tn_36, tn_48, ck_in, ob_s, o2_s, vl_s, ox_l, ox_r, ck_tr, if_pos, if_neg]
        rfl
      · rw [gI_sI_eq]
        by_cases e : f = j
        · rw [if_pos e, e, hU.I 157 0 rfl]
          exact hm j hj
        · rw [if_neg e]
          exact hP f (by omega)) N σ (by omega) ⟨Un.rfl, fun f hf => by omega⟩
  refine ⟨τ, ?_, hU, hP⟩
  refine Eq.trans e ?_
  have e2 : N - (93 - 0) = (N - 93 - 1) + 1 := by omega
  show fX8_areAlike_L38 _ N (N - (93 - 0)) _ τ = _
  rw [e2]
  simp only [fX8_areAlike_L38]
  simp (disch := omega) only [ij_l0, ij_l1, ij_l2, ij_l3, ij_l4, ij_l5, ij_l6, ij_l8, ij_l12, ij_l16, ij_l19, ij_l23, ij_l24, ij_l31, ij_l32, ij_l36, ij_l47, ij_l48, ij_l56, ij_l92, ij_l93, ij_l98, ij_l108, ij_l114, ij_l116, ij_l127, ij_l128, ij_l149, ij_l250, ij_l384, ij_l768, ij_l1000, ij_l1536, ij_l3000, ij_l1000000, ij_l1000003, ij_l1000000000, ij_neg, ij_add, ij_sub, ij_mul, ij_lt, ij_le, ij_eq, ij_nat, tn_nat, tn_12, tn_24, tn_36, tn_48, ck_in, ob_s, o2_s, vl_s, ox_l, ox_r, ck_tr, if_pos, if_neg]
theorem p_areAlike (h : Inv A σ) (hN : 1000000 ≤ N) (x1 x2 : Int32) : PairB (fL_areAlike N σ x1 x2) (fun τ => fX8_areAlike N τ x1 x2) := by
  obtain ⟨hI, hC, hM⟩ := h
  obtain ⟨x, rfl, hx⟩ := rg_ex x1
  obtain ⟨y, rfl, hy⟩ := rg_ex x2
  have k1 : H1 (fun E5 σ3 => (if E5 = "java/lang/IllegalArgumentException" then (some ((1 : Int32), σ3)) else none)) := fun σ => by simp [EI]
  unfold fL_areAlike fX7_areAlike
  rw [c_user hx]
  cases e : usz x with
  | false =>
    simp only [Bool.false_eq_true, if_false, ox_r]
    refine mkB hI hC (c := 1) (k1 σ) (by omega) ⟨false, sI (sI σ 8 0 0 (ij 0)) 8 0 0 (ij 1), ?_, MR_thr (MR_thr hM _) _, (Un_thr _ _).tr (Un_thr _ _), thr_thr _ _, fun q => by omega⟩
    unfold fX8_areAlike
    rw [vl_s, m_isUser hx, usd _ e, ob_s, if_pos (by decide), m_wrong, o2_s]
    rfl
  | true =>
    simp only [if_true, ox_l]
    rw [c_user hy]
    cases e2 : usz y with
    | false =>
      simp only [Bool.false_eq_true, if_false, ox_r]
      refine mkB hI hC (c := 1) (k1 σ) (by omega) ⟨false, sI (sI σ 8 0 0 (ij 0)) 8 0 0 (ij 1), ?_, MR_thr (MR_thr hM _) _, (Un_thr _ _).tr (Un_thr _ _), thr_thr _ _, fun q => by omega⟩
      unfold fX8_areAlike
      rw [vl_s, m_isUser hx, usd _ e, ob_s, if_neg (by decide), m_isUser hy, usd _ e2, ob_s, if_pos (by decide), m_wrong, o2_s]
      rfl
    | true =>
      obtain ⟨u, rfl, hu⟩ := usz_nat e
      obtain ⟨w, rfl, hw⟩ := usz_nat e2
      simp only [if_true, ox_l, tn_nat]
      have hV := CR_VW hI hu hC
      have hV2 := CR_VW hI hw hC
      obtain ⟨z, hzd⟩ : ∃ z : Int, z = ff (dfr (bv A (kn A u)) (bv A (kn A w))) 93 0 := ⟨_, rfl⟩
      have hmd : ∀ σ', MR A σ' → ∃ τ, fX8_areAlike N σ' (ij u) (ij w) = some (bi (decide (z = -1)), τ) ∧ MR A τ ∧ Un Tm σ' τ ∧ gI τ 8 0 0 = ij 0 := by
        intro σ' hM'
        have hM0 := MR_thr hM' (ij 0)
        obtain ⟨τ1, t1, t2, t3⟩ := m_build2 (N := N) hI hM0 (by omega) hu
        have hs1 : MR A (sN τ1) := MR_173 t2.1 (Un_sN τ1)
        have h157 : ∀ f, f < 93 → gI (sN τ1) 157 0 f = mvI f (bv A (kn A u) f) := fun f hf => by
          rw [(Un_sN τ1).I 157 0 rfl]
          exact (t2.2 f hf).2.2.1
        obtain ⟨τ2, s1, s2, s3⟩ := m_copy (N := N) (by omega) h157 (fun σ13 => (ob (fX8_builds N σ13 (ij w)) fun σ14 => (fX8_areAlike_L70 (fun _ => (some ((1 : Int32), σ14))) N σ14 N (0 : Int32))))
        have hs2 := MR_173 hs1 s2
        obtain ⟨τ3, r1, r2, r3⟩ := m_build2 (N := N) hI hs2 (by omega) hw
        have h173 : ∀ f, f < 93 → gI τ3 173 0 f = mvI f (bv A (kn A u) f) := fun f hf => by
          rw [r3.I 173 0 rfl]
          exact s3 f hf
        have hcm : fX8_areAlike_L70 (fun _ => (some ((1 : Int32), τ3))) N τ3 N (0 : Int32) = if z = -1 then some ((1 : Int32), τ3) else some (0, τ3) := by
          rw [hzd]
          refine lp_ff (fun n j => fX8_areAlike_L70 (fun _ => (some ((1 : Int32), τ3))) N τ3 n (ij j)) _ (fun z : Int => if z = -1 then some ((1 : Int32), τ3) else some (0, τ3)) (b := 93) (fun n j hj => ?_) (fun n => ?_) N (by omega)
          · have a := h173 j hj
            have b := (r2.2 j hj).2.2.1
            have va := hV.2.2.1 j hj
            have vb := hV2.2.2.1 j hj
            simp only [fX8_areAlike_L70]
            simp (disch := omega) only [ij_l0, ij_l1, ij_l2, ij_l3, ij_l4, ij_l5, ij_l6, ij_l8, ij_l12, ij_l16, ij_l19, ij_l23, ij_l24, ij_l31, ij_l32, ij_l36, ij_l47, ij_l48, ij_l56, ij_l92, ij_l93, ij_l98, ij_l108, ij_l114, ij_l116, ij_l127, ij_l128, ij_l149, ij_l250, ij_l384, ij_l768, ij_l1000, ij_l1536, ij_l3000, ij_l1000000, ij_l1000003, ij_l1000000000, ij_neg, ij_add, ij_sub, ij_mul, ij_lt, ij_le, ij_eq, ij_nat, tn_nat, tn_12, tn_24, tn_36, tn_48, ck_in, ob_s, o2_s, vl_s, ox_l, ox_r, ck_tr, if_pos, if_neg, a, b]
            by_cases g : bv A (kn A u) j = bv A (kn A w) j
            · have g2 : dfr (bv A (kn A u)) (bv A (kn A w)) j = false := by unfold dfr; simp [g]
              rw [g2, if_pos (by rw [g]), if_neg (by decide)]
              rfl
            · have g2 : dfr (bv A (kn A u)) (bv A (kn A w)) j = true := by unfold dfr; simp [g]
              rw [g2, if_neg (fun q => g (mv_inj va vb q)), if_pos rfl]
          · simp only [fX8_areAlike_L70]
            simp (disch := omega) only [ij_l0, ij_l1, ij_l2, ij_l3, ij_l4, ij_l5, ij_l6, ij_l8, ij_l12, ij_l16, ij_l19, ij_l23, ij_l24, ij_l31, ij_l32, ij_l36, ij_l47, ij_l48, ij_l56, ij_l92, ij_l93, ij_l98, ij_l108, ij_l114, ij_l116, ij_l127, ij_l128, ij_l149, ij_l250, ij_l384, ij_l768, ij_l1000, ij_l1536, ij_l3000, ij_l1000000, ij_l1000003, ij_l1000000000, ij_neg, ij_add, ij_sub, ij_mul, ij_lt, ij_le, ij_eq, ij_nat, tn_nat, tn_12, tn_24, tn_36, tn_48, ck_in, ob_s, o2_s, vl_s, ox_l, ox_r, ck_tr, if_pos, if_neg]
            rfl
        have nTm : ∀ {σ τ : St}, Un T173 σ τ → Un Tm σ τ := fun h => h.mono (fun c o q => by unfold Tm at q; unfold T173; simp at q ⊢; omega)
        have nTn : ∀ {σ τ : St}, Un Tn σ τ → Un Tm σ τ := fun h => h.mono (fun c o q => by unfold Tm at q; unfold Tn; simp at q ⊢; omega)
        refine ⟨τ3, ?_, r2.1, ((((Un_thr _ _).tr (nTn t3)).tr (nTm (Un_sN τ1))).tr (nTm s2)).tr (nTn r3), ?_⟩
        · have t1' : fX8_builds N (sI σ' 8 0 0 (0 : Int32)) (ij u) = some τ1 := t1
          unfold fX8_areAlike
          rw [vl_s, m_isUser hx, usd _ e, ob_s, if_neg (by decide), m_isUser hy, usd _ e2, ob_s, if_neg (by decide), t1', ob_s, vl_s]
          refine Eq.trans s1 ?_
          rw [r1, ob_s, hcm]
          by_cases q : z = -1
          · rw [if_pos q, decide_eq_true q]; rfl
          · rw [if_neg q, decide_eq_false q]; rfl
        · rw [r3.I 8 0 rfl, s2.I 8 0 rfl, (Un_sN τ1).I 8 0 rfl, t3.I 8 0 rfl]
          exact thr_thr _ _
      rw [f_hasSame hV hV2 (by omega), ← hzd]
      by_cases q : z = -1
      · obtain ⟨τ, m1, m2, m3, m4⟩ := hmd (sJ σ 0 1) (MR_J hM)
        rw [decide_eq_true q] at m1
        refine mkB hI (CR_J (σ := σ) (v := 1) hC) (c := 0) ?_ (by omega) ⟨true, τ, m1, m2, m3, m4, fun _ => gJ_sJ _ _⟩
        rw [if_pos q, ob_s, ox_l, show vp_nar .boolean (1 : Int32) = 1 from rfl, if_neg (by decide), vl_s]
        rfl
      · obtain ⟨τ, m1, m2, m3, m4⟩ := hmd (sJ σ 0 0) (MR_J hM)
        rw [decide_eq_false q] at m1
        refine mkB hI (CR_J (σ := σ) (v := 0) hC) (c := 0) ?_ (by omega) ⟨false, τ, m1, m2, m3, m4, fun _ => gJ_sJ _ _⟩
        rw [if_neg q, ob_s, ox_l, show vp_nar .boolean (0 : Int32) = 0 from rfl, if_pos rfl, vl_s]
        rfl
end S14
