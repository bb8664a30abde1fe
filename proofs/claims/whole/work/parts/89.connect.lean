/-! Steps on both sides: connect. -/
def SD (d : Nat) : Prop := d = 116 ∨ d = 98 ∨ d = 108 ∨ d = 114
section S11
variable {A : Ab} {N : Nat} {σ : St} {a b sd se : Nat}
theorem sd_ex (x : Int32) : ((∀ (N : Nat) (σ : St), fX7_isSideName N σ x = some 1) ∧ (∀ (N : Nat) (σ : St), fX8_isSide N σ x = some 1) ∧ ∃ d : Nat, x = ij d ∧ SD d ∧ vp_nar .char (ij d) = ij d) ∨ ((∀ (N : Nat) (σ : St), fX7_isSideName N σ x = some 0) ∧ ∀ (N : Nat) (σ : St), fX8_isSide N σ x = some 0) := by
  unfold fX7_isSideName fX8_isSide
  by_cases e1 : x = 116
  · refine Or.inl ⟨fun _ _ => by rw [if_pos e1], fun _ _ => by rw [if_pos e1], 116, e1, Or.inl rfl, (rfl)⟩
  · by_cases e2 : x = 98
    · refine Or.inl ⟨fun _ _ => by rw [if_neg e1, if_pos e2], fun _ _ => by rw [if_neg e1, if_pos e2], 98, e2, Or.inr (Or.inl rfl), (rfl)⟩
    · by_cases e3 : x = 108
      · refine Or.inl ⟨fun _ _ => by rw [if_neg e1, if_neg e2, if_pos e3], fun _ _ => by rw [if_neg e1, if_neg e2, if_pos e3], 108, e3, Or.inr (Or.inr (Or.inl rfl)), (rfl)⟩
      · by_cases e4 : x = 114
        · refine Or.inl ⟨fun _ _ => by rw [if_neg e1, if_neg e2, if_neg e3, if_pos e4], fun _ _ => by rw [if_neg e1, if_neg e2, if_neg e3, if_pos e4], 114, e4, Or.inr (Or.inr (Or.inr rfl)), (rfl)⟩
        · exact Or.inr ⟨fun _ _ => by rw [if_neg e1, if_neg e2, if_neg e3, if_neg e4], fun _ _ => by rw [if_neg e1, if_neg e2, if_neg e3, if_neg e4]⟩
theorem cnA_Cn : aCn (cnA A a b sd se) = aCn A + 1 := rfl
theorem cnA_One (c : Nat) : aOne (cnA A a b sd se) c = if c = aCn A then a else aOne A c := by simp [aOne, cnA]
theorem cnA_Oth (c : Nat) : aOth (cnA A a b sd se) c = if c = aCn A then b else aOth A c := by simp [aOth, cnA]
theorem cnA_Sd (c : Nat) : aSd (cnA A a b sd se) c = if c = aCn A then sd else aSd A c := by simp [aSd, cnA]
theorem cnA_Se (c : Nat) : aSe (cnA A a b sd se) c = if c = aCn A then se else aSe A c := by simp [aSe, cnA]
theorem Inv0_cn (hI : Inv0 A) (hs : aCn A < 8) (ha : a < aSh A) (hb : b < aSh A) (hab : a ≠ b) (h1 : SD sd) (h2 : SD se) : Inv0 (cnA A a b sd se) := by
  obtain ⟨hO, hS, hK⟩ := hI
  refine ⟨hO, ⟨hS.1, by rw [cnA_Cn]; omega, hS.2.2.1, fun c hc => ?_⟩, hK⟩
  rw [cnA_Cn] at hc
  rw [cnA_One, cnA_Oth, cnA_Sd, cnA_Se]
  by_cases e : c = aCn A
  · rw [if_pos e, if_pos e, if_pos e, if_pos e]
    exact ⟨ha, hb, hab, h1, h2⟩
  · rw [if_neg e, if_neg e, if_neg e, if_neg e]
    exact hS.2.2.2 c (by omega)
theorem CR_cn (hC : CR A σ) {τ : St} (hP : PtC (cnA A a b sd se) τ) (hU : Un (fun c q => (c == 2 || c == 114 || c == 115 || c == 116 || c == 117) && q == 0) σ τ) : CR (cnA A a b sd se) τ := by
  obtain ⟨h1, h2, h3, h4, h5⟩ := hC
  refine ⟨hP, ?_, ?_, fun v hv => ⟨?_, ?_⟩, ?_⟩
  · rw [LgC_same (cnA_same A a b sd se) rfl rfl rfl]
    exact LgC_cg h2 (fun c hc => ⟨hU.I c 0 (by simp; omega), hU.F c 0 (by simp; omega)⟩)
  · exact TmC_cg (A := A) h3 (hU.I 105 0 rfl)
  · have hm : ∀ m, mxk (cnA A a b sd se) v m = mxk A v m := by
      intro m
      induction m with
      | zero => rfl
      | succ m ih => simp only [mxk]; rw [ih]; rfl
    have q : UsC A v τ := UsC_cg (h4 v hv).1 (hU.I 4 v (by simp)) (hU.I 123 v (by simp))
    unfold UsC at q ⊢
    rw [hm]
    exact q
  · rw [(cnA_same A a b sd se).bd]
    exact BdC_cg (h4 v hv).2 (hU.F 120 v (by simp)) (hU.I 121 v (by simp)) (hU.I 122 v (by simp))
  · exact RfC_cg h5 (hU.2.2 rfl)
theorem f_makeConn (hC : CR A σ) (hs : aCn A < 8) (n1 : vp_nar .char (ij sd) = ij sd) (n2 : vp_nar .char (ij se) = ij se) : ∃ τ, fX2_makeConnector N σ (ij a) (ij sd) (ij b) (ij se) = some (ij (aCn A), τ) ∧ CR (cnA A a b sd se) τ ∧ Un Tc σ τ := by
  have h8 := hC.1.2.1
  unfold fX2_makeConnector
  rw [h8]
  simp (disch := omega) only [ij_l0, ij_l1, ij_l2, ij_l3, ij_l4, ij_l5, ij_l6, ij_l8, ij_l12, ij_l16, ij_l19, ij_l23, ij_l24, ij_l31, ij_l32, ij_l36, ij_l47, ij_l48, ij_l56, ij_l92, ij_l93, ij_l98, ij_l108, ij_l114, ij_l116, ij_l127, ij_l128, ij_l149, ij_l250, ij_l384, ij_l768, ij_l1000, ij_l1536, ij_l3000, ij_l1000000, ij_l1000003, ij_l1000000000, ij_neg, ij_add, ij_sub, ij_mul, ij_lt, ij_le, ij_eq, ij_nat, tn_nat, tn_12, tn_24, tn_36, tn_48, ck_in, ob_s, o2_s, vl_s, ox_l, ox_r, ck_tr, if_pos, if_neg, n1, n2, h8, gI_sI_ne]
  obtain ⟨τ, hτ⟩ : ∃ τ, τ = sI (sI (sI (sI (sI σ 114 0 (aCn A) (ij a)) 116 0 (aCn A) (ij sd)) 115 0 (aCn A) (ij b)) 117 0 (aCn A) (ij se)) 2 0 8 (ij ((aCn A : Int) + 1)) := ⟨_, rfl⟩
  have hU : Un (fun c q => (c == 2 || c == 114 || c == 115 || c == 116 || c == 117) && q == 0) σ τ := by
    rw [hτ]
    exact ((((Un.sI _ _ _ rfl).tr (Un.sI _ _ _ rfl)).tr (Un.sI _ _ _ rfl)).tr (Un.sI _ _ _ rfl)).tr (Un.sI _ _ _ rfl)
  refine ⟨τ, by rw [hτ], CR_cn hC ?_ hU, hU.mono (fun c o e => by unfold Tc at e; simp at e ⊢; omega)⟩
  obtain ⟨p1, p2, p3, p4⟩ := hC.1
  refine ⟨?_, ?_, fun s hs1 hs2 => ?_, fun c hc1 hc2 => ?_⟩
  · rw [hτ, gI_sI_eq, if_neg (by omega), gI_sI_ne (by omega), gI_sI_ne (by omega), gI_sI_ne (by omega), gI_sI_ne (by omega)]
    exact p1
  · rw [hτ, gI_sI_eq, if_pos rfl]
    rfl
  · rw [hτ]
    simp (disch := omega) only [gI_sI_ne]
    exact p3 s hs1 hs2
  · rw [cnA_One, cnA_Oth, cnA_Sd, cnA_Se, hτ]
    rw [cnA_Cn] at hc2
    simp (disch := omega) only [gI_sI_ne, gI_sI_eq]
    by_cases e : c = aCn A
    · simp only [e, if_true]
      exact ⟨trivial, trivial, trivial, trivial⟩
    · simp only [e, if_false]
      exact p4 c hc1 (by omega)
theorem m_conTail (hI : Inv0 A) (hN : 1000000 ≤ N) (hn : aN A < 250) {u : Nat} (hu : u < 3) (hB : MB A u σ) (hs : aCn A < 8) (ha : a < aSh A) (hb : b < aSh A) (hab : a ≠ b) (h1 : SD sd) (h2 : SD se) (n1 : vp_nar .char (ij sd) = ij sd) (n2 : vp_nar .char (ij se) = ij se) :
    ∃ τ, (ck (inb (gI σ 8 0 9) 8) (vl (sI σ 142 0 (Int32.toNatClampNeg (gI σ 8 0 9)) (ij a)) fun σ18 => (ck (inb (gI σ18 8 0 9) 8) (vl (sI σ18 143 0 (Int32.toNatClampNeg (gI σ18 8 0 9)) (ij b)) fun σ19 => (ck (inb (gI σ19 8 0 9) 8) (vl (sI σ19 145 0 (Int32.toNatClampNeg (gI σ19 8 0 9)) (vp_nar .char (ij sd))) fun σ20 => (ck (inb (gI σ20 8 0 9) 8) (vl (sI σ20 146 0 (Int32.toNatClampNeg (gI σ20 8 0 9)) (vp_nar .char (ij se))) fun σ21 => (ob (fX8_plans N σ21 ((48 : Int32) + (gI σ21 8 0 9)) (1 : Int32)) fun σ22 => (vl (sI σ22 8 0 9 ((gI σ22 8 0 9) + (1 : Int32))) fun σ23 => (ob (fX8_makes N σ23 (ij u) (1 : Int32)) fun σ24 => (some (((gI σ24 8 0 9) - (1 : Int32)), σ24))))))))))))) = some (ij (aCn A), τ) ∧ MR (st1 (cnA A a b sd se) u (48 + aCn A) 1) τ ∧ Un Tm σ τ ∧ gI τ 8 0 0 = gI σ 8 0 0 := by
  obtain ⟨hM, hBd⟩ := hB
  have h8 := hM.1.2.1
  simp (disch := omega) only [ij_l0, ij_l1, ij_l2, ij_l3, ij_l4, ij_l5, ij_l6, ij_l8, ij_l12, ij_l16, ij_l19, ij_l23, ij_l24, ij_l31, ij_l32, ij_l36, ij_l47, ij_l48, ij_l56, ij_l92, ij_l93, ij_l98, ij_l108, ij_l114, ij_l116, ij_l127, ij_l128, ij_l149, ij_l250, ij_l384, ij_l768, ij_l1000, ij_l1536, ij_l3000, ij_l1000000, ij_l1000003, ij_l1000000000, ij_neg, ij_add, ij_sub, ij_mul, ij_lt, ij_le, ij_eq, ij_nat, tn_nat, tn_12, tn_24, tn_36, tn_48, ck_in, ob_s, o2_s, vl_s, ox_l, ox_r, ck_tr, if_pos, if_neg, h8, gI_sI_ne, n1, n2]
  obtain ⟨σ1, hσ1⟩ : ∃ σ1, σ1 = sI (sI (sI (sI σ 142 0 (aCn A) (ij a)) 143 0 (aCn A) (ij b)) 145 0 (aCn A) (ij sd)) 146 0 (aCn A) (ij se) := ⟨_, rfl⟩
  rw [← hσ1]
  have g1 : ∀ c q z, c ≠ 142 → c ≠ 143 → c ≠ 145 → c ≠ 146 → gI σ1 c q z = gI σ c q z := fun c q z z1 z2 z3 z4 => by rw [hσ1, gI_sI_ne z4, gI_sI_ne z3, gI_sI_ne z2, gI_sI_ne z1]
  have u1 : Un Tm σ σ1 := by
    rw [hσ1]
    exact (((Un.sI _ _ _ rfl).tr (Un.sI _ _ _ rfl)).tr (Un.sI _ _ _ rfl)).tr (Un.sI _ _ _ rfl)
  have hIB := Inv0_cn hI hs ha hb hab h1 h2
  have hP1 : PL (cnA A a b sd se) u [] σ1 := ⟨by rw [g1 _ _ _ (by omega) (by omega) (by omega) (by omega)]; exact hM.2.2, fun k hk => by simp at hk⟩
  have h20 : gI σ1 8 0 20 = ij (aN (cnA A a b sd se)) := by rw [g1 _ _ _ (by omega) (by omega) (by omega) (by omega)]; exact hM.2.1.1
  have h88 : gI σ1 8 0 9 = ij (aCn A) := by rw [g1 _ _ _ (by omega) (by omega) (by omega) (by omega)]; exact h8
  obtain ⟨τ1, a1, a2, a3, a4⟩ := m_plans (N := N) hP1 h20 (by simp) (f := 48 + aCn A) (v := 1) (by omega) (x := ij 1) (mvI_n 1 (by omega)).symm
  have e8a : gI τ1 8 0 9 = ij (aCn A) := (a4 9 (by omega)).trans h88
  obtain ⟨σ2, hσ2⟩ : ∃ σ2, σ2 = sI τ1 8 0 9 (ij ((aCn A : Int) + 1)) := ⟨_, rfl⟩
  have g2 : ∀ c q z, c ≠ 8 → gI σ2 c q z = gI τ1 c q z := fun c q z z1 => by rw [hσ2, gI_sI_ne z1]
  have g28 : ∀ z, z ≠ 9 → gI σ2 8 0 z = gI τ1 8 0 z := fun z hz => by rw [hσ2, gI_sI_eq, if_neg hz]
  have gp : ∀ c, 140 ≤ c → c ≤ 165 → ∀ q, gI σ2 c q = gI σ1 c q := fun c c1 c2 q => by
    have : gI τ1 c q = gI σ1 c q := a3.I c q (by unfold Tp; simp; omega)
    funext z
    rw [g2 _ _ _ (by omega), this]
  have hPt : PtM (cnA A a b sd se) σ2 := by
    obtain ⟨p1, p2, p3, p4⟩ := hM.1
    refine ⟨?_, ?_, fun s hs1 hs2 => ?_, fun c hc1 hc2 => ?_⟩
    · rw [g28 8 (by omega), a4 8 (by omega), g1 _ _ _ (by omega) (by omega) (by omega) (by omega)]; exact p1
    · rw [hσ2, gI_sI_eq, if_pos rfl]; rfl
    · rw [gp 140 (by omega) (by omega), gp 141 (by omega) (by omega), gp 144 (by omega) (by omega)]
      simp (disch := omega) only [g1]
      exact p3 s hs1 hs2
    · rw [cnA_One, cnA_Oth, cnA_Sd, cnA_Se, gp 142 (by omega) (by omega), gp 143 (by omega) (by omega), gp 145 (by omega) (by omega), gp 146 (by omega) (by omega), hσ1]
      rw [cnA_Cn] at hc2
      simp (disch := omega) only [gI_sI_ne, gI_sI_eq]
      by_cases e : c = aCn A
      · simp only [e, if_true]
        exact ⟨trivial, trivial, trivial, trivial⟩
      · simp only [e, if_false]
        exact p4 c hc1 (by omega)
  have hLg : LgM (cnA A a b sd se) σ2 := by
    refine LgM_cg (A := A) hM.2.1 ?_ (fun c q hc => ?_)
    · rw [g28 20 (by omega), a4 20 (by omega), g1 _ _ _ (by omega) (by omega) (by omega) (by omega)]
    · rw [gp c (by omega) (by omega)]
      funext z
      exact g1 _ _ _ (by omega) (by omega) (by omega) (by omega)
  have hBd2 : BdM (cnA A a b sd se) (kn (cnA A a b sd se) u) σ2 := by
    rw [(cnA_same A a b sd se).bm]
    refine BdM_cg hBd (fun c h1 h2 => ?_)
    rw [gp c (by omega) (by omega)]
    funext z
    exact g1 _ _ _ (by omega) (by omega) (by omega) (by omega)
  have hPL : PL (cnA A a b sd se) u [(48 + aCn A, 1, aN (cnA A a b sd se) + 1, bv (cnA A a b sd se) (kn (cnA A a b sd se) u) (48 + aCn A), bs (cnA A a b sd se) (kn (cnA A a b sd se) u) (48 + aCn A))] σ2 := by
    unfold PL at a2 ⊢
    rw [g28 27 (by omega)]
    simp (disch := omega) only [g2]
    exact a2
  have hR := rws1 hIB hn (fun f hf => (hBd2 f hf).1) (f := 48 + aCn A) (v := 1) (by omega) (vok_b (Or.inr (Or.inl ⟨by omega, by omega⟩)) (by omega))
  obtain ⟨τ, m1, m2, m3, m4, m5⟩ := m_makes (N := N) hIB hn (by omega) hPt hLg hu (st := 1) (by omega) hBd2 hPL hR
  have u2 : Un Tm τ1 σ2 := by rw [hσ2]; exact Un.sI _ _ _ rfl
  refine ⟨τ, ?_, m2, ((u1.tr (a3.mono (fun c o z => by unfold Tm at z; unfold Tp; simp at z ⊢; omega))).tr u2).tr m4, ?_⟩
  · have m1' : fX8_makes N σ2 (ij u) (ij 1) = some τ := m1
    have h8e : gI τ 8 0 9 = ij ((aCn A : Int) + 1) := m2.1.2.1
    rw [show (48 : Int) + (aCn A : Int) = ((48 + aCn A : Nat) : Int) by omega, a1, ob_s, e8a, ij_add, ← hσ2, m1', ob_s, h8e, ij_sub]
    congr 3
    omega
  · rw [m5, g28 0 (by omega), a4 0 (by omega), g1 _ _ _ (by omega) (by omega) (by omega) (by omega)]
theorem p_connect (h0 : Inv A σ) (hN : 1000000 ≤ N) (x1 x2 x3 x4 x5 : Int32) : PairI (fL_connect N σ x1 x2 x3 x4 x5) (fun τ => fX8_connect N τ x1 x2 x3 x4 x5) := by
  obtain ⟨hI, hC, hM⟩ := h0
  obtain ⟨z, rfl, hz⟩ := rg_ex x1
  obtain ⟨x, rfl, hx⟩ := rg_ex x2
  obtain ⟨y, rfl, hy⟩ := rg_ex x4
  have hn := hI.1.1
  have l8 := hI.2.1.2.1
  obtain ⟨k1, k2, k3⟩ := h123s (H := fun E5 σ3 => (if E5 = "java/lang/IllegalArgumentException" then (some ((1 : Int32), σ3)) else (if E5 = "java/util/NoSuchElementException" then (some ((2 : Int32), σ3)) else (if E5 = "java/lang/IllegalStateException" then (some ((3 : Int32), σ3)) else none)))) rfl
  have ref : ∀ c : Int, 1 ≤ c → c ≤ 9 → fX8_connect N σ (ij z) (ij x) x3 (ij y) x5 = some (ij 0, sI (sI σ 8 0 0 (ij 0)) 8 0 0 (ij c)) → ∃ r τ, fX8_connect N σ (ij z) (ij x) x3 (ij y) x5 = some (r, τ) ∧ MR A τ ∧ Un Tm σ τ ∧ gI τ 8 0 0 = ij c ∧ (c = 0 → gJ σ 0 = Int32.toInt64 r) := fun c c1 c2 e => ⟨_, _, e, MR_thr (MR_thr hM _) _, (Un_thr _ _).tr (Un_thr _ _), thr_thr _ _, fun q => by omega⟩
  have xy : (ij x = ij y) = (x = y) := by
    obtain ⟨x1, x2⟩ := hx
    obtain ⟨y1, y2⟩ := hy
    exact ij_eq (by omega) (by omega) (by omega) (by omega)
  unfold fL_connect fX7_connect
  rw [c_user hz]
  cases e : usz z with
  | false =>
    simp only [Bool.false_eq_true, if_false, ox_r]
    refine mkI hI hC (c := 1) (k1 σ) (by omega) (ref 1 (by omega) (by omega) ?_)
    unfold fX8_connect
    rw [vl_s, m_isUser hz, usd _ e, ob_s, if_pos (by decide), m_fails, o2_s]
    rfl
  | true =>
    obtain ⟨u, rfl, hu⟩ := usz_nat e
    simp only [if_true, tn_nat, ox_l]
    rcases sd_ex x3 with ⟨s1, s2, sd, s3, s4, s5⟩ | ⟨s1, s2⟩
    · rw [s1, ob_s, if_neg (by decide)]
      rcases sd_ex x5 with ⟨e1, e2, se, e3, e4, e5⟩ | ⟨e1, e2⟩
      · rw [e1, ob_s, if_neg (by decide)]
        simp only [xy]
        by_cases exy : x = y
        · rw [if_pos exy, ox_r]
          refine mkI hI hC (c := 1) (k1 σ) (by omega) (ref 1 (by omega) (by omega) ?_)
          unfold fX8_connect
          rw [vl_s, m_isUser hz, usd _ e, ob_s, if_neg (by decide), s2, ob_s, if_neg (by decide), e2, ob_s, if_neg (by decide), if_pos (by rw [exy]), m_fails, o2_s]
          rfl
        · rw [if_neg exy, c_seen hI hC hu hx]
          have hmd : ∀ σ' τ, fX8_builds N (sI σ' 8 0 0 (ij 0)) (ij u) = some τ → MB A u τ → fX8_connect N σ' (ij u) (ij x) x3 (ij y) x5 = if snz A (bv A (kn A u)) x = false ∨ snz A (bv A (kn A u)) y = false then some (ij 0, sI τ 8 0 0 (ij 2)) else if aCn A = 8 ∨ aN A = 250 then some (ij 0, sI τ 8 0 0 (ij 3)) else (ck (inb (gI τ 8 0 9) 8) (vl (sI τ 142 0 (Int32.toNatClampNeg (gI τ 8 0 9)) (ij x)) fun σ18 => (ck (inb (gI σ18 8 0 9) 8) (vl (sI σ18 143 0 (Int32.toNatClampNeg (gI σ18 8 0 9)) (ij y)) fun σ19 => (ck (inb (gI σ19 8 0 9) 8) (vl (sI σ19 145 0 (Int32.toNatClampNeg (gI σ19 8 0 9)) (vp_nar .char x3)) fun σ20 => (ck (inb (gI σ20 8 0 9) 8) (vl (sI σ20 146 0 (Int32.toNatClampNeg (gI σ20 8 0 9)) (vp_nar .char x5)) fun σ21 => (ob (fX8_plans N σ21 ((48 : Int32) + (gI σ21 8 0 9)) (1 : Int32)) fun σ22 => (vl (sI σ22 8 0 9 ((gI σ22 8 0 9) + (1 : Int32))) fun σ23 => (ob (fX8_makes N σ23 (ij u) (1 : Int32)) fun σ24 => (some (((gI σ24 8 0 9) - (1 : Int32)), σ24))))))))))))) := by
            intro σ' τ t1 ht
            have hW := MB_WM hI ht
            have mf : (gI τ 8 0 20 = (250 : Int32)) = (aN A = 250) := m_full ht.1 hn
            have m8 : (gI τ 8 0 9 = (8 : Int32)) = (aCn A = 8) := by
              rw [ht.1.1.2.1, show (8 : Int32) = ij 8 from rfl, ij_eq (by omega) (by omega) (by omega) (by omega), eq_iff_iff]
              omega
            have t1' : fX8_builds N (sI σ' 8 0 0 (0 : Int32)) (ij u) = some τ := t1
            unfold fX8_connect
            rw [vl_s, m_isUser hz, usd _ e, ob_s, if_neg (by decide), s2, ob_s, if_neg (by decide), e2, ob_s, if_neg (by decide), if_neg (by rw [xy]; exact exy), t1', ob_s, m_isSeen hW hx.1 hx.2, ob_s]
            cases q1 : snz A (bv A (kn A u)) x with
            | false =>
              rw [if_pos (by decide), if_pos (Or.inl rfl), m_fails, o2_s]
              rfl
            | true =>
              rw [if_neg (by decide), m_isSeen hW hy.1 hy.2, ob_s]
              cases q2 : snz A (bv A (kn A u)) y with
              | false =>
                rw [if_pos (by decide), if_pos (Or.inr rfl), m_fails, o2_s]
                rfl
              | true =>
                rw [if_neg (by decide), if_neg (show ¬ (true = false ∨ true = false) by decide)]
                simp only [m8, mf, m_fails, o2_s]
                by_cases w1 : aCn A = 8
                · rw [if_pos w1, if_pos (Or.inl w1)]
                  rfl
                · by_cases w2 : aN A = 250
                  · rw [if_neg w1, if_pos w2, if_pos (Or.inr w2)]
                    rfl
                  · rw [if_neg w1, if_neg w2, if_neg (by omega)]
          cases q1 : snz A (bv A (kn A u)) x with
          | false =>
            simp only [Bool.false_eq_true, if_false, ox_r]
            obtain ⟨τ, t1, t2, t3, t4⟩ := m_start (N := N) hI hM (by omega) hu
            refine mkI hI hC (c := 2) (k2 σ) (by omega) ⟨ij 0, sI τ 8 0 0 (ij 2), ?_, MR_thr t2.1 _, t3.tr (Un_thr _ _), thr_thr _ _, fun q => by omega⟩
            rw [hmd σ τ t1 t2, if_pos (Or.inl q1)]
          | true =>
            simp only [if_true, ox_l]
            rw [c_seen hI hC hu hy]
            cases q2 : snz A (bv A (kn A u)) y with
            | false =>
              simp only [Bool.false_eq_true, if_false, ox_r]
              obtain ⟨τ, t1, t2, t3, t4⟩ := m_start (N := N) hI hM (by omega) hu
              refine mkI hI hC (c := 2) (k2 σ) (by omega) ⟨ij 0, sI τ 8 0 0 (ij 2), ?_, MR_thr t2.1 _, t3.tr (Un_thr _ _), thr_thr _ _, fun q => by omega⟩
              rw [hmd σ τ t1 t2, if_pos (Or.inr q2)]
            | true =>
              simp only [if_true, ox_l]
              simp only [q1, q2] at hmd
              have h7 : (gI σ 2 0 8 < (8 : Int32)) = (aCn A < 8) := by
                rw [hC.1.2.1, show (8 : Int32) = ij 8 from rfl, ij_lt (by omega) (by omega) (by omega) (by omega), eq_iff_iff]
                omega
              simp only [h7]
              by_cases w1 : aCn A = 8
              · rw [if_neg (by omega), ox_r]
                obtain ⟨τ, t1, t2, t3, t4⟩ := m_start (N := N) hI hM (by omega) hu
                refine mkI hI hC (c := 3) (k3 σ) (by omega) ⟨ij 0, sI τ 8 0 0 (ij 3), ?_, MR_thr t2.1 _, t3.tr (Un_thr _ _), thr_thr _ _, fun q => by omega⟩
                rw [hmd σ τ t1 t2, if_neg (by decide), if_pos (Or.inl w1)]
              · rw [if_pos (by omega), c_room hC hn]
                by_cases w2 : aN A = 250
                · rw [if_pos w2, ox_r, ox_r]
                  obtain ⟨τ, t1, t2, t3, t4⟩ := m_start (N := N) hI hM (by omega) hu
                  refine mkI hI hC (c := 3) (k3 σ) (by omega) ⟨ij 0, sI τ 8 0 0 (ij 3), ?_, MR_thr t2.1 _, t3.tr (Un_thr _ _), thr_thr _ _, fun q => by omega⟩
                  rw [hmd σ τ t1 t2, if_neg (by decide), if_pos (Or.inr w2)]
                · rw [if_neg w2, ox_l]
                  obtain ⟨a, ha, sa⟩ := snz_ex q1
                  obtain ⟨b, hb, sb⟩ := snz_ex q2
                  subst ha
                  subst hb
                  have la := sn_lt sa
                  have lb := sn_lt sb
                  have nab : a ≠ b := by omega
                  obtain ⟨τ0, m1, m2, m3⟩ := f_makeConn (N := N) (a := a) (b := b) hC (by omega) s5 e5
                  have hIB := Inv0_cn hI (by omega) la lb nab s4 e4
                  obtain ⟨τ, t1, t2, t3, t4⟩ := f_one hIB m2 hN (show aN A < 250 by omega) hu (f := 48 + aCn A) (v := 1) (by omega) (vok_b (Or.inr (Or.inl ⟨by omega, by omega⟩)) (by omega))
                  have q9 : cvF (48 + aCn A) 1 = 1065353216 := by rw [cvF_n _ (by omega)]; decide +kernel
                  rw [q9] at t1
                  rw [s3, e3, m1, o2_s]
                  rw [show (48 : Int32) + ij (aCn A : Int) = ij ((48 + aCn A : Nat) : Int) from ij_add 48 _, t1, ob_s, ox_l, vl_s]
                  have hM1 : MR A (sJ τ 0 (Int32.toInt64 (ij (aCn A)))) := MR_J (MR_un hM (m3.tr t3))
                  obtain ⟨τ1, v1, v2, v3, v4⟩ := m_start (N := N) hI hM1 (by omega) hu
                  obtain ⟨τ2, y1, y2, y3, y4⟩ := m_conTail hI hN (by omega) hu v2 (show aCn A < 8 by omega) la lb nab s4 e4 s5 e5
                  refine mkI t4 (CR_J t2) (c := 0) rfl (by omega) ⟨ij (aCn A), τ2, ?_, y2, v3.tr y3, y4.trans v4, fun _ => gJ_sJ _ _⟩
                  have := hmd _ τ1 v1 v2
                  rw [if_neg (by decide), if_neg (by omega), s3, e3] at this
                  exact this.trans y1
      · rw [e1, ob_s, if_pos rfl, ox_r]
        refine mkI hI hC (c := 1) (k1 σ) (by omega) (ref 1 (by omega) (by omega) ?_)
        unfold fX8_connect
        rw [vl_s, m_isUser hz, usd _ e, ob_s, if_neg (by decide), s2, ob_s, if_neg (by decide), e2, ob_s, if_pos rfl, m_fails, o2_s]
        rfl
    · rw [s1, ob_s, if_pos rfl, ox_r]
      refine mkI hI hC (c := 1) (k1 σ) (by omega) (ref 1 (by omega) (by omega) ?_)
      unfold fX8_connect
      rw [vl_s, m_isUser hz, usd _ e, ob_s, if_neg (by decide), s2, ob_s, if_pos rfl, m_fails, o2_s]
      rfl
end S11
