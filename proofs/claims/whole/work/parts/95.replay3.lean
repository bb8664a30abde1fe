/-! outcomes. -/
def T125 : Nat → Nat → Bool := fun c q => c == 125 && q == 0
def T89 : Nat → Nat → Bool := fun c q => ((c == 125 || c == 126) && q == 0) || ((c == 120 || c == 121 || c == 122) && q == 3)
section S17
variable {A : Ab} {N : Nat} {σ : St}
theorem Tx_89 {τ : St} (h : Un Tx σ τ) : Un T89 σ τ := h.mono (fun c o e => by unfold T89 at e; unfold Tx; simp at e ⊢; omega)
theorem Tb_89 {τ : St} (h : Un (Tb 3) σ τ) : Un T89 σ τ := h.mono (fun c o e => by unfold T89 at e; unfold Tb; simp at e ⊢; omega)
theorem T89_Tr {τ : St} (h : Un T89 σ τ) : Un Tr σ τ := h.mono (fun c o e => by unfold Tr at e; unfold T89; simp at e ⊢; omega)
theorem f_mix (hI : Inv0 A) (hN : 1000000 ≤ N) {K : Nat → Bool} {c m i : Nat} {q : Nat → Nat} (hm : m ≤ 4) (hmc : m ≤ c) (hc : c ≤ 250) (hi : i < 24) (hC : CR A σ) (hB : BdC A K 3 σ) (h5 : gI σ 5 0 7 = ij c) (hq : ∀ i, i < c → gI σ 124 0 i = ij (q i) ∧ q i < aN A) :
    ∃ τ K', fX3_mix N σ (ij i) (ij m) = some τ ∧ BdC A K' 3 τ ∧ Un Tx σ τ ∧ ∀ o, K' o = true ↔ K o = true ∨ ∃ k, k < m ∧ q (c - m + k) = o := by
  unfold fX3_mix
  obtain ⟨τ, e, hU, hP⟩ := lp_st (fun n j τ => fX3_mix_L2 (fun _ σ6 => (vl (if (4 : Int32) < ij m then (4 : Int32) else ij m) fun v7 => (fX3_mix_L49 (fun _ _ σ19 => (some σ19)) N N (ij i) v7 σ6))) N (ij m) n (ij j) τ) (fun j τ => Un T125 σ τ ∧ ∀ k, k < j → gI τ 125 0 k = ij (q (c - m + k))) (Nat.zero_le m) (fun n j τ _ hj hP => by
      obtain ⟨hU, hP⟩ := hP
      have h5' : gI τ 5 0 7 = ij c := by rw [hU.I 5 0 rfl]; exact h5
      have hq' := (hq (c - m + j) (by omega)).1
      have hq2 : gI τ 124 0 (c - m + j) = ij (q (c - m + j)) := by rw [hU.I 124 0 rfl]; exact hq'
      have ez : ((c : Int) - m + j).toNat = c - m + j := by omega
      refine ⟨sI τ 125 0 j (ij (q (c - m + j))), ?_, hU.tr (Un.sI _ _ _ rfl), fun k hk => ?_⟩
      · have hat : fX7_intAt N τ 124 0 250 (ij ((c : Int) - m + j)) (ij (-1)) = some (ij (q (c - m + j))) := by
          rw [f_intAt (by omega) (by omega) (by omega), ez, hq2]
        simp only [fX3_mix_L2]
        simp (disch := omega) only [ij_l0, ij_l1, ij_l2, ij_l3, ij_l4, ij_l5, ij_l6, ij_l8, ij_l12, ij_l16, ij_l19, ij_l23, ij_l24, ij_l31, ij_l32, ij_l36, ij_l47, ij_l48, ij_l56, ij_l92, ij_l93, ij_l98, ij_l108, ij_l114, ij_l116, ij_l127, ij_l128, ij_l149, ij_l250, ij_l384, ij_l768, ij_l1000, ij_l1536, ij_l3000, ij_l1000000, ij_l1000003, ij_l1000000000, ij_neg, ij_add, ij_sub, ij_mul, ij_lt, ij_le, ij_eq, ij_nat, tn_nat, tn_12, tn_24, tn_36, tn_48, ck_in, ob_s, o2_s, vl_s, ox_l, ox_r, ck_tr, if_pos, if_neg, h5', hat]
        rfl
      · rw [gI_sI_eq]
        by_cases e : k = j
        · rw [if_pos e, e]
        · rw [if_neg e]
          exact hP k (by omega)) N σ (by omega) ⟨Un.rfl, fun k hk => by omega⟩
  have uT : Un Tx σ τ := hU.mono (fun c o e => by unfold Tx at e; unfold T125; simp at e ⊢; omega)
  have hC' := CR_rp hC (Tx_Tr uT)
  have hB' : BdC A K 3 τ := BdC_cg hB (hU.F 120 3 rfl) (hU.I 121 3 rfl) (hU.I 122 3 rfl)
  obtain ⟨τ2, K', w1, w2, w3, w4⟩ := f_mixLoop hI hN m hm i hi τ K (fun k => q (c - m + k)) N (by omega) hC' hB' (fun k hk => ⟨hP k hk, (hq (c - m + k) (by omega)).2⟩)
  refine ⟨τ2, K', ?_, w2, uT.tr w3, w4⟩
  refine Eq.trans e ?_
  have e2 : N - (m - 0) = (N - m - 1) + 1 := by omega
  show fX3_mix_L2 _ N (ij m) (N - (m - 0)) _ τ = _
  rw [e2]
  simp only [fX3_mix_L2]
  have e3 : ((4 : Int32) < ij (m : Int)) = ((4 : Int) < m) := ij_lt (a := 4) (by omega) (by omega) (by omega) (by omega)
  have e4 : (ij (m : Int) ≤ ij (m : Int)) = ((m : Int) ≤ m) := ij_le (by omega) (by omega) (by omega) (by omega)
  rw [if_pos (by rw [e4]; omega)]
  simp only [e3]
  rw [if_neg (by omega), vl_s]
  exact w1
theorem f_fact (hN : 1000000 ≤ N) {m b : Nat} (hm : m ≤ 4) (hb : b = max (m + 1) 2) (K : Int32 → Int32 → Option (Int32 × St)) : fX3_countDifferent_L64 K N (ij m) N 1 2 = K (ij (pf b)) (ij b) := by
  refine lp_end (fun n j => fX3_countDifferent_L64 K N (ij m) n (ij (pf j)) (ij j)) (a := 2) (b := b) (by omega) (fun n j h1 h2 => ?_) (fun n => ?_) N (by omega)
  · have hp : pf (j + 1) = pf j * j := by
      show (if j < 2 then 1 else pf j * j) = _
      rw [if_neg (by omega)]
    simp only [fX3_countDifferent_L64]
    rw [hp]
    simp (disch := omega) only [ij_l0, ij_l1, ij_l2, ij_l3, ij_l4, ij_l5, ij_l6, ij_l8, ij_l12, ij_l16, ij_l19, ij_l23, ij_l24, ij_l31, ij_l32, ij_l36, ij_l47, ij_l48, ij_l56, ij_l92, ij_l93, ij_l98, ij_l108, ij_l114, ij_l116, ij_l127, ij_l128, ij_l149, ij_l250, ij_l384, ij_l768, ij_l1000, ij_l1536, ij_l3000, ij_l1000000, ij_l1000003, ij_l1000000000, ij_neg, ij_add, ij_sub, ij_mul, ij_lt, ij_le, ij_eq, ij_nat, tn_nat, tn_12, tn_24, tn_36, tn_48, ck_in, ob_s, o2_s, vl_s, ox_l, ox_r, ck_tr, if_pos, if_neg]
    rfl
  · simp only [fX3_countDifferent_L64]
    simp (disch := omega) only [ij_l0, ij_l1, ij_l2, ij_l3, ij_l4, ij_l5, ij_l6, ij_l8, ij_l12, ij_l16, ij_l19, ij_l23, ij_l24, ij_l31, ij_l32, ij_l36, ij_l47, ij_l48, ij_l56, ij_l92, ij_l93, ij_l98, ij_l108, ij_l114, ij_l116, ij_l127, ij_l128, ij_l149, ij_l250, ij_l384, ij_l768, ij_l1000, ij_l1536, ij_l3000, ij_l1000000, ij_l1000003, ij_l1000000000, ij_neg, ij_add, ij_sub, ij_mul, ij_lt, ij_le, ij_eq, ij_nat, tn_nat, tn_12, tn_24, tn_36, tn_48, ck_in, ob_s, o2_s, vl_s, ox_l, ox_r, ck_tr, if_pos, if_neg]
theorem pf_rg : ∀ m, m ≤ 4 → 1 ≤ pf (max (m + 1) 2) ∧ pf (max (m + 1) 2) ≤ 24 := by decide
theorem f_coll0 (hN : 1000000 ≤ N) (S : Int32) : fX3_collect N σ (ij 0) S = some (ij 1, sI σ 126 0 0 S) := by
  unfold fX3_collect
  obtain ⟨n, rfl⟩ : ∃ k, N = k + 1 := ⟨N - 1, by omega⟩
  simp only [fX3_collect_L2]
  simp (disch := omega) only [ij_l0, ij_l1, ij_l2, ij_l3, ij_l4, ij_l5, ij_l6, ij_l8, ij_l12, ij_l16, ij_l19, ij_l23, ij_l24, ij_l31, ij_l32, ij_l36, ij_l47, ij_l48, ij_l56, ij_l92, ij_l93, ij_l98, ij_l108, ij_l114, ij_l116, ij_l127, ij_l128, ij_l149, ij_l250, ij_l384, ij_l768, ij_l1000, ij_l1536, ij_l3000, ij_l1000000, ij_l1000003, ij_l1000000000, ij_neg, ij_add, ij_sub, ij_mul, ij_lt, ij_le, ij_eq, ij_nat, tn_nat, tn_12, tn_24, tn_36, tn_48, ck_in, ob_s, o2_s, vl_s, ox_l, ox_r, ck_tr, if_pos, if_neg]
  rfl
theorem f_coll1 (hN : 1000000 ≤ N) (S : Int32) (h : gI σ 126 0 0 = S) : fX3_collect N σ (ij 1) S = some (ij 1, σ) := by
  unfold fX3_collect
  obtain ⟨n, rfl⟩ : ∃ k, N = k + 1 := ⟨N - 1, by omega⟩
  have h' : gI σ 126 0 (0 : Int).toNat = S := h
  simp only [fX3_collect_L2]
  simp (disch := omega) only [ij_l0, ij_l1, ij_l2, ij_l3, ij_l4, ij_l5, ij_l6, ij_l8, ij_l12, ij_l16, ij_l19, ij_l23, ij_l24, ij_l31, ij_l32, ij_l36, ij_l47, ij_l48, ij_l56, ij_l92, ij_l93, ij_l98, ij_l108, ij_l114, ij_l116, ij_l127, ij_l128, ij_l149, ij_l250, ij_l384, ij_l768, ij_l1000, ij_l1536, ij_l3000, ij_l1000000, ij_l1000003, ij_l1000000000, ij_neg, ij_add, ij_sub, ij_mul, ij_lt, ij_le, ij_eq, ij_nat, tn_nat, tn_12, tn_24, tn_36, tn_48, ck_in, ob_s, o2_s, vl_s, ox_l, ox_r, ck_tr, if_pos, if_neg, h', if_true]
theorem f_countDiff (hI : Inv0 A) (hC : CR A σ) (hN : 1000000 ≤ N) {u z : Nat} (hu : u < 3) (hz : z ≤ 4) : ∃ τ, fX3_countDifferent N σ u (ij z) = some (ij 1, τ) ∧ Un Tr σ τ := by
  obtain ⟨τ1, c, q, a1, a2, a3, a4, a5, a6⟩ := f_listKnown (N := N) hI hC hN hu
  obtain ⟨τ2, b1, b2, b3⟩ := f_empty (N := N) (σ := τ1) (A := A) (b := 4) hN
  have hC1 := CR_rp hC a2
  have hC2 := CR_rp hC1 (Tb_Tr (Or.inr rfl) b3)
  have h5 : gI τ2 5 0 7 = ij c := by rw [b3.I 5 0 rfl]; exact a3
  have hq : ∀ i, i < c → gI τ2 124 0 i = ij (q i) ∧ q i < aN A := fun i hi => by rw [b3.I 124 0 rfl]; exact a5 i hi
  obtain ⟨m, hmd⟩ : ∃ m, m = min c z := ⟨_, rfl⟩
  have hm4 : m ≤ 4 := by omega
  have hmc : m ≤ c := by omega
  have hv2 : (if (ij (c : Int)) < ij (z : Int) then ij (c : Int) else ij (z : Int)) = ij (m : Int) := by
    have : (ij (c : Int) < ij (z : Int)) = ((c : Int) < z) := ij_lt (by omega) (by omega) (by omega) (by omega)
    simp only [this]
    by_cases g : (c : Int) < z
    · rw [if_pos g]; congr 1; omega
    · rw [if_neg g]; congr 1; omega
  have hpf := pf_rg m hm4
  obtain ⟨F, hF⟩ : ∃ F, F = pf (max (m + 1) 2) := ⟨_, rfl⟩
  rw [← hF] at hpf
  obtain ⟨τ3, e1, e2, e3⟩ := f_takeN (N := N) hI hN (b := 4) (q := q) (fun n j τ => fX3_countDifferent_L24 (fun _ σ9 => (fX3_countDifferent_L64 (fun v14 _ => (fX3_countDifferent_L89 (fun v24 _ σ25 => (some (v24, σ25))) N (ij m) v14 N (0 : Int32) (0 : Int32) σ9)) N (ij m) N (1 : Int32) (2 : Int32))) N (ij m) n (ij j) τ) (c - m) (by omega) a4 (Or.inr rfl) (fun n j τ hj g5 gq => by
    simp only [fX3_countDifferent_L24]
    rw [g5, f_intAt (by omega) (by omega) (by omega), tn_nat, (gq j (by omega)).1, ij_sub, if_neg (by simp (disch := omega) only [ij_le]; omega), ob_s, show ij (j : Int) + (1 : Int32) = ij ((j + 1 : Nat) : Int) from ij_add j 1]
    simp only [vl_s]) hC2 h5 hq b2 N (by omega)
  have hC3 := CR_rp hC2 (Tb_Tr (Or.inr rfl) e2)
  have h5' : gI τ3 5 0 7 = ij c := by rw [e2.I 5 0 rfl]; exact h5
  have hq' : ∀ i, i < c → gI τ3 124 0 i = ij (q i) ∧ q i < aN A := fun i hi => by rw [e2.I 124 0 rfl]; exact hq i hi
  -- the loop over the orders
  obtain ⟨S, hS⟩ : ∃ S, S = su A (bv A (kn A u)) 12 := ⟨_, rfl⟩
  obtain ⟨τ4, d1, d2, d3⟩ := lp_st (fun n j τ => fX3_countDifferent_L89 (fun v24 _ σ25 => (some (v24, σ25))) N (ij m) (ij F) n (if j = 0 then ij 0 else ij 1) (ij j) τ) (fun j τ => Un T89 τ3 τ ∧ (0 < j → gI τ 126 0 0 = S)) (Nat.zero_le F) (fun n j τ _ hj hP => by
      obtain ⟨hU, hP⟩ := hP
      have hCt := CR_rp hC3 (T89_Tr hU)
      have hB4 : BdC A (KP q (c - m)) 4 τ := BdC_cg e3 (hU.F 120 4 rfl) (hU.I 121 4 rfl) (hU.I 122 4 rfl)
      obtain ⟨τ5, f1, f2, f3⟩ := f_copy (N := N) hN hB4
      have hC5 := CR_rp hCt (Tb_Tr (Or.inl rfl) f3)
      have g5 : gI τ5 5 0 7 = ij c := by rw [f3.I 5 0 rfl, hU.I 5 0 rfl]; exact h5'
      have gq : ∀ i, i < c → gI τ5 124 0 i = ij (q i) ∧ q i < aN A := fun i hi => by rw [f3.I 124 0 rfl, hU.I 124 0 rfl]; exact hq' i hi
      obtain ⟨τ6, K', g1, g2, g3, g4⟩ := f_mix (N := N) (i := j) hI hN hm4 hmc a4 (by omega) hC5 f2 g5 gq
      have hC6 := CR_rp hC5 (Tx_Tr g3)
      have hV := VW_3 (K' := kn A u) hI hC6 (fun o ho => by
        rw [Bool.eq_iff_iff, g4, KP_iff, a6 o ho]
        constructor
        · rintro ⟨k, k1, k2⟩
          by_cases e : k < c - m
          · exact Or.inl ⟨k, e, k2⟩
          · exact Or.inr ⟨k - (c - m), by omega, by rw [show c - m + (k - (c - m)) = k by omega]; exact k2⟩
        · rintro (⟨k, k1, k2⟩ | ⟨k, k1, k2⟩)
          · exact ⟨k, by omega, k2⟩
          · exact ⟨c - m + k, by omega, k2⟩) g2
      have hsum := f_sumUp (N := N) hV (by omega)
      rw [← hS] at hsum
      have u6 : Un T89 τ3 τ6 := (hU.tr (Tb_89 f3)).tr (Tx_89 g3)
      have cj : ¬ (ij (F : Int) ≤ ij (j : Int)) := by
        have : (ij (F : Int) ≤ ij (j : Int)) = ((F : Int) ≤ j) := ij_le (by omega) (by omega) (by omega) (by omega)
        rw [this]
        omega
      have hj1 : ij (j : Int) + (1 : Int32) = ij ((j + 1 : Nat) : Int) := ij_add j 1
      have i1 : (if j + 1 = 0 then ij 0 else ij 1) = ij 1 := if_neg (by omega)
      by_cases e : j = 0
      · refine ⟨sI τ6 126 0 0 S, ?_, u6.tr (Un.sI _ _ _ rfl), fun _ => by rw [gI_sI_eq, if_pos rfl]⟩
        simp only [fX3_countDifferent_L89]
        rw [if_neg cj, f1, ob_s, g1, ob_s, hsum, ob_s, if_pos e, f_coll0 hN, o2_s, vl_s, hj1, i1]
      · have h126 : gI τ6 126 0 0 = S := by rw [g3.I 126 0 rfl, f3.I 126 0 rfl]; exact hP (by omega)
        refine ⟨τ6, ?_, u6, fun _ => h126⟩
        simp only [fX3_countDifferent_L89]
        rw [if_neg cj, f1, ob_s, g1, ob_s, hsum, ob_s, if_neg e, f_coll1 hN S h126, o2_s, vl_s, hj1, i1]) N τ3 (by omega) ⟨Un.rfl, fun h => by omega⟩
  refine ⟨τ4, ?_, ((a2.tr (Tb_Tr (Or.inr rfl) b3)).tr (Tb_Tr (Or.inr rfl) e2)).tr (T89_Tr d2)⟩
  unfold fX3_countDifferent
  rw [a1, ob_s, a3, hv2, vl_s, b1, ob_s]
  refine Eq.trans e1 ?_
  have e9 : N - (c - m) = (N - (c - m) - 1) + 1 := by omega
  rw [e9]
  simp only [fX3_countDifferent_L24]
  rw [h5', ij_sub, if_pos (by simp (disch := omega) only [ij_le]; omega), f_fact hN hm4 rfl, ← hF]
  refine Eq.trans d1 ?_
  have e8 : N - (F - 0) = (N - F - 1) + 1 := by omega
  show fX3_countDifferent_L89 _ N _ _ (N - (F - 0)) _ _ τ4 = _
  rw [e8]
  simp only [fX3_countDifferent_L89]
  have cF : (ij (F : Int) ≤ ij (F : Int)) = ((F : Int) ≤ F) := ij_le (by omega) (by omega) (by omega) (by omega)
  rw [if_pos (by rw [cF]; omega), if_neg (by omega)]
theorem p_outcomes (h : Inv A σ) (hN : 1000000 ≤ N) (x y : Int32) : PairI (fL_outcomes N σ x y) (fun τ => fX8_outcomes N τ x y) := by
  obtain ⟨hI, hC, hM⟩ := h
  obtain ⟨x, rfl, hx⟩ := rg_ex x
  obtain ⟨z, rfl, hz⟩ := rg_ex y
  have k1 : H1 (fun E5 σ3 => (if E5 = "java/lang/IllegalArgumentException" then (some ((1 : Int32), σ3)) else none)) := fun σ => by simp [EI]
  obtain ⟨hz1, hz2⟩ := id hz
  have l0 : (ij z < (0 : Int32)) = (z < 0) := ij_lt (b := 0) (by omega) (by omega) (by omega) (by omega)
  have l4 : (ij z ≤ (4 : Int32)) = (z ≤ 4) := ij_le (b := 4) (by omega) (by omega) (by omega) (by omega)
  have mb : ∀ τ, fX8_isBetween N τ (ij z) (0 : Int32) (4 : Int32) = some (bi (decide (0 ≤ z ∧ z ≤ 4))) := fun τ => m_isBetween (b := 0) (c := 4) hz (by omega) (by omega)
  unfold fL_outcomes fX7_outcomes
  rw [c_user hx]
  cases e : usz x with
  | false =>
    simp only [Bool.false_eq_true, if_false, ox_r]
    refine mkI hI hC (c := 1) (k1 σ) (by omega) ⟨ij 0, sI (sI σ 8 0 0 (ij 0)) 8 0 0 (ij 1), ?_, MR_thr (MR_thr hM _) _, (Un_thr _ _).tr (Un_thr _ _), thr_thr _ _, fun q => by omega⟩
    unfold fX8_outcomes
    rw [vl_s, m_isUser hx, usd _ e, ob_s, if_pos (by decide), m_fails, o2_s]
    rfl
  | true =>
    obtain ⟨u, rfl, hu⟩ := usz_nat e
    simp only [if_true, tn_nat, ox_l, l0, l4]
    by_cases ez : 0 ≤ z ∧ z ≤ 4
    · obtain ⟨z, rfl⟩ : ∃ k : Nat, z = k := ⟨z.toNat, by omega⟩
      obtain ⟨τ, t1, t2⟩ := f_countDiff (N := N) hI hC hN hu (z := z) (by omega)
      rw [if_neg (by omega), if_pos (by omega), t1, o2_s, ox_l, vl_s]
      refine mkI hI (CR_J (CR_rp hC t2)) (c := 0) rfl (by omega) ⟨ij 1, sI (sJ τ 0 (Int32.toInt64 (ij 1))) 8 0 0 (ij 0), ?_, MR_thr (MR_J (MR_un hM (Tr_Tc t2))) _, Un_thr _ _, thr_thr _ _, fun _ => gJ_sJ _ _⟩
      unfold fX8_outcomes
      rw [vl_s, m_isUser hx, usd _ e, ob_s, if_neg (by decide), mb, decide_eq_true ez, ob_s, if_neg (by decide)]
      rfl
    · have hl : (if z < 0 then (some ((Sum.inr "java/lang/IllegalArgumentException" : Int32 ⊕ String), σ)) else (if z ≤ 4 then (o2 (fX3_countDifferent N σ u (ij z)) fun v4 σ3 => (some (.inl v4, σ3))) else (some (.inr "java/lang/IllegalArgumentException", σ)))) = some (.inr EI, σ) := by
        by_cases q : z < 0
        · rw [if_pos q]
        · rw [if_neg q, if_neg (by omega)]
      rw [hl, ox_r]
      refine mkI hI hC (c := 1) (k1 σ) (by omega) ⟨ij 0, sI (sI σ 8 0 0 (ij 0)) 8 0 0 (ij 1), ?_, MR_thr (MR_thr hM _) _, (Un_thr _ _).tr (Un_thr _ _), thr_thr _ _, fun q => by omega⟩
      unfold fX8_outcomes
      rw [vl_s, m_isUser hx, usd _ e, ob_s, if_neg (by decide), mb, decide_eq_false ez, ob_s, if_pos (by decide), m_fails, o2_s]
      rfl
end S17
