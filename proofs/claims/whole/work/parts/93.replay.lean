/-! The class replays what a user knows. -/
def Tr : Nat → Nat → Bool := fun c q => c == 5 || c == 124 || c == 125 || c == 126 || ((c == 120 || c == 121 || c == 122) && (q == 3 || q == 4))
noncomputable def KP (q : Nat → Nat) (i : Nat) : Nat → Bool := fun o => @decide (∃ k, k < i ∧ q k = o) (Classical.propDecidable _)
theorem KP_iff (q : Nat → Nat) (i o : Nat) : KP q i o = true ↔ ∃ k, k < i ∧ q k = o := by
  unfold KP
  exact @decide_eq_true_iff _ (Classical.propDecidable _)
theorem KP_0 (q : Nat → Nat) : KP q 0 = fun _ => false := by
  funext o
  rw [← Bool.not_eq_true, KP_iff]
  rintro ⟨k, h, _⟩
  omega
theorem KP_s (q : Nat → Nat) (i : Nat) : KP q (i + 1) = KU (KP q i) (q i) := by
  funext o
  rw [Bool.eq_iff_iff, KP_iff]
  unfold KU
  rw [Bool.or_eq_true, KP_iff, beq_iff_eq]
  constructor
  · rintro ⟨k, h1, h2⟩
    by_cases e : k = i
    · exact Or.inr (by rw [← h2, e])
    · exact Or.inl ⟨k, by omega, h2⟩
  · rintro (⟨k, h1, h2⟩ | h)
    · exact ⟨k, by omega, h2⟩
    · exact ⟨i, by omega, h.symm⟩
section S15
variable {A : Ab} {N : Nat} {σ : St}
theorem CR_rp {τ : St} (hC : CR A σ) (hU : Un Tr σ τ) : CR A τ := by
  obtain ⟨h1, h2, h3, h4, h5⟩ := hC
  refine ⟨PtC_cg h1 (fun c hc => hU.I c 0 (by unfold Tr; simp; omega)), LgC_cg h2 (fun c hc => ⟨hU.I c 0 (by unfold Tr; simp; omega), hU.F c 0 (by unfold Tr; simp; omega)⟩), TmC_cg h3 (hU.I 105 0 rfl), fun v hv => ⟨UsC_cg (h4 v hv).1 (hU.I 4 v (by unfold Tr; simp)) (hU.I 123 v (by unfold Tr; simp)), BdC_cg (h4 v hv).2 (hU.F 120 v (by unfold Tr; simp; omega)) (hU.I 121 v (by unfold Tr; simp; omega)) (hU.I 122 v (by unfold Tr; simp; omega))⟩, RfC_cg h5 (hU.2.2 rfl)⟩
theorem Tr_Tc {τ : St} (h : Un Tr σ τ) : Un Tc σ τ := h.mono (fun c o e => by unfold Tc at e; unfold Tr; simp at e ⊢; omega)
theorem Tb_Tr {τ : St} {b : Nat} (hb : b = 3 ∨ b = 4) (h : Un (Tb b) σ τ) : Un Tr σ τ := h.mono (fun c o e => by unfold Tr at e; unfold Tb; simp at e ⊢; omega)
theorem f_listKnown (hI : Inv0 A) (hC : CR A σ) (hN : 1000000 ≤ N) {u : Nat} (hu : u < 3) : ∃ (τ : St) (c : Nat) (q : Nat → Nat), fX3_listKnown N σ u = some τ ∧ Un Tr σ τ ∧ gI τ 5 0 7 = ij c ∧ c ≤ 250 ∧ (∀ i, i < c → gI τ 124 0 i = ij (q i) ∧ q i < aN A) ∧ ∀ o, o < aN A → (kn A u o = true ↔ ∃ k, k < c ∧ q k = o) := by
  have hn := hI.1.1
  obtain ⟨p, hp1, hp2⟩ := id hC.2.2.1
  unfold fX3_listKnown
  rw [vl_s]
  obtain ⟨τ, e, hU, c, q, h1, h2, h3, h4⟩ := lp_st (fun n j τ => fX3_listKnown_L7 (fun _ σ11 => (some σ11)) N u n (ij j) τ) (fun j τ => Un Tr σ τ ∧ ∃ (c : Nat) (q : Nat → Nat), gI τ 5 0 7 = ij c ∧ c ≤ j ∧ (∀ i, i < c → gI τ 124 0 i = ij (q i) ∧ q i < aN A ∧ kn A u (q i) = true) ∧ ∀ k, k < j → kn A u (p k) = true → ∃ i, i < c ∧ q i = p k) (Nat.zero_le (aN A)) (fun n j τ _ hj hP => by
      obtain ⟨hU, c, q, h1, h2, h3, h4⟩ := hP
      have hCt := CR_rp hC hU
      have hpj := hp1 j hj
      have h11 := hCt.2.1.1
      have h105 : gI τ 105 0 j = ij (p j) := by rw [hU.I 105 0 rfl]; exact hpj.1
      have hat : fX1_operationAtTime N τ (ij j) = some (ij (p j)) := by
        unfold fX1_operationAtTime
        rw [f_intAt (by omega) (by omega) (by omega), tn_nat, h105, ob_s]
      have hik := f_isKnown (N := N) hCt hu (o := p j) (by omega)
      simp only [fX3_listKnown_L7]
      rw [h11, hat, ob_s, hik, ob_s]
      by_cases g : kn A u (p j) = true
      · refine ⟨sI (sI τ 124 0 c (ij (p j))) 5 0 7 (ij ((c : Int) + 1)), ?_, (hU.tr (Un.sI _ _ _ rfl)).tr (Un.sI _ _ _ rfl), c + 1, fun i => if i = c then p j else q i, ?_, by omega, fun i hi => ?_, fun k hk hkk => ?_⟩
        · simp (disch := omega) only [ij_l0, ij_l1, ij_l2, ij_l3, ij_l4, ij_l5, ij_l6, ij_l8, ij_l12, ij_l16, ij_l19, ij_l23, ij_l24, ij_l31, ij_l32, ij_l36, ij_l47, ij_l48, ij_l56, ij_l92, ij_l93, ij_l98, ij_l108, ij_l114, ij_l116, ij_l127, ij_l128, ij_l149, ij_l250, ij_l384, ij_l768, ij_l1000, ij_l1536, ij_l3000, ij_l1000000, ij_l1000003, ij_l1000000000, ij_neg, ij_add, ij_sub, ij_mul, ij_lt, ij_le, ij_eq, ij_nat, tn_nat, tn_12, tn_24, tn_36, tn_48, ck_in, ob_s, o2_s, vl_s, ox_l, ox_r, ck_tr, if_pos, if_neg, g, bi_z, Bool.true_eq_false, if_false, h1, gI_sI_ne]
          rfl
        · rw [gI_sI_eq, if_pos rfl]
          rfl
        · rw [gI_sI_ne (by omega), gI_sI_eq]
          show _ = ij ((if i = c then p j else q i : Nat) : Int) ∧ (if i = c then p j else q i) < aN A ∧ kn A u (if i = c then p j else q i) = true
          by_cases ei : i = c
          · rw [if_pos ei, if_pos ei]
            exact ⟨rfl, hpj.2, g⟩
          · rw [if_neg ei, if_neg ei]
            exact h3 i (by omega)
        · by_cases ek : k = j
          · exact ⟨c, by omega, by rw [ek]; exact if_pos rfl⟩
          · obtain ⟨i, i1, i2⟩ := h4 k (by omega) hkk
            exact ⟨i, by omega, (if_neg (show ¬ i = c by omega)).trans i2⟩
      · have g' : kn A u (p j) = false := by simpa using g
        refine ⟨τ, ?_, hU, c, q, h1, by omega, h3, fun k hk hkk => ?_⟩
        · simp (disch := omega) only [ij_l0, ij_l1, ij_l2, ij_l3, ij_l4, ij_l5, ij_l6, ij_l8, ij_l12, ij_l16, ij_l19, ij_l23, ij_l24, ij_l31, ij_l32, ij_l36, ij_l47, ij_l48, ij_l56, ij_l92, ij_l93, ij_l98, ij_l108, ij_l114, ij_l116, ij_l127, ij_l128, ij_l149, ij_l250, ij_l384, ij_l768, ij_l1000, ij_l1536, ij_l3000, ij_l1000000, ij_l1000003, ij_l1000000000, ij_neg, ij_add, ij_sub, ij_mul, ij_lt, ij_le, ij_eq, ij_nat, tn_nat, tn_12, tn_24, tn_36, tn_48, ck_in, ob_s, o2_s, vl_s, ox_l, ox_r, ck_tr, if_pos, if_neg, g', bi_z, if_true]
          rfl
        · by_cases ek : k = j
          · rw [ek] at hkk
            exact absurd hkk g
          · exact h4 k (by omega) hkk) N (sI σ 5 0 7 (0 : Int32)) (by omega) ⟨Un.sI _ _ _ rfl, 0, fun _ => 0, by rw [gI_sI_eq, if_pos rfl]; rfl, by omega, fun i hi => by omega, fun k hk => by omega⟩
  refine ⟨τ, c, q, ?_, hU, h1, by omega, fun i hi => ⟨(h3 i hi).1, (h3 i hi).2.1⟩, fun o ho => ⟨fun hk => ?_, ?_⟩⟩
  · refine Eq.trans e ?_
    have e2 : N - (aN A - 0) = (N - aN A - 1) + 1 := by omega
    have h11 := (CR_rp hC hU).2.1.1
    show fX3_listKnown_L7 _ N u (N - (aN A - 0)) _ τ = _
    rw [e2]
    simp only [fX3_listKnown_L7]
    rw [h11, if_pos (by simp (disch := omega) only [ij_le]; omega)]
  · obtain ⟨i, i1, i2⟩ := hp2 o ho
    obtain ⟨k, k1, k2⟩ := h4 i i1 (by rw [i2]; exact hk)
    exact ⟨k, k1, by rw [k2, i2]⟩
  · rintro ⟨k, k1, k2⟩
    rw [← k2]
    exact (h3 k k1).2.2
theorem BdC_nil {b : Nat} (h : ∀ f, f < 93 → gF σ 120 b f = 0 ∧ gI σ 121 b f = ij (-1) ∧ gI σ 122 b f = ij (-1)) : BdC A (fun _ => false) b σ := by
  intro f hf
  have ht := Top_nil A f
  have hw := bw_eq ht
  have h0 : bv A (fun _ => false) f = 0 := by unfold bv tvl; rw [hw, if_pos rfl]
  have h1 : bs A (fun _ => false) f = 0 := by unfold bs tsm; rw [hw, if_pos rfl]
  obtain ⟨a1, a2, a3⟩ := h f hf
  refine ⟨by rw [hw]; exact ht, ?_, ?_, ?_⟩
  · rw [a3, hw]; rfl
  · rw [a1, h0]
    by_cases q : 24 ≤ f ∧ f < 36
    · rw [cvF_k 0 q.1 q.2]; rfl
    · rw [cvF_n 0 (by omega)]; decide +kernel
  · rw [a2, h1]; rfl
theorem f_empty {b : Nat} (hN : 1000000 ≤ N) : ∃ τ, fX0_empty N σ b = some τ ∧ BdC A (fun _ => false) b τ ∧ Un (Tb b) σ τ := by
  have tb : ∀ c, c = 120 ∨ c = 121 ∨ c = 122 → Tb b c b = true := fun c hc => by unfold Tb; simp; omega
  unfold fX0_empty
  obtain ⟨τ, e, hU, hP⟩ := lp_st (fun n j τ => fX0_empty_L2 (fun _ σ7 => (some σ7)) N b n (ij j) τ) (fun j τ => Un (Tb b) σ τ ∧ ∀ f, f < j → gF τ 120 b f = 0 ∧ gI τ 121 b f = ij (-1) ∧ gI τ 122 b f = ij (-1)) (Nat.zero_le 93) (fun n j τ _ hj hP => by
      obtain ⟨hU, hP⟩ := hP
      refine ⟨sI (sI (sF τ 120 b j 0) 121 b j (ij (-1))) 122 b j (ij (-1)), ?_, ((hU.tr (Un.sF _ _ _ (tb _ (by omega)))).tr (Un.sI _ _ _ (tb _ (by omega)))).tr (Un.sI _ _ _ (tb _ (by omega))), fun f hf => ?_⟩
      · simp only [fX0_empty_L2]
        simp (disch := omega) only [ij_l0, ij_l1, ij_l2, ij_l3, ij_l4, ij_l5, ij_l6, ij_l8, ij_l12, ij_l16, ij_l19, ij_l23, ij_l24, ij_l31, ij_l32, ij_l36, ij_l47, ij_l48, ij_l56, ij_l92, ij_l93, ij_l98, ij_l108, ij_l114, ij_l116, ij_l127, ij_l128, ij_l149, ij_l250, ij_l384, ij_l768, ij_l1000, ij_l1536, ij_l3000, ij_l1000000, ij_l1000003, ij_l1000000000, ij_neg, ij_add, ij_sub, ij_mul, ij_lt, ij_le, ij_eq, ij_nat, tn_nat, tn_12, tn_24, tn_36, tn_48, ck_in, ob_s, o2_s, vl_s, ox_l, ox_r, ck_tr, if_pos, if_neg]
        rfl
      · simp (disch := omega) only [gF_sI, gI_sF, gF_sF_eq, gI_sI_eq, gI_sI_ne]
        by_cases q : f = j
        · simp only [q, if_true]
          exact ⟨trivial, trivial, trivial⟩
        · simp only [q, if_false]
          exact hP f (by omega)) N σ (by omega) ⟨Un.rfl, fun f hf => by omega⟩
  refine ⟨τ, ?_, BdC_nil hP, hU⟩
  refine Eq.trans e ?_
  have e2 : N - (93 - 0) = (N - 93 - 1) + 1 := by omega
  show fX0_empty_L2 _ N b (N - (93 - 0)) _ τ = _
  rw [e2]
  simp only [fX0_empty_L2]
  simp (disch := omega) only [ij_l0, ij_l1, ij_l2, ij_l3, ij_l4, ij_l5, ij_l6, ij_l8, ij_l12, ij_l16, ij_l19, ij_l23, ij_l24, ij_l31, ij_l32, ij_l36, ij_l47, ij_l48, ij_l56, ij_l92, ij_l93, ij_l98, ij_l108, ij_l114, ij_l116, ij_l127, ij_l128, ij_l149, ij_l250, ij_l384, ij_l768, ij_l1000, ij_l1536, ij_l3000, ij_l1000000, ij_l1000003, ij_l1000000000, ij_neg, ij_add, ij_sub, ij_mul, ij_lt, ij_le, ij_eq, ij_nat, tn_nat, tn_12, tn_24, tn_36, tn_48, ck_in, ob_s, o2_s, vl_s, ox_l, ox_r, ck_tr, if_pos, if_neg]
theorem f_copy {K : Nat → Bool} (hN : 1000000 ≤ N) (hB : BdC A K 4 σ) : ∃ τ, fX0_copy N σ 3 4 = some τ ∧ BdC A K 3 τ ∧ Un (Tb 3) σ τ := by
  unfold fX0_copy
  obtain ⟨τ, e, hU, hP⟩ := lp_st (fun n j τ => fX0_copy_L2 (fun _ σ7 => (some σ7)) N 3 4 n (ij j) τ) (fun j τ => Un (Tb 3) σ τ ∧ ∀ f, f < j → gF τ 120 3 f = gF σ 120 4 f ∧ gI τ 121 3 f = gI σ 121 4 f ∧ gI τ 122 3 f = gI σ 122 4 f) (Nat.zero_le 93) (fun n j τ _ hj hP => by
      obtain ⟨hU, hP⟩ := hP
      have a1 : gF τ 120 4 = gF σ 120 4 := hU.F 120 4 rfl
      have a2 : gI τ 121 4 = gI σ 121 4 := hU.I 121 4 rfl
      have a3 : gI τ 122 4 = gI σ 122 4 := hU.I 122 4 rfl
      have b1 : ∀ τ' : St, gI (sI τ' 121 3 j (gI σ 121 4 j)) 122 4 j = gI τ' 122 4 j := fun τ' => gI_sI_ne (by omega)
      refine ⟨sI (sI (sF τ 120 3 j (gF σ 120 4 j)) 121 3 j (gI σ 121 4 j)) 122 3 j (gI σ 122 4 j), ?_, ((hU.tr (Un.sF _ _ _ rfl)).tr (Un.sI _ _ _ rfl)).tr (Un.sI _ _ _ rfl), fun f hf => ?_⟩
      · simp only [fX0_copy_L2]
        simp (disch := omega) only [ij_l0, ij_l1, ij_l2, ij_l3, ij_l4, ij_l5, ij_l6, ij_l8, ij_l12, ij_l16, ij_l19, ij_l23, ij_l24, ij_l31, ij_l32, ij_l36, ij_l47, ij_l48, ij_l56, ij_l92, ij_l93, ij_l98, ij_l108, ij_l114, ij_l116, ij_l127, ij_l128, ij_l149, ij_l250, ij_l384, ij_l768, ij_l1000, ij_l1536, ij_l3000, ij_l1000000, ij_l1000003, ij_l1000000000, ij_neg, ij_add, ij_sub, ij_mul, ij_lt, ij_le, ij_eq, ij_nat, tn_nat, tn_12, tn_24, tn_36, tn_48, ck_in, ob_s, o2_s, vl_s, ox_l, ox_r, ck_tr, if_pos, if_neg, a1, a2, a3, gI_sF, b1]
        rfl
      · simp (disch := omega) only [gF_sI, gI_sF, gF_sF_eq, gI_sI_eq, gI_sI_ne]
        by_cases q : f = j
        · simp only [q, if_true]
          exact ⟨trivial, trivial, trivial⟩
        · simp only [q, if_false]
          exact hP f (by omega)) N σ (by omega) ⟨Un.rfl, fun f hf => by omega⟩
  refine ⟨τ, ?_, fun f hf => ?_, hU⟩
  · refine Eq.trans e ?_
    have e2 : N - (93 - 0) = (N - 93 - 1) + 1 := by omega
    show fX0_copy_L2 _ N 3 4 (N - (93 - 0)) _ τ = _
    rw [e2]
    simp only [fX0_copy_L2]
    simp (disch := omega) only [ij_l0, ij_l1, ij_l2, ij_l3, ij_l4, ij_l5, ij_l6, ij_l8, ij_l12, ij_l16, ij_l19, ij_l23, ij_l24, ij_l31, ij_l32, ij_l36, ij_l47, ij_l48, ij_l56, ij_l92, ij_l93, ij_l98, ij_l108, ij_l114, ij_l116, ij_l127, ij_l128, ij_l149, ij_l250, ij_l384, ij_l768, ij_l1000, ij_l1536, ij_l3000, ij_l1000000, ij_l1000003, ij_l1000000000, ij_neg, ij_add, ij_sub, ij_mul, ij_lt, ij_le, ij_eq, ij_nat, tn_nat, tn_12, tn_24, tn_36, tn_48, ck_in, ob_s, o2_s, vl_s, ox_l, ox_r, ck_tr, if_pos, if_neg]
  · obtain ⟨p1, p2, p3⟩ := hP f hf
    rw [p1, p2, p3]
    exact hB f hf
end S15
