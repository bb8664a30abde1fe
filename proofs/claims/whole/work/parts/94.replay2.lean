/-! outcomeAnew and outcomes. -/
def pf : Nat → Nat
  | 0 => 1
  | j + 1 => if j < 2 then 1 else pf j * j
section S16
variable {A : Ab} {N : Nat} {σ : St}
theorem f_takeN (hI : Inv0 A) (hN : 1000000 ≤ N) {b c : Nat} {q : Nat → Nat} (g : Nat → Nat → St → Option (Int32 × St)) (m : Nat) (hm : m ≤ c) (hc : c ≤ 250) (hb : b = 3 ∨ b = 4)
    (hg : ∀ n j τ, j < m → gI τ 5 0 7 = ij c → (∀ i, i < c → gI τ 124 0 i = ij (q i) ∧ q i < aN A) → g (n + 1) j τ = ob (fX0_take N τ b (ij (q j))) fun σ6 => g n (j + 1) σ6)
    (hC : CR A σ) (h5 : gI σ 5 0 7 = ij c) (hq : ∀ i, i < c → gI σ 124 0 i = ij (q i) ∧ q i < aN A) (hB : BdC A (fun _ => false) b σ) (n0 : Nat) (hn0 : m ≤ n0) :
    ∃ τ, g n0 0 σ = g (n0 - m) m τ ∧ Un (Tb b) σ τ ∧ BdC A (KP q m) b τ := by
  obtain ⟨τ, e, hU, hP⟩ := lp_st g (fun j τ => Un (Tb b) σ τ ∧ BdC A (KP q j) b τ) (Nat.zero_le m) (fun n j τ _ hj hP => by
      obtain ⟨hU, hP⟩ := hP
      have hCt := CR_rp hC (Tb_Tr hb hU)
      have h5' : gI τ 5 0 7 = ij c := by rw [hU.I 5 0 (by unfold Tb; simp)]; exact h5
      have hq' : ∀ i, i < c → gI τ 124 0 i = ij (q i) ∧ q i < aN A := fun i hi => by rw [hU.I 124 0 (by unfold Tb; simp)]; exact hq i hi
      obtain ⟨τ', t1, t2, t3⟩ := f_take (N := N) hCt.2.1 hI.1 hN hP (o := q j) (hq j (by omega)).2
      refine ⟨τ', ?_, hU.tr t3, ?_⟩
      · rw [hg n j τ hj h5' hq', t1, ob_s]
      · rw [KP_s]; exact t2) n0 σ (by omega) ⟨Un.rfl, by rw [KP_0]; exact hB⟩
  exact ⟨τ, e, hU, hP⟩
theorem VW_3 (hI : Inv0 A) (hC : CR A σ) {K K' : Nat → Bool} (hK : ∀ o, o < aN A → K' o = K o) (hB : BdC A K 3 σ) : VW A (bv A K') 3 σ := by
  have hB' := BdC_K hK hB
  exact ⟨hC.1, fun f hf => (hB' f hf).2.2.1, BOK_bv hI.1 hI.2.1 (fun f hf => (hB' f hf).1), hI.2.1⟩
theorem f_sumUpAnew (hI : Inv0 A) (hC : CR A σ) (hN : 1000000 ≤ N) {u : Nat} (hu : u < 3) : ∃ τ, fX3_sumUpAnew N σ u = some (su A (bv A (kn A u)) 12, τ) ∧ Un Tr σ τ := by
  obtain ⟨τ1, c, q, a1, a2, a3, a4, a5, a6⟩ := f_listKnown (N := N) hI hC hN hu
  obtain ⟨τ2, b1, b2, b3⟩ := f_empty (N := N) (σ := τ1) (A := A) (b := 3) hN
  have hC1 := CR_rp hC a2
  have hC2 := CR_rp hC1 (Tb_Tr (Or.inl rfl) b3)
  have h5 : gI τ2 5 0 7 = ij c := by rw [b3.I 5 0 rfl]; exact a3
  have hq : ∀ i, i < c → gI τ2 124 0 i = ij (q i) ∧ q i < aN A := fun i hi => by rw [b3.I 124 0 rfl]; exact a5 i hi
  obtain ⟨τ3, e1, e2, e3⟩ := f_takeN (N := N) hI hN (b := 3) (q := q) (fun n j τ => fX3_sumUpAnew_L14 (fun _ σ8 => (ob (fX6_sumUp N σ8 3) fun v9 => (some (v9, σ8)))) N n (ij j) τ) c (Nat.le_refl _) a4 (Or.inl rfl) (fun n j τ hj g5 gq => by
    simp only [fX3_sumUpAnew_L14]
    rw [g5, f_intAt (by omega) (by omega) (by omega), tn_nat, (gq j hj).1, if_neg (by simp (disch := omega) only [ij_le]; omega), ob_s, show ij (j : Int) + (1 : Int32) = ij ((j + 1 : Nat) : Int) from ij_add j 1]
    simp only [vl_s]) hC2 h5 hq b2 N (by omega)
  have hC3 := CR_rp hC2 (Tb_Tr (Or.inl rfl) e2)
  have hV := VW_3 (K' := kn A u) hI hC3 (fun o ho => by rw [Bool.eq_iff_iff, KP_iff]; exact a6 o ho) e3
  refine ⟨τ3, ?_, (a2.tr (Tb_Tr (Or.inl rfl) b3)).tr (Tb_Tr (Or.inl rfl) e2)⟩
  unfold fX3_sumUpAnew
  rw [a1, ob_s, b1, ob_s]
  refine Eq.trans e1 ?_
  have e9 : N - c = (N - c - 1) + 1 := by omega
  have h5' : gI τ3 5 0 7 = ij c := by rw [e2.I 5 0 rfl]; exact h5
  rw [e9]
  simp only [fX3_sumUpAnew_L14]
  rw [h5', if_pos (by simp (disch := omega) only [ij_le]; omega), f_sumUp hV (by omega), ob_s]
theorem m_outcome {u : Nat} (hI : Inv0 A) (hM : MR A σ) (hN : 1000 ≤ N) (hu : u < 3) : ∃ τ, fX8_outcome N σ (ij u) = some (su A (bv A (kn A u)) 12, τ) ∧ MR A τ ∧ Un Tm σ τ ∧ gI τ 8 0 0 = ij 0 := by
  rcases m_nobody (N := N) hI hM hN (z := (u : Int)) (by constructor <;> omega) with ⟨q, _⟩ | ⟨u', e', hu', τ, t1, t2, t3, t4⟩
  · rw [usz_ij hu] at q; cases q
  · have : u = u' := by omega
    subst this
    refine ⟨τ, ?_, t2.1, t3, t4⟩
    unfold fX8_outcome
    rw [t1, o2_s, if_pos (by decide), m_outcomeNow (MB_WM hI t2) (by omega), ob_s]
theorem p_outcomeAnew (h : Inv A σ) (hN : 1000000 ≤ N) (x : Int32) : PairI (fL_outcomeAnew N σ x) (fun τ => fX8_outcomeAnew N τ x) := by
  obtain ⟨hI, hC, hM⟩ := h
  obtain ⟨x, rfl, hx⟩ := rg_ex x
  have k1 : H1 (fun E5 σ3 => (if E5 = "java/lang/IllegalArgumentException" then (some ((1 : Int32), σ3)) else none)) := fun σ => by simp [EI]
  unfold fL_outcomeAnew fX7_outcomeAnew
  rw [c_user hx]
  cases e : usz x with
  | false =>
    simp only [Bool.false_eq_true, if_false, ox_r]
    refine mkI hI hC (c := 1) (k1 σ) (by omega) ?_
    rcases m_nobody (N := N) hI hM (by omega) hx with ⟨_, τ, t1, t2, t3, t4⟩ | ⟨u, rfl, hu, _⟩
    · refine ⟨0, τ, ?_, t2, t3, t4, fun q => by omega⟩
      unfold fX8_outcomeAnew fX8_outcome
      rw [t1, o2_s, if_neg (by decide), o2_s]
    · rw [usz_ij hu] at e; cases e
  | true =>
    obtain ⟨u, rfl, hu⟩ := usz_nat e
    simp only [if_true, tn_nat, ox_l]
    obtain ⟨τ, t1, t2⟩ := f_sumUpAnew (N := N) hI hC hN hu
    rw [t1, o2_s, ox_l, vl_s]
    obtain ⟨τ2, m1, m2, m3, m4⟩ := m_outcome (N := N) (σ := sJ τ 0 (Int32.toInt64 (su A (bv A (kn A u)) 12))) hI (MR_J (MR_un hM (Tr_Tc t2))) (by omega) hu
    refine mkI hI (CR_J (CR_rp hC t2)) (c := 0) rfl (by omega) ⟨su A (bv A (kn A u)) 12, τ2, ?_, m2, m3, m4, fun _ => gJ_sJ _ _⟩
    unfold fX8_outcomeAnew
    rw [m1, o2_s]
def Tx : Nat → Nat → Bool := fun c q => (c == 125 && q == 0) || ((c == 120 || c == 121 || c == 122) && q == 3)
theorem Tx_Tr {τ : St} (h : Un Tx σ τ) : Un Tr σ τ := h.mono (fun c o e => by unfold Tr at e; unfold Tx; simp at e ⊢; omega)
theorem fm_xor : ∀ i : Fin 24, ∀ v : Fin 5, (0 : Int32) ≤ (ij (i.val : Int) ^^^ ij (v.val : Int)) := by decide +kernel
theorem f_fm {i v : Nat} (hi : i < 24) (hv : 1 ≤ v ∧ v ≤ 4) : fJ9_floorMod_7cf53 N σ (ij i) (ij v) = some (ij (i % v : Nat)) := by
  have hx := fm_xor ⟨i, hi⟩ ⟨v, by omega⟩
  have hnz : (ij (v : Int) = 0) = False := by
    have : (ij (v : Int) = ij 0) = ((v : Int) = 0) := ij_eq (by omega) (by omega) (by omega) (by omega)
    refine eq_false (fun q => ?_)
    have q2 : ij (v : Int) = ij 0 := q
    rw [this] at q2
    omega
  unfold fJ9_floorMod_7cf53
  rw [show decide (¬ ij (v : Int) = 0) = true by simp [hnz], ck_tr, vl_s, ij_div (by omega) (by omega) (by omega) (by omega), ij_mul, ij_sub]
  have hxx : (0 : Int32) ≤ (ij (i : Int) ^^^ ij (v : Int)) := hx
  rw [if_pos hxx]
  congr 2
  have := Int.mul_ediv_add_emod (i : Int) (v : Int)
  have h2 : ((i % v : Nat) : Int) = (i : Int) % (v : Int) := rfl
  have h3 : (v : Int) * ((i : Int) / (v : Int)) = (i : Int) / (v : Int) * (v : Int) := Int.mul_comm _ _
  omega
theorem f_mixLoop (hI : Inv0 A) (hN : 1000000 ≤ N) : ∀ v : Nat, v ≤ 4 → ∀ i : Nat, i < 24 → ∀ (σ : St) (K : Nat → Bool) (s : Nat → Nat) n, v < n → CR A σ → BdC A K 3 σ → (∀ k, k < v → gI σ 125 0 k = ij (s k) ∧ s k < aN A) →
    ∃ τ K', fX3_mix_L49 (fun _ _ σ19 => (some σ19)) N n (ij i) (ij v) σ = some τ ∧ BdC A K' 3 τ ∧ Un Tx σ τ ∧ ∀ o, K' o = true ↔ K o = true ∨ ∃ k, k < v ∧ s k = o := by
  intro v
  induction v with
  | zero =>
    intro _ i hi σ K s n hn hC hB hs
    obtain ⟨n, rfl⟩ : ∃ k, n = k + 1 := ⟨n - 1, by omega⟩
    refine ⟨σ, K, ?_, hB, Un.rfl, fun o => ⟨fun h => Or.inl h, ?_⟩⟩
    · simp only [fX3_mix_L49]
      rw [if_pos (by decide)]
    · rintro (h | ⟨k, h, _⟩)
      · exact h
      · omega
  | succ v ih =>
    intro hv i hi σ K s n hn hC hB hs
    obtain ⟨n, rfl⟩ : ∃ k, n = k + 1 := ⟨n - 1, by omega⟩
    have hr : i % (v + 1) < v + 1 := Nat.mod_lt i (Nat.succ_pos v)
    obtain ⟨r, hrd⟩ : ∃ r, r = i % (v + 1) := ⟨_, rfl⟩
    rw [← hrd] at hr
    have hfm := f_fm (N := N) (σ := σ) (i := i) (v := v + 1) hi (by omega)
    rw [← hrd] at hfm
    obtain ⟨τ1, t1, t2, t3⟩ := f_take (N := N) hC.2.1 hI.1 hN hB (o := s r) (hs r hr).2
    have u1 : Un Tx σ τ1 := t3.mono (fun c o e => by unfold Tx at e; unfold Tb; simp at e ⊢; omega)
    have h125 : gI τ1 125 0 = gI σ 125 0 := t3.I 125 0 rfl
    have u2 : Un Tx σ (sI τ1 125 0 r (ij (s v))) := u1.tr (Un.sI _ _ _ rfl)
    obtain ⟨τ2, K', w1, w2, w3, w4⟩ := ih (by omega) (i / (v + 1)) (Nat.lt_of_le_of_lt (Nat.div_le_self _ _) hi) (sI τ1 125 0 r (ij (s v))) (KU K (s r)) (fun k => if k = r then s v else s k) n (by omega) (CR_rp hC (Tx_Tr u2)) (by
        refine BdC_cg t2 rfl ?_ ?_
        · funext z; exact gI_sI_ne (by omega)
        · funext z; exact gI_sI_ne (by omega)) (fun k hk => by
        rw [gI_sI_eq, h125]
        show _ = ij ((if k = r then s v else s k : Nat) : Int) ∧ (if k = r then s v else s k) < aN A
        by_cases e : k = r
        · rw [if_pos e, if_pos e]
          exact ⟨rfl, (hs v (by omega)).2⟩
        · rw [if_neg e, if_neg e]
          exact hs k (by omega))
    have c0 : decide (¬ ij ((v + 1 : Nat) : Int) = 0) = true := by
      have : (ij ((v + 1 : Nat) : Int) = ij 0) = (((v + 1 : Nat) : Int) = 0) := ij_eq (by omega) (by omega) (by omega) (by omega)
      rw [decide_eq_true_eq]
      intro q
      have q2 : ij ((v + 1 : Nat) : Int) = ij 0 := q
      rw [this] at q2
      omega
    refine ⟨τ2, K', ?_, w2, u2.tr w3, fun o => ?_⟩
    · have a1 := (hs r hr).1
      have a2 : gI τ1 125 0 v = ij (s v) := by rw [h125]; exact (hs v (by omega)).1
      have n1 : ¬ ij ((v + 1 : Nat) : Int) < 1 := by
        have : (ij ((v + 1 : Nat) : Int) < ij 1) = (((v + 1 : Nat) : Int) < 1) := ij_lt (by omega) (by omega) (by omega) (by omega)
        intro q
        have q2 : ij ((v + 1 : Nat) : Int) < ij 1 := q
        rw [this] at q2
        omega
      simp only [fX3_mix_L49]
      rw [if_neg n1, hfm, ob_s, c0, ck_tr, vl_s, ij_div (by omega) (by omega) (by omega) (by omega)]
      simp (disch := omega) only [ij_l0, ij_l1, ij_l2, ij_l3, ij_l4, ij_l5, ij_l6, ij_l8, ij_l12, ij_l16, ij_l19, ij_l23, ij_l24, ij_l31, ij_l32, ij_l36, ij_l47, ij_l48, ij_l56, ij_l92, ij_l93, ij_l98, ij_l108, ij_l114, ij_l116, ij_l127, ij_l128, ij_l149, ij_l250, ij_l384, ij_l768, ij_l1000, ij_l1536, ij_l3000, ij_l1000000, ij_l1000003, ij_l1000000000, ij_neg, ij_add, ij_sub, ij_mul, ij_lt, ij_le, ij_eq, ij_nat, tn_nat, tn_12, tn_24, tn_36, tn_48, ck_in, ob_s, o2_s, vl_s, ox_l, ox_r, ck_tr, if_pos, if_neg, a1]
      rw [t1, ob_s]
      have e1 : (((v + 1 : Nat) : Int) - 1).toNat = v := by omega
      have e2 : ((v + 1 : Nat) : Int) + -1 = (v : Int) := by omega
      simp (disch := omega) only [ij_l0, ij_l1, ij_l2, ij_l3, ij_l4, ij_l5, ij_l6, ij_l8, ij_l12, ij_l16, ij_l19, ij_l23, ij_l24, ij_l31, ij_l32, ij_l36, ij_l47, ij_l48, ij_l56, ij_l92, ij_l93, ij_l98, ij_l108, ij_l114, ij_l116, ij_l127, ij_l128, ij_l149, ij_l250, ij_l384, ij_l768, ij_l1000, ij_l1536, ij_l3000, ij_l1000000, ij_l1000003, ij_l1000000000, ij_neg, ij_add, ij_sub, ij_mul, ij_lt, ij_le, ij_eq, ij_nat, tn_nat, tn_12, tn_24, tn_36, tn_48, ck_in, ob_s, o2_s, vl_s, ox_l, ox_r, ck_tr, if_pos, if_neg, e1, e2, a2]
      exact w1
    · rw [w4]
      unfold KU
      rw [Bool.or_eq_true, beq_iff_eq]
      constructor
      · rintro ((h | h) | ⟨k, k1, k2⟩)
        · exact Or.inl h
        · exact Or.inr ⟨r, hr, h.symm⟩
        · have k2 : (if k = r then s v else s k) = o := k2
          by_cases e : k = r
          · rw [if_pos e] at k2
            exact Or.inr ⟨v, by omega, k2⟩
          · rw [if_neg e] at k2
            exact Or.inr ⟨k, by omega, k2⟩
      · rintro (h | ⟨k, k1, k2⟩)
        · exact Or.inl (Or.inl h)
        · by_cases e : k = r
          · rw [e] at k2
            exact Or.inl (Or.inr k2.symm)
          · by_cases g : k < v
            · exact Or.inr ⟨k, g, (if_neg e).trans k2⟩
            · have ek : k = v := by omega
              rw [ek] at k2
              exact Or.inr ⟨r, by omega, (if_pos rfl).trans k2⟩
end S16
