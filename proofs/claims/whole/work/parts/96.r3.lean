/-! The model's map; open cells on both sides. -/
def opn (A : Ab) (β : Nat → Nat) (c : Nat) : Bool := !cov A β c (aSh A)
section R3
variable {A : Ab} {N : Nat} {σ : St} {β : Nat → Nat}
theorem m_shuts (h : WM A β σ) (hN : 1000 ≤ N) : ∃ τ, fX8_shuts N σ = some τ ∧ Un T171 σ τ ∧ ∀ c, c < 384 → gI τ 171 0 c = bi (!opn A β c) := by
  unfold fX8_shuts
  obtain ⟨τ, e, hU, hP⟩ := lp_st (fun n j τ => fX8_shuts_L2 (fun _ σ18 => (some σ18)) N n (ij j) τ) (fun j τ => Un T171 σ τ ∧ ∀ c, c < j → gI τ 171 0 c = bi (cov A β c (aSh A))) (Nat.zero_le 384) (fun n j τ _ hj hP => by
      obtain ⟨hU, hP⟩ := hP
      have u1 : Un T171 τ (sI τ 171 0 j (bi false)) := Un.sI _ _ _ rfl
      obtain ⟨τ', t1, t2, t3, t4⟩ := m_shutsRow (N := N) (WM_171 (WM_171 h hU) u1) hN hj (by rw [gI_sI_eq, if_pos rfl]) (fun s => fX8_shuts_L2 (fun _ σ18 => (some σ18)) N n (ij ((j + 1 : Nat) : Int)) s)
      refine ⟨τ', ?_, (hU.tr u1).tr t2, fun c hc => ?_⟩
      · have n0 : vp_nar .boolean (ij 0) = bi false := rfl
        simp only [fX8_shuts_L2]
        simp (disch := omega) only [ij_l0, ij_l1, ij_l2, ij_l3, ij_l4, ij_l5, ij_l6, ij_l8, ij_l12, ij_l16, ij_l19, ij_l23, ij_l24, ij_l31, ij_l32, ij_l36, ij_l47, ij_l48, ij_l56, ij_l92, ij_l93, ij_l98, ij_l108, ij_l114, ij_l116, ij_l127, ij_l128, ij_l149, ij_l250, ij_l384, ij_l768, ij_l1000, ij_l1536, ij_l3000, ij_l1000000, ij_l1000003, ij_l1000000000, ij_neg, ij_add, ij_sub, ij_mul, ij_lt, ij_le, ij_eq, ij_nat, tn_nat, tn_12, tn_24, tn_36, tn_48, ck_in, ob_s, o2_s, vl_s, ox_l, ox_r, ck_tr, if_pos, if_neg, n0]
        exact t1
      · by_cases g : c = j
        · rw [g]; exact t3
        · rw [t4 c g, gI_sI_eq, if_neg g]
          exact hP c (by omega)) N σ (by omega) ⟨Un.rfl, fun c hc => by omega⟩
  refine ⟨τ, ?_, hU, fun c hc => ?_⟩
  · refine Eq.trans e ?_
    have e2 : N - (384 - 0) = (N - 384 - 1) + 1 := by omega
    show fX8_shuts_L2 _ N (N - (384 - 0)) _ τ = _
    rw [e2]
    simp only [fX8_shuts_L2]
    simp (disch := omega) only [ij_l0, ij_l1, ij_l2, ij_l3, ij_l4, ij_l5, ij_l6, ij_l8, ij_l12, ij_l16, ij_l19, ij_l23, ij_l24, ij_l31, ij_l32, ij_l36, ij_l47, ij_l48, ij_l56, ij_l92, ij_l93, ij_l98, ij_l108, ij_l114, ij_l116, ij_l127, ij_l128, ij_l149, ij_l250, ij_l384, ij_l768, ij_l1000, ij_l1536, ij_l3000, ij_l1000000, ij_l1000003, ij_l1000000000, ij_neg, ij_add, ij_sub, ij_mul, ij_lt, ij_le, ij_eq, ij_nat, tn_nat, tn_12, tn_24, tn_36, tn_48, ck_in, ob_s, o2_s, vl_s, ox_l, ox_r, ck_tr, if_pos, if_neg]
  · rw [hP c hc]
    unfold opn
    rw [Bool.not_not]
/-- the cell at a column and a row is open -/
def opz (A : Ab) (β : Nat → Nat) (x y : Int) : Bool := decide (0 ≤ x ∧ x ≤ 23 ∧ 0 ≤ y ∧ y ≤ 15) && opn A β (24 * y + x).toNat
theorem m_isOpen (hm : ∀ c, c < 384 → gI σ 171 0 c = bi (!opn A β c)) {x y : Int} (hx : rg x) (hy : rg y) : fX8_isOpen N σ (ij x) (ij y) = some (bi (opz A β x y)) := by
  have hb : fX8_isOnBoard N σ (ij x) (ij y) (1 : Int32) (1 : Int32) = some (bi (decide (0 ≤ x ∧ x ≤ 23 ∧ 0 ≤ y ∧ y ≤ 15))) := m_isOnBoard (w := 1) (h := 1) hx hy (by omega) (by omega)
  unfold fX8_isOpen opz
  rw [hb, ob_s]
  by_cases g : 0 ≤ x ∧ x ≤ 23 ∧ 0 ≤ y ∧ y ≤ 15
  · have q := hm (24 * y + x).toNat (by omega)
    rw [decide_eq_true g, if_neg (by decide)]
    cases o : opn A β (24 * y + x).toNat with
    | true =>
      rw [o] at q
      simp (disch := omega) only [ij_l0, ij_l1, ij_l2, ij_l3, ij_l4, ij_l5, ij_l6, ij_l8, ij_l12, ij_l16, ij_l19, ij_l23, ij_l24, ij_l31, ij_l32, ij_l36, ij_l47, ij_l48, ij_l56, ij_l92, ij_l93, ij_l98, ij_l108, ij_l114, ij_l116, ij_l127, ij_l128, ij_l149, ij_l250, ij_l384, ij_l768, ij_l1000, ij_l1536, ij_l3000, ij_l1000000, ij_l1000003, ij_l1000000000, ij_neg, ij_add, ij_sub, ij_mul, ij_lt, ij_le, ij_eq, ij_nat, tn_nat, tn_12, tn_24, tn_36, tn_48, ck_in, ob_s, o2_s, vl_s, ox_l, ox_r, ck_tr, if_pos, if_neg, q, bi_z]
      rfl
    | false =>
      rw [o] at q
      simp (disch := omega) only [ij_l0, ij_l1, ij_l2, ij_l3, ij_l4, ij_l5, ij_l6, ij_l8, ij_l12, ij_l16, ij_l19, ij_l23, ij_l24, ij_l31, ij_l32, ij_l36, ij_l47, ij_l48, ij_l56, ij_l92, ij_l93, ij_l98, ij_l108, ij_l114, ij_l116, ij_l127, ij_l128, ij_l149, ij_l250, ij_l384, ij_l768, ij_l1000, ij_l1536, ij_l3000, ij_l1000000, ij_l1000003, ij_l1000000000, ij_neg, ij_add, ij_sub, ij_mul, ij_lt, ij_le, ij_eq, ij_nat, tn_nat, tn_12, tn_24, tn_36, tn_48, ck_in, ob_s, o2_s, vl_s, ox_l, ox_r, ck_tr, if_pos, if_neg, q, bi_z]
      rfl
  · rw [decide_eq_false g, if_pos (by decide)]
    rfl
end R3
