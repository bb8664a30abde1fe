/-! Steps on both sides: vote, putAbove. -/
section S4
variable {A : Ab} {N : Nat} {σ : St}
theorem vok_v {u s v : Nat} (hu : u < 3) (hs : s < 12) (hv : v ≤ 3) : vokn A (aN A + 1) (56 + 12 * u + s) v := by
  refine ⟨fun q => by omega, fun q1 q2 => by omega, fun _ _ => by omega, fun q1 q2 => by omega, fun q1 q2 => by omega, fun q1 q2 => hv, fun q => by omega⟩
theorem m_own {β : Nat → Nat} (h : WM A β σ) {u s : Nat} (hu : u < 3) (hs : s < 12) : gI σ 157 0 (56 + 12 * u + s) = ij (β (56 + 12 * u + s)) ∧ β (56 + 12 * u + s) ≤ 3 :=
  ⟨by rw [h.2.1 _ (by omega), mvI_n _ (by omega)], (h.2.2.1 _ (by omega)).2.2.2.2.2.1 (by omega) (by omega)⟩
theorem m_voteLoop {β : Nat → Nat} (h : WM A β σ) (hN : 100 ≤ N) {u : Nat} (hu : u < 3) {a : Int} (K : Int32 → Int32 → Option (Int32 × St)) : fX8_vote_L71 K N σ (ij (56 + 12 * u)) N (ij a) (ij 0) = K (ij (a + vtb β u 12)) (ij 12) := by
  have key := lp_end (fun n j => fX8_vote_L71 K N σ (ij (56 + 12 * u)) n (ij (a + vtb β u j)) (ij j)) (a := 0) (b := 12) (R := K (ij (a + vtb β u 12)) (ij 12)) (by omega) (fun n j _ hj => ?_) (fun n => ?_) N (by omega)
  · simpa [vtb] using key
  · obtain ⟨o1, _⟩ := m_own h hu hj
    have e : ((56 : Int) + 12 * u + j).toNat = 56 + 12 * u + j := by omega
    simp only [fX8_vote_L71]
    simp (disch := omega) only [ij_l0, ij_l1, ij_l2, ij_l3, ij_l4, ij_l5, ij_l6, ij_l8, ij_l12, ij_l16, ij_l19, ij_l23, ij_l24, ij_l31, ij_l32, ij_l36, ij_l47, ij_l48, ij_l56, ij_l92, ij_l93, ij_l98, ij_l108, ij_l114, ij_l116, ij_l127, ij_l128, ij_l149, ij_l250, ij_l384, ij_l768, ij_l1000, ij_l1536, ij_l3000, ij_l1000000, ij_l1000003, ij_l1000000000, ij_neg, ij_add, ij_sub, ij_mul, ij_lt, ij_le, ij_eq, ij_nat, tn_nat, tn_12, tn_24, tn_36, tn_48, ck_in, ob_s, o2_s, vl_s, ox_l, ox_r, ck_tr, if_pos, if_neg, e, o1]
    simp [vtb, Int.add_assoc]
  · simp only [fX8_vote_L71]
    simp (disch := omega) only [ij_l0, ij_l1, ij_l2, ij_l3, ij_l4, ij_l5, ij_l6, ij_l8, ij_l12, ij_l16, ij_l19, ij_l23, ij_l24, ij_l31, ij_l32, ij_l36, ij_l47, ij_l48, ij_l56, ij_l92, ij_l93, ij_l98, ij_l108, ij_l114, ij_l116, ij_l127, ij_l128, ij_l149, ij_l250, ij_l384, ij_l768, ij_l1000, ij_l1536, ij_l3000, ij_l1000000, ij_l1000003, ij_l1000000000, ij_neg, ij_add, ij_sub, ij_mul, ij_lt, ij_le, ij_eq, ij_nat, tn_nat, tn_12, tn_24, tn_36, tn_48, ck_in, ob_s, o2_s, vl_s, ox_l, ox_r, ck_tr, if_pos, if_neg]
    rfl
theorem p_vote (h : Inv A σ) (hN : 1000000 ≤ N) (x y z : Int32) : PairI (fL_vote N σ x y z) (fun τ => fX8_vote N τ x y z) := by
  obtain ⟨hI, hC, hM⟩ := h
  obtain ⟨x, rfl, hx⟩ := rg_ex x
  obtain ⟨y, rfl, hy⟩ := rg_ex y
  obtain ⟨z, rfl, hz⟩ := rg_ex z
  have hn := hI.1.1
  obtain ⟨hz1, hz2⟩ := id hz
  obtain ⟨k1, k2, k3, k4⟩ := h1234 (H := fun E5 σ3 => (if E5 = "java/lang/IllegalArgumentException" then (some ((1 : Int32), σ3)) else (if E5 = "java/util/NoSuchElementException" then (some ((2 : Int32), σ3)) else (if E5 = "java/lang/UnsupportedOperationException" then (some ((3 : Int32), σ3)) else (if E5 = "java/lang/IllegalStateException" then (some ((4 : Int32), σ3)) else none))))) rfl
  have l0 : (ij z < (0 : Int32)) = (z < 0) := ij_lt (b := 0) (by omega) (by omega) (by omega) (by omega)
  have l3 : (ij z ≤ (3 : Int32)) = (z ≤ 3) := ij_le (b := 3) (by omega) (by omega) (by omega) (by omega)
  have mb : ∀ τ, fX8_isBetween N τ (ij z) (0 : Int32) (3 : Int32) = some (bi (decide (0 ≤ z ∧ z ≤ 3))) := fun τ => m_isBetween (b := 0) (c := 3) hz (by omega) (by omega)
  unfold fL_vote fX7_vote
  rw [c_user hx]
  cases e : usz x with
  | false =>
    simp only [Bool.false_eq_true, if_false, ox_r]
    refine mkI hI hC (c := 1) (k1 σ) (by omega) ⟨ij 0, sI (sI σ 8 0 0 (ij 0)) 8 0 0 (ij 1), ?_, MR_thr (MR_thr hM _) _, (Un_thr _ _).tr (Un_thr _ _), thr_thr _ _, fun q => by omega⟩
    unfold fX8_vote
    rw [vl_s, m_isUser hx, usd _ e, ob_s, if_pos (by decide), m_fails, o2_s]
    rfl
  | true =>
    obtain ⟨u, rfl, hu⟩ := usz_nat e
    simp only [if_true, tn_nat, ox_l, l0, l3]
    by_cases ez : 0 ≤ z ∧ z ≤ 3
    · rw [if_neg (by omega), if_pos ez.2, c_seen hI hC hu hy]
      obtain ⟨v, rfl⟩ : ∃ v : Nat, z = v := ⟨z.toNat, by omega⟩
      cases e2 : snz A (bv A (kn A u)) y with
      | false =>
        simp only [Bool.false_eq_true, if_false, ox_r]
        obtain ⟨τ, t1, t2, t3, t4⟩ := m_start (N := N) hI hM (by omega) hu
        refine mkI hI hC (c := 2) (k2 σ) (by omega) ⟨ij 0, sI τ 8 0 0 (ij 2), ?_, MR_thr t2.1 _, t3.tr (Un_thr _ _), thr_thr _ _, fun q => by omega⟩
        unfold fX8_vote
        rw [vl_s, m_isUser hx, usd _ e, ob_s, if_neg (by decide), mb, decide_eq_true ez, ob_s, if_neg (by decide)]
        simp only [ij_l0, ij_l1, ij_l2, ij_l3, ij_l4, ij_l5, ij_l6, ij_l8, ij_l12, ij_l16, ij_l19, ij_l23, ij_l24, ij_l31, ij_l32, ij_l36, ij_l47, ij_l48, ij_l56, ij_l92, ij_l93, ij_l98, ij_l108, ij_l114, ij_l116, ij_l127, ij_l128, ij_l149, ij_l250, ij_l384, ij_l768, ij_l1000, ij_l1536, ij_l3000, ij_l1000000, ij_l1000003, ij_l1000000000, ij_neg, ij_add, ij_sub, ij_mul]
        rw [t1, ob_s, m_isSeen (MB_WM hI t2) hy.1 hy.2, e2, ob_s, if_pos (by decide), m_fails, o2_s]
      | true =>
        obtain ⟨s, rfl, hs⟩ := snz_ex e2
        have hs2 := sn12 hI hs
        have hV := CR_VW hI hu hC
        obtain ⟨o1, o2⟩ := f_votesBy (N := N) hV hu hs2
        have tb := vtb_le hV hu 12 (by omega)
        have c5 : ((ij (vtb (bv A (kn A u)) u 12) - ij (bv A (kn A u) (56 + 12 * u + s)) + ij v) ≤ (5 : Int32)) = ((v : Int) - bv A (kn A u) (56 + 12 * u + s) + vtb (bv A (kn A u)) u 12 ≤ 5) := by
          rw [ij_sub, ij_add, show (5 : Int32) = ij 5 from rfl, ij_le (by omega) (by omega) (by omega) (by omega)]
          rw [eq_iff_iff]; omega
        have sh := f_areVotesShown (N := N) hV
        simp only [if_true, ox_l]
        rw [o1, ob_s, sh, ob_s]
        have tail : ∀ σ' τ, fX8_builds N (sI σ' 8 0 0 (ij 0)) (ij u) = some τ → MB A u τ → fX8_vote N σ' (ij u) (ij s) (ij v) = if bv A (kn A u) 92 = 1 then some (ij 0, sI τ 8 0 0 (ij 3)) else if (v : Int) - bv A (kn A u) (56 + 12 * u + s) + vtb (bv A (kn A u)) u 12 ≤ 5 then (if aN A = 250 then some (ij 0, sI τ 8 0 0 (ij 4)) else ob (fX8_plans N τ (ij ((56 + 12 * u + s : Nat) : Int)) (ij v)) (fun σ3 => ob (fX8_makes N σ3 (ij u) (ij 1)) fun σ19 => some (ij (bv A (kn A u) (56 + 12 * u + s)), σ19))) else some (ij 0, sI τ 8 0 0 (ij 3)) := by
          intro σ' τ t1 ht
          have hW := MB_WM hI ht
          obtain ⟨m1, _⟩ := m_own hW hu hs2
          obtain ⟨n1, n2⟩ := m_shown hW
          have mf := m_full ht.1 hn
          have e' : ((56 : Int) + 12 * u + s).toNat = 56 + 12 * u + s := by omega
          have hn92 : ((92 : Int)).toNat = 92 := rfl
          unfold fX8_vote
          rw [vl_s, m_isUser hx, usd _ e, ob_s, if_neg (by decide), mb, decide_eq_true ez, ob_s, if_neg (by decide)]
          simp only [ij_l0, ij_l1, ij_l2, ij_l3, ij_l4, ij_l5, ij_l6, ij_l8, ij_l12, ij_l16, ij_l19, ij_l23, ij_l24, ij_l31, ij_l32, ij_l36, ij_l47, ij_l48, ij_l56, ij_l92, ij_l93, ij_l98, ij_l108, ij_l114, ij_l116, ij_l127, ij_l128, ij_l149, ij_l250, ij_l384, ij_l768, ij_l1000, ij_l1536, ij_l3000, ij_l1000000, ij_l1000003, ij_l1000000000, ij_neg, ij_add, ij_sub, ij_mul]
          rw [t1, ob_s, m_isSeen hW hy.1 hy.2, e2, ob_s, if_neg (by decide)]
          simp (disch := omega) only [ij_l0, ij_l1, ij_l2, ij_l3, ij_l4, ij_l5, ij_l6, ij_l8, ij_l12, ij_l16, ij_l19, ij_l23, ij_l24, ij_l31, ij_l32, ij_l36, ij_l47, ij_l48, ij_l56, ij_l92, ij_l93, ij_l98, ij_l108, ij_l114, ij_l116, ij_l127, ij_l128, ij_l149, ij_l250, ij_l384, ij_l768, ij_l1000, ij_l1536, ij_l3000, ij_l1000000, ij_l1000003, ij_l1000000000, ij_neg, ij_add, ij_sub, ij_mul, ij_lt, ij_le, ij_eq, ij_nat, tn_nat, tn_12, tn_24, tn_36, tn_48, ck_in, ob_s, o2_s, vl_s, ox_l, ox_r, ck_tr, if_pos, if_neg, e', m1]
          rw [m_voteLoop hW (by omega) hu]
          simp (disch := omega) only [ij_l0, ij_l1, ij_l2, ij_l3, ij_l4, ij_l5, ij_l6, ij_l8, ij_l12, ij_l16, ij_l19, ij_l23, ij_l24, ij_l31, ij_l32, ij_l36, ij_l47, ij_l48, ij_l56, ij_l92, ij_l93, ij_l98, ij_l108, ij_l114, ij_l116, ij_l127, ij_l128, ij_l149, ij_l250, ij_l384, ij_l768, ij_l1000, ij_l1536, ij_l3000, ij_l1000000, ij_l1000003, ij_l1000000000, ij_neg, ij_add, ij_sub, ij_mul, ij_lt, ij_le, ij_eq, ij_nat, tn_nat, tn_12, tn_24, tn_36, tn_48, ck_in, ob_s, o2_s, vl_s, ox_l, ox_r, ck_tr, if_pos, if_neg, e', m1, hn92, n1, mf]
          by_cases q : bv A (kn A u) 92 = 1
          · have q2 : (bv A (kn A u) 92 : Int) = 1 := by omega
            simp only [q, q2, if_true]
            rfl
          · have q2 : ¬ (bv A (kn A u) 92 : Int) = 1 := by omega
            simp only [q, q2, if_false]
            rfl
        by_cases q92 : bv A (kn A u) 92 = 1
        · simp only [q92, if_true] at tail
          rw [q92, if_neg (by decide), ox_r]
          obtain ⟨τ, t1, t2, t3, t4⟩ := m_start (N := N) hI hM (by omega) hu
          exact mkI hI hC (c := 3) (k3 σ) (by omega) ⟨ij 0, sI τ 8 0 0 (ij 3), tail σ τ t1 t2, MR_thr t2.1 _, t3.tr (Un_thr _ _), thr_thr _ _, fun q => by omega⟩
        · have q92' : (bv A (kn A u) 92 == 1) = false := by simp [q92]
          simp only [q92, if_false] at tail
          rw [q92', if_pos (by decide), f_allVotesBy hV (by omega) hu, ob_s]
          simp only [c5]
          by_cases q5 : (v : Int) - bv A (kn A u) (56 + 12 * u + s) + vtb (bv A (kn A u)) u 12 ≤ 5
          · simp only [q5, if_true] at tail
            rw [if_pos q5, c_room hC hn]
            by_cases e4 : aN A = 250
            · simp only [e4, if_true] at tail
              rw [if_pos e4, ox_r, ox_r]
              obtain ⟨τ, t1, t2, t3, t4⟩ := m_start (N := N) hI hM (by omega) hu
              exact mkI hI hC (c := 4) (k4 σ) (by omega) ⟨ij 0, sI τ 8 0 0 (ij 4), tail σ τ t1 t2, MR_thr t2.1 _, t3.tr (Un_thr _ _), thr_thr _ _, fun q => by omega⟩
            · simp only [e4, if_false] at tail
              rw [if_neg e4, ox_l]
              obtain ⟨τ, t1, t2, t3, t4⟩ := f_one hI hC hN (by omega) hu (f := 56 + 12 * u + s) (v := v) (by omega) (vok_v hu hs2 (by omega))
              rw [cvF_n _ (by omega)] at t1
              unfold fX7_voteField
              rw [ob_s]
              simp only [ij_l0, ij_l1, ij_l2, ij_l3, ij_l4, ij_l5, ij_l6, ij_l8, ij_l12, ij_l16, ij_l19, ij_l23, ij_l24, ij_l31, ij_l32, ij_l36, ij_l47, ij_l48, ij_l56, ij_l92, ij_l93, ij_l98, ij_l108, ij_l114, ij_l116, ij_l127, ij_l128, ij_l149, ij_l250, ij_l384, ij_l768, ij_l1000, ij_l1536, ij_l3000, ij_l1000000, ij_l1000003, ij_l1000000000, ij_neg, ij_add, ij_sub, ij_mul]
              rw [show (56 : Int) + u * 12 + s = ((56 + 12 * u + s : Nat) : Int) by omega, t1, ob_s, ox_l, vl_s]
              obtain ⟨τ1, w1, w2, w3, w4⟩ := m_start (N := N) (σ := sJ τ 0 (Int32.toInt64 (ij (bv A (kn A u) (56 + 12 * u + s))))) hI (MR_J (MR_un hM t3)) (by omega) hu
              obtain ⟨τ2, v1, v2, v3, v4⟩ := m_one hI (show aN A < 250 by omega) (show 1000 ≤ N by omega) hu w2 (f := 56 + 12 * u + s) (v := v) (by omega) (vok_v hu hs2 (by omega)) (mvI_n _ (by omega)).symm (fun σ19 => some (ij (bv A (kn A u) (56 + 12 * u + s)), σ19))
              exact mkI t4 (CR_J t2) (c := 0) rfl (by omega) ⟨ij (bv A (kn A u) (56 + 12 * u + s)), τ2, (tail _ τ1 w1 w2).trans v1, v2.1, w3.tr v3, v4.trans w4, fun _ => gJ_sJ _ _⟩
          · simp only [q5, if_false] at tail
            rw [if_neg q5, ox_r]
            obtain ⟨τ, t1, t2, t3, t4⟩ := m_start (N := N) hI hM (by omega) hu
            exact mkI hI hC (c := 3) (k3 σ) (by omega) ⟨ij 0, sI τ 8 0 0 (ij 3), tail σ τ t1 t2, MR_thr t2.1 _, t3.tr (Un_thr _ _), thr_thr _ _, fun q => by omega⟩
    · have hl : (if z < 0 then some ((Sum.inr "java/lang/IllegalArgumentException" : Int32 ⊕ String), σ) else if z ≤ 3 then (ox (fX7_needSeen N σ u (ij y)) (fun E τ => some (.inr E, τ)) fun _ σ3 => (ob (fX6_votesBy N σ3 u (ij u) (ij y)) fun v4 => (ob (fX6_areVotesShown N σ3 u) fun v5 => (if v5 = 0 then (ob (fX6_allVotesBy N σ3 u (ij u)) fun v6 => (if ((v6 - v4) + ij z) ≤ (5 : Int32) then (ox (fX7_needRoom N σ3) (fun E τ => some (.inr E, τ)) fun _ σ7 => (ob (fX7_voteField N σ7 (ij u) (ij y)) fun v8 => (ob (fX5_step N σ7 u v8 (FP.i2f (ij z))) fun σ9 => (some (.inl v4, σ9))))) else (some (.inr "java/lang/UnsupportedOperationException", σ3)))) else (some (.inr "java/lang/UnsupportedOperationException", σ3)))))) else some (.inr "java/lang/IllegalArgumentException", σ)) = some (.inr EI, σ) := by
        by_cases q : z < 0
        · rw [if_pos q]
        · rw [if_neg q, if_neg (by omega)]
      rw [hl, ox_r]
      refine mkI hI hC (c := 1) (k1 σ) (by omega) ⟨ij 0, sI (sI σ 8 0 0 (ij 0)) 8 0 0 (ij 1), ?_, MR_thr (MR_thr hM _) _, (Un_thr _ _).tr (Un_thr _ _), thr_thr _ _, fun q => by omega⟩
      unfold fX8_vote
      rw [vl_s, m_isUser hx, usd _ e, ob_s, if_neg (by decide), mb, decide_eq_false ez, ob_s, if_pos (by decide), m_fails, o2_s]
      rfl
end S4
