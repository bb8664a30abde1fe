/-! Steps on both sides: unlock, disconnect, vote, show, putAbove. -/
section S3
variable {A : Ab} {N : Nat} {σ : St}
theorem m_start (hI : Inv0 A) (hM : MR A σ) (hN : 1000 ≤ N) {u : Nat} (hu : u < 3) : ∃ τ, fX8_builds N (sI σ 8 0 0 (ij 0)) (ij u) = some τ ∧ MB A u τ ∧ Un Tm σ τ ∧ gI τ 8 0 0 = ij 0 := by
  obtain ⟨τ, t1, t2, t3, t4⟩ := m_build hI (MR_thr hM (ij 0)) hN hu
  exact ⟨τ, t1, t2, (Un_thr _ _).tr t3, t4.trans (thr_thr _ _)⟩
theorem m_fails (c : Int32) : fX8_fails N σ c = some (ij 0, sI σ 8 0 0 c) := rfl
theorem m_wrong (c : Int32) : fX8_isWrong N σ c = some (ij 0, sI σ 8 0 0 c) := rfl
theorem m_full (hB : MR A σ) (hn : aN A ≤ 250) : (gI σ 8 0 20 = ij 250) = (aN A = 250) := by
  rw [hB.2.1.1, ij_eq (by omega) (by omega) (by omega) (by omega), eq_iff_iff]
  omega
theorem usd {x : Int} (b : Bool) (h : usz x = b) : decide (0 ≤ x ∧ x ≤ 2) = b := h
theorem p_unlock (h : Inv A σ) (hN : 1000000 ≤ N) (x y : Int32) : PairI (fL_unlock N σ x y) (fun τ => fX8_unlock N τ x y) := by
  obtain ⟨hI, hC, hM⟩ := h
  obtain ⟨x, rfl, hx⟩ := rg_ex x
  obtain ⟨y, rfl, hy⟩ := rg_ex y
  have hn := hI.1.1
  obtain ⟨k1, k2, k3, k4⟩ := h1234 (H := fun E5 σ3 => (if E5 = "java/lang/IllegalArgumentException" then (some ((1 : Int32), σ3)) else (if E5 = "java/util/NoSuchElementException" then (some ((2 : Int32), σ3)) else (if E5 = "java/lang/UnsupportedOperationException" then (some ((3 : Int32), σ3)) else (if E5 = "java/lang/IllegalStateException" then (some ((4 : Int32), σ3)) else none))))) rfl
  unfold fL_unlock fX7_unlock
  rw [c_user hx]
  cases e : usz x with
  | false =>
    simp only [Bool.false_eq_true, if_false, ox_r]
    refine mkI hI hC (c := 1) (k1 σ) (by omega) ⟨ij 0, sI (sI σ 8 0 0 (ij 0)) 8 0 0 (ij 1), ?_, MR_thr (MR_thr hM _) _, (Un_thr _ _).tr (Un_thr _ _), thr_thr _ _, fun q => by omega⟩
    unfold fX8_unlock
    rw [vl_s, m_isUser hx, usd _ e, ob_s, if_pos (by decide), m_fails, o2_s]
    rfl
  | true =>
    obtain ⟨u, rfl, hu⟩ := usz_nat e
    simp only [if_true, tn_nat, ox_l]
    rw [c_seen hI hC hu hy]
    cases e2 : snz A (bv A (kn A u)) y with
    | false =>
      simp only [Bool.false_eq_true, if_false, ox_r]
      obtain ⟨τ, t1, t2, t3, t4⟩ := m_start (N := N) hI hM (by omega) hu
      refine mkI hI hC (c := 2) (k2 σ) (by omega) ⟨ij 0, sI τ 8 0 0 (ij 2), ?_, MR_thr t2.1 _, t3.tr (Un_thr _ _), thr_thr _ _, fun q => by omega⟩
      unfold fX8_unlock
      simp only [ij_l0, ij_l1, ij_l2, ij_l3, ij_l4, ij_l5, ij_l6, ij_l8, ij_l12, ij_l16, ij_l19, ij_l23, ij_l24, ij_l31, ij_l32, ij_l36, ij_l47, ij_l48, ij_l56, ij_l92, ij_l93, ij_l98, ij_l108, ij_l114, ij_l116, ij_l127, ij_l128, ij_l149, ij_l250, ij_l384, ij_l768, ij_l1000, ij_l1536, ij_l3000, ij_l1000000, ij_l1000003, ij_l1000000000, ij_neg, ij_add, ij_sub, ij_mul, vl_s]
      rw [m_isUser hx, usd _ e, ob_s, if_neg (by decide), t1, ob_s, m_isSeen (MB_WM hI t2) hy.1 hy.2, e2, ob_s, if_pos (by decide), m_fails, o2_s]
    | true =>
      obtain ⟨s, rfl, hs⟩ := snz_ex e2
      have hs2 := sn12 hI hs
      obtain ⟨lk, lk3⟩ := f_lockerAt (N := N) (CR_VW hI hu hC) hs2
      simp only [if_true, ox_l]
      rw [lk, ob_s]
      have mlk : ∀ τ, MB A u τ → gI τ 157 0 (36 + s) = ij ((bv A (kn A u) (36 + s) : Int) - 1) := fun τ ht => (m_lk (MB_WM hI ht) hs2).1
      by_cases e3 : bv A (kn A u) (36 + s) = 0
      · have c3 : ij ((bv A (kn A u) (36 + s) : Int) - 1) = -1 := by rw [e3]; rfl
        rw [if_pos c3, ox_r]
        obtain ⟨τ, t1, t2, t3, t4⟩ := m_start (N := N) hI hM (by omega) hu
        refine mkI hI hC (c := 3) (k3 σ) (by omega) ⟨ij 0, sI τ 8 0 0 (ij 3), ?_, MR_thr t2.1 _, t3.tr (Un_thr _ _), thr_thr _ _, fun q => by omega⟩
        unfold fX8_unlock
        simp only [ij_l0]
        rw [vl_s, m_isUser hx, usd _ e, ob_s, if_neg (by decide), t1, ob_s, m_isSeen (MB_WM hI t2) hy.1 hy.2, e2, ob_s, if_neg (by decide)]
        have m2 := mlk τ t2
        simp (disch := omega) only [ij_l0, ij_l1, ij_l2, ij_l3, ij_l4, ij_l5, ij_l6, ij_l8, ij_l12, ij_l16, ij_l19, ij_l23, ij_l24, ij_l31, ij_l32, ij_l36, ij_l47, ij_l48, ij_l56, ij_l92, ij_l93, ij_l98, ij_l108, ij_l114, ij_l116, ij_l127, ij_l128, ij_l149, ij_l250, ij_l384, ij_l768, ij_l1000, ij_l1536, ij_l3000, ij_l1000000, ij_l1000003, ij_l1000000000, ij_neg, ij_add, ij_sub, ij_mul, ij_lt, ij_le, ij_eq, ij_nat, tn_nat, tn_12, tn_24, tn_36, tn_48, ck_in, ob_s, o2_s, vl_s, ox_l, ox_r, ck_tr, if_pos, if_neg, m2]
        rw [m_fails, o2_s]
      · have c3 : ¬ ij ((bv A (kn A u) (36 + s) : Int) - 1) = -1 := by
          intro q
          have q2 : ij ((bv A (kn A u) (36 + s) : Int) - 1) = ij (-1) := q
          rw [ij_eq (by omega) (by omega) (by omega) (by omega)] at q2
          omega
        rw [if_neg c3, c_room hC hn]
        by_cases e4 : aN A = 250
        · rw [if_pos e4, ox_r, ox_r]
          obtain ⟨τ, t1, t2, t3, t4⟩ := m_start (N := N) hI hM (by omega) hu
          refine mkI hI hC (c := 4) (k4 σ) (by omega) ⟨ij 0, sI τ 8 0 0 (ij 4), ?_, MR_thr t2.1 _, t3.tr (Un_thr _ _), thr_thr _ _, fun q => by omega⟩
          have m2 := mlk τ t2
          have mf := m_full t2.1 hn
          unfold fX8_unlock
          simp only [ij_l0]
          rw [vl_s, m_isUser hx, usd _ e, ob_s, if_neg (by decide), t1, ob_s, m_isSeen (MB_WM hI t2) hy.1 hy.2, e2, ob_s, if_neg (by decide)]
          simp (disch := omega) only [ij_l0, ij_l1, ij_l2, ij_l3, ij_l4, ij_l5, ij_l6, ij_l8, ij_l12, ij_l16, ij_l19, ij_l23, ij_l24, ij_l31, ij_l32, ij_l36, ij_l47, ij_l48, ij_l56, ij_l92, ij_l93, ij_l98, ij_l108, ij_l114, ij_l116, ij_l127, ij_l128, ij_l149, ij_l250, ij_l384, ij_l768, ij_l1000, ij_l1536, ij_l3000, ij_l1000000, ij_l1000003, ij_l1000000000, ij_neg, ij_add, ij_sub, ij_mul, ij_lt, ij_le, ij_eq, ij_nat, tn_nat, tn_12, tn_24, tn_36, tn_48, ck_in, ob_s, o2_s, vl_s, ox_l, ox_r, ck_tr, if_pos, if_neg, m2, mf, e4, if_true]
          first | rfl | rw [m_fails, o2_s] | simp
        · rw [if_neg e4, ox_l]
          obtain ⟨τ, t1, t2, t3, t4⟩ := f_one hI hC hN (by omega) hu (f := 36 + s) (v := 0) (by omega) (vok_l hs2 (by omega))
          have hcv : cvF (36 + s) 0 = 0 := by rw [cvF_n _ (by omega)]; decide +kernel
          rw [hcv] at t1
          rw [ij_l36, ij_add, show (36 : Int) + s = ((36 + s : Nat) : Int) by omega, t1, ob_s, ox_l, vl_s]
          obtain ⟨τ1, w1, w2, w3, w4⟩ := m_start (N := N) (σ := sJ τ 0 (Int32.toInt64 (ij ((bv A (kn A u) (36 + s) : Int) - 1)))) hI (MR_J (MR_un hM t3)) (by omega) hu
          have hx2 : ij (-1) = mvI (36 + s) 0 := by rw [mvI_lk _ (by omega) (by omega)]; rfl
          obtain ⟨τ2, v1, v2, v3, v4⟩ := m_one hI (show aN A < 250 by omega) (show 1000 ≤ N by omega) hu w2 (f := 36 + s) (v := 0) (by omega) (vok_l hs2 (by omega)) hx2 (fun σ7 => some (ij ((bv A (kn A u) (36 + s) : Int) - 1), σ7))
          refine mkI t4 (CR_J t2) (c := 0) rfl (by omega) ⟨ij ((bv A (kn A u) (36 + s) : Int) - 1), τ2, ?_, v2.1, w3.tr v3, v4.trans w4, fun _ => gJ_sJ _ _⟩
          have m2 := mlk τ1 w2
          have mf := m_full w2.1 hn
          unfold fX8_unlock
          simp only [ij_l0]
          rw [vl_s, m_isUser hx, usd _ e, ob_s, if_neg (by decide), w1, ob_s, m_isSeen (MB_WM hI w2) hy.1 hy.2, e2, ob_s, if_neg (by decide)]
          simp (disch := omega) only [ij_l0, ij_l1, ij_l2, ij_l3, ij_l4, ij_l5, ij_l6, ij_l8, ij_l12, ij_l16, ij_l19, ij_l23, ij_l24, ij_l31, ij_l32, ij_l36, ij_l47, ij_l48, ij_l56, ij_l92, ij_l93, ij_l98, ij_l108, ij_l114, ij_l116, ij_l127, ij_l128, ij_l149, ij_l250, ij_l384, ij_l768, ij_l1000, ij_l1536, ij_l3000, ij_l1000000, ij_l1000003, ij_l1000000000, ij_neg, ij_add, ij_sub, ij_mul, ij_lt, ij_le, ij_eq, ij_nat, tn_nat, tn_12, tn_24, tn_36, tn_48, ck_in, ob_s, o2_s, vl_s, ox_l, ox_r, ck_tr, if_pos, if_neg, m2, mf, e4]
          rw [show (36 : Int) + s = ((36 + s : Nat) : Int) by omega]
          exact v1
theorem h123s {H : Hd} (e : H = fun E5 σ3 => (if E5 = "java/lang/IllegalArgumentException" then (some ((1 : Int32), σ3)) else (if E5 = "java/util/NoSuchElementException" then (some ((2 : Int32), σ3)) else (if E5 = "java/lang/IllegalStateException" then (some ((3 : Int32), σ3)) else none)))) : H1 H ∧ H2 H ∧ ∀ σ, H ES σ = some (3, σ) := by
  subst e
  exact ⟨fun σ => by simp [EI], fun σ => by simp [EN], fun σ => by simp [ES]⟩
theorem c_seenC (hI : Inv0 A) (hC : CR A σ) {u : Nat} (hu : u < 3) {z : Int} (hz : rg z) : fX7_needSeenConnector N σ u (ij z) = if jndz A (bv A (kn A u)) z then some (.inl (), σ) else some (.inr EN, σ) := by
  unfold fX7_needSeenConnector
  rw [f_isSeenConnector (CR_VW hI hu hC) hz.1 hz.2, ob_s]
  cases jndz A (bv A (kn A u)) z <;> simp [bi]
theorem jndz_ex {β : Nat → Nat} {z : Int} (h : jndz A β z = true) : ∃ c : Nat, z = c ∧ jnd A β c = true := by
  unfold jndz at h
  rw [Bool.and_eq_true, decide_eq_true_eq] at h
  exact ⟨z.toNat, by omega, h.2⟩
theorem jnd_lt {β : Nat → Nat} {c : Nat} (h : jnd A β c = true) : c < aCn A := by
  unfold jnd at h
  simp at h
  exact h.1.1.1
theorem p_disconnect (h : Inv A σ) (hN : 1000000 ≤ N) (x y : Int32) : PairI (fL_disconnect N σ x y) (fun τ => fX8_disconnect N τ x y) := by
  obtain ⟨hI, hC, hM⟩ := h
  obtain ⟨x, rfl, hx⟩ := rg_ex x
  obtain ⟨y, rfl, hy⟩ := rg_ex y
  have hn := hI.1.1
  obtain ⟨k1, k2, k3⟩ := h123s (H := fun E5 σ3 => (if E5 = "java/lang/IllegalArgumentException" then (some ((1 : Int32), σ3)) else (if E5 = "java/util/NoSuchElementException" then (some ((2 : Int32), σ3)) else (if E5 = "java/lang/IllegalStateException" then (some ((3 : Int32), σ3)) else none)))) rfl
  unfold fL_disconnect fX7_disconnect
  rw [c_user hx]
  cases e : usz x with
  | false =>
    simp only [Bool.false_eq_true, if_false, ox_r]
    refine mkI hI hC (c := 1) (k1 σ) (by omega) ⟨ij 0, sI (sI σ 8 0 0 (ij 0)) 8 0 0 (ij 1), ?_, MR_thr (MR_thr hM _) _, (Un_thr _ _).tr (Un_thr _ _), thr_thr _ _, fun q => by omega⟩
    unfold fX8_disconnect
    rw [vl_s, m_isUser hx, usd _ e, ob_s, if_pos (by decide), m_fails, o2_s]
    rfl
  | true =>
    obtain ⟨u, rfl, hu⟩ := usz_nat e
    simp only [if_true, tn_nat, ox_l]
    rw [c_seenC hI hC hu hy]
    cases e2 : jndz A (bv A (kn A u)) y with
    | false =>
      simp only [Bool.false_eq_true, if_false, ox_r]
      obtain ⟨τ, t1, t2, t3, t4⟩ := m_start (N := N) hI hM (by omega) hu
      refine mkI hI hC (c := 2) (k2 σ) (by omega) ⟨ij 0, sI τ 8 0 0 (ij 2), ?_, MR_thr t2.1 _, t3.tr (Un_thr _ _), thr_thr _ _, fun q => by omega⟩
      unfold fX8_disconnect
      simp only [ij_l0, ij_l1, ij_l2, ij_l3, ij_l4, ij_l5, ij_l6, ij_l8, ij_l12, ij_l16, ij_l19, ij_l23, ij_l24, ij_l31, ij_l32, ij_l36, ij_l47, ij_l48, ij_l56, ij_l92, ij_l93, ij_l98, ij_l108, ij_l114, ij_l116, ij_l127, ij_l128, ij_l149, ij_l250, ij_l384, ij_l768, ij_l1000, ij_l1536, ij_l3000, ij_l1000000, ij_l1000003, ij_l1000000000, ij_neg, ij_add, ij_sub, ij_mul, vl_s]
      rw [m_isUser hx, usd _ e, ob_s, if_neg (by decide), t1, ob_s, m_isJoined (MB_WM hI t2) hy.1 hy.2, e2, ob_s, if_pos (by decide), m_fails, o2_s]
    | true =>
      obtain ⟨c, rfl, hc⟩ := jndz_ex e2
      have hc8 : c < 8 := Nat.lt_of_lt_of_le (jnd_lt hc) hI.2.1.2.1
      simp only [if_true, ox_l]
      rw [c_room hC hn]
      by_cases e4 : aN A = 250
      · rw [if_pos e4, ox_r, ox_r]
        obtain ⟨τ, t1, t2, t3, t4⟩ := m_start (N := N) hI hM (by omega) hu
        refine mkI hI hC (c := 3) (k3 σ) (by omega) ⟨ij 0, sI τ 8 0 0 (ij 3), ?_, MR_thr t2.1 _, t3.tr (Un_thr _ _), thr_thr _ _, fun q => by omega⟩
        have mf := m_full t2.1 hn
        unfold fX8_disconnect
        simp only [ij_l0, ij_l1, ij_l2, ij_l3, ij_l4, ij_l5, ij_l6, ij_l8, ij_l12, ij_l16, ij_l19, ij_l23, ij_l24, ij_l31, ij_l32, ij_l36, ij_l47, ij_l48, ij_l56, ij_l92, ij_l93, ij_l98, ij_l108, ij_l114, ij_l116, ij_l127, ij_l128, ij_l149, ij_l250, ij_l384, ij_l768, ij_l1000, ij_l1536, ij_l3000, ij_l1000000, ij_l1000003, ij_l1000000000, ij_neg, ij_add, ij_sub, ij_mul, vl_s]
        rw [m_isUser hx, usd _ e, ob_s, if_neg (by decide), t1, ob_s, m_isJoined (MB_WM hI t2) hy.1 hy.2, e2, ob_s, if_neg (by decide)]
        simp (disch := omega) only [ij_l0, ij_l1, ij_l2, ij_l3, ij_l4, ij_l5, ij_l6, ij_l8, ij_l12, ij_l16, ij_l19, ij_l23, ij_l24, ij_l31, ij_l32, ij_l36, ij_l47, ij_l48, ij_l56, ij_l92, ij_l93, ij_l98, ij_l108, ij_l114, ij_l116, ij_l127, ij_l128, ij_l149, ij_l250, ij_l384, ij_l768, ij_l1000, ij_l1536, ij_l3000, ij_l1000000, ij_l1000003, ij_l1000000000, ij_neg, ij_add, ij_sub, ij_mul, ij_lt, ij_le, ij_eq, ij_nat, tn_nat, tn_12, tn_24, tn_36, tn_48, ck_in, ob_s, o2_s, vl_s, ox_l, ox_r, ck_tr, if_pos, if_neg, mf, e4, if_true]
        first | rfl | rw [m_fails, o2_s] | simp
      · rw [if_neg e4, ox_l]
        obtain ⟨τ, t1, t2, t3, t4⟩ := f_one hI hC hN (by omega) hu (f := 48 + c) (v := 0) (by omega) (vok_b (Or.inr (Or.inl ⟨by omega, by omega⟩)) (by omega))
        have hcv : cvF (48 + c) 0 = 0 := by rw [cvF_n _ (by omega)]; decide +kernel
        rw [hcv] at t1
        generalize hA' : st1 A u (48 + c) 0 = A' at *
        rw [ij_l48, ij_add, show (48 : Int) + c = ((48 + c : Nat) : Int) by omega, t1, ob_s, f_countConnectors (CR_VW t4 hu t2) (by omega), ob_s, ox_l, vl_s]
        obtain ⟨τ1, w1, w2, w3, w4⟩ := m_start (N := N) (σ := sJ τ 0 (Int32.toInt64 (ij (ct (jnd A' (bv A' (kn A' u))) 8)))) hI (MR_J (MR_un hM t3)) (by omega) hu
        have hx2 : ij 0 = mvI (48 + c) 0 := (mvI_n 0 (by omega)).symm
        obtain ⟨τ2, v1, v2, v3, v4⟩ := m_one hI (show aN A < 250 by omega) (show 1000 ≤ N by omega) hu w2 (f := 48 + c) (v := 0) (by omega) (vok_b (Or.inr (Or.inl ⟨by omega, by omega⟩)) (by omega)) hx2 (fun σ6 => (ob (fX8_joinedMany N σ6) fun v7 => (some (v7, σ6))))
        rw [hA'] at v2
        refine mkI t4 (CR_J t2) (c := 0) rfl (by omega) ⟨ij (ct (jnd A' (bv A' (kn A' u))) 8), τ2, ?_, v2.1, w3.tr v3, v4.trans w4, fun _ => gJ_sJ _ _⟩
        have mf := m_full w2.1 hn
        unfold fX8_disconnect
        simp only [ij_l0, ij_l1, ij_l2, ij_l3, ij_l4, ij_l5, ij_l6, ij_l8, ij_l12, ij_l16, ij_l19, ij_l23, ij_l24, ij_l31, ij_l32, ij_l36, ij_l47, ij_l48, ij_l56, ij_l92, ij_l93, ij_l98, ij_l108, ij_l114, ij_l116, ij_l127, ij_l128, ij_l149, ij_l250, ij_l384, ij_l768, ij_l1000, ij_l1536, ij_l3000, ij_l1000000, ij_l1000003, ij_l1000000000, ij_neg, ij_add, ij_sub, ij_mul, vl_s]
        rw [m_isUser hx, usd _ e, ob_s, if_neg (by decide), w1, ob_s, m_isJoined (MB_WM hI w2) hy.1 hy.2, e2, ob_s, if_neg (by decide)]
        simp (disch := omega) only [ij_l0, ij_l1, ij_l2, ij_l3, ij_l4, ij_l5, ij_l6, ij_l8, ij_l12, ij_l16, ij_l19, ij_l23, ij_l24, ij_l31, ij_l32, ij_l36, ij_l47, ij_l48, ij_l56, ij_l92, ij_l93, ij_l98, ij_l108, ij_l114, ij_l116, ij_l127, ij_l128, ij_l149, ij_l250, ij_l384, ij_l768, ij_l1000, ij_l1536, ij_l3000, ij_l1000000, ij_l1000003, ij_l1000000000, ij_neg, ij_add, ij_sub, ij_mul, ij_lt, ij_le, ij_eq, ij_nat, tn_nat, tn_12, tn_24, tn_36, tn_48, ck_in, ob_s, o2_s, vl_s, ox_l, ox_r, ck_tr, if_pos, if_neg, mf, e4]
        rw [show (48 : Int) + c = ((48 + c : Nat) : Int) by omega]
        refine Eq.trans v1 ?_
        rw [m_joinedMany (MB_WM t4 v2) (by omega), ob_s]
theorem h12s {H : Hd} (e : H = fun E5 σ3 => (if E5 = "java/lang/IllegalArgumentException" then (some ((1 : Int32), σ3)) else (if E5 = "java/lang/IllegalStateException" then (some ((2 : Int32), σ3)) else none))) : H1 H ∧ ∀ σ, H ES σ = some (2, σ) := by
  subst e
  exact ⟨fun σ => by simp [EI], fun σ => by simp [ES]⟩
theorem p_show (h : Inv A σ) (hN : 1000000 ≤ N) (x : Int32) (b : Bool) : PairB (fL_show N σ x (bi b)) (fun τ => fX8_show N τ x (bi b)) := by
  obtain ⟨hI, hC, hM⟩ := h
  obtain ⟨x, rfl, hx⟩ := rg_ex x
  have hn := hI.1.1
  obtain ⟨k1, k2⟩ := h12s (H := fun E5 σ3 => (if E5 = "java/lang/IllegalArgumentException" then (some ((1 : Int32), σ3)) else (if E5 = "java/lang/IllegalStateException" then (some ((2 : Int32), σ3)) else none))) rfl
  unfold fL_show fX7_show
  rw [c_user hx]
  cases e : usz x with
  | false =>
    simp only [Bool.false_eq_true, if_false, ox_r]
    refine mkB hI hC (c := 1) (k1 σ) (by omega) ⟨false, sI (sI σ 8 0 0 (ij 0)) 8 0 0 (ij 1), ?_, MR_thr (MR_thr hM _) _, (Un_thr _ _).tr (Un_thr _ _), thr_thr _ _, fun q => by omega⟩
    unfold fX8_show
    rw [vl_s, m_isUser hx, usd _ e, ob_s, if_pos (by decide), m_wrong, o2_s]
    rfl
  | true =>
    obtain ⟨u, rfl, hu⟩ := usz_nat e
    simp only [if_true, tn_nat, ox_l]
    rw [c_room hC hn]
    by_cases e4 : aN A = 250
    · rw [if_pos e4, ox_r, ox_r]
      refine mkB hI hC (c := 2) (k2 σ) (by omega) ⟨false, sI (sI σ 8 0 0 (ij 0)) 8 0 0 (ij 2), ?_, MR_thr (MR_thr hM _) _, (Un_thr _ _).tr (Un_thr _ _), thr_thr _ _, fun q => by omega⟩
      have mf := m_full (MR_thr hM (ij 0)) hn
      unfold fX8_show
      simp only [ij_l0, ij_l1, ij_l2, ij_l3, ij_l4, ij_l5, ij_l6, ij_l8, ij_l12, ij_l16, ij_l19, ij_l23, ij_l24, ij_l31, ij_l32, ij_l36, ij_l47, ij_l48, ij_l56, ij_l92, ij_l93, ij_l98, ij_l108, ij_l114, ij_l116, ij_l127, ij_l128, ij_l149, ij_l250, ij_l384, ij_l768, ij_l1000, ij_l1536, ij_l3000, ij_l1000000, ij_l1000003, ij_l1000000000, ij_neg, ij_add, ij_sub, ij_mul, vl_s]
      rw [m_isUser hx, usd _ e, ob_s, if_neg (by decide)]
      simp only [mf, e4, if_true]
      rw [m_wrong, o2_s]
      rfl
    · rw [if_neg e4, ox_l, f_areVotesShown (CR_VW hI hu hC), ob_s]
      have hbv : bv A (kn A u) 92 ≤ 1 := ((CR_VW hI hu hC).2.2.1 92 (by omega)).2.2.2.2.2.2 (by omega)
      obtain ⟨τ, t1, t2, t3, t4⟩ := f_one hI hC hN (by omega) hu (f := 92) (v := if b then 1 else 0) (by omega) (vok_b (Or.inr (Or.inr rfl)) (by cases b <;> simp))
      have hstep : (if (bi b) = 0 then (ob (fX5_step N σ u (92 : Int32) (0 : UInt32)) fun σ5 => (some ((.inl (vp_nar .boolean (bi (bv A (kn A u) 92 == 1))) : Int32 ⊕ String), σ5))) else (ob (fX5_step N σ u (92 : Int32) (1065353216 : UInt32)) fun σ6 => (some (.inl (vp_nar .boolean (bi (bv A (kn A u) 92 == 1))), σ6)))) = some (.inl (vp_nar .boolean (bi (bv A (kn A u) 92 == 1))), τ) := by
        cases b with
        | true =>
          have c1 : cvF 92 1 = 1065353216 := by decide +kernel
          rw [if_pos rfl, c1] at t1
          have t1' : fX5_step N σ u 92 1065353216 = some τ := t1
          rw [if_neg (by decide), t1', ob_s]
        | false =>
          have c1 : cvF 92 0 = 0 := by decide +kernel
          rw [if_neg (by decide), c1] at t1
          have t1' : fX5_step N σ u 92 0 = some τ := t1
          rw [if_pos (by decide), t1', ob_s]
      rw [hstep, ox_l, wB]
      generalize hA' : st1 A u 92 (if b then 1 else 0) = A' at *
      obtain ⟨τ1, w1, w2, w3, w4⟩ := m_start (N := N) (σ := sJ τ 0 (if (bv A (kn A u) 92 == 1) then 1 else 0)) hI (MR_J (MR_un hM t3)) (by omega) hu
      obtain ⟨τ2, v1, v2, v3, v4⟩ := m_one hI (show aN A < 250 by omega) (show 1000 ≤ N by omega) hu w2 (f := 92) (v := if b then 1 else 0) (by omega) (vok_b (Or.inr (Or.inr rfl)) (by cases b <;> simp)) (mvI_n _ (by omega)).symm (fun σ5 => (some (bi (bv A (kn A u) 92 == 1), σ5)))
      rw [hA'] at v2
      refine mkB t4 (CR_J t2) (c := 0) rfl (by omega) ⟨bv A (kn A u) 92 == 1, τ2, ?_, v2.1, w3.tr v3, v4.trans w4, fun _ => gJ_sJ _ _⟩
      have mf := m_full (MR_thr (MR_J (v := if (bv A (kn A u) 92 == 1) then 1 else 0) (MR_un hM t3)) (ij 0)) hn
      have m92 := (m_shown (MB_WM hI w2)).1
      have hn92 : ((92 : Int)).toNat = 92 := rfl
      unfold fX8_show
      simp only [ij_l0, ij_l1, ij_l2, ij_l3, ij_l4, ij_l5, ij_l6, ij_l8, ij_l12, ij_l16, ij_l19, ij_l23, ij_l24, ij_l31, ij_l32, ij_l36, ij_l47, ij_l48, ij_l56, ij_l92, ij_l93, ij_l98, ij_l108, ij_l114, ij_l116, ij_l127, ij_l128, ij_l149, ij_l250, ij_l384, ij_l768, ij_l1000, ij_l1536, ij_l3000, ij_l1000000, ij_l1000003, ij_l1000000000, ij_neg, ij_add, ij_sub, ij_mul, vl_s]
      rw [m_isUser hx, usd _ e, ob_s, if_neg (by decide)]
      simp only [mf, e4, if_false]
      rw [w1, ob_s]
      by_cases q : bv A (kn A u) 92 = 1
      · have q' : (bv A (kn A u) 92 == 1) = true := by simp [q]
        rw [q'] at v1
        rw [q']
        rw [q] at m92
        cases b with
        | true =>
          simp (disch := omega) only [ij_l0, ij_l1, ij_l2, ij_l3, ij_l4, ij_l5, ij_l6, ij_l8, ij_l12, ij_l16, ij_l19, ij_l23, ij_l24, ij_l31, ij_l32, ij_l36, ij_l47, ij_l48, ij_l56, ij_l92, ij_l93, ij_l98, ij_l108, ij_l114, ij_l116, ij_l127, ij_l128, ij_l149, ij_l250, ij_l384, ij_l768, ij_l1000, ij_l1536, ij_l3000, ij_l1000000, ij_l1000003, ij_l1000000000, ij_neg, ij_add, ij_sub, ij_mul, ij_lt, ij_le, ij_eq, ij_nat, tn_nat, tn_12, tn_24, tn_36, tn_48, ck_in, ob_s, o2_s, vl_s, ox_l, ox_r, ck_tr, if_pos, if_neg, hn92, m92, bi_z, Bool.true_eq_false, if_false]
          exact v1
        | false =>
          simp (disch := omega) only [ij_l0, ij_l1, ij_l2, ij_l3, ij_l4, ij_l5, ij_l6, ij_l8, ij_l12, ij_l16, ij_l19, ij_l23, ij_l24, ij_l31, ij_l32, ij_l36, ij_l47, ij_l48, ij_l56, ij_l92, ij_l93, ij_l98, ij_l108, ij_l114, ij_l116, ij_l127, ij_l128, ij_l149, ij_l250, ij_l384, ij_l768, ij_l1000, ij_l1536, ij_l3000, ij_l1000000, ij_l1000003, ij_l1000000000, ij_neg, ij_add, ij_sub, ij_mul, ij_lt, ij_le, ij_eq, ij_nat, tn_nat, tn_12, tn_24, tn_36, tn_48, ck_in, ob_s, o2_s, vl_s, ox_l, ox_r, ck_tr, if_pos, if_neg, hn92, m92, bi_z, if_true]
          exact v1
      · have q0 : bv A (kn A u) 92 = 0 := by omega
        have q' : (bv A (kn A u) 92 == 1) = false := by simp [q0]
        rw [q'] at v1
        rw [q']
        rw [q0] at m92
        cases b with
        | true =>
          simp (disch := omega) only [ij_l0, ij_l1, ij_l2, ij_l3, ij_l4, ij_l5, ij_l6, ij_l8, ij_l12, ij_l16, ij_l19, ij_l23, ij_l24, ij_l31, ij_l32, ij_l36, ij_l47, ij_l48, ij_l56, ij_l92, ij_l93, ij_l98, ij_l108, ij_l114, ij_l116, ij_l127, ij_l128, ij_l149, ij_l250, ij_l384, ij_l768, ij_l1000, ij_l1536, ij_l3000, ij_l1000000, ij_l1000003, ij_l1000000000, ij_neg, ij_add, ij_sub, ij_mul, ij_lt, ij_le, ij_eq, ij_nat, tn_nat, tn_12, tn_24, tn_36, tn_48, ck_in, ob_s, o2_s, vl_s, ox_l, ox_r, ck_tr, if_pos, if_neg, hn92, m92, bi_z, Bool.true_eq_false, if_false]
          exact v1
        | false =>
          simp (disch := omega) only [ij_l0, ij_l1, ij_l2, ij_l3, ij_l4, ij_l5, ij_l6, ij_l8, ij_l12, ij_l16, ij_l19, ij_l23, ij_l24, ij_l31, ij_l32, ij_l36, ij_l47, ij_l48, ij_l56, ij_l92, ij_l93, ij_l98, ij_l108, ij_l114, ij_l116, ij_l127, ij_l128, ij_l149, ij_l250, ij_l384, ij_l768, ij_l1000, ij_l1536, ij_l3000, ij_l1000000, ij_l1000003, ij_l1000000000, ij_neg, ij_add, ij_sub, ij_mul, ij_lt, ij_le, ij_eq, ij_nat, tn_nat, tn_12, tn_24, tn_36, tn_48, ck_in, ob_s, o2_s, vl_s, ox_l, ox_r, ck_tr, if_pos, if_neg, hn92, m92, bi_z, if_true]
          exact v1
end S3
