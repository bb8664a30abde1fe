/-! Steps on both sides: deliver, sync. -/
section S6
variable {A : Ab} {N : Nat} {σ : St}
theorem CR_learn (hI : Inv0 A) (hC : CR A σ) (hN : 1000000 ≤ N) {u o : Nat} (hu : u < 3) (ho : o < aN A) (hk : kn A u o = false) : ∃ τ, fX5_learn N σ u (ij o) = some τ ∧ CR (lrn A u o) τ ∧ Un Tc σ τ := by
  obtain ⟨h1, h2, h3, h4, h5⟩ := id hC
  obtain ⟨τ, t1, t2, t3, t4⟩ := f_learn h2 hI.1 hN hu (h4 u hu).1 (h4 u hu).2 ho hk
  refine ⟨τ, t1, ⟨?_, ?_, ?_, fun v hv => ?_, ?_⟩, Tu_Tc t4⟩
  · rw [lrn_PtC]
    exact PtC_cg h1 (fun c hc => t4.I c 0 (by unfold Tu; simp; omega))
  · rw [lrn_LgC]
    exact LgC_cg h2 (fun c hc => ⟨t4.I c 0 (by unfold Tu; simp; omega), t4.F c 0 (by unfold Tu; simp; omega)⟩)
  · rw [lrn_TmC]
    exact TmC_cg h3 (t4.I 105 0 rfl)
  · by_cases e : v = u
    · subst e
      exact ⟨t2, t3⟩
    · have hvu : (v == u) = false := by simpa using e
      have ev : ∀ c, Tu u c v = false := fun c => by unfold Tu; rw [hvu, Bool.and_false]
      refine ⟨UsC_cg ?_ (t4.I 4 v (ev _)) (t4.I 123 v (ev _)), BdC_cg ?_ (t4.F 120 v (ev _)) (t4.I 121 v (ev _)) (t4.I 122 v (ev _))⟩
      · have q := (h4 v hv).1
        unfold UsC
        rw [lrn_kn_ne _ _ e, mxk_ne _ _ e]
        exact q
      · rw [lrn_BdC, lrn_kn_ne _ _ e]
        exact (h4 v hv).2
  · exact RfC_cg h5 (t4.2.2 rfl)
theorem Inv0_lrn (hI : Inv0 A) {u o : Nat} (ho : o < aN A) : Inv0 (lrn A u o) := by
  refine ⟨hI.1, hI.2.1, fun v hv => ⟨fun x hx => ?_, fun x hx hU => ?_⟩⟩
  · have hx : aN A ≤ x := hx
    rw [lrn_kn, if_neg (by omega)]
    exact (hI.2.2 v hv).1 x hx
  · rw [lrn_kn]
    by_cases e : v = u ∧ x = o
    · rw [if_pos e]
    · rw [if_neg e]; exact (hI.2.2 v hv).2 x hx hU
theorem MR_set (hM : MR A σ) {u o : Nat} (B : Ab) (hB : B = lrn A u o ∨ (B = A ∧ kn A u o = true)) : MR B (sI σ 165 u o (ij 1)) := by
  obtain ⟨h1, ⟨l1, l2, l3⟩, h3⟩ := hM
  have hk : ∀ v x, kn B v x = if v = u ∧ x = o then true else kn A v x := by
    intro v x
    rcases hB with rfl | ⟨rfl, hk⟩
    · exact lrn_kn _ _ _ _ _
    · by_cases e : v = u ∧ x = o
      · rw [if_pos e, e.1, e.2, hk]
      · rw [if_neg e]
  have hP : PtM B (sI σ 165 u o (ij 1)) := by
    have q : PtM A (sI σ 165 u o (ij 1)) := PtM_cg h1 (gI_sI_ne (by omega)) (gI_sI_ne (by omega)) (fun c c1 c2 => by funext x; rw [gI_sI_ne (by omega)])
    rcases hB with rfl | ⟨rfl, _⟩
    · exact q
    · exact q
  have hL : gI (sI σ 165 u o (ij 1)) 8 0 20 = ij (aN A) ∧ (∀ o_1, o_1 < aN A → gI (sI σ 165 u o (ij 1)) 147 0 o_1 = ij (aUs A o_1) ∧ gI (sI σ 165 u o (ij 1)) 148 0 o_1 = ij (aCk A o_1) ∧ gI (sI σ 165 u o (ij 1)) 149 0 o_1 = ij (aLen A o_1) ∧ gI (sI σ 165 u o (ij 1)) 155 0 o_1 = ij (aSt A o_1) ∧
      (∀ k, k < aLen A o_1 → gI (sI σ 165 u o (ij 1)) 160 o_1 k = ij (aFd A o_1 k) ∧ gI (sI σ 165 u o (ij 1)) 161 o_1 k = mvI (aFd A o_1 k) (aVl A o_1 k) ∧ gI (sI σ 165 u o (ij 1)) 162 o_1 k = mvI (aFd A o_1 k) (aOv A o_1 k) ∧ gI (sI σ 165 u o (ij 1)) 163 o_1 k = ij ((aSm A o_1 k : Int) - 1) ∧ gI (sI σ 165 u o (ij 1)) 164 o_1 k = ij ((aOs A o_1 k : Int) - 1))) := by
    simp (disch := omega) only [gI_sI_ne]
    exact ⟨l1, l2⟩
  refine ⟨hP, ⟨?_, ?_, fun v x hv hx => ?_⟩, ?_⟩
  · rcases hB with rfl | ⟨rfl, _⟩
    · exact hL.1
    · exact hL.1
  · rcases hB with rfl | ⟨rfl, _⟩
    · exact hL.2
    · exact hL.2
  · rw [gI_sI, hk]
    by_cases e : v = u ∧ x = o
    · rw [if_pos ⟨rfl, e⟩, if_pos e]; rfl
    · rw [if_neg (fun q => e q.2), if_neg e]; exact l3 v x hv hx
  · rw [gI_sI_ne (by omega)]; exact h3
theorem m_knownMany (hM : MR A σ) (hn : aN A ≤ 250) (hN : 1000 ≤ N) {u : Nat} (hu : u < 3) : fX8_knownMany N σ (ij u) = some (ij (ct (kn A u) (aN A))) := by
  unfold fX8_knownMany
  refine lp_end (fun n j => fX8_knownMany_L4 (fun v8 _ => (some v8)) N σ (ij u) n (ij (ct (kn A u) j)) (ij j)) (a := 0) (b := aN A) (by omega) (fun n j _ hj => ?_) (fun n => ?_) N (by omega)
  · have h1 := hM.2.1.2.2 u j hu (by omega)
    have hc := ct_le (kn A u) j
    simp only [fX8_knownMany_L4]
    rw [hM.2.1.1]
    cases e : kn A u j with
    | true =>
      rw [e] at h1
      simp (disch := omega) only [ij_l0, ij_l1, ij_l2, ij_l3, ij_l4, ij_l5, ij_l6, ij_l8, ij_l12, ij_l16, ij_l19, ij_l23, ij_l24, ij_l31, ij_l32, ij_l36, ij_l47, ij_l48, ij_l56, ij_l92, ij_l93, ij_l98, ij_l108, ij_l114, ij_l116, ij_l127, ij_l128, ij_l149, ij_l250, ij_l384, ij_l768, ij_l1000, ij_l1536, ij_l3000, ij_l1000000, ij_l1000003, ij_l1000000000, ij_neg, ij_add, ij_sub, ij_mul, ij_lt, ij_le, ij_eq, ij_nat, tn_nat, tn_12, tn_24, tn_36, tn_48, ck_in, ob_s, o2_s, vl_s, ox_l, ox_r, ck_tr, if_pos, if_neg, h1, bi_z, Bool.true_eq_false, if_false]
      simp [ct, e]
    | false =>
      rw [e] at h1
      simp (disch := omega) only [ij_l0, ij_l1, ij_l2, ij_l3, ij_l4, ij_l5, ij_l6, ij_l8, ij_l12, ij_l16, ij_l19, ij_l23, ij_l24, ij_l31, ij_l32, ij_l36, ij_l47, ij_l48, ij_l56, ij_l92, ij_l93, ij_l98, ij_l108, ij_l114, ij_l116, ij_l127, ij_l128, ij_l149, ij_l250, ij_l384, ij_l768, ij_l1000, ij_l1536, ij_l3000, ij_l1000000, ij_l1000003, ij_l1000000000, ij_neg, ij_add, ij_sub, ij_mul, ij_lt, ij_le, ij_eq, ij_nat, tn_nat, tn_12, tn_24, tn_36, tn_48, ck_in, ob_s, o2_s, vl_s, ox_l, ox_r, ck_tr, if_pos, if_neg, h1, bi_z, if_true]
      simp [ct, e]
  · simp only [fX8_knownMany_L4]
    rw [hM.2.1.1]
    simp (disch := omega) only [ij_l0, ij_l1, ij_l2, ij_l3, ij_l4, ij_l5, ij_l6, ij_l8, ij_l12, ij_l16, ij_l19, ij_l23, ij_l24, ij_l31, ij_l32, ij_l36, ij_l47, ij_l48, ij_l56, ij_l92, ij_l93, ij_l98, ij_l108, ij_l114, ij_l116, ij_l127, ij_l128, ij_l149, ij_l250, ij_l384, ij_l768, ij_l1000, ij_l1536, ij_l3000, ij_l1000000, ij_l1000003, ij_l1000000000, ij_neg, ij_add, ij_sub, ij_mul, ij_lt, ij_le, ij_eq, ij_nat, tn_nat, tn_12, tn_24, tn_36, tn_48, ck_in, ob_s, o2_s, vl_s, ox_l, ox_r, ck_tr, if_pos, if_neg]
theorem h123n {H : Hd} (e : H = fun E5 σ3 => (if E5 = "java/lang/IllegalArgumentException" then (some ((1 : Int32), σ3)) else (if E5 = "java/util/NoSuchElementException" then (some ((2 : Int32), σ3)) else (if E5 = "java/lang/IllegalStateException" then (some ((3 : Int32), σ3)) else none)))) : H1 H ∧ H2 H ∧ ∀ σ, H ES σ = some (3, σ) := h123s e
theorem p_deliver (h : Inv A σ) (hN : 1000000 ≤ N) (x y : Int32) : PairI (fL_deliver N σ x y) (fun τ => fX8_deliver N τ x y) := by
  obtain ⟨hI, hC, hM⟩ := h
  obtain ⟨x, rfl, hx⟩ := rg_ex x
  obtain ⟨y, rfl, hy⟩ := rg_ex y
  have hn := hI.1.1
  obtain ⟨k1, k2, k3⟩ := h123s (H := fun E5 σ3 => (if E5 = "java/lang/IllegalArgumentException" then (some ((1 : Int32), σ3)) else (if E5 = "java/util/NoSuchElementException" then (some ((2 : Int32), σ3)) else (if E5 = "java/lang/IllegalStateException" then (some ((3 : Int32), σ3)) else none)))) rfl
  unfold fL_deliver fX7_deliver
  rw [c_user hx]
  cases e : usz x with
  | false =>
    simp only [Bool.false_eq_true, if_false, ox_r]
    refine mkI hI hC (c := 1) (k1 σ) (by omega) ⟨ij 0, sI (sI σ 8 0 0 (ij 0)) 8 0 0 (ij 1), ?_, MR_thr (MR_thr hM _) _, (Un_thr _ _).tr (Un_thr _ _), thr_thr _ _, fun q => by omega⟩
    unfold fX8_deliver
    rw [vl_s, m_isUser hx, usd _ e, ob_s, if_pos (by decide), m_fails, o2_s]
    rfl
  | true =>
    obtain ⟨u, rfl, hu⟩ := usz_nat e
    simp only [if_true, tn_nat, ox_l]
    rw [c_op hC hn hy]
    cases e2 : decide (0 ≤ y ∧ y < aN A) with
    | false =>
      simp only [Bool.false_eq_true, if_false, ox_r]
      refine mkI hI hC (c := 2) (k2 σ) (by omega) ⟨ij 0, sI (sI σ 8 0 0 (ij 0)) 8 0 0 (ij 2), ?_, MR_thr (MR_thr hM _) _, (Un_thr _ _).tr (Un_thr _ _), thr_thr _ _, fun q => by omega⟩
      unfold fX8_deliver
      simp only [ij_l0, ij_l1, ij_l2, ij_l3, ij_l4, ij_l5, ij_l6, ij_l8, ij_l12, ij_l16, ij_l19, ij_l23, ij_l24, ij_l31, ij_l32, ij_l36, ij_l47, ij_l48, ij_l56, ij_l92, ij_l93, ij_l98, ij_l108, ij_l114, ij_l116, ij_l127, ij_l128, ij_l149, ij_l250, ij_l384, ij_l768, ij_l1000, ij_l1536, ij_l3000, ij_l1000000, ij_l1000003, ij_l1000000000, ij_neg, ij_add, ij_sub, ij_mul, vl_s]
      rw [m_isUser hx, usd _ e, ob_s, if_neg (by decide), m_isOperation (MR_thr hM _) hn hy, e2, ob_s, if_pos (by decide), m_fails, o2_s]
    | true =>
      rw [decide_eq_true_eq] at e2
      obtain ⟨o, rfl⟩ : ∃ o : Nat, y = o := ⟨y.toNat, by omega⟩
      simp only [if_true, ox_l]
      rw [f_isKnown hC hu (by omega), ob_s]
      by_cases e3 : kn A u o = true
      · rw [e3, if_neg (by decide), ox_r]
        have hM0 := MR_thr hM (ij 0)
        have h1 := hM0.2.1.2.2 u o hu (by omega)
        rw [e3] at h1
        refine mkI hI hC (c := 3) (k3 σ) (by omega) ⟨ij 0, sI (sI σ 8 0 0 (ij 0)) 8 0 0 (ij 3), ?_, MR_thr (MR_thr hM _) _, (Un_thr _ _).tr (Un_thr _ _), thr_thr _ _, fun q => by omega⟩
        unfold fX8_deliver
        simp only [ij_l0, ij_l1, ij_l2, ij_l3, ij_l4, ij_l5, ij_l6, ij_l8, ij_l12, ij_l16, ij_l19, ij_l23, ij_l24, ij_l31, ij_l32, ij_l36, ij_l47, ij_l48, ij_l56, ij_l92, ij_l93, ij_l98, ij_l108, ij_l114, ij_l116, ij_l127, ij_l128, ij_l149, ij_l250, ij_l384, ij_l768, ij_l1000, ij_l1536, ij_l3000, ij_l1000000, ij_l1000003, ij_l1000000000, ij_neg, ij_add, ij_sub, ij_mul, vl_s]
        rw [m_isUser hx, usd _ e, ob_s, if_neg (by decide), m_isOperation hM0 hn hy, decide_eq_true e2, ob_s, if_neg (by decide)]
        simp (disch := omega) only [ij_l0, ij_l1, ij_l2, ij_l3, ij_l4, ij_l5, ij_l6, ij_l8, ij_l12, ij_l16, ij_l19, ij_l23, ij_l24, ij_l31, ij_l32, ij_l36, ij_l47, ij_l48, ij_l56, ij_l92, ij_l93, ij_l98, ij_l108, ij_l114, ij_l116, ij_l127, ij_l128, ij_l149, ij_l250, ij_l384, ij_l768, ij_l1000, ij_l1536, ij_l3000, ij_l1000000, ij_l1000003, ij_l1000000000, ij_neg, ij_add, ij_sub, ij_mul, ij_lt, ij_le, ij_eq, ij_nat, tn_nat, tn_12, tn_24, tn_36, tn_48, ck_in, ob_s, o2_s, vl_s, ox_l, ox_r, ck_tr, if_pos, if_neg, h1, bi_z, Bool.true_eq_false, if_false]
        rw [m_fails, o2_s]
      · have e3' : kn A u o = false := by simpa using e3
        obtain ⟨τ, t1, t2, t3⟩ := CR_learn (N := N) hI hC hN hu (by omega) e3'
        have hI2 := Inv0_lrn (u := u) hI (o := o) (by omega)
        rw [e3', if_pos (by decide), t1, ob_s, ox_l, vl_s, (t2.2.2.2.1 u hu).1.1]
        have hM2 : MR A (sI (sJ τ 0 (Int32.toInt64 (ij (ct (kn (lrn A u o) u) (aN (lrn A u o)))))) 8 0 0 (ij 0)) := MR_thr (MR_J (MR_un hM t3)) _
        have h1 := hM2.2.1.2.2 u o hu (by omega)
        rw [e3'] at h1
        have hM3 := MR_set hM2 (lrn A u o) (Or.inl rfl)
        refine mkI hI2 (CR_J t2) (c := 0) rfl (by omega) ⟨ij (ct (kn (lrn A u o) u) (aN (lrn A u o))), sI (sI (sJ τ 0 (Int32.toInt64 (ij (ct (kn (lrn A u o) u) (aN (lrn A u o)))))) 8 0 0 (ij 0)) 165 u o (ij 1), ?_, hM3, (Un_thr _ _).tr (Un.sI _ _ _ rfl), by rw [gI_sI_ne (by omega)]; exact thr_thr _ _, fun _ => gJ_sJ _ _⟩
        have hkm := m_knownMany (N := N) hM3 hn (by omega) hu
        unfold fX8_deliver
        simp only [ij_l0, ij_l1, ij_l2, ij_l3, ij_l4, ij_l5, ij_l6, ij_l8, ij_l12, ij_l16, ij_l19, ij_l23, ij_l24, ij_l31, ij_l32, ij_l36, ij_l47, ij_l48, ij_l56, ij_l92, ij_l93, ij_l98, ij_l108, ij_l114, ij_l116, ij_l127, ij_l128, ij_l149, ij_l250, ij_l384, ij_l768, ij_l1000, ij_l1536, ij_l3000, ij_l1000000, ij_l1000003, ij_l1000000000, ij_neg, ij_add, ij_sub, ij_mul, vl_s]
        rw [m_isUser hx, usd _ e, ob_s, if_neg (by decide), m_isOperation hM2 hn hy, decide_eq_true e2, ob_s, if_neg (by decide)]
        have n1 : vp_nar .boolean (ij 1) = ij 1 := rfl
        simp (disch := omega) only [ij_l0, ij_l1, ij_l2, ij_l3, ij_l4, ij_l5, ij_l6, ij_l8, ij_l12, ij_l16, ij_l19, ij_l23, ij_l24, ij_l31, ij_l32, ij_l36, ij_l47, ij_l48, ij_l56, ij_l92, ij_l93, ij_l98, ij_l108, ij_l114, ij_l116, ij_l127, ij_l128, ij_l149, ij_l250, ij_l384, ij_l768, ij_l1000, ij_l1536, ij_l3000, ij_l1000000, ij_l1000003, ij_l1000000000, ij_neg, ij_add, ij_sub, ij_mul, ij_lt, ij_le, ij_eq, ij_nat, tn_nat, tn_12, tn_24, tn_36, tn_48, ck_in, ob_s, o2_s, vl_s, ox_l, ox_r, ck_tr, if_pos, if_neg, h1, bi_z, if_true, n1, hkm]
end S6
