/-! Steps on both sides: putAbove. -/
section S5
variable {A : Ab} {N : Nat} {σ : St} {β : Nat → Nat} {o : Nat}
theorem fk_add1 {m : Nat} (hm : m < 1000) {a : UInt32} (k : kz m a) : fk a < fk (FP.fadd a 1065353216) := by
  have ha := kz_kyB (by omega) k
  have hn := fadd_nn ha kyB_1
  have o := one32_v
  have o1 : (0 : Int) < (FP.Core.one32 : Int) := by have := FP.Core.one32_pos; omega
  obtain ⟨k0, k1, k2⟩ := k
  obtain ⟨Z, hZ⟩ : ∃ Z, Z = FP.Core.zval FP.Core.b32 (FP.Core.val32 a) := ⟨_, rfl⟩
  obtain ⟨i, hi⟩ : ∃ i : Int, i = Z / (FP.Core.one32 : Int) := ⟨_, rfl⟩
  have d1 : Z = (FP.Core.one32 : Int) * i + Z % (FP.Core.one32 : Int) := by rw [hi]; exact (Int.mul_ediv_add_emod Z _).symm
  have d2 := Int.emod_nonneg Z (show (FP.Core.one32 : Int) ≠ 0 by omega)
  have d3 := Int.emod_lt_of_pos Z o1
  have b1 : i ≤ m := by
    rw [hi]
    exact Int.ediv_le_of_le_mul o1 (by rw [hZ]; exact k1)
  have b2 : -(m : Int) ≤ i := by
    rw [hi]
    refine Int.le_ediv_of_mul_le o1 ?_
    rw [Int.neg_mul, hZ]
    exact k2
  have e1 := zv_i (i := i + 1) (by omega)
  have n1 : (i + 1) * (FP.Core.one32 : Int) = (FP.Core.one32 : Int) * i + FP.Core.one32 := by rw [Int.add_mul, Int.one_mul, Int.mul_comm]
  rw [n1] at e1
  have s2 := FP.Core.sum_ge FP.Core.good_b32 (kyB_fin ha) (kyB_fin kyB_1) (FP.Core.val32_fits a) (FP.Core.val32_fits _) (FP.Core.val32_fits (FP.i2f (ij (i + 1)))) e1.2 (by rw [e1.1, ← o, ← hZ]; omega)
  rw [← FP.Core.val32_fadd, e1.1] at s2
  have s3 : (FP.Core.one32 : Int) * i + FP.Core.one32 ≤ FP.Core.zval FP.Core.b32 (FP.Core.val32 (FP.fadd a 1065353216)) := s2
  refine Int.not_le.mp (fun q => ?_)
  have s4 := (fk_nn hn (kyB_nn ha)).mp q
  omega
/-- the key above a shape -/
noncomputable def hf (β : Nat → Nat) (s t : Nat) : UInt32 := FP.fdiv (FP.fadd (ky β s) (ky β t)) 1073741824
noncomputable def pk (A : Ab) (β : Nat → Nat) (s : Nat) : Option UInt32 :=
  if nx A β (ky β s) (aSh A) = -1 then some (FP.fadd (ky β s) 1065353216)
  else if fk (hf β s (nx A β (ky β s) (aSh A)).toNat) = fk (ky β s) then none
  else if fk (hf β s (nx A β (ky β s) (aSh A)).toNat) = fk (ky β (nx A β (ky β s) (aSh A)).toNat) then none
  else some (hf β s (nx A β (ky β s) (aSh A)).toNat)
theorem pk_kz (h : VW A β o σ) (hm : aN A < 1000) {s : Nat} (hs : s < 12) {a : UInt32} (e : pk A β s = some a) : kyB a ∧ kz (aN A + 1) a := by
  have hsh : aSh A ≤ 12 := h.2.2.2.1
  unfold pk at e
  rcases nx_rg A β (ky β s) (aSh A) with q | ⟨q1, q2, q3, q4⟩
  · rw [if_pos q] at e
    injection e with e
    rw [← e]
    exact ⟨kyB_add1 (v_ky h hs), kz_add1 hm (v_kz h hs)⟩
  · obtain ⟨t, ht⟩ : ∃ t : Nat, nx A β (ky β s) (aSh A) = t := ⟨(nx A β (ky β s) (aSh A)).toNat, by omega⟩
    rw [ht] at e q2
    rw [tn_nat, if_neg (by omega)] at e
    by_cases z1 : fk (hf β s t) = fk (ky β s)
    · rw [if_pos z1] at e; cases e
    · rw [if_neg z1] at e
      by_cases z2 : fk (hf β s t) = fk (ky β t)
      · rw [if_pos z2] at e; cases e
      · rw [if_neg z2] at e
        injection e with e
        rw [← e]
        exact ⟨(kyB_half (v_ky h hs) (v_ky h (by omega))).1, kz_mono (by omega) (kz_half hm (v_kz h hs) (v_kz h (by omega)))⟩
theorem f_keyAbove (h : VW A β o σ) (hN : 100 ≤ N) {s : Nat} (hs : s < 12) : fX7_keyAbove N σ o (ij s) = match pk A β s with | some a => some (.inl a, σ) | none => some (.inr EU, σ) := by
  have hsh : aSh A ≤ 12 := h.2.2.2.1
  unfold fX7_keyAbove
  rw [f_keyAt h hs, ob_s, f_nextAbove h hN (v_ky h hs), ob_s, nx_cut _ h.2.2.2 hsh]
  unfold pk
  rcases nx_rg A β (ky β s) (aSh A) with q | ⟨q1, q2, q3, q4⟩
  · rw [q, if_pos (by decide), if_pos rfl, nn32_of (kyB_nn (kyB_add1 (v_ky h hs))), ck_tr]
  · obtain ⟨t, ht⟩ : ∃ t : Nat, nx A β (ky β s) (aSh A) = t := ⟨(nx A β (ky β s) (aSh A)).toNat, by omega⟩
    rw [ht] at q2
    have hk := kyB_half (v_ky h hs) (v_ky h (s := t) (by omega))
    have c0 : (ij (t : Int) = (-1 : Int32)) = ((t : Int) = -1) := ij_eq (b := -1) (by omega) (by omega) (by omega) (by omega)
    have c1 : (Op.cmpValue (FP.fcmp (hf β s t) (ky β s)) CmpOp.l = (0 : Int32)) = (fk (hf β s t) = fk (ky β s)) := fk_l_eq hk.1 (v_ky h hs)
    have c2 : (Op.cmpValue (FP.fcmp (hf β s t) (ky β t)) CmpOp.l = (0 : Int32)) = (fk (hf β s t) = fk (ky β t)) := fk_l_eq hk.1 (v_ky h (by omega))
    rw [ht, tn_nat, if_neg (by rw [c0]; omega), if_neg (by omega), f_keyAt h (by omega), ob_s, nn32_of hk.2, ck_tr, nn32_of (kyB_nn hk.1), ck_tr, vl_s]
    show (if Op.cmpValue (FP.fcmp (hf β s t) (ky β s)) CmpOp.l = (0 : Int32) then _ else if Op.cmpValue (FP.fcmp (hf β s t) (ky β t)) CmpOp.l = (0 : Int32) then _ else (some (Sum.inl (hf β s t), σ) : Option ((UInt32 ⊕ String) × St))) = _
    simp only [c1, c2]
    by_cases z1 : fk (hf β s t) = fk (ky β s)
    · rw [if_pos z1, if_pos z1]
    · rw [if_neg z1, if_neg z1]
      by_cases z2 : fk (hf β s t) = fk (ky β t)
      · rw [if_pos z2, if_pos z2]
      · rw [if_neg z2, if_neg z2]
theorem m_aboveLoop (h : WM A β σ) (hN : 100 ≤ N) {s : Nat} (hs : s < 12) (K : Int32 → Int32 → Option (Int32 × St)) : fX8_putAbove_L56 K N (ij s) σ N (ij (-1)) (ij 0) = K (ij (nx A β (ky β s) (aSh A))) (ij (aSh A)) := by
  have hsh : aSh A ≤ 12 := h.2.2.2.1
  have ks := m_key (N := N) h hs
  refine lp_end (fun n j => fX8_putAbove_L56 K N (ij s) σ n (ij (nx A β (ky β s) j)) (ij j)) (a := 0) (b := aSh A) (by omega) (fun n j _ hj => ?_) (fun n => ?_) N (by omega)
  · have kj := m_key (N := N) h (s := j) (by omega)
    simp only [fX8_putAbove_L56]
    rw [h.1.1, m_seen h (by omega), kj.1, ks.1]
    by_cases e : sn A β j = true
    · by_cases g1 : fk (ky β j) ≤ fk (ky β s)
      · have e2 : nx A β (ky β s) (j + 1) = nx A β (ky β s) j := by
          show (if _ then _ else _) = _
          rw [if_neg (by omega)]
        simp (disch := first | omega | exact kj.2 | exact ks.2) only [ij_l0, ij_l1, ij_l2, ij_l3, ij_l4, ij_l5, ij_l6, ij_l8, ij_l12, ij_l16, ij_l19, ij_l23, ij_l24, ij_l31, ij_l32, ij_l36, ij_l47, ij_l48, ij_l56, ij_l92, ij_l93, ij_l98, ij_l108, ij_l114, ij_l116, ij_l127, ij_l128, ij_l149, ij_l250, ij_l384, ij_l768, ij_l1000, ij_l1536, ij_l3000, ij_l1000000, ij_l1000003, ij_l1000000000, ij_neg, ij_add, ij_sub, ij_mul, ij_le, if_neg, ob_s, vl_s, bi_z, e, fk_l_le, g1, if_true, Bool.true_eq_false, if_false]
        rw [e2]
        rfl
      · rcases nx_rg A β (ky β s) j with q | ⟨q1, q2, q3, q4⟩
        · have e2 : nx A β (ky β s) (j + 1) = j := by
            show (if _ then _ else _) = _
            rw [if_pos ⟨e, by omega, Or.inl q⟩]
          simp (disch := first | omega | exact kj.2 | exact ks.2) only [ij_l0, ij_l1, ij_l2, ij_l3, ij_l4, ij_l5, ij_l6, ij_l8, ij_l12, ij_l16, ij_l19, ij_l23, ij_l24, ij_l31, ij_l32, ij_l36, ij_l47, ij_l48, ij_l56, ij_l92, ij_l93, ij_l98, ij_l108, ij_l114, ij_l116, ij_l127, ij_l128, ij_l149, ij_l250, ij_l384, ij_l768, ij_l1000, ij_l1536, ij_l3000, ij_l1000000, ij_l1000003, ij_l1000000000, ij_neg, ij_add, ij_sub, ij_mul, ij_le, ij_lt, if_neg, if_pos, ob_s, vl_s, bi_z, e, fk_l_le, g1, q, if_true, Bool.true_eq_false, if_false]
          rw [e2]
          rfl
        · obtain ⟨t, ht⟩ : ∃ t : Nat, nx A β (ky β s) j = t := ⟨(nx A β (ky β s) j).toNat, by omega⟩
          rw [ht] at q1 q2 ⊢
          have kt := m_key (N := N) h (s := t) (by omega)
          by_cases g2 : fk (ky β t) ≤ fk (ky β j)
          · have e2 : nx A β (ky β s) (j + 1) = t := by
              show (if _ then _ else _) = _
              rw [ht, tn_nat, if_neg (by omega)]
            simp (disch := first | omega | exact kj.2 | exact ks.2 | exact kt.2) only [ij_l0, ij_l1, ij_l2, ij_l3, ij_l4, ij_l5, ij_l6, ij_l8, ij_l12, ij_l16, ij_l19, ij_l23, ij_l24, ij_l31, ij_l32, ij_l36, ij_l47, ij_l48, ij_l56, ij_l92, ij_l93, ij_l98, ij_l108, ij_l114, ij_l116, ij_l127, ij_l128, ij_l149, ij_l250, ij_l384, ij_l768, ij_l1000, ij_l1536, ij_l3000, ij_l1000000, ij_l1000003, ij_l1000000000, ij_neg, ij_add, ij_sub, ij_mul, ij_le, ij_lt, if_neg, if_pos, ob_s, vl_s, bi_z, e, fk_l_le, fk_g_ge, kt.1, g1, g2, if_true, Bool.true_eq_false, if_false]
            rw [e2]
            rfl
          · have e2 : nx A β (ky β s) (j + 1) = j := by
              show (if _ then _ else _) = _
              rw [ht, tn_nat, if_pos ⟨e, by omega, Or.inr (by omega)⟩]
            simp (disch := first | omega | exact kj.2 | exact ks.2 | exact kt.2) only [ij_l0, ij_l1, ij_l2, ij_l3, ij_l4, ij_l5, ij_l6, ij_l8, ij_l12, ij_l16, ij_l19, ij_l23, ij_l24, ij_l31, ij_l32, ij_l36, ij_l47, ij_l48, ij_l56, ij_l92, ij_l93, ij_l98, ij_l108, ij_l114, ij_l116, ij_l127, ij_l128, ij_l149, ij_l250, ij_l384, ij_l768, ij_l1000, ij_l1536, ij_l3000, ij_l1000000, ij_l1000003, ij_l1000000000, ij_neg, ij_add, ij_sub, ij_mul, ij_le, ij_lt, if_neg, if_pos, ob_s, vl_s, bi_z, e, fk_l_le, fk_g_ge, kt.1, g1, g2, if_true, Bool.true_eq_false, if_false]
            rw [e2]
            rfl
    · have e' : sn A β j = false := by simpa using e
      have e2 : nx A β (ky β s) (j + 1) = nx A β (ky β s) j := by
        show (if _ then _ else _) = _
        rw [if_neg (by intro z; exact e z.1)]
      simp (disch := omega) only [ij_l0, ij_l1, ij_l2, ij_l3, ij_l4, ij_l5, ij_l6, ij_l8, ij_l12, ij_l16, ij_l19, ij_l23, ij_l24, ij_l31, ij_l32, ij_l36, ij_l47, ij_l48, ij_l56, ij_l92, ij_l93, ij_l98, ij_l108, ij_l114, ij_l116, ij_l127, ij_l128, ij_l149, ij_l250, ij_l384, ij_l768, ij_l1000, ij_l1536, ij_l3000, ij_l1000000, ij_l1000003, ij_l1000000000, ij_neg, ij_add, ij_sub, ij_mul, ij_le, if_neg, ob_s, vl_s, bi_z, e', if_true]
      rw [e2]
      rfl
  · simp only [fX8_putAbove_L56]
    rw [h.1.1]
    simp (disch := omega) only [ij_l0, ij_l1, ij_l2, ij_l3, ij_l4, ij_l5, ij_l6, ij_l8, ij_l12, ij_l16, ij_l19, ij_l23, ij_l24, ij_l31, ij_l32, ij_l36, ij_l47, ij_l48, ij_l56, ij_l92, ij_l93, ij_l98, ij_l108, ij_l114, ij_l116, ij_l127, ij_l128, ij_l149, ij_l250, ij_l384, ij_l768, ij_l1000, ij_l1536, ij_l3000, ij_l1000000, ij_l1000003, ij_l1000000000, ij_neg, ij_add, ij_sub, ij_mul, ij_lt, ij_le, ij_eq, ij_nat, tn_nat, tn_12, tn_24, tn_36, tn_48, ck_in, ob_s, o2_s, vl_s, ox_l, ox_r, ck_tr, if_pos, if_neg]
theorem h1234x {H : Hd} (e : H = fun E5 σ3 => (if E5 = "java/lang/IllegalArgumentException" then (some ((1 : Int32), σ3)) else (if E5 = "java/util/NoSuchElementException" then (some ((2 : Int32), σ3)) else (if E5 = "java/lang/UnsupportedOperationException" then (some ((3 : Int32), σ3)) else (if E5 = "java/lang/IllegalStateException" then (some ((4 : Int32), σ3)) else none))))) : H4 H := h1234 e
theorem p_putAbove (h : Inv A σ) (hN : 1000000 ≤ N) (x y z : Int32) : PairI (fL_putAbove N σ x y z) (fun τ => fX8_putAbove N τ x y z) := by
  obtain ⟨hI, hC, hM⟩ := h
  obtain ⟨x, rfl, hx⟩ := rg_ex x
  obtain ⟨y, rfl, hy⟩ := rg_ex y
  obtain ⟨z, rfl, hz⟩ := rg_ex z
  have hn := hI.1.1
  have yz : (ij y = ij z) = (y = z) := by
    obtain ⟨y1, y2⟩ := hy
    obtain ⟨z1, z2⟩ := hz
    exact ij_eq (by omega) (by omega) (by omega) (by omega)
  obtain ⟨k1, k2, k3, k4⟩ := h1234 (H := fun E5 σ3 => (if E5 = "java/lang/IllegalArgumentException" then (some ((1 : Int32), σ3)) else (if E5 = "java/util/NoSuchElementException" then (some ((2 : Int32), σ3)) else (if E5 = "java/lang/UnsupportedOperationException" then (some ((3 : Int32), σ3)) else (if E5 = "java/lang/IllegalStateException" then (some ((4 : Int32), σ3)) else none))))) rfl
  unfold fL_putAbove fX7_putAbove
  rw [c_user hx]
  cases e : usz x with
  | false =>
    simp only [Bool.false_eq_true, if_false, ox_r]
    refine mkI hI hC (c := 1) (k1 σ) (by omega) ⟨ij 0, sI (sI σ 8 0 0 (ij 0)) 8 0 0 (ij 1), ?_, MR_thr (MR_thr hM _) _, (Un_thr _ _).tr (Un_thr _ _), thr_thr _ _, fun q => by omega⟩
    unfold fX8_putAbove
    rw [vl_s, m_isUser hx, usd _ e, ob_s, if_pos (by decide), m_fails, o2_s]
    rfl
  | true =>
    obtain ⟨u, rfl, hu⟩ := usz_nat e
    simp only [if_true, tn_nat, ox_l, yz]
    by_cases ez : y = z
    · rw [if_pos ez, ox_r]
      refine mkI hI hC (c := 1) (k1 σ) (by omega) ⟨ij 0, sI (sI σ 8 0 0 (ij 0)) 8 0 0 (ij 1), ?_, MR_thr (MR_thr hM _) _, (Un_thr _ _).tr (Un_thr _ _), thr_thr _ _, fun q => by omega⟩
      unfold fX8_putAbove
      rw [vl_s, m_isUser hx, usd _ e, ob_s, if_neg (by decide), if_pos (by rw [ez]), m_fails, o2_s]
      rfl
    · rw [if_neg ez, c_seen hI hC hu hz]
      -- the model's side up to the two shapes
      have two : ∀ σ' τ, fX8_builds N (sI σ' 8 0 0 (ij 0)) (ij u) = some τ → MB A u τ → (snz A (bv A (kn A u)) z = false ∨ snz A (bv A (kn A u)) y = false) → fX8_putAbove N σ' (ij u) (ij y) (ij z) = some (ij 0, sI τ 8 0 0 (ij 2)) := by
        intro σ' τ t1 ht q
        have hW := MB_WM hI ht
        unfold fX8_putAbove
        rw [vl_s, m_isUser hx, usd _ e, ob_s, if_neg (by decide), if_neg (by rw [yz]; exact ez)]
        simp only [ij_l0, ij_l1, ij_l2, ij_l3, ij_l4, ij_l5, ij_l6, ij_l8, ij_l12, ij_l16, ij_l19, ij_l23, ij_l24, ij_l31, ij_l32, ij_l36, ij_l47, ij_l48, ij_l56, ij_l92, ij_l93, ij_l98, ij_l108, ij_l114, ij_l116, ij_l127, ij_l128, ij_l149, ij_l250, ij_l384, ij_l768, ij_l1000, ij_l1536, ij_l3000, ij_l1000000, ij_l1000003, ij_l1000000000, ij_neg, ij_add, ij_sub, ij_mul]
        rw [t1, ob_s, m_isSeen hW hy.1 hy.2, ob_s]
        cases e3 : snz A (bv A (kn A u)) y with
        | false =>
          rw [if_pos (by decide), m_fails, o2_s]
        | true =>
          rw [e3] at q
          have q' : snz A (bv A (kn A u)) z = false := q.resolve_right (by decide)
          rw [if_neg (by decide), m_isSeen hW hz.1 hz.2, q', ob_s, if_pos (by decide), m_fails, o2_s]
      cases e2 : snz A (bv A (kn A u)) z with
      | false =>
        simp only [Bool.false_eq_true, if_false, ox_r]
        obtain ⟨τ, t1, t2, t3, t4⟩ := m_start (N := N) hI hM (by omega) hu
        exact mkI hI hC (c := 2) (k2 σ) (by omega) ⟨ij 0, sI τ 8 0 0 (ij 2), two σ τ t1 t2 (Or.inl e2), MR_thr t2.1 _, t3.tr (Un_thr _ _), thr_thr _ _, fun q => by omega⟩
      | true =>
        simp only [if_true, ox_l]
        rw [c_change hI hC hu hy]
        cases e3 : snz A (bv A (kn A u)) y with
        | false =>
          simp only [Bool.false_eq_true, if_false, ox_r]
          obtain ⟨τ, t1, t2, t3, t4⟩ := m_start (N := N) hI hM (by omega) hu
          exact mkI hI hC (c := 2) (k2 σ) (by omega) ⟨ij 0, sI τ 8 0 0 (ij 2), two σ τ t1 t2 (Or.inr e3), MR_thr t2.1 _, t3.tr (Un_thr _ _), thr_thr _ _, fun q => by omega⟩
        | true =>
          obtain ⟨t, rfl, ht⟩ := snz_ex e2
          obtain ⟨s, rfl, hs⟩ := snz_ex e3
          have ht2 := sn12 hI ht
          have hs2 := sn12 hI hs
          have hV := CR_VW hI hu hC
          have hsh : aSh A ≤ 12 := hI.2.1.1
          simp only [if_true, tn_nat]
          have tail : ∀ σ' τ, fX8_builds N (sI σ' 8 0 0 (ij 0)) (ij u) = some τ → MB A u τ → fX8_putAbove N σ' (ij u) (ij s) (ij t) = if lkb (bv A (kn A u)) u s = true then some (ij 0, sI τ 8 0 0 (ij 3)) else match pk A (bv A (kn A u)) t with | none => some (ij 0, sI τ 8 0 0 (ij 3)) | some a => if aN A = 250 then some (ij 0, sI τ 8 0 0 (ij 4)) else o2 (fX8_keys N τ (ij u) (ij s) a) fun v34 σ33 => some (v34, σ33) := by
            intro σ' τ t1 hb
            have hW := MB_WM hI hb
            have mf := m_full hb.1 hn
            have mf' : (gI τ 8 0 20 = (250 : Int32)) = (aN A = 250) := mf
            have mk := m_key (N := N) hW ht2
            unfold fX8_putAbove
            rw [vl_s, m_isUser hx, usd _ e, ob_s, if_neg (by decide), if_neg (by rw [yz]; exact ez)]
            simp only [ij_l0, ij_l1, ij_l2, ij_l3, ij_l4, ij_l5, ij_l6, ij_l8, ij_l12, ij_l16, ij_l19, ij_l23, ij_l24, ij_l31, ij_l32, ij_l36, ij_l47, ij_l48, ij_l56, ij_l92, ij_l93, ij_l98, ij_l108, ij_l114, ij_l116, ij_l127, ij_l128, ij_l149, ij_l250, ij_l384, ij_l768, ij_l1000, ij_l1536, ij_l3000, ij_l1000000, ij_l1000003, ij_l1000000000, ij_neg, ij_add, ij_sub, ij_mul]
            rw [t1, ob_s, m_isSeen hW hy.1 hy.2, e3, ob_s, if_neg (by decide), m_isSeen hW hz.1 hz.2, e2, ob_s, if_neg (by decide), vl_s, m_aboveLoop hW (by omega) ht2, m_isBarred hW hs2 hu, mk.1]
            unfold pk
            rcases nx_rg A (bv A (kn A u)) (ky (bv A (kn A u)) t) (aSh A) with q | ⟨q1, q2, q3, q4⟩
            · have ka := kyB_add1 (v_ky hV ht2)
              have c1 : (Op.cmpValue (FP.fcmp (FP.fadd (ky (bv A (kn A u)) t) 1065353216) (ky (bv A (kn A u)) t)) CmpOp.l = ij 0) = (fk (FP.fadd (ky (bv A (kn A u)) t) 1065353216) = fk (ky (bv A (kn A u)) t)) := fk_l_eq ka (v_ky hV ht2)
              have c2 := fk_add1 (show aN A < 1000 by omega) (v_kz hV ht2)
              rw [q, if_neg (by decide), ob_s, nn32_of (kyB_nn ka), ck_tr, vl_s, ob_s]
              have n1 : (fk (FP.fadd (ky (bv A (kn A u)) t) 1065353216) = fk (ky (bv A (kn A u)) t)) = False := eq_false (by omega)
              have n2 : (ij (-1) < ij 0) = True := eq_true (by decide)
              cases lkb (bv A (kn A u)) u s <;> simp only [bi_z, Bool.false_eq_true, Bool.true_eq_false, if_true, if_false, ob_s, o2_s, m_fails, c1, mf, n1, n2]
            · obtain ⟨w, hw⟩ : ∃ w : Nat, nx A (bv A (kn A u)) (ky (bv A (kn A u)) t) (aSh A) = w := ⟨(nx A (bv A (kn A u)) (ky (bv A (kn A u)) t) (aSh A)).toNat, by omega⟩
              rw [hw] at q2
              have hk := kyB_half (v_ky hV ht2) (v_ky hV (s := w) (by omega))
              have mw := m_key (N := N) hW (s := w) (by omega)
              have c0 : (ij 0 ≤ ij (w : Int)) = ((0 : Int) ≤ w) := ij_le (by omega) (by omega) (by omega) (by omega)
              have c0' : (ij (w : Int) < ij 0) = ((w : Int) < 0) := ij_lt (by omega) (by omega) (by omega) (by omega)
              have c1 : (Op.cmpValue (FP.fcmp (hf (bv A (kn A u)) t w) (ky (bv A (kn A u)) t)) CmpOp.l = ij 0) = (fk (hf (bv A (kn A u)) t w) = fk (ky (bv A (kn A u)) t)) := fk_l_eq hk.1 (v_ky hV ht2)
              have c2 : (Op.cmpValue (FP.fcmp (hf (bv A (kn A u)) t w) (ky (bv A (kn A u)) w)) CmpOp.l = ij 0) = (fk (hf (bv A (kn A u)) t w) = fk (ky (bv A (kn A u)) w)) := fk_l_eq hk.1 (v_ky hV (by omega))
              have hfe : FP.fdiv (FP.fadd (ky (bv A (kn A u)) t) (ky (bv A (kn A u)) w)) 1073741824 = hf (bv A (kn A u)) t w := rfl
              rw [hw, tn_nat, if_pos (by rw [c0]; omega), ob_s, mw.1, ob_s, nn32_of hk.2, ck_tr, nn32_of (kyB_nn hk.1), ck_tr, vl_s, ob_s, hfe]
              have n2 : ((w : Int) < 0) = False := eq_false (by omega)
              have n3 : ((w : Int) = -1) = False := eq_false (by omega)
              cases lkb (bv A (kn A u)) u s
              · by_cases z1 : fk (hf (bv A (kn A u)) t w) = fk (ky (bv A (kn A u)) t)
                · simp only [bi_z, Bool.false_eq_true, Bool.true_eq_false, if_true, if_false, ob_s, o2_s, m_fails, c1, c2, c0', mf, n2, n3, z1, tn_nat]
                · by_cases z2 : fk (hf (bv A (kn A u)) t w) = fk (ky (bv A (kn A u)) w)
                  · rw [z2] at z1
                    simp only [bi_z, Bool.false_eq_true, Bool.true_eq_false, if_true, if_false, ob_s, o2_s, m_fails, c1, c2, c0', mf, n2, n3, z1, z2, tn_nat]
                  · simp only [bi_z, Bool.false_eq_true, Bool.true_eq_false, if_true, if_false, ob_s, o2_s, m_fails, c1, c2, c0', mf, n2, n3, z1, z2, tn_nat]
              · simp only [bi_z, Bool.false_eq_true, Bool.true_eq_false, if_true, if_false, ob_s, o2_s, m_fails, c1, c2, c0', mf, n2, n3, tn_nat]
          cases e5 : lkb (bv A (kn A u)) u s with
          | true =>
            simp only [e5, if_true] at tail
            simp only [if_true, ox_r]
            obtain ⟨τ, t1, t2, t3, t4⟩ := m_start (N := N) hI hM (by omega) hu
            exact mkI hI hC (c := 3) (k3 σ) (by omega) ⟨ij 0, sI τ 8 0 0 (ij 3), tail σ τ t1 t2, MR_thr t2.1 _, t3.tr (Un_thr _ _), thr_thr _ _, fun q => by omega⟩
          | false =>
            simp only [e5, Bool.false_eq_true, if_false] at tail
            simp only [Bool.false_eq_true, if_false, ox_l]
            rw [f_keyAbove hV (by omega) ht2]
            cases e6 : pk A (bv A (kn A u)) t with
            | none =>
              simp only [e6] at tail
              rw [ox_r, ox_r]
              obtain ⟨τ, t1, t2, t3, t4⟩ := m_start (N := N) hI hM (by omega) hu
              exact mkI hI hC (c := 3) (k3 σ) (by omega) ⟨ij 0, sI τ 8 0 0 (ij 3), tail σ τ t1 t2, MR_thr t2.1 _, t3.tr (Un_thr _ _), thr_thr _ _, fun q => by omega⟩
            | some a =>
              simp only [e6] at tail
              obtain ⟨ha, hz'⟩ := pk_kz hV (by omega) ht2 e6
              rw [ox_l, c_room hC hn]
              by_cases e4 : aN A = 250
              · simp only [e4, if_true] at tail
                rw [if_pos e4, ox_r, ox_r]
                obtain ⟨τ, t1, t2, t3, t4⟩ := m_start (N := N) hI hM (by omega) hu
                exact mkI hI hC (c := 4) (k4 σ) (by omega) ⟨ij 0, sI τ 8 0 0 (ij 4), tail σ τ t1 t2, MR_thr t2.1 _, t3.tr (Un_thr _ _), thr_thr _ _, fun q => by omega⟩
              · simp only [e4, if_false] at tail
                obtain ⟨τ, g1, g2, g3, g4⟩ := gkey hI hC hN (by omega) hu hs2 ha hz'
                rw [if_neg e4, ox_l, g1, o2_s, ox_l, vl_s]
                obtain ⟨τ1, w1, w2, w3, w4⟩ := m_start (N := N) (σ := sJ τ 0 (Int32.toInt64 (rkn (st1 A u (24 + s) a.toNat) u s))) hI (MR_J (MR_un hM g4)) (by omega) hu
                obtain ⟨τ2, v1, v2, v3, v4⟩ := mkeys (N := N) hI (by omega) (by omega) hu hs2 w2 ha hz' g3
                refine mkI g3 (CR_J g2) (c := 0) rfl (by omega) ⟨rkn (st1 A u (24 + s) a.toNat) u s, τ2, (tail _ τ1 w1 w2).trans ?_, v2, w3.tr v3, v4.trans w4, fun _ => gJ_sJ _ _⟩
                rw [v1, o2_s]
end S5
