/-! Steps on both sides: sync. -/
def syA (A : Ab) (u w : Nat) : Nat → Ab
  | 0 => A
  | m + 1 => if kn A u m = kn A w m then syA A u w m else if kn A u m = true then lrn (syA A u w m) w m else lrn (syA A u w m) u m
def syC (A : Ab) (u w : Nat) : Nat → Nat := ct (fun m => kn A u m != kn A w m)
section S7
variable {A : Ab} {N : Nat} {σ : St}
theorem syA_N (A : Ab) (u w : Nat) : ∀ m, aN (syA A u w m) = aN A := by
  intro m
  induction m with
  | zero => rfl
  | succ m ih =>
    simp only [syA]
    split
    · exact ih
    · split
      · exact ih
      · exact ih
theorem syA_kn (A : Ab) (u w : Nat) : ∀ m v x, m ≤ x → kn (syA A u w m) v x = kn A v x := by
  intro m
  induction m with
  | zero => intro v x _; rfl
  | succ m ih =>
    intro v x hx
    simp only [syA]
    split
    · exact ih v x (by omega)
    · split
      · rw [lrn_kn, if_neg (by omega)]; exact ih v x (by omega)
      · rw [lrn_kn, if_neg (by omega)]; exact ih v x (by omega)
theorem syA_inv (hI : Inv0 A) (u w : Nat) : ∀ m, m ≤ aN A → Inv0 (syA A u w m) := by
  intro m
  induction m with
  | zero => intro _; exact hI
  | succ m ih =>
    intro hm
    simp only [syA]
    split
    · exact ih (by omega)
    · split
      · exact Inv0_lrn (ih (by omega)) (by rw [syA_N]; omega)
      · exact Inv0_lrn (ih (by omega)) (by rw [syA_N]; omega)
theorem f_syncLoop (hI : Inv0 A) (hC : CR A σ) (hN : 1000000 ≤ N) {u w : Nat} (hu : u < 3) (hw : w < 3) :
    ∃ τ, fX7_sync_L34 (fun v18 _ σ19 => (some (.inl v18, σ19))) N u w N (0 : Int32) (0 : Int32) σ = some (.inl (ij (syC A u w (aN A))), τ) ∧ CR (syA A u w (aN A)) τ ∧ Un Tc σ τ := by
  have hn := hI.1.1
  obtain ⟨τ, e, hP, pU⟩ := lp_st (fun n j τ => fX7_sync_L34 (fun v18 _ σ19 => (some (.inl v18, σ19))) N u w n (ij (syC A u w j)) (ij j) τ) (fun j τ => CR (syA A u w j) τ ∧ Un Tc σ τ) (Nat.zero_le (aN A)) (fun n j τ _ hj hP => by
      obtain ⟨hP, pU⟩ := hP
      have hIj := syA_inv hI u w j (by omega)
      have k1 := f_isKnown (N := N) hP hu (o := j) (by omega)
      have k2 := f_isKnown (N := N) hP hw (o := j) (by omega)
      rw [syA_kn A u w j u j (by omega)] at k1
      rw [syA_kn A u w j w j (by omega)] at k2
      have hN1 : gI τ 1 0 11 = ij (aN A) := by rw [hP.2.1.1, syA_N]
      have cj : syC A u w (j + 1) = syC A u w j + (if (kn A u j != kn A w j) = true then 1 else 0) := rfl
      simp only [fX7_sync_L34]
      rw [hN1, k1, k2]
      by_cases e : kn A u j = kn A w j
      · refine ⟨τ, ?_, ?_, pU⟩
        · have e' : (bi (kn A u j) = bi (kn A w j)) = True := by rw [bi_e]; exact eq_true e
          simp (disch := omega) only [ij_l0, ij_l1, ij_l2, ij_l3, ij_l4, ij_l5, ij_l6, ij_l8, ij_l12, ij_l16, ij_l19, ij_l23, ij_l24, ij_l31, ij_l32, ij_l36, ij_l47, ij_l48, ij_l56, ij_l92, ij_l93, ij_l98, ij_l108, ij_l114, ij_l116, ij_l127, ij_l128, ij_l149, ij_l250, ij_l384, ij_l768, ij_l1000, ij_l1536, ij_l3000, ij_l1000000, ij_l1000003, ij_l1000000000, ij_neg, ij_add, ij_sub, ij_mul, ij_lt, ij_le, ij_eq, ij_nat, tn_nat, tn_12, tn_24, tn_36, tn_48, ck_in, ob_s, o2_s, vl_s, ox_l, ox_r, ck_tr, if_pos, if_neg, e', if_true]
          rw [cj, e]
          simp
        · simp only [syA]
          rw [if_pos e]
          exact hP
      · have e' : (bi (kn A u j) = bi (kn A w j)) = False := by rw [bi_e]; exact eq_false e
        have cj' : syC A u w (j + 1) = syC A u w j + 1 := by rw [cj, if_pos (by simpa using e)]
        by_cases g : kn A u j = true
        · have gw : kn A w j = false := by
            cases h : kn A w j with
            | true => rw [g, h] at e; exact absurd rfl e
            | false => rfl
          obtain ⟨τ', t1, t2, t3⟩ := CR_learn (N := N) hIj hP hN hw (o := j) (by rw [syA_N]; omega) (by rw [syA_kn A u w j w j (by omega)]; exact gw)
          refine ⟨τ', ?_, ?_, pU.tr t3⟩
          · simp (disch := omega) only [ij_l0, ij_l1, ij_l2, ij_l3, ij_l4, ij_l5, ij_l6, ij_l8, ij_l12, ij_l16, ij_l19, ij_l23, ij_l24, ij_l31, ij_l32, ij_l36, ij_l47, ij_l48, ij_l56, ij_l92, ij_l93, ij_l98, ij_l108, ij_l114, ij_l116, ij_l127, ij_l128, ij_l149, ij_l250, ij_l384, ij_l768, ij_l1000, ij_l1536, ij_l3000, ij_l1000000, ij_l1000003, ij_l1000000000, ij_neg, ij_add, ij_sub, ij_mul, ij_lt, ij_le, ij_eq, ij_nat, tn_nat, tn_12, tn_24, tn_36, tn_48, ck_in, ob_s, o2_s, vl_s, ox_l, ox_r, ck_tr, if_pos, if_neg, e', if_false]
            simp (disch := omega) only [ij_l0, ij_l1, ij_l2, ij_l3, ij_l4, ij_l5, ij_l6, ij_l8, ij_l12, ij_l16, ij_l19, ij_l23, ij_l24, ij_l31, ij_l32, ij_l36, ij_l47, ij_l48, ij_l56, ij_l92, ij_l93, ij_l98, ij_l108, ij_l114, ij_l116, ij_l127, ij_l128, ij_l149, ij_l250, ij_l384, ij_l768, ij_l1000, ij_l1536, ij_l3000, ij_l1000000, ij_l1000003, ij_l1000000000, ij_neg, ij_add, ij_sub, ij_mul, ij_lt, ij_le, ij_eq, ij_nat, tn_nat, tn_12, tn_24, tn_36, tn_48, ck_in, ob_s, o2_s, vl_s, ox_l, ox_r, ck_tr, if_pos, if_neg, bi_z, g, Bool.true_eq_false, if_false, t1]
            rw [cj']
            rfl
          · simp only [syA]
            rw [if_neg e, if_pos g]
            exact t2
        · have gu : kn A u j = false := by simpa using g
          obtain ⟨τ', t1, t2, t3⟩ := CR_learn (N := N) hIj hP hN hu (o := j) (by rw [syA_N]; omega) (by rw [syA_kn A u w j u j (by omega)]; exact gu)
          refine ⟨τ', ?_, ?_, pU.tr t3⟩
          · simp (disch := omega) only [ij_l0, ij_l1, ij_l2, ij_l3, ij_l4, ij_l5, ij_l6, ij_l8, ij_l12, ij_l16, ij_l19, ij_l23, ij_l24, ij_l31, ij_l32, ij_l36, ij_l47, ij_l48, ij_l56, ij_l92, ij_l93, ij_l98, ij_l108, ij_l114, ij_l116, ij_l127, ij_l128, ij_l149, ij_l250, ij_l384, ij_l768, ij_l1000, ij_l1536, ij_l3000, ij_l1000000, ij_l1000003, ij_l1000000000, ij_neg, ij_add, ij_sub, ij_mul, ij_lt, ij_le, ij_eq, ij_nat, tn_nat, tn_12, tn_24, tn_36, tn_48, ck_in, ob_s, o2_s, vl_s, ox_l, ox_r, ck_tr, if_pos, if_neg, e', if_false]
            simp (disch := omega) only [ij_l0, ij_l1, ij_l2, ij_l3, ij_l4, ij_l5, ij_l6, ij_l8, ij_l12, ij_l16, ij_l19, ij_l23, ij_l24, ij_l31, ij_l32, ij_l36, ij_l47, ij_l48, ij_l56, ij_l92, ij_l93, ij_l98, ij_l108, ij_l114, ij_l116, ij_l127, ij_l128, ij_l149, ij_l250, ij_l384, ij_l768, ij_l1000, ij_l1536, ij_l3000, ij_l1000000, ij_l1000003, ij_l1000000000, ij_neg, ij_add, ij_sub, ij_mul, ij_lt, ij_le, ij_eq, ij_nat, tn_nat, tn_12, tn_24, tn_36, tn_48, ck_in, ob_s, o2_s, vl_s, ox_l, ox_r, ck_tr, if_pos, if_neg, bi_z, gu, if_true, t1]
            rw [cj']
            rfl
          · simp only [syA]
            rw [if_neg e, if_neg g]
            exact t2) N σ (by omega) ⟨hC, Un.rfl⟩
  refine ⟨τ, ?_, hP, pU⟩
  refine Eq.trans e ?_
  have e2 : N - (aN A - 0) = (N - aN A - 1) + 1 := by omega
  have hN1 : gI τ 1 0 11 = ij (aN A) := by rw [hP.2.1.1, syA_N]
  show fX7_sync_L34 _ N u w (N - (aN A - 0)) _ _ τ = _
  rw [e2]
  simp only [fX7_sync_L34]
  rw [hN1, if_pos (by simp (disch := omega) only [ij_le]; omega)]
theorem m_syncLoop (hI : Inv0 A) (hM : MR A σ) (hN : 1000000 ≤ N) {u w : Nat} (hu : u < 3) (hw : w < 3) :
    ∃ τ, fX8_sync_L35 (fun v20 _ σ21 => (some (v20, σ21))) N (ij u) (ij w) N (0 : Int32) (0 : Int32) σ = some (ij (syC A u w (aN A)), τ) ∧ MR (syA A u w (aN A)) τ ∧ Un Tm σ τ ∧ gI τ 8 0 0 = gI σ 8 0 0 := by
  have hn := hI.1.1
  obtain ⟨τ, e, hP, pU, p0⟩ := lp_st (fun n j τ => fX8_sync_L35 (fun v20 _ σ21 => (some (v20, σ21))) N (ij u) (ij w) n (ij (syC A u w j)) (ij j) τ) (fun j τ => MR (syA A u w j) τ ∧ Un Tm σ τ ∧ gI τ 8 0 0 = gI σ 8 0 0) (Nat.zero_le (aN A)) (fun n j τ _ hj hP => by
      obtain ⟨hP, pU, p0⟩ := hP
      have k1 := hP.2.1.2.2 u j hu (by omega)
      have k2 := hP.2.1.2.2 w j hw (by omega)
      rw [syA_kn A u w j u j (by omega)] at k1
      rw [syA_kn A u w j w j (by omega)] at k2
      have hN1 : gI τ 8 0 20 = ij (aN A) := by rw [hP.2.1.1, syA_N]
      have cj : syC A u w (j + 1) = syC A u w j + (if (kn A u j != kn A w j) = true then 1 else 0) := rfl
      have n1 : vp_nar .boolean (ij 1) = ij 1 := rfl
      simp only [fX8_sync_L35]
      rw [hN1]
      by_cases e : kn A u j = kn A w j
      · refine ⟨τ, ?_, ?_, pU, p0⟩
        · have e' : (bi (kn A u j) = bi (kn A w j)) = True := by rw [bi_e]; exact eq_true e
          simp (disch := omega) only [ij_l0, ij_l1, ij_l2, ij_l3, ij_l4, ij_l5, ij_l6, ij_l8, ij_l12, ij_l16, ij_l19, ij_l23, ij_l24, ij_l31, ij_l32, ij_l36, ij_l47, ij_l48, ij_l56, ij_l92, ij_l93, ij_l98, ij_l108, ij_l114, ij_l116, ij_l127, ij_l128, ij_l149, ij_l250, ij_l384, ij_l768, ij_l1000, ij_l1536, ij_l3000, ij_l1000000, ij_l1000003, ij_l1000000000, ij_neg, ij_add, ij_sub, ij_mul, ij_lt, ij_le, ij_eq, ij_nat, tn_nat, tn_12, tn_24, tn_36, tn_48, ck_in, ob_s, o2_s, vl_s, ox_l, ox_r, ck_tr, if_pos, if_neg, k1, k2, e', if_true]
          rw [cj, e]
          simp
        · simp only [syA]
          rw [if_pos e]
          exact hP
      · have e' : (bi (kn A u j) = bi (kn A w j)) = False := by rw [bi_e]; exact eq_false e
        have cj' : syC A u w (j + 1) = syC A u w j + 1 := by rw [cj, if_pos (by simpa using e)]
        refine ⟨sI (sI τ 165 u j (ij 1)) 165 w j (ij 1), ?_, ?_, (pU.tr (Un.sI _ _ _ rfl)).tr (Un.sI _ _ _ rfl), by rw [gI_sI_ne (by omega), gI_sI_ne (by omega)]; exact p0⟩
        · simp (disch := omega) only [ij_l0, ij_l1, ij_l2, ij_l3, ij_l4, ij_l5, ij_l6, ij_l8, ij_l12, ij_l16, ij_l19, ij_l23, ij_l24, ij_l31, ij_l32, ij_l36, ij_l47, ij_l48, ij_l56, ij_l92, ij_l93, ij_l98, ij_l108, ij_l114, ij_l116, ij_l127, ij_l128, ij_l149, ij_l250, ij_l384, ij_l768, ij_l1000, ij_l1536, ij_l3000, ij_l1000000, ij_l1000003, ij_l1000000000, ij_neg, ij_add, ij_sub, ij_mul, ij_lt, ij_le, ij_eq, ij_nat, tn_nat, tn_12, tn_24, tn_36, tn_48, ck_in, ob_s, o2_s, vl_s, ox_l, ox_r, ck_tr, if_pos, if_neg, k1, k2, e', if_false, n1]
          rw [cj']
          rfl
        · simp only [syA]
          rw [if_neg e]
          by_cases g : kn A u j = true
          · rw [if_pos g]
            exact MR_set (MR_set hP _ (Or.inr ⟨rfl, by rw [syA_kn A u w j u j (by omega)]; exact g⟩)) _ (Or.inl rfl)
          · rw [if_neg g]
            refine MR_set (MR_set hP _ (Or.inl rfl)) _ (Or.inr ⟨rfl, ?_⟩)
            have gw : kn A w j = true := by
              cases h : kn A w j with
              | true => rfl
              | false =>
                exfalso
                rw [h] at e
                exact g (by simpa using e)
            rw [lrn_kn]
            split
            · rfl
            · rw [syA_kn A u w j w j (by omega)]; exact gw) N σ (by omega) ⟨hM, Un.rfl, rfl⟩
  refine ⟨τ, ?_, hP, pU, p0⟩
  refine Eq.trans e ?_
  have e2 : N - (aN A - 0) = (N - aN A - 1) + 1 := by omega
  have hN1 : gI τ 8 0 20 = ij (aN A) := by rw [hP.2.1.1, syA_N]
  show fX8_sync_L35 _ N _ _ (N - (aN A - 0)) _ _ τ = _
  rw [e2]
  simp only [fX8_sync_L35]
  rw [hN1, if_pos (by simp (disch := omega) only [ij_le]; omega)]
theorem p_sync (h : Inv A σ) (hN : 1000000 ≤ N) (x y : Int32) : PairI (fL_sync N σ x y) (fun τ => fX8_sync N τ x y) := by
  obtain ⟨hI, hC, hM⟩ := h
  obtain ⟨x, rfl, hx⟩ := rg_ex x
  obtain ⟨y, rfl, hy⟩ := rg_ex y
  have hn := hI.1.1
  have k1 : H1 (fun E5 σ3 => (if E5 = "java/lang/IllegalArgumentException" then (some ((1 : Int32), σ3)) else none)) := fun σ => by simp [EI]
  have xy : (ij x = ij y) = (x = y) := by
    obtain ⟨x1, x2⟩ := hx
    obtain ⟨y1, y2⟩ := hy
    exact ij_eq (by omega) (by omega) (by omega) (by omega)
  unfold fL_sync fX7_sync
  rw [c_user hx]
  cases e : usz x with
  | false =>
    simp only [Bool.false_eq_true, if_false, ox_r]
    refine mkI hI hC (c := 1) (k1 σ) (by omega) ⟨ij 0, sI (sI σ 8 0 0 (ij 0)) 8 0 0 (ij 1), ?_, MR_thr (MR_thr hM _) _, (Un_thr _ _).tr (Un_thr _ _), thr_thr _ _, fun q => by omega⟩
    unfold fX8_sync
    rw [vl_s, m_isUser hx, usd _ e, ob_s, if_pos (by decide), m_fails, o2_s]
    rfl
  | true =>
    simp only [if_true, ox_l]
    rw [c_user hy]
    cases e2 : usz y with
    | false =>
      simp only [Bool.false_eq_true, if_false, ox_r]
      refine mkI hI hC (c := 1) (k1 σ) (by omega) ⟨ij 0, sI (sI σ 8 0 0 (ij 0)) 8 0 0 (ij 1), ?_, MR_thr (MR_thr hM _) _, (Un_thr _ _).tr (Un_thr _ _), thr_thr _ _, fun q => by omega⟩
      unfold fX8_sync
      rw [vl_s, m_isUser hx, usd _ e, ob_s, if_neg (by decide), m_isUser hy, usd _ e2, ob_s, if_pos (by decide), m_fails, o2_s]
      rfl
    | true =>
      simp only [if_true, ox_l, xy]
      by_cases e3 : x = y
      · rw [if_pos e3, ox_r]
        refine mkI hI hC (c := 1) (k1 σ) (by omega) ⟨ij 0, sI (sI σ 8 0 0 (ij 0)) 8 0 0 (ij 1), ?_, MR_thr (MR_thr hM _) _, (Un_thr _ _).tr (Un_thr _ _), thr_thr _ _, fun q => by omega⟩
        unfold fX8_sync
        rw [vl_s, m_isUser hx, usd _ e, ob_s, if_neg (by decide), m_isUser hy, usd _ e2, ob_s, if_neg (by decide), if_pos (by rw [e3]), m_fails, o2_s]
        rfl
      · obtain ⟨u, rfl, hu⟩ := usz_nat e
        obtain ⟨w, rfl, hw⟩ := usz_nat e2
        obtain ⟨τ, t1, t2, t3⟩ := f_syncLoop (N := N) hI hC hN hu hw
        rw [if_neg e3, tn_nat, tn_nat, t1, ox_l, vl_s]
        obtain ⟨τ2, v1, v2, v3, v4⟩ := m_syncLoop (N := N) (σ := sI (sJ τ 0 (Int32.toInt64 (ij (syC A u w (aN A))))) 8 0 0 (ij 0)) hI (MR_thr (MR_J (MR_un hM t3)) _) hN hu hw
        refine mkI (syA_inv hI u w _ (Nat.le_refl _)) (CR_J t2) (c := 0) rfl (by omega) ⟨ij (syC A u w (aN A)), τ2, ?_, v2, (Un_thr _ _).tr v3, v4.trans (thr_thr _ _), fun _ => gJ_sJ _ _⟩
        unfold fX8_sync
        rw [vl_s, m_isUser hx, usd _ e, ob_s, if_neg (by decide), m_isUser hy, usd _ e2, ob_s, if_neg (by decide), if_neg (by rw [xy]; exact e3)]
        exact v1
end S7
