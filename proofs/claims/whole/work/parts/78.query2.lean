/-! More questions. -/
section Q2
variable {A : Ab} {N : Nat} {σ : St}
theorem q_view2 (h : Inv A σ) (hN : 1000 ≤ N) (x y : Int32) {H : Hd} (k1 : H1 H) (k2 : H2 H) (F : Nat → St → Option ((Int32 ⊕ String) × St)) (G : St → Option (Int32 × St))
    (hv : ∀ u s : Nat, x = ij u → y = ij s → u < 3 → sn A (bv A (kn A u)) s = true → (∃ r, F u σ = some (.inl r, σ) ∧ ∀ τ, MB A u τ → G τ = some (r, τ)) ∨ (∃ E c, F u σ = some (.inr E, σ) ∧ 0 < c ∧ c ≤ 9 ∧ (∀ σ, H E σ = some (ij c, σ)) ∧ ∀ τ, MB A u τ → ∃ r, G τ = some (r, sI τ 8 0 0 (ij c)))) :
    PairI (ox (ox (fX7_needView N σ x y) (fun E τ => some (.inr E, τ)) fun u1 σ2 => F u1 σ2) H fun v1 σ2 => vl (sJ σ2 0 (Int32.toInt64 v1)) fun σ6 => some (0, σ6)) (fun τ => o2 (fX8_isUnseen N τ x y) fun v2 σ1 => if v2 = 0 then G σ1 else some (0, σ1)) := by
  have h0 := h
  obtain ⟨hI, hC, hM⟩ := h
  obtain ⟨x, rfl, hx⟩ := rg_ex x
  obtain ⟨y, rfl, hy⟩ := rg_ex y
  by_cases q : ∃ u s : Nat, x = u ∧ y = s ∧ u < 3 ∧ sn A (bv A (kn A u)) s = true
  · obtain ⟨u, s, rfl, rfl, hu, hs⟩ := q
    rcases hv u s rfl rfl hu hs with ⟨r, r1, r2⟩ | ⟨E, c, r1, c1, c2, r2, r3⟩
    · exact q_view h0 hN _ _ k1 k2 F G (fun u' s' e1 e2 hu' hs' => by
        have hs12 := sn12 hI hs
        have hs12' := sn12 hI hs'
        rw [ij_eq (by omega) (by omega) (by omega) (by omega)] at e1 e2
        have : u = u' := by omega
        have : s = s' := by omega
        subst_vars
        exact ⟨r, r1, r2⟩)
    · rw [c_view hI hC hx hy, usz_ij hu]
      simp only [if_true, tn_nat]
      rw [snz_nat, hs, if_pos rfl, ox_l, r1, ox_r]
      refine mkI hI hC (r2 σ) (by omega) ?_
      rcases m_unseen hI hM hN hx hy with ⟨q, _⟩ | ⟨u', e', hu', q, _⟩ | ⟨u', s', e', hu', e3, q, τ, t1, t2, t3, t4⟩
      · rw [usz_ij hu] at q; cases q
      · have : u = u' := by omega
        subst this
        rw [snz_nat, hs] at q
        cases q
      · have : u = u' := by omega
        subst this
        obtain ⟨r, r4⟩ := r3 τ t2
        refine ⟨r, _, ?_, MR_thr t2.1 _, t3.tr (Un_thr τ _), thr_thr _ _, fun q => by omega⟩
        rw [t1, o2_s, if_pos (by decide)]
        exact r4
  · exact q_view h0 hN _ _ k1 k2 F G (fun u s e1 e2 hu hs => absurd ⟨u, s, by
      rw [ij_eq hx.1 hx.2 (by omega) (by omega)] at e1; exact e1, by
      have hs12 := sn12 hI hs
      rw [ij_eq hy.1 hy.2 (by omega) (by omega)] at e2; exact e2, hu, hs⟩ q)
theorem m_votes {β : Nat → Nat} (h : WM A β σ) (hN : 100 ≤ N) {s : Nat} (hs : s < 12) : fX8_votes N σ (ij s) = some (ij (vtf β s)) ∧ vtf β s ≤ 9 := by
  have b0 : β (56 + s) ≤ 3 := (h.2.2.1 (56 + s) (by omega)).2.2.2.2.2.1 (by omega) (by omega)
  have b1 : β (68 + s) ≤ 3 := (h.2.2.1 (68 + s) (by omega)).2.2.2.2.2.1 (by omega) (by omega)
  have b2 : β (80 + s) ≤ 3 := (h.2.2.1 (80 + s) (by omega)).2.2.2.2.2.1 (by omega) (by omega)
  have v0 : gI σ 157 0 (56 + s) = ij (β (56 + s)) := by rw [h.2.1 _ (by omega), mvI_n _ (by omega)]
  have v1 : gI σ 157 0 (68 + s) = ij (β (68 + s)) := by rw [h.2.1 _ (by omega), mvI_n _ (by omega)]
  have v2 : gI σ 157 0 (80 + s) = ij (β (80 + s)) := by rw [h.2.1 _ (by omega), mvI_n _ (by omega)]
  refine ⟨?_, by unfold vtf; omega⟩
  unfold fX8_votes
  refine lp_end (fun n j => fX8_votes_L4 (fun v5 _ => (some v5)) N σ (ij s) n (ij (if j = 0 then 0 else if j = 1 then β (56 + s) else if j = 2 then β (56 + s) + β (68 + s) else vtf β s : Nat)) (ij j)) (a := 0) (b := 3) (by omega) (fun n j _ hj => ?_) (fun n => ?_) N (by omega)
  · have e : ((56 : Int) + 12 * j + s).toNat = 56 + 12 * j + s := by omega
    simp only [fX8_votes_L4]
    have hj3 : j = 0 ∨ j = 1 ∨ j = 2 := by omega
    have w0 : gI σ 157 0 (56 + 12 * 0 + s) = ij (β (56 + s)) := v0
    have w1 : gI σ 157 0 (56 + 12 * 1 + s) = ij (β (68 + s)) := v1
    have w2 : gI σ 157 0 (56 + 12 * 2 + s) = ij (β (80 + s)) := v2
    rcases hj3 with rfl | rfl | rfl
    · simp (disch := omega) only [ij_l0, ij_l1, ij_l2, ij_l3, ij_l4, ij_l5, ij_l6, ij_l8, ij_l12, ij_l16, ij_l19, ij_l23, ij_l24, ij_l31, ij_l32, ij_l36, ij_l47, ij_l48, ij_l56, ij_l92, ij_l93, ij_l98, ij_l108, ij_l114, ij_l116, ij_l127, ij_l128, ij_l149, ij_l250, ij_l384, ij_l768, ij_l1000, ij_l1536, ij_l3000, ij_l1000000, ij_l1000003, ij_l1000000000, ij_neg, ij_add, ij_sub, ij_mul, ij_lt, ij_le, ij_eq, ij_nat, tn_nat, tn_12, tn_24, tn_36, tn_48, ck_in, ob_s, o2_s, vl_s, ox_l, ox_r, ck_tr, if_pos, if_neg, e, w0]
      simp
    · simp (disch := omega) only [ij_l0, ij_l1, ij_l2, ij_l3, ij_l4, ij_l5, ij_l6, ij_l8, ij_l12, ij_l16, ij_l19, ij_l23, ij_l24, ij_l31, ij_l32, ij_l36, ij_l47, ij_l48, ij_l56, ij_l92, ij_l93, ij_l98, ij_l108, ij_l114, ij_l116, ij_l127, ij_l128, ij_l149, ij_l250, ij_l384, ij_l768, ij_l1000, ij_l1536, ij_l3000, ij_l1000000, ij_l1000003, ij_l1000000000, ij_neg, ij_add, ij_sub, ij_mul, ij_lt, ij_le, ij_eq, ij_nat, tn_nat, tn_12, tn_24, tn_36, tn_48, ck_in, ob_s, o2_s, vl_s, ox_l, ox_r, ck_tr, if_pos, if_neg, e, w1]
      simp
    · simp (disch := omega) only [ij_l0, ij_l1, ij_l2, ij_l3, ij_l4, ij_l5, ij_l6, ij_l8, ij_l12, ij_l16, ij_l19, ij_l23, ij_l24, ij_l31, ij_l32, ij_l36, ij_l47, ij_l48, ij_l56, ij_l92, ij_l93, ij_l98, ij_l108, ij_l114, ij_l116, ij_l127, ij_l128, ij_l149, ij_l250, ij_l384, ij_l768, ij_l1000, ij_l1536, ij_l3000, ij_l1000000, ij_l1000003, ij_l1000000000, ij_neg, ij_add, ij_sub, ij_mul, ij_lt, ij_le, ij_eq, ij_nat, tn_nat, tn_12, tn_24, tn_36, tn_48, ck_in, ob_s, o2_s, vl_s, ox_l, ox_r, ck_tr, if_pos, if_neg, e, w2]
      simp [vtf]
  · simp only [fX8_votes_L4]
    simp (disch := omega) only [ij_l0, ij_l1, ij_l2, ij_l3, ij_l4, ij_l5, ij_l6, ij_l8, ij_l12, ij_l16, ij_l19, ij_l23, ij_l24, ij_l31, ij_l32, ij_l36, ij_l47, ij_l48, ij_l56, ij_l92, ij_l93, ij_l98, ij_l108, ij_l114, ij_l116, ij_l127, ij_l128, ij_l149, ij_l250, ij_l384, ij_l768, ij_l1000, ij_l1536, ij_l3000, ij_l1000000, ij_l1000003, ij_l1000000000, ij_neg, ij_add, ij_sub, ij_mul, ij_lt, ij_le, ij_eq, ij_nat, tn_nat, tn_12, tn_24, tn_36, tn_48, ck_in, ob_s, o2_s, vl_s, ox_l, ox_r, ck_tr, if_pos, if_neg]
theorem m_shown {β : Nat → Nat} (h : WM A β σ) : gI σ 157 0 92 = ij (β 92) ∧ β 92 ≤ 1 :=
  ⟨by rw [h.2.1 _ (by omega), mvI_n _ (by omega)], (h.2.2.1 92 (by omega)).2.2.2.2.2.2 (by omega)⟩
theorem h123a {H : Hd} (e : H = fun E5 σ3 => (if E5 = "java/lang/IllegalArgumentException" then (some ((1 : Int32), σ3)) else (if E5 = "java/util/NoSuchElementException" then (some ((2 : Int32), σ3)) else (if E5 = "java/lang/UnsupportedOperationException" then (some ((3 : Int32), σ3)) else none)))) : H1 H ∧ H2 H ∧ ∀ σ, H EU σ = some (3, σ) := by
  subst e
  exact ⟨fun σ => by simp [EI], fun σ => by simp [EN], fun σ => by simp [EU]⟩
theorem h123b {H : Hd} (e : H = fun E5 σ3 => (if E5 = "java/lang/IllegalArgumentException" then (some ((1 : Int32), σ3)) else (if E5 = "java/lang/UnsupportedOperationException" then (some ((2 : Int32), σ3)) else (if E5 = "java/util/NoSuchElementException" then (some ((3 : Int32), σ3)) else none)))) : H1 H ∧ (∀ σ, H EU σ = some (2, σ)) ∧ ∀ σ, H EN σ = some (3, σ) := by
  subst e
  exact ⟨fun σ => by simp [EI], fun σ => by simp [EU], fun σ => by simp [EN]⟩
theorem h12x {H : Hd} (e : H = fun E5 σ3 => (if E5 = "java/lang/IllegalArgumentException" then (some ((1 : Int32), σ3)) else (if E5 = "java/lang/IndexOutOfBoundsException" then (some ((2 : Int32), σ3)) else none))) : H1 H ∧ ∀ σ, H "java/lang/IndexOutOfBoundsException" σ = some (2, σ) := by
  subst e
  exact ⟨fun σ => by simp [EI], fun σ => by simp⟩
theorem p_votesFor (h : Inv A σ) (hN : 1000 ≤ N) (x y : Int32) : PairI (fL_votesFor N σ x y) (fun τ => fX8_votesFor N τ x y) := by
  refine q_view2 h hN x y (h123a rfl).1 (h123a rfl).2.1 (fun u1 σ2 => (ox (fX7_needShown N σ2 u1) (fun E τ => some (.inr E, τ)) fun _ σ3 => (ob (fX6_allVotesFor N σ3 u1 y) fun v4 => (some (.inl v4, σ3)))))
    (fun σ1 => (ck (inb (92 : Int32) 93) (if (gI σ1 157 0 (Int32.toNatClampNeg (92 : Int32))) = (1 : Int32) then (ob (fX8_votes N σ1 y) fun v5 => (some (v5, σ1))) else (o2 (fX8_fails N σ1 (3 : Int32)) fun v4 σ3 => (some (v4, σ3)))))) (fun u s hx hy hu hs => ?_)
  subst hy
  have hs2 := sn12 h.1 hs
  have hV := CR_VW h.1 hu h.2.1
  have hn92 : ((92 : Int)).toNat = 92 := rfl
  have sh := f_areVotesShown (N := N) hV
  by_cases e : bv A (kn A u) 92 = 1
  · left
    refine ⟨ij (vtf (bv A (kn A u)) s), ?_, fun τ ht => ?_⟩
    · show ox _ _ _ = _
      unfold fX7_needShown
      rw [sh, ob_s, e]
      show ox (some (.inl (), σ)) _ _ = _
      rw [ox_l, (f_allVotesFor hV (by omega) hs2).1, ob_s]
    · have hW := MB_WM h.1 ht
      have m92 := (m_shown hW).1
      rw [e] at m92
      show ck _ _ = _
      simp (disch := omega) only [ij_l0, ij_l1, ij_l2, ij_l3, ij_l4, ij_l5, ij_l6, ij_l8, ij_l12, ij_l16, ij_l19, ij_l23, ij_l24, ij_l31, ij_l32, ij_l36, ij_l47, ij_l48, ij_l56, ij_l92, ij_l93, ij_l98, ij_l108, ij_l114, ij_l116, ij_l127, ij_l128, ij_l149, ij_l250, ij_l384, ij_l768, ij_l1000, ij_l1536, ij_l3000, ij_l1000000, ij_l1000003, ij_l1000000000, ij_neg, ij_add, ij_sub, ij_mul, ij_lt, ij_le, ij_eq, ij_nat, tn_nat, tn_12, tn_24, tn_36, tn_48, ck_in, ob_s, o2_s, vl_s, ox_l, ox_r, ck_tr, if_pos, if_neg, hn92, m92, (m_votes hW (show 100 ≤ N by omega) hs2).1]
  · right
    have e0 : bv A (kn A u) 92 = 0 := by have := (hV.2.2.1 92 (by omega)).2.2.2.2.2.2 (by omega); omega
    refine ⟨EU, 3, ?_, by omega, by omega, (h123a rfl).2.2, fun τ ht => ⟨0, ?_⟩⟩
    · show ox _ _ _ = _
      unfold fX7_needShown
      rw [sh, ob_s, e0]
      rfl
    · have hW := MB_WM h.1 ht
      have m92 := (m_shown hW).1
      rw [e0] at m92
      show ck _ _ = _
      unfold fX8_fails
      simp (disch := omega) only [ij_l0, ij_l1, ij_l2, ij_l3, ij_l4, ij_l5, ij_l6, ij_l8, ij_l12, ij_l16, ij_l19, ij_l23, ij_l24, ij_l31, ij_l32, ij_l36, ij_l47, ij_l48, ij_l56, ij_l92, ij_l93, ij_l98, ij_l108, ij_l114, ij_l116, ij_l127, ij_l128, ij_l149, ij_l250, ij_l384, ij_l768, ij_l1000, ij_l1536, ij_l3000, ij_l1000000, ij_l1000003, ij_l1000000000, ij_neg, ij_add, ij_sub, ij_mul, ij_lt, ij_le, ij_eq, ij_nat, tn_nat, tn_12, tn_24, tn_36, tn_48, ck_in, ob_s, o2_s, vl_s, ox_l, ox_r, ck_tr, if_pos, if_neg, hn92, m92]
theorem p_winner (h : Inv A σ) (hN : 1000 ≤ N) (x : Int32) : PairI (fL_winner N σ x) (fun τ => fX8_winner N τ x) := by
  refine q_user h hN x (h123b rfl).1 (fun u1 σ2 => (ox (fX7_needShown N σ2 u1) (fun E τ => some (.inr E, τ)) fun _ σ3 => (ob (fX6_mostVoted N σ3 u1) fun v4 => (if v4 = ((-1) : Int32) then (some (.inr "java/util/NoSuchElementException", σ3)) else (some (.inl v4, σ3))))))
    (fun σ1 => (ck (inb (92 : Int32) 93) (if (gI σ1 157 0 (Int32.toNatClampNeg (92 : Int32))) = 0 then (o2 (fX8_fails N σ1 (2 : Int32)) fun v18 σ17 => (some (v18, σ17))) else (vl ((-1) : Int32) fun v3 => (fX8_winner_L30 (fun v14 _ => (if 0 ≤ v14 then (some (v14, σ1)) else (o2 (fX8_fails N σ1 (3 : Int32)) fun v16 σ15 => (some (v16, σ15))))) N σ1 N v3 (0 : Int32)))))) (fun u hx hu => ?_)
  have hV := CR_VW h.1 hu h.2.1
  have hn92 : ((92 : Int)).toNat = 92 := rfl
  have sh := f_areVotesShown (N := N) hV
  have hsh := h.1.2.1.1
  have hr := mv_rg A (bv A (kn A u)) 12
  have hcut := mv_cut (A := A) (β := bv A (kn A u)) h.1.2.1 (n := 12) hsh
  by_cases e : bv A (kn A u) 92 = 1
  · -- the model's loop
    have hmod : ∀ τ, MB A u τ → ∀ (C : Int32 → Int32 → Option (Int32 × St)), fX8_winner_L30 C N τ N (ij (-1)) (ij 0) = C (ij (mv A (bv A (kn A u)) (aSh A))) (ij (aSh A)) := by
      intro τ ht C
      have hW := MB_WM h.1 ht
      refine lp_end (fun n j => fX8_winner_L30 C N τ n (ij (mv A (bv A (kn A u)) j)) (ij j)) (a := 0) (b := aSh A) (Nat.zero_le _) (fun n j _ hj => ?_) (fun n => ?_) N (by omega)
      · have hrj := mv_rg A (bv A (kn A u)) j
        obtain ⟨a1, a2⟩ := m_votes (N := N) hW (by omega) (s := j) (by omega)
        simp only [fX8_winner_L30]
        rw [hW.1.1, m_seen hW (by omega), a1]
        by_cases e1 : sn A (bv A (kn A u)) j = true
        · rcases hrj with q | ⟨q1, q2, q3⟩
          · have hz : vz (bv A (kn A u)) (mv A (bv A (kn A u)) j) = 0 := by rw [q]; rfl
            by_cases e2 : 0 < vtf (bv A (kn A u)) j
            · have hst : mv A (bv A (kn A u)) (j + 1) = j := by simp only [mv]; rw [if_pos ⟨e1, by omega⟩]
              rw [hst, q]
              simp (disch := omega) only [ij_l0, ij_l1, ij_l2, ij_l3, ij_l4, ij_l5, ij_l6, ij_l8, ij_l12, ij_l16, ij_l19, ij_l23, ij_l24, ij_l31, ij_l32, ij_l36, ij_l47, ij_l48, ij_l56, ij_l92, ij_l93, ij_l98, ij_l108, ij_l114, ij_l116, ij_l127, ij_l128, ij_l149, ij_l250, ij_l384, ij_l768, ij_l1000, ij_l1536, ij_l3000, ij_l1000000, ij_l1000003, ij_l1000000000, ij_neg, ij_add, ij_sub, ij_mul, ij_lt, ij_le, ij_eq, ij_nat, tn_nat, tn_12, tn_24, tn_36, tn_48, ck_in, ob_s, o2_s, vl_s, ox_l, ox_r, ck_tr, if_pos, if_neg, bi_z, e1]
              simp
            · have hst : mv A (bv A (kn A u)) (j + 1) = mv A (bv A (kn A u)) j := by simp only [mv]; rw [if_neg (fun z => e2 (by omega))]
              rw [hst, q]
              simp (disch := omega) only [ij_l0, ij_l1, ij_l2, ij_l3, ij_l4, ij_l5, ij_l6, ij_l8, ij_l12, ij_l16, ij_l19, ij_l23, ij_l24, ij_l31, ij_l32, ij_l36, ij_l47, ij_l48, ij_l56, ij_l92, ij_l93, ij_l98, ij_l108, ij_l114, ij_l116, ij_l127, ij_l128, ij_l149, ij_l250, ij_l384, ij_l768, ij_l1000, ij_l1536, ij_l3000, ij_l1000000, ij_l1000003, ij_l1000000000, ij_neg, ij_add, ij_sub, ij_mul, ij_lt, ij_le, ij_eq, ij_nat, tn_nat, tn_12, tn_24, tn_36, tn_48, ck_in, ob_s, o2_s, vl_s, ox_l, ox_r, ck_tr, if_pos, if_neg, bi_z, e1]
              simp
          · obtain ⟨k, hk⟩ : ∃ k : Nat, mv A (bv A (kn A u)) j = k := ⟨(mv A (bv A (kn A u)) j).toNat, by omega⟩
            obtain ⟨b1, b2⟩ := m_votes (N := N) hW (by omega) (s := k) (by omega)
            have hz : vz (bv A (kn A u)) (mv A (bv A (kn A u)) j) = vtf (bv A (kn A u)) k := by rw [hk]; unfold vz; rw [if_neg (by omega), tn_nat]
            by_cases e2 : vtf (bv A (kn A u)) k < vtf (bv A (kn A u)) j
            · have hst : mv A (bv A (kn A u)) (j + 1) = j := by simp only [mv]; rw [if_pos ⟨e1, by omega⟩]
              rw [hst, hk, b1]
              simp (disch := omega) only [ij_l0, ij_l1, ij_l2, ij_l3, ij_l4, ij_l5, ij_l6, ij_l8, ij_l12, ij_l16, ij_l19, ij_l23, ij_l24, ij_l31, ij_l32, ij_l36, ij_l47, ij_l48, ij_l56, ij_l92, ij_l93, ij_l98, ij_l108, ij_l114, ij_l116, ij_l127, ij_l128, ij_l149, ij_l250, ij_l384, ij_l768, ij_l1000, ij_l1536, ij_l3000, ij_l1000000, ij_l1000003, ij_l1000000000, ij_neg, ij_add, ij_sub, ij_mul, ij_lt, ij_le, ij_eq, ij_nat, tn_nat, tn_12, tn_24, tn_36, tn_48, ck_in, ob_s, o2_s, vl_s, ox_l, ox_r, ck_tr, if_pos, if_neg, bi_z, e1]
              simp
            · have hst : mv A (bv A (kn A u)) (j + 1) = mv A (bv A (kn A u)) j := by simp only [mv]; rw [if_neg (fun z => e2 (by omega))]
              rw [hst, hk, b1]
              simp (disch := omega) only [ij_l0, ij_l1, ij_l2, ij_l3, ij_l4, ij_l5, ij_l6, ij_l8, ij_l12, ij_l16, ij_l19, ij_l23, ij_l24, ij_l31, ij_l32, ij_l36, ij_l47, ij_l48, ij_l56, ij_l92, ij_l93, ij_l98, ij_l108, ij_l114, ij_l116, ij_l127, ij_l128, ij_l149, ij_l250, ij_l384, ij_l768, ij_l1000, ij_l1536, ij_l3000, ij_l1000000, ij_l1000003, ij_l1000000000, ij_neg, ij_add, ij_sub, ij_mul, ij_lt, ij_le, ij_eq, ij_nat, tn_nat, tn_12, tn_24, tn_36, tn_48, ck_in, ob_s, o2_s, vl_s, ox_l, ox_r, ck_tr, if_pos, if_neg, bi_z, e1]
              simp
        · have hst : mv A (bv A (kn A u)) (j + 1) = mv A (bv A (kn A u)) j := by simp only [mv]; rw [if_neg (fun z => e1 z.1)]
          rw [hst]
          simp (disch := omega) only [ij_l0, ij_l1, ij_l2, ij_l3, ij_l4, ij_l5, ij_l6, ij_l8, ij_l12, ij_l16, ij_l19, ij_l23, ij_l24, ij_l31, ij_l32, ij_l36, ij_l47, ij_l48, ij_l56, ij_l92, ij_l93, ij_l98, ij_l108, ij_l114, ij_l116, ij_l127, ij_l128, ij_l149, ij_l250, ij_l384, ij_l768, ij_l1000, ij_l1536, ij_l3000, ij_l1000000, ij_l1000003, ij_l1000000000, ij_neg, ij_add, ij_sub, ij_mul, ij_lt, ij_le, ij_eq, ij_nat, tn_nat, tn_12, tn_24, tn_36, tn_48, ck_in, ob_s, o2_s, vl_s, ox_l, ox_r, ck_tr, if_pos, if_neg, bi_z, e1]
          simp
      · simp only [fX8_winner_L30]
        rw [hW.1.1]
        simp (disch := omega) only [ij_l0, ij_l1, ij_l2, ij_l3, ij_l4, ij_l5, ij_l6, ij_l8, ij_l12, ij_l16, ij_l19, ij_l23, ij_l24, ij_l31, ij_l32, ij_l36, ij_l47, ij_l48, ij_l56, ij_l92, ij_l93, ij_l98, ij_l108, ij_l114, ij_l116, ij_l127, ij_l128, ij_l149, ij_l250, ij_l384, ij_l768, ij_l1000, ij_l1536, ij_l3000, ij_l1000000, ij_l1000003, ij_l1000000000, ij_neg, ij_add, ij_sub, ij_mul, ij_lt, ij_le, ij_eq, ij_nat, tn_nat, tn_12, tn_24, tn_36, tn_48, ck_in, ob_s, o2_s, vl_s, ox_l, ox_r, ck_tr, if_pos, if_neg]
    rcases hr with q | ⟨q1, q2, q3⟩
    · right
      refine ⟨EN, 3, ?_, by omega, by omega, (h123b rfl).2.2, fun τ ht => ⟨0, ?_⟩⟩
      · show ox _ _ _ = _
        unfold fX7_needShown
        rw [sh, ob_s, e]
        show ox (some (.inl (), σ)) _ _ = _
        rw [ox_l, f_mostVoted hV (by omega), ob_s, q]
        rfl
      · have hW := MB_WM h.1 ht
        have m92 := (m_shown hW).1
        rw [e] at m92
        show ck _ _ = _
        unfold fX8_fails
        simp only [ij_l0, ij_l1, ij_l2, ij_l3, ij_l4, ij_l5, ij_l6, ij_l8, ij_l12, ij_l16, ij_l19, ij_l23, ij_l24, ij_l31, ij_l32, ij_l36, ij_l47, ij_l48, ij_l56, ij_l92, ij_l93, ij_l98, ij_l108, ij_l114, ij_l116, ij_l127, ij_l128, ij_l149, ij_l250, ij_l384, ij_l768, ij_l1000, ij_l1536, ij_l3000, ij_l1000000, ij_l1000003, ij_l1000000000, ij_neg, ij_add, ij_sub, ij_mul, vl_s]
        rw [hmod τ ht, ← hcut, q]
        simp (disch := omega) only [ij_l0, ij_l1, ij_l2, ij_l3, ij_l4, ij_l5, ij_l6, ij_l8, ij_l12, ij_l16, ij_l19, ij_l23, ij_l24, ij_l31, ij_l32, ij_l36, ij_l47, ij_l48, ij_l56, ij_l92, ij_l93, ij_l98, ij_l108, ij_l114, ij_l116, ij_l127, ij_l128, ij_l149, ij_l250, ij_l384, ij_l768, ij_l1000, ij_l1536, ij_l3000, ij_l1000000, ij_l1000003, ij_l1000000000, ij_neg, ij_add, ij_sub, ij_mul, ij_lt, ij_le, ij_eq, ij_nat, tn_nat, tn_12, tn_24, tn_36, tn_48, ck_in, ob_s, o2_s, vl_s, ox_l, ox_r, ck_tr, if_pos, if_neg, hn92, m92]
    · left
      refine ⟨ij (mv A (bv A (kn A u)) 12), ?_, fun τ ht => ?_⟩
      · show ox _ _ _ = _
        unfold fX7_needShown
        rw [sh, ob_s, e]
        show ox (some (.inl (), σ)) _ _ = _
        rw [ox_l, f_mostVoted hV (by omega), ob_s]
        simp (disch := omega) only [ij_l0, ij_l1, ij_l2, ij_l3, ij_l4, ij_l5, ij_l6, ij_l8, ij_l12, ij_l16, ij_l19, ij_l23, ij_l24, ij_l31, ij_l32, ij_l36, ij_l47, ij_l48, ij_l56, ij_l92, ij_l93, ij_l98, ij_l108, ij_l114, ij_l116, ij_l127, ij_l128, ij_l149, ij_l250, ij_l384, ij_l768, ij_l1000, ij_l1536, ij_l3000, ij_l1000000, ij_l1000003, ij_l1000000000, ij_neg, ij_add, ij_sub, ij_mul, ij_lt, ij_le, ij_eq, ij_nat, tn_nat, tn_12, tn_24, tn_36, tn_48, ck_in, ob_s, o2_s, vl_s, ox_l, ox_r, ck_tr, if_pos, if_neg]
      · have hW := MB_WM h.1 ht
        have m92 := (m_shown hW).1
        rw [e] at m92
        show ck _ _ = _
        simp only [ij_l0, ij_l1, ij_l2, ij_l3, ij_l4, ij_l5, ij_l6, ij_l8, ij_l12, ij_l16, ij_l19, ij_l23, ij_l24, ij_l31, ij_l32, ij_l36, ij_l47, ij_l48, ij_l56, ij_l92, ij_l93, ij_l98, ij_l108, ij_l114, ij_l116, ij_l127, ij_l128, ij_l149, ij_l250, ij_l384, ij_l768, ij_l1000, ij_l1536, ij_l3000, ij_l1000000, ij_l1000003, ij_l1000000000, ij_neg, ij_add, ij_sub, ij_mul, vl_s]
        rw [hmod τ ht, ← hcut]
        simp (disch := omega) only [ij_l0, ij_l1, ij_l2, ij_l3, ij_l4, ij_l5, ij_l6, ij_l8, ij_l12, ij_l16, ij_l19, ij_l23, ij_l24, ij_l31, ij_l32, ij_l36, ij_l47, ij_l48, ij_l56, ij_l92, ij_l93, ij_l98, ij_l108, ij_l114, ij_l116, ij_l127, ij_l128, ij_l149, ij_l250, ij_l384, ij_l768, ij_l1000, ij_l1536, ij_l3000, ij_l1000000, ij_l1000003, ij_l1000000000, ij_neg, ij_add, ij_sub, ij_mul, ij_lt, ij_le, ij_eq, ij_nat, tn_nat, tn_12, tn_24, tn_36, tn_48, ck_in, ob_s, o2_s, vl_s, ox_l, ox_r, ck_tr, if_pos, if_neg, hn92, m92]
  · right
    have e0 : bv A (kn A u) 92 = 0 := by have := (hV.2.2.1 92 (by omega)).2.2.2.2.2.2 (by omega); omega
    refine ⟨EU, 2, ?_, by omega, by omega, (h123b rfl).2.1, fun τ ht => ⟨0, ?_⟩⟩
    · show ox _ _ _ = _
      unfold fX7_needShown
      rw [sh, ob_s, e0]
      rfl
    · have hW := MB_WM h.1 ht
      have m92 := (m_shown hW).1
      rw [e0] at m92
      show ck _ _ = _
      unfold fX8_fails
      simp (disch := omega) only [ij_l0, ij_l1, ij_l2, ij_l3, ij_l4, ij_l5, ij_l6, ij_l8, ij_l12, ij_l16, ij_l19, ij_l23, ij_l24, ij_l31, ij_l32, ij_l36, ij_l47, ij_l48, ij_l56, ij_l92, ij_l93, ij_l98, ij_l108, ij_l114, ij_l116, ij_l127, ij_l128, ij_l149, ij_l250, ij_l384, ij_l768, ij_l1000, ij_l1536, ij_l3000, ij_l1000000, ij_l1000003, ij_l1000000000, ij_neg, ij_add, ij_sub, ij_mul, ij_lt, ij_le, ij_eq, ij_nat, tn_nat, tn_12, tn_24, tn_36, tn_48, ck_in, ob_s, o2_s, vl_s, ox_l, ox_r, ck_tr, if_pos, if_neg, hn92, m92]
theorem joins_jn (x v : Int32) : fX8_joins N σ x v = some (jn x v) := by
  unfold fX8_joins jn
  rw [Int32.mul_comm 31 x]
theorem m_outcomeNow {β : Nat → Nat} (h : WM A β σ) (hN : 100 ≤ N) : fX8_outcomeNow N σ = some (su A β 12) := by
  have hsh := h.2.2.2.1
  rw [su_cut h.2.2.2 hsh]
  unfold fX8_outcomeNow
  refine lp_end (fun n j => fX8_outcomeNow_L4 (fun v13 _ => (some v13)) N σ n (su A β j) (ij j)) (a := 0) (b := aSh A) (by omega) (fun n j _ hj => ?_) (fun n => ?_) N (by omega)
  · have c1 : ij (j : Int) + 1 = ij ((j + 1 : Nat) : Int) := by rw [ij_l1, ij_add]; rfl
    simp only [fX8_outcomeNow_L4]
    rw [h.1.1, if_neg (by simp (disch := omega) only [ij_le]; omega), m_seen h (by omega), m_column h (by omega), m_row h (by omega), m_rank h (by omega) (by omega)]
    simp only [ob_s, vl_s, c1, joins_jn]
    by_cases e : sn A β j = true
    · simp only [e, su, if_true]
      rw [if_neg (by decide)]
    · simp only [e, su, if_false, Bool.false_eq_true]
      rw [if_pos (by decide)]
  · simp only [fX8_outcomeNow_L4]
    rw [h.1.1, if_pos (by simp (disch := omega) only [ij_le]; omega)]
theorem p_outcome (h : Inv A σ) (hN : 1000 ≤ N) (x : Int32) : PairI (fL_outcome N σ x) (fun τ => fX8_outcome N τ x) := by
  refine q_user h hN x (h1_ rfl) (fun u σ2 => (ob (fX6_sumUp N σ2 u) fun v3 => (some (.inl v3, σ2)))) (fun σ1 => (ob (fX8_outcomeNow N σ1) fun v3 => (some (v3, σ1)))) (fun u hx hu => Or.inl ?_)
  refine ⟨su A (bv A (kn A u)) 12, ?_, fun τ ht => ?_⟩
  · show ob _ _ = _
    rw [f_sumUp (CR_VW h.1 hu h.2.1) (by omega), ob_s]
  · show ob _ _ = _
    rw [m_outcomeNow (MB_WM h.1 ht) (by omega), ob_s]
theorem p_shapeAt (h : Inv A σ) (hN : 1000 ≤ N) (x y : Int32) : PairI (fL_shapeAt N σ x y) (fun τ => fX8_shapeAt N τ x y) := by
  refine q_user h hN x (h12x rfl).1 (fun u1 σ2 => (ob (fX6_shapeWithRank N σ2 u1 y) fun v3 => (if v3 = ((-1) : Int32) then (some (.inr "java/lang/IndexOutOfBoundsException", σ2)) else (some (.inl v3, σ2)))))
    (fun σ1 => (fX8_shapeAt_L12 (fun _ => (o2 (fX8_fails N σ1 (2 : Int32)) fun v9 σ8 => (some (v9, σ8)))) N y σ1 N (0 : Int32))) (fun u hx hu => ?_)
  obtain ⟨r, rfl, hr⟩ := rg_ex y
  have hr1 := hr.1
  have hr2 := hr.2
  have hsh := h.1.2.1.1
  have hV := CR_VW h.1 hu h.2.1
  have hcut : ff (fun s => sn A (bv A (kn A u)) s && decide ((rk A (bv A (kn A u)) s : Int) = r)) 12 0 = ff (fun s => sn A (bv A (kn A u)) s && decide ((rk A (bv A (kn A u)) s : Int) = r)) (aSh A) 0 := by
    have := ff_cut (p := fun s => sn A (bv A (kn A u)) s && decide ((rk A (bv A (kn A u)) s : Int) = r)) (aSh A) (12 - aSh A) 0 (fun i h1 h2 => by
      have hf : sn A (bv A (kn A u)) i = false := by rw [← Bool.not_eq_true]; intro z; have := sn_lt z; omega
      simp [hf])
    rwa [show aSh A + (12 - aSh A) = 12 by omega] at this
  have hmod : ∀ τ, MB A u τ → fX8_shapeAt_L12 (fun _ => (o2 (fX8_fails N τ (2 : Int32)) fun v9 σ8 => (some (v9, σ8)))) N (ij r) τ N (0 : Int32) = (fun z : Int => if z = -1 then some ((0 : Int32), sI τ 8 0 0 (ij 2)) else some (ij z, τ)) (ff (fun s => sn A (bv A (kn A u)) s && decide ((rk A (bv A (kn A u)) s : Int) = r)) (aSh A) 0) := by
    intro τ ht
    have hW := MB_WM h.1 ht
    refine lp_ff (fun n j => fX8_shapeAt_L12 (fun _ => (o2 (fX8_fails N τ (2 : Int32)) fun v9 σ8 => (some (v9, σ8)))) N (ij r) τ n (ij j)) (fun s => sn A (bv A (kn A u)) s && decide ((rk A (bv A (kn A u)) s : Int) = r)) (fun z : Int => if z = -1 then some ((0 : Int32), sI τ 8 0 0 (ij 2)) else some (ij z, τ)) (b := aSh A) (fun n j hj => ?_) (fun n => ?_) N (by omega)
    · have hrk : rk A (bv A (kn A u)) j ≤ 12 := ct_le _ _
      simp only [fX8_shapeAt_L12]
      rw [hW.1.1, m_seen hW (by omega), m_rank hW (by omega) (by omega)]
      simp (disch := omega) only [ij_l0, ij_l1, ij_l2, ij_l3, ij_l4, ij_l5, ij_l6, ij_l8, ij_l12, ij_l16, ij_l19, ij_l23, ij_l24, ij_l31, ij_l32, ij_l36, ij_l47, ij_l48, ij_l56, ij_l92, ij_l93, ij_l98, ij_l108, ij_l114, ij_l116, ij_l127, ij_l128, ij_l149, ij_l250, ij_l384, ij_l768, ij_l1000, ij_l1536, ij_l3000, ij_l1000000, ij_l1000003, ij_l1000000000, ij_neg, ij_add, ij_sub, ij_mul, ij_lt, ij_le, ij_eq, ij_nat, tn_nat, tn_12, tn_24, tn_36, tn_48, ck_in, ob_s, o2_s, vl_s, ox_l, ox_r, ck_tr, if_pos, if_neg, bi_z]
      by_cases e : sn A (bv A (kn A u)) j = true
      · by_cases e2 : (rk A (bv A (kn A u)) j : Int) = r
        · have e3 : ¬ ((j : Int) = -1) := by omega
          simp [e, e2, e3]
        · simp [e, e2]
      · simp [e]
    · simp only [fX8_shapeAt_L12]
      unfold fX8_fails
      rw [hW.1.1]
      simp (disch := omega) only [ij_l0, ij_l1, ij_l2, ij_l3, ij_l4, ij_l5, ij_l6, ij_l8, ij_l12, ij_l16, ij_l19, ij_l23, ij_l24, ij_l31, ij_l32, ij_l36, ij_l47, ij_l48, ij_l56, ij_l92, ij_l93, ij_l98, ij_l108, ij_l114, ij_l116, ij_l127, ij_l128, ij_l149, ij_l250, ij_l384, ij_l768, ij_l1000, ij_l1536, ij_l3000, ij_l1000000, ij_l1000003, ij_l1000000000, ij_neg, ij_add, ij_sub, ij_mul, ij_lt, ij_le, ij_eq, ij_nat, tn_nat, tn_12, tn_24, tn_36, tn_48, ck_in, ob_s, o2_s, vl_s, ox_l, ox_r, ck_tr, if_pos, if_neg]
      simp
  rcases ff_spec (fun s => sn A (bv A (kn A u)) s && decide ((rk A (bv A (kn A u)) s : Int) = r)) (aSh A) 0 with ⟨e, _⟩ | ⟨k, e, _, hk, _, _⟩
  · right
    refine ⟨"java/lang/IndexOutOfBoundsException", 2, ?_, by omega, by omega, (h12x rfl).2, fun τ ht => ⟨0, ?_⟩⟩
    · show ob _ _ = _
      rw [f_shapeWithRank hV (by omega) hr1 hr2, ob_s, hcut, e]
      rfl
    · show fX8_shapeAt_L12 _ _ _ _ _ _ = _
      rw [hmod τ ht, e]
      rfl
  · left
    refine ⟨ij k, ?_, fun τ ht => ?_⟩
    · show ob _ _ = _
      rw [f_shapeWithRank hV (by omega) hr1 hr2, ob_s, hcut, e]
      simp (disch := omega) only [ij_l0, ij_l1, ij_l2, ij_l3, ij_l4, ij_l5, ij_l6, ij_l8, ij_l12, ij_l16, ij_l19, ij_l23, ij_l24, ij_l31, ij_l32, ij_l36, ij_l47, ij_l48, ij_l56, ij_l92, ij_l93, ij_l98, ij_l108, ij_l114, ij_l116, ij_l127, ij_l128, ij_l149, ij_l250, ij_l384, ij_l768, ij_l1000, ij_l1536, ij_l3000, ij_l1000000, ij_l1000003, ij_l1000000000, ij_neg, ij_add, ij_sub, ij_mul, ij_lt, ij_le, ij_eq, ij_nat, tn_nat, tn_12, tn_24, tn_36, tn_48, ck_in, ob_s, o2_s, vl_s, ox_l, ox_r, ck_tr, if_pos, if_neg]
    · show fX8_shapeAt_L12 _ _ _ _ _ _ = _
      rw [hmod τ ht, e]
      show (if (k : Int) = -1 then _ else _) = _
      rw [if_neg (by omega)]
end Q2
