/-! The least cost of a walk; the map of the model. -/
theorem walk_lex {E : Nat → Nat → Nat → Prop} {a b T C : Nat} (hE : ∀ x d y, E x d y → d < 4 ∧ E y (opp d) x) (hF : ∀ x d y y', E x d y → E x d y' → y = y') (hT : ∃ ax, Rc E a C T b ax) (hm : ∀ c t ax, Rc E a c t b ax → T < t ∨ (t = T ∧ C ≤ c)) (hC : C ≤ 1000) : (∃ d n, Rm E a n (1000 * T + C) b d) ∧ ∀ d n w, Rm E a n w b d → 1000 * T + C ≤ w := by
  have ge : ∀ d n w, Rm E a n w b d → 1000 * T + C ≤ w := by
    intro d n w h
    obtain ⟨t, c, h1, h2⟩ := Rm_Rc n w b d h
    have := hm c t _ h1
    omega
  refine ⟨?_, ge⟩
  obtain ⟨ax, h⟩ := hT
  obtain ⟨d, n, w, h1, h2⟩ := Rc_Rm hE hF _ _ _ _ h
  have g := ge d n w h1
  have e : w = 1000 * T + C := by
    split at h2 <;> omega
  rw [e] at h1
  exact ⟨d, n, h1⟩
/-- a seen shape that is no frame lies over the cell -/
def cov (A : Ab) (β : Nat → Nat) (c : Nat) : Nat → Bool
  | 0 => false
  | j + 1 => cov A β c j || (sn A β j && decide (aFr A j = 0) && ovr A β j (c % 24 : Nat) (c / 24 : Nat))
def T171 : Nat → Nat → Bool := fun c q => c == 171 && q == 0
section R2
variable {A : Ab} {N : Nat} {σ : St} {β : Nat → Nat}
theorem WM_171 {τ : St} (h : WM A β σ) (hU : Un T171 σ τ) : WM A β τ := by
  have h8 : gI τ 8 0 = gI σ 8 0 := hU.I 8 0 rfl
  have h157 : gI τ 157 0 = gI σ 157 0 := hU.I 157 0 rfl
  exact ⟨PtM_cg h.1 (by rw [h8]) (by rw [h8]) (fun c h1 h2 => hU.I c 0 (by unfold T171; simp; omega)), fun f hf => by rw [h157]; exact h.2.1 f hf, h.2.2⟩
theorem bi_or (a b : Bool) : vp_nar .boolean (bi a ||| bi b) = bi (a || b) := by cases a <;> cases b <;> rfl
theorem m_shutsRow (h : WM A β σ) (hN : 1000 ≤ N) {c : Nat} (hc : c < 384) (h0 : gI σ 171 0 c = bi false) (K : St → Option St) : ∃ τ, fX8_shuts_L18 (fun _ s => K s) N (ij c) N (ij 0) σ = K τ ∧ Un T171 σ τ ∧ gI τ 171 0 c = bi (cov A β c (aSh A)) ∧ ∀ x, x ≠ c → gI τ 171 0 x = gI σ 171 0 x := by
  have hS := h.2.2.2
  have hsh := hS.1
  obtain ⟨τ, e, hU, hv, ho⟩ := lp_st (fun n j τ => fX8_shuts_L18 (fun _ s => K s) N (ij c) n (ij j) τ) (fun j τ => Un T171 σ τ ∧ gI τ 171 0 c = bi (cov A β c j) ∧ ∀ x, x ≠ c → gI τ 171 0 x = gI σ 171 0 x) (Nat.zero_le (aSh A)) (fun n j τ _ hj hP => by
      obtain ⟨hU, hv, ho⟩ := hP
      have hW := WM_171 h hU
      have hf1 := (hS.2.2.1 j).2.2.2
      have w3 := (m_width hW hj).2.2
      have hs := m_seen (N := N) hW (s := j) (by omega)
      have hcv := m_isCovering (N := N) hW hj (c := (c % 24 : Nat)) (r := (c / 24 : Nat)) (by constructor <;> omega) (by constructor <;> omega)
      have hstep : ∀ b : Bool, (sn A β j && decide (aFr A j = 0) && ovr A β j (c % 24 : Nat) (c / 24 : Nat)) = b → fX8_shuts_L18 (fun _ s => K s) N (ij c) (n + 1) (ij j) τ = fX8_shuts_L18 (fun _ s => K s) N (ij c) n (ij ((j + 1 : Nat) : Int)) (sI τ 171 0 c (bi (cov A β c j || b))) := by
        intro b hb
        have hm1 : (ij (c : Int) - ij (c : Int) / ij 24 * ij 24) = ij ((c % 24 : Nat) : Int) := by
          rw [ij_div (by omega) (by omega) (by omega) (by omega), ij_mul, ij_sub]
          congr 1
          omega
        have hm2 : ij (c : Int) / ij 24 = ij ((c / 24 : Nat) : Int) := by
          rw [ij_div (by omega) (by omega) (by omega) (by omega)]
          congr 1
        have b0 : vp_nar .boolean (bi (cov A β c j) ||| ij 0) = bi (cov A β c j || false) := bi_or _ false
        have b1 : vp_nar .boolean (bi (cov A β c j) ||| ij 1) = bi (cov A β c j || true) := bi_or _ true
        simp only [fX8_shuts_L18]
        rw [hW.1.1, hs]
        cases s1 : sn A β j with
        | false =>
          rw [s1] at hb
          have : b = false := by rw [← hb]; rfl
          subst this
          simp (disch := omega) only [ij_l0, ij_l1, ij_l2, ij_l3, ij_l4, ij_l5, ij_l6, ij_l8, ij_l12, ij_l16, ij_l19, ij_l23, ij_l24, ij_l31, ij_l32, ij_l36, ij_l47, ij_l48, ij_l56, ij_l92, ij_l93, ij_l98, ij_l108, ij_l114, ij_l116, ij_l127, ij_l128, ij_l149, ij_l250, ij_l384, ij_l768, ij_l1000, ij_l1536, ij_l3000, ij_l1000000, ij_l1000003, ij_l1000000000, ij_neg, ij_add, ij_sub, ij_mul, ij_lt, ij_le, ij_eq, ij_nat, tn_nat, tn_12, tn_24, tn_36, tn_48, ck_in, ob_s, o2_s, vl_s, ox_l, ox_r, ck_tr, if_pos, if_neg, hv, b0, bi_z, if_true]
          rfl
        | true =>
          rw [s1] at hb
          by_cases s2 : aFr A j = 0
          · have i1 : (ij ((aFr A j : Nat) : Int) = ij 0) = True := by rw [s2]; exact eq_true rfl
            rw [decide_eq_true s2] at hb
            cases s3 : ovr A β j (c % 24 : Nat) (c / 24 : Nat) with
            | false =>
              rw [s3] at hb hcv
              have : b = false := by rw [← hb]; rfl
              subst this
              simp (disch := omega) only [ij_l0, ij_l1, ij_l2, ij_l3, ij_l4, ij_l5, ij_l6, ij_l8, ij_l12, ij_l16, ij_l19, ij_l23, ij_l24, ij_l31, ij_l32, ij_l36, ij_l47, ij_l48, ij_l56, ij_l92, ij_l93, ij_l98, ij_l108, ij_l114, ij_l116, ij_l127, ij_l128, ij_l149, ij_l250, ij_l384, ij_l768, ij_l1000, ij_l1536, ij_l3000, ij_l1000000, ij_l1000003, ij_l1000000000, ij_neg, ij_add, ij_sub, ij_mul, ij_lt, ij_le, ij_eq, ij_nat, tn_nat, tn_12, tn_24, tn_36, tn_48, ck_in, ob_s, o2_s, vl_s, ox_l, ox_r, ck_tr, if_pos, if_neg, hv, b0, bi_z, Bool.true_eq_false, if_true, if_false, w3, i1]
              rw [hm1, hm2, hcv]
              simp (disch := omega) only [ij_l0, ij_l1, ij_l2, ij_l3, ij_l4, ij_l5, ij_l6, ij_l8, ij_l12, ij_l16, ij_l19, ij_l23, ij_l24, ij_l31, ij_l32, ij_l36, ij_l47, ij_l48, ij_l56, ij_l92, ij_l93, ij_l98, ij_l108, ij_l114, ij_l116, ij_l127, ij_l128, ij_l149, ij_l250, ij_l384, ij_l768, ij_l1000, ij_l1536, ij_l3000, ij_l1000000, ij_l1000003, ij_l1000000000, ij_neg, ij_add, ij_sub, ij_mul, ij_lt, ij_le, ij_eq, ij_nat, tn_nat, tn_12, tn_24, tn_36, tn_48, ck_in, ob_s, o2_s, vl_s, ox_l, ox_r, ck_tr, if_pos, if_neg, hv, b0, bi_z, if_true]
              rfl
            | true =>
              rw [s3] at hb hcv
              have : b = true := by rw [← hb]; rfl
              subst this
              simp (disch := omega) only [ij_l0, ij_l1, ij_l2, ij_l3, ij_l4, ij_l5, ij_l6, ij_l8, ij_l12, ij_l16, ij_l19, ij_l23, ij_l24, ij_l31, ij_l32, ij_l36, ij_l47, ij_l48, ij_l56, ij_l92, ij_l93, ij_l98, ij_l108, ij_l114, ij_l116, ij_l127, ij_l128, ij_l149, ij_l250, ij_l384, ij_l768, ij_l1000, ij_l1536, ij_l3000, ij_l1000000, ij_l1000003, ij_l1000000000, ij_neg, ij_add, ij_sub, ij_mul, ij_lt, ij_le, ij_eq, ij_nat, tn_nat, tn_12, tn_24, tn_36, tn_48, ck_in, ob_s, o2_s, vl_s, ox_l, ox_r, ck_tr, if_pos, if_neg, hv, b1, bi_z, Bool.true_eq_false, if_true, if_false, w3, i1]
              rw [hm1, hm2, hcv]
              simp (disch := omega) only [ij_l0, ij_l1, ij_l2, ij_l3, ij_l4, ij_l5, ij_l6, ij_l8, ij_l12, ij_l16, ij_l19, ij_l23, ij_l24, ij_l31, ij_l32, ij_l36, ij_l47, ij_l48, ij_l56, ij_l92, ij_l93, ij_l98, ij_l108, ij_l114, ij_l116, ij_l127, ij_l128, ij_l149, ij_l250, ij_l384, ij_l768, ij_l1000, ij_l1536, ij_l3000, ij_l1000000, ij_l1000003, ij_l1000000000, ij_neg, ij_add, ij_sub, ij_mul, ij_lt, ij_le, ij_eq, ij_nat, tn_nat, tn_12, tn_24, tn_36, tn_48, ck_in, ob_s, o2_s, vl_s, ox_l, ox_r, ck_tr, if_pos, if_neg, hv, b1, bi_z, Bool.true_eq_false, if_false]
              rfl
          · have e1' : aFr A j = 1 := by omega
            have i1 : (ij ((aFr A j : Nat) : Int) = ij 0) = False := by rw [e1']; exact eq_false (by decide)
            rw [decide_eq_false s2] at hb
            have : b = false := by rw [← hb]; rfl
            subst this
            simp (disch := omega) only [ij_l0, ij_l1, ij_l2, ij_l3, ij_l4, ij_l5, ij_l6, ij_l8, ij_l12, ij_l16, ij_l19, ij_l23, ij_l24, ij_l31, ij_l32, ij_l36, ij_l47, ij_l48, ij_l56, ij_l92, ij_l93, ij_l98, ij_l108, ij_l114, ij_l116, ij_l127, ij_l128, ij_l149, ij_l250, ij_l384, ij_l768, ij_l1000, ij_l1536, ij_l3000, ij_l1000000, ij_l1000003, ij_l1000000000, ij_neg, ij_add, ij_sub, ij_mul, ij_lt, ij_le, ij_eq, ij_nat, tn_nat, tn_12, tn_24, tn_36, tn_48, ck_in, ob_s, o2_s, vl_s, ox_l, ox_r, ck_tr, if_pos, if_neg, hv, b0, bi_z, Bool.true_eq_false, if_false, w3, i1]
            rfl
      refine ⟨sI τ 171 0 c (bi (cov A β c j || (sn A β j && decide (aFr A j = 0) && ovr A β j (c % 24 : Nat) (c / 24 : Nat)))), hstep _ rfl, hU.tr (Un.sI _ _ _ rfl), ?_, fun x hx => ?_⟩
      · rw [gI_sI_eq, if_pos rfl]
        rfl
      · rw [gI_sI_eq, if_neg hx]
        exact ho x hx) N σ (by omega) ⟨Un.rfl, h0, fun x _ => rfl⟩
  refine ⟨τ, ?_, hU, hv, ho⟩
  refine Eq.trans e ?_
  have e2 : N - (aSh A - 0) = (N - aSh A - 1) + 1 := by omega
  show fX8_shuts_L18 _ N _ (N - (aSh A - 0)) _ τ = _
  rw [e2]
  simp only [fX8_shuts_L18]
  rw [(WM_171 h hU).1.1, if_pos (by simp (disch := omega) only [ij_le]; omega)]
end R2
