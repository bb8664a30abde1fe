/-! The class's rows, and how a board takes an operation. -/
theorem PtC_cg {A : Ab} {σ τ : St} (h : PtC A σ) (e : ∀ c, c = 2 ∨ (111 ≤ c ∧ c ≤ 117) → gI τ c 0 = gI σ c 0) : PtC A τ := by
  have e2 := e 2 (by omega)
  have a1 := e 111 (by omega)
  have a2 := e 112 (by omega)
  have a3 := e 113 (by omega)
  have a4 := e 114 (by omega)
  have a5 := e 115 (by omega)
  have a6 := e 116 (by omega)
  have a7 := e 117 (by omega)
  unfold PtC at h ⊢
  rw [e2, a1, a2, a3, a4, a5, a6, a7]
  exact h
theorem LgC_cg {A : Ab} {σ τ : St} (h : LgC A σ) (e : ∀ c, c = 1 ∨ (100 ≤ c ∧ c ≤ 110) → gI τ c 0 = gI σ c 0 ∧ gF τ c 0 = gF σ c 0) : LgC A τ := by
  have e1 := (e 1 (by omega)).1
  have a0 := (e 100 (by omega)).1
  have a1 := (e 101 (by omega)).1
  have a2 := (e 102 (by omega)).1
  have a3 := (e 103 (by omega)).1
  have a4 := (e 104 (by omega)).1
  have a6 := (e 106 (by omega)).1
  have a7 := (e 107 (by omega)).2
  have a8 := (e 108 (by omega)).1
  have a9 := (e 109 (by omega)).2
  have b0 := (e 110 (by omega)).1
  unfold LgC at h ⊢
  rw [e1, a0, a1, a2, a3, a4, a6, a7, a8, a9, b0]
  exact h
theorem TmC_cg {A : Ab} {σ τ : St} (h : TmC A σ) (e : gI τ 105 0 = gI σ 105 0) : TmC A τ := by
  unfold TmC at h ⊢
  rw [e]
  exact h
theorem UsC_cg {A : Ab} {u : Nat} {σ τ : St} (h : UsC A u σ) (e1 : gI τ 4 u = gI σ 4 u) (e2 : gI τ 123 u = gI σ 123 u) : UsC A u τ := by
  unfold UsC at h ⊢
  rw [e1, e2]
  exact h
theorem BdC_cg {A : Ab} {K : Nat → Bool} {b : Nat} {σ τ : St} (h : BdC A K b σ) (e0 : gF τ 120 b = gF σ 120 b) (e1 : gI τ 121 b = gI σ 121 b) (e2 : gI τ 122 b = gI σ 122 b) : BdC A K b τ := by
  unfold BdC at h ⊢
  rw [e0, e1, e2]
  exact h
theorem RfC_cg {σ τ : St} (h : RfC σ) (e : τ.2.2.1 = σ.2.2.1) : RfC τ := by
  unfold RfC gR at h ⊢
  rw [e]
  exact h
theorem off_le {A : Ab} (hO : OpsOK A) : ∀ m, m ≤ aN A → off A m ≤ 12 * m := by
  intro m
  induction m with
  | zero => intro _; exact Nat.le_refl _
  | succ m ih =>
    intro h
    have h1 := (hO.2.1 m (by omega)).2.2.2.1
    have h2 := ih (by omega)
    simp only [off]
    omega
section TK
variable {A : Ab} {N : Nat} {σ : St}
theorem f_intAt {k o n : Nat} {z : Int} {d : Int32} (h0 : 0 ≤ z) (h1 : z < n) (h2 : n < 2147483648) : fX7_intAt N σ k o n (ij z) d = some (gI σ k o z.toNat) := by
  unfold fX7_intAt
  simp (disch := omega) only [ij_l0, ij_l1, ij_l2, ij_l3, ij_l4, ij_l5, ij_l6, ij_l8, ij_l12, ij_l16, ij_l19, ij_l23, ij_l24, ij_l31, ij_l32, ij_l36, ij_l47, ij_l48, ij_l56, ij_l92, ij_l93, ij_l98, ij_l108, ij_l114, ij_l116, ij_l127, ij_l128, ij_l149, ij_l250, ij_l384, ij_l768, ij_l1000, ij_l1536, ij_l3000, ij_l1000000, ij_l1000003, ij_l1000000000, ij_neg, ij_add, ij_sub, ij_mul, ij_lt, ij_le, ij_eq, ij_nat, tn_nat, tn_12, tn_24, tn_36, tn_48, ck_in, ob_s, o2_s, vl_s, ox_l, ox_r, ck_tr, if_pos, if_neg, ij_ofn]
theorem f_intAtN {k o n : Nat} {z : Int} {d : Int32} (hr : -2147483648 ≤ z ∧ z < 2147483648) (h : z < 0 ∨ n ≤ z) (h2 : n < 2147483648) : fX7_intAt N σ k o n (ij z) d = some d := by
  unfold fX7_intAt
  by_cases g : z < 0
  · simp (disch := omega) only [ij_l0, ij_l1, ij_l2, ij_l3, ij_l4, ij_l5, ij_l6, ij_l8, ij_l12, ij_l16, ij_l19, ij_l23, ij_l24, ij_l31, ij_l32, ij_l36, ij_l47, ij_l48, ij_l56, ij_l92, ij_l93, ij_l98, ij_l108, ij_l114, ij_l116, ij_l127, ij_l128, ij_l149, ij_l250, ij_l384, ij_l768, ij_l1000, ij_l1536, ij_l3000, ij_l1000000, ij_l1000003, ij_l1000000000, ij_neg, ij_add, ij_sub, ij_mul, ij_lt, ij_le, ij_eq, ij_nat, tn_nat, tn_12, tn_24, tn_36, tn_48, ck_in, ob_s, o2_s, vl_s, ox_l, ox_r, ck_tr, if_pos, if_neg, ij_ofn]
  · simp (disch := omega) only [ij_l0, ij_l1, ij_l2, ij_l3, ij_l4, ij_l5, ij_l6, ij_l8, ij_l12, ij_l16, ij_l19, ij_l23, ij_l24, ij_l31, ij_l32, ij_l36, ij_l47, ij_l48, ij_l56, ij_l92, ij_l93, ij_l98, ij_l108, ij_l114, ij_l116, ij_l127, ij_l128, ij_l149, ij_l250, ij_l384, ij_l768, ij_l1000, ij_l1536, ij_l3000, ij_l1000000, ij_l1000003, ij_l1000000000, ij_neg, ij_add, ij_sub, ij_mul, ij_lt, ij_le, ij_eq, ij_nat, tn_nat, tn_12, tn_24, tn_36, tn_48, ck_in, ob_s, o2_s, vl_s, ox_l, ox_r, ck_tr, if_pos, if_neg, ij_ofn]
theorem f_floatAt {k o n : Nat} {z : Int} (h0 : 0 ≤ z) (h1 : z < n) (h2 : n < 2147483648) : fX7_floatAt N σ k o n (ij z) = some (gF σ k o z.toNat) := by
  unfold fX7_floatAt
  simp (disch := omega) only [ij_l0, ij_l1, ij_l2, ij_l3, ij_l4, ij_l5, ij_l6, ij_l8, ij_l12, ij_l16, ij_l19, ij_l23, ij_l24, ij_l31, ij_l32, ij_l36, ij_l47, ij_l48, ij_l56, ij_l92, ij_l93, ij_l98, ij_l108, ij_l114, ij_l116, ij_l127, ij_l128, ij_l149, ij_l250, ij_l384, ij_l768, ij_l1000, ij_l1536, ij_l3000, ij_l1000000, ij_l1000003, ij_l1000000000, ij_neg, ij_add, ij_sub, ij_mul, ij_lt, ij_le, ij_eq, ij_nat, tn_nat, tn_12, tn_24, tn_36, tn_48, ck_in, ob_s, o2_s, vl_s, ox_l, ox_r, ck_tr, if_pos, if_neg, ij_ofn]
theorem f_isAt {k o n : Nat} {z : Int} {b : Bool} (h0 : 0 ≤ z) (h1 : z < n) (h2 : n < 2147483648) (hb : gI σ k o z.toNat = bi b) : fX7_isAt N σ k o n (ij z) = some (bi b) := by
  unfold fX7_isAt
  simp (disch := omega) only [ij_l0, ij_l1, ij_l2, ij_l3, ij_l4, ij_l5, ij_l6, ij_l8, ij_l12, ij_l16, ij_l19, ij_l23, ij_l24, ij_l31, ij_l32, ij_l36, ij_l47, ij_l48, ij_l56, ij_l92, ij_l93, ij_l98, ij_l108, ij_l114, ij_l116, ij_l127, ij_l128, ij_l149, ij_l250, ij_l384, ij_l768, ij_l1000, ij_l1536, ij_l3000, ij_l1000000, ij_l1000003, ij_l1000000000, ij_neg, ij_add, ij_sub, ij_mul, ij_lt, ij_le, ij_eq, ij_nat, tn_nat, tn_12, tn_24, tn_36, tn_48, ck_in, ob_s, o2_s, vl_s, ox_l, ox_r, ck_tr, if_pos, if_neg, ij_ofn, hb, bi_z]
  cases b <;> simp [bi_t, bi_f]
theorem f_isLater (hL : LgC A σ) (hO : OpsOK A) {o w : Nat} (ho : o < aN A) (hw : w ≤ aN A) : fX1_isLater N σ (ij o) (ij ((w : Int) - 1)) = some (bi (decide (w = 0) || lat A o (w - 1))) := by
  have hn := hO.1
  have a := hL.2.2 o ho
  have ao := hO.2.1 o ho
  unfold fX1_isLater
  by_cases e : w = 0
  · subst e
    simp (disch := omega) only [ij_l0, ij_l1, ij_l2, ij_l3, ij_l4, ij_l5, ij_l6, ij_l8, ij_l12, ij_l16, ij_l19, ij_l23, ij_l24, ij_l31, ij_l32, ij_l36, ij_l47, ij_l48, ij_l56, ij_l92, ij_l93, ij_l98, ij_l108, ij_l114, ij_l116, ij_l127, ij_l128, ij_l149, ij_l250, ij_l384, ij_l768, ij_l1000, ij_l1536, ij_l3000, ij_l1000000, ij_l1000003, ij_l1000000000, ij_neg, ij_add, ij_sub, ij_mul, ij_lt, ij_le, ij_eq, ij_nat, tn_nat, tn_12, tn_24, tn_36, tn_48, ck_in, ob_s, o2_s, vl_s, ox_l, ox_r, ck_tr, if_pos, if_neg]
    simp [bi_t]
  · obtain ⟨p, rfl⟩ : ∃ p, w = p + 1 := ⟨w - 1, by omega⟩
    have b := hL.2.2 p (by omega)
    have bo := hO.2.1 p (by omega)
    have ep : ((p + 1 : Nat) : Int) - 1 = p := by omega
    rw [ep]
    simp (disch := omega) only [ij_l0, ij_l1, ij_l2, ij_l3, ij_l4, ij_l5, ij_l6, ij_l8, ij_l12, ij_l16, ij_l19, ij_l23, ij_l24, ij_l31, ij_l32, ij_l36, ij_l47, ij_l48, ij_l56, ij_l92, ij_l93, ij_l98, ij_l108, ij_l114, ij_l116, ij_l127, ij_l128, ij_l149, ij_l250, ij_l384, ij_l768, ij_l1000, ij_l1536, ij_l3000, ij_l1000000, ij_l1000003, ij_l1000000000, ij_neg, ij_add, ij_sub, ij_mul, ij_lt, ij_le, ij_eq, ij_nat, tn_nat, tn_12, tn_24, tn_36, tn_48, ck_in, ob_s, o2_s, vl_s, ox_l, ox_r, ck_tr, if_pos, if_neg, a.1, a.2.1, b.1, b.2.1]
    have hd : decide (p + 1 = 0) = false := by simp
    rw [hd, Bool.false_or, show p + 1 - 1 = p from rfl]
    cases g : lat A o p with
    | true =>
      rw [lat_iff] at g
      by_cases g1 : aCk A p < aCk A o
      · rw [if_pos (by omega)]; rfl
      · rw [if_neg (by omega), if_pos (by omega), if_neg (by omega)]; rfl
    | false =>
      rw [← Bool.not_eq_true, lat_iff] at g
      rw [if_neg (by omega)]
      by_cases g1 : (aCk A o : Int) - aCk A p = 0
      · rw [if_pos g1, if_pos (by omega)]; rfl
      · rw [if_neg g1]; rfl
def Tb (b : Nat) : Nat → Nat → Bool := fun c q => (c == 120 || c == 121 || c == 122) && q == b
theorem f_take (hL : LgC A σ) (hO : OpsOK A) (hN : 1000000 ≤ N) {K : Nat → Bool} {b o : Nat} (hB : BdC A K b σ) (ho : o < aN A) : ∃ τ, fX0_take N σ b (ij o) = some τ ∧ BdC A (KU K o) b τ ∧ Un (Tb b) σ τ := by
  have hn := hO.1
  have ao := hO.2.1 o ho
  have a := hL.2.2 o ho
  have hoff := off_le hO o (by omega)
  unfold fX0_take fX1_endRowOf fX1_firstRowOf
  simp (disch := omega) only [ij_l0, ij_l1, ij_l2, ij_l3, ij_l4, ij_l5, ij_l6, ij_l8, ij_l12, ij_l16, ij_l19, ij_l23, ij_l24, ij_l31, ij_l32, ij_l36, ij_l47, ij_l48, ij_l56, ij_l92, ij_l93, ij_l98, ij_l108, ij_l114, ij_l116, ij_l127, ij_l128, ij_l149, ij_l250, ij_l384, ij_l768, ij_l1000, ij_l1536, ij_l3000, ij_l1000000, ij_l1000003, ij_l1000000000, ij_neg, ij_add, ij_sub, ij_mul, ij_lt, ij_le, ij_eq, ij_nat, tn_nat, tn_12, tn_24, tn_36, tn_48, ck_in, ob_s, o2_s, vl_s, ox_l, ox_r, ck_tr, if_pos, if_neg, a.2.2.2.1, a.2.2.2.2.1]
  obtain ⟨τ, e, hU, hP⟩ := lp_st (fun n j τ => fX0_take_L18 (fun _ σ16 => (some σ16)) N b (ij o) (ij (off A o + aLen A o : Nat)) n (ij (off A o + j : Nat)) τ)
    (fun j τ => Un (Tb b) σ τ ∧ ∀ f, f < 93 → gI τ 122 b f = ij ((nwj A o (bw A K f) f j : Int) - 1) ∧ gF τ 120 b f = cvF f (tvl A (nwj A o (bw A K f) f j) f) ∧ gI τ 121 b f = ij ((tsm A (nwj A o (bw A K f) f j) f : Int) - 1))
    (Nat.zero_le (aLen A o)) (fun n j τ _ hj hP => by
      obtain ⟨hU, hP⟩ := hP
      have hLτ : LgC A τ := LgC_cg hL (fun c hc => ⟨hU.I c 0 (by unfold Tb; simp; omega), hU.F c 0 (by unfold Tb; simp; omega)⟩)
      have ar := (hLτ.2.2 o ho).2.2.2.2.2 j hj
      have aor := ao.2.2.2.2 j hj
      have hbw := Top_le (hB (aFd A o j) aor.1).1
      have hq := hP (aFd A o j) aor.1
      rw [nwj_at hO ho hj] at hq
      have i1 : fX7_intAt N τ 106 0 3000 (ij (off A o + j : Nat)) (ij (-1)) = some (ij (aFd A o j)) := by
        rw [f_intAt (by omega) (by omega) (by omega), tn_nat, ar.1]
      have i2 : fX7_floatAt N τ 107 0 3000 (ij (off A o + j : Nat)) = some (cvF (aFd A o j) (aVl A o j)) := by
        rw [f_floatAt (by omega) (by omega) (by omega), tn_nat, ar.2.1]
      have hlt := f_isLater (N := N) hLτ hO ho hbw
      have hc1 : ij (off A o + j : Nat) + ij 1 = ij (off A o + (j + 1) : Nat) := by rw [ij_add]; rfl
      simp only [fX0_take_L18]
      rw [if_neg (by simp (disch := omega) only [ij_le]; omega)]
      simp only [ij_l0, ij_l1, ij_l2, ij_l3, ij_l4, ij_l5, ij_l6, ij_l8, ij_l12, ij_l16, ij_l19, ij_l23, ij_l24, ij_l31, ij_l32, ij_l36, ij_l47, ij_l48, ij_l56, ij_l92, ij_l93, ij_l98, ij_l108, ij_l114, ij_l116, ij_l127, ij_l128, ij_l149, ij_l250, ij_l384, ij_l768, ij_l1000, ij_l1536, ij_l3000, ij_l1000000, ij_l1000003, ij_l1000000000, ij_neg, ij_add, ij_sub, ij_mul] at i1 hc1 ⊢
      rw [i1]
      simp (disch := omega) only [ij_lt, ij_le, ij_eq, ij_nat, tn_nat, tn_12, tn_24, tn_36, tn_48, ck_in, ob_s, o2_s, vl_s, ox_l, ox_r, ck_tr, if_neg, hq.1, hlt, bi_z]
      by_cases e1 : bw A K (aFd A o j) = 0 ∨ lat A o (bw A K (aFd A o j) - 1) = true
      · have e2 : (decide (bw A K (aFd A o j) = 0) || lat A o (bw A K (aFd A o j) - 1)) = true := by simpa using e1
        rw [e2, if_neg (by simp)]
        generalize hs1 : sF τ 120 b (aFd A o j) (cvF (aFd A o j) (aVl A o j)) = τ1
        have i3 : fX7_intAt N τ1 108 0 3000 (ij (off A o + j : Nat)) (ij (-1)) = some (ij ((aSm A o j : Int) - 1)) := by
          rw [f_intAt (by omega) (by omega) (by omega), tn_nat, ← hs1, gI_sF, ar.2.2.1]
        simp only [i2, ob_s, hs1]
        rw [i3]
        simp only [ob_s, ij_add]
        refine ⟨_, rfl, ?_, ?_⟩
        · rw [← hs1]
          exact ((hU.tr (Un.sF _ _ _ (by unfold Tb; simp))).tr (Un.sI _ _ _ (by unfold Tb; simp))).tr (Un.sI _ _ _ (by unfold Tb; simp))
        · intro f hf
          simp only [gI_sI, gF_sI]
          rw [← hs1]
          simp only [gF_sF, gI_sF]
          by_cases ef : f = aFd A o j
          · subst ef
            have h3 := nwj_hit (w := bw A K (aFd A o j)) hO ho hj
            rw [if_pos e1] at h3
            rw [h3]
            have h4 := rw_at hO ho hj
            have t1 : tvl A (o + 1) (aFd A o j) = aVl A o j := by
              unfold tvl
              rw [if_neg (by omega), show o + 1 - 1 = o from rfl, h4]; rfl
            have t2 : tsm A (o + 1) (aFd A o j) = aSm A o j := by
              unfold tsm
              rw [if_neg (by omega), show o + 1 - 1 = o from rfl, h4]; rfl
            have t3 : ((o + 1 : Nat) : Int) - 1 = o := by omega
            rw [t1, t2, t3]
            simp
          · rw [nwj_ne hj ef]
            simp [ef]
            exact hP f hf
      · have e2 : (decide (bw A K (aFd A o j) = 0) || lat A o (bw A K (aFd A o j) - 1)) = false := by simpa using e1
        rw [e2, if_pos rfl]
        refine ⟨τ, rfl, hU, fun f hf => ?_⟩
        by_cases ef : f = aFd A o j
        · subst ef
          have h3 := nwj_hit (w := bw A K (aFd A o j)) hO ho hj
          rw [if_neg e1] at h3
          rw [h3]
          exact hq
        · rw [nwj_ne hj ef]
          exact hP f hf)
    N σ (by omega) ⟨Un.rfl, fun f hf => by
      rw [nwj_0]
      exact (hB f hf).2⟩
  have e0 : N - (aLen A o - 0) = (N - aLen A o - 1) + 1 := by omega
  rw [e0] at e
  simp only [fX0_take_L18] at e
  rw [if_pos (by simp (disch := omega) only [ij_le]; omega)] at e
  refine ⟨τ, e, fun f hf => ?_, hU⟩
  have hT := Top_add hO ho (hB f hf).1
  have hb := bw_eq hT
  have hq := hP f hf
  rw [nwj_len] at hq
  unfold bv bs
  rw [hb]
  exact ⟨hT, hq⟩
end TK
