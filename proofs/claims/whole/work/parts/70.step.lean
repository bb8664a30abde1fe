/-! Rows of a new operation; the user learns it. -/
section SP
variable {A : Ab} {N : Nat} {σ : St}
theorem LgC_app {u c st : Nat} {L : List Rw} {x : Rw} {τ : St} (h : LgC (opL A u c st L) σ)
    (e1 : gI τ 1 0 11 = gI σ 1 0 11) (e2 : gI τ 1 0 12 = ij (off A (aN A) + (L.length + 1) : Nat))
    (e3 : ∀ k, (100 ≤ k ∧ k ≤ 103) → gI τ k 0 = gI σ k 0)
    (e4 : ∀ o, gI τ 104 0 o = if o = aN A then ij (off A (aN A) + (L.length + 1) : Nat) else gI σ 104 0 o)
    (e6 : ∀ q, gI τ 106 0 q = if q = off A (aN A) + L.length then ij x.1 else gI σ 106 0 q)
    (e7 : ∀ q, gF τ 107 0 q = if q = off A (aN A) + L.length then cvF x.1 x.2.1 else gF σ 107 0 q)
    (e8 : ∀ q, gI τ 108 0 q = if q = off A (aN A) + L.length then ij ((x.2.2.1 : Int) - 1) else gI σ 108 0 q)
    (e9 : ∀ q, q ≠ off A (aN A) + L.length → gF τ 109 0 q = gF σ 109 0 q ∧ gI τ 110 0 q = gI σ 110 0 q)
    (e10 : st = 1 → gF τ 109 0 (off A (aN A) + L.length) = cvF x.1 x.2.2.2.1 ∧ gI τ 110 0 (off A (aN A) + L.length) = ij ((x.2.2.2.2 : Int) - 1)) :
    LgC (opL A u c st (L ++ [x])) τ := by
  obtain ⟨l1, l2, l3⟩ := h
  unfold LgC
  rw [e1, e2, e3 100 (by omega), e3 101 (by omega), e3 102 (by omega), e3 103 (by omega)]
  refine ⟨by rw [l1]; rfl, by rw [opL_N, opL_off1]; simp, fun o ho => ?_⟩
  rw [opL_N] at ho
  have a := l3 o ho
  rw [opL_Us, opL_Ck, opL_St, opL_Len] at a ⊢
  rw [opL_off _ _ _ _ _ _ (by omega)] at a ⊢
  rw [e4]
  by_cases e : o = aN A
  · subst e
    simp only [if_true] at a ⊢
    refine ⟨a.1, a.2.1, a.2.2.1, a.2.2.2.1, by simp, fun k hk => ?_⟩
    rw [opL_Fd, opL_Vl, opL_Sm, opL_Ov, opL_Os]
    simp only [if_true]
    rw [getD_app, e6, e7, e8]
    by_cases ek : k = L.length
    · subst ek
      simp only [if_true, true_and]
      exact e10
    · have hk2 : k < L.length := by simp at hk; omega
      have hne : ¬ (off A (aN A) + k = off A (aN A) + L.length) := by omega
      rw [(e9 _ hne).1, (e9 _ hne).2]
      simp only [if_neg ek, if_neg hne]
      have b := a.2.2.2.2.2 k hk2
      rw [opL_Fd, opL_Vl, opL_Sm, opL_Ov, opL_Os] at b
      simp only [if_true] at b
      exact b
  · simp only [if_neg e] at a ⊢
    refine ⟨a.1, a.2.1, a.2.2.1, a.2.2.2.1, a.2.2.2.2.1, fun k hk => ?_⟩
    have hm := off_mono A (o := o) (aN A) (by omega)
    have hne : ¬ (off A o + k = off A (aN A) + L.length) := by omega
    rw [(e9 _ hne).1, (e9 _ hne).2, e6, e7, e8]
    have b := a.2.2.2.2.2 k hk
    rw [opL_Fd, opL_Vl, opL_Sm, opL_Ov, opL_Os] at b ⊢
    simp only [if_neg e, if_neg hne] at b ⊢
    exact b
/-- the row of a step: value, stem, what was there ahead of it -/
theorem f_add (hO : OpsOK A) (hn : aN A < 250) {u c st : Nat} {L : List Rw} (h : LgC (opL A u c st L) σ) (hl : L.length < 12) {x : Int32} {v : UInt32} {s : Int32} :
    fX1_add N σ x v s = some (sI (sI (sI (sF (sI σ 106 0 (off A (aN A) + L.length) x) 107 0 (off A (aN A) + L.length) v) 108 0 (off A (aN A) + L.length) s) 1 0 12 (ij (off A (aN A) + (L.length + 1) : Nat))) 104 0 (aN A) (ij (off A (aN A) + (L.length + 1) : Nat))) := by
  have ho := off_le hO (aN A) (Nat.le_refl _)
  have l1 : gI σ 1 0 11 = ij ((aN A : Int) + 1) := h.1
  have l2 : gI σ 1 0 12 = ij (off A (aN A) + L.length : Nat) := by rw [h.2.1, opL_N, opL_off1]
  have e1 : ((off A (aN A) + L.length : Nat) : Int) + 1 = (off A (aN A) + (L.length + 1) : Nat) := by omega
  have e2 : (aN A : Int) + 1 - 1 = aN A := by omega
  unfold fX1_add
  rw [l1]
  simp only [ij_l0, ij_l1, ij_l2, ij_l3, ij_l4, ij_l5, ij_l6, ij_l8, ij_l12, ij_l16, ij_l19, ij_l23, ij_l24, ij_l31, ij_l32, ij_l36, ij_l47, ij_l48, ij_l56, ij_l92, ij_l93, ij_l98, ij_l108, ij_l114, ij_l116, ij_l127, ij_l128, ij_l149, ij_l250, ij_l384, ij_l768, ij_l1000, ij_l1536, ij_l3000, ij_l1000000, ij_l1000003, ij_l1000000000, ij_neg, ij_add, ij_sub, ij_mul, e2, vl_s]
  simp (disch := omega) only [ij_l0, ij_l1, ij_l2, ij_l3, ij_l4, ij_l5, ij_l6, ij_l8, ij_l12, ij_l16, ij_l19, ij_l23, ij_l24, ij_l31, ij_l32, ij_l36, ij_l47, ij_l48, ij_l56, ij_l92, ij_l93, ij_l98, ij_l108, ij_l114, ij_l116, ij_l127, ij_l128, ij_l149, ij_l250, ij_l384, ij_l768, ij_l1000, ij_l1536, ij_l3000, ij_l1000000, ij_l1000003, ij_l1000000000, ij_neg, ij_add, ij_sub, ij_mul, ij_lt, ij_le, ij_eq, ij_nat, tn_nat, tn_12, tn_24, tn_36, tn_48, ck_in, ob_s, o2_s, vl_s, ox_l, ox_r, ck_tr, if_pos, if_neg, l2, gI_sI_ne, gI_sF, e1, gI_sI_eq, if_true]
theorem f_write (hO : OpsOK A) (hn : aN A < 250) {K : Nat → Bool} {b : Nat} {u c : Nat} {L : List Rw} (h : LgC (opL A u c 1 L) σ) (hl : L.length < 12) (hw : gI σ 4 b 7 = ij (aN A)) (hB : BdC A K b σ) {f v : Nat} (hf : f < 93) :
    ∃ τ, fX5_write N σ b (ij f) (cvF f v) = some τ ∧ LgC (opL A u c 1 (L ++ [(f, v, aN A + 1, bv A K f, bs A K f)])) τ ∧ Un Tl σ τ ∧ gI τ 105 0 = gI σ 105 0 := by
  have ho := off_le hO (aN A) (Nat.le_refl _)
  have hq := hB f hf
  unfold fX5_write
  rw [hw, f_add hO hn h hl]
  simp only [ob_s]
  generalize hτ : sI (sI (sI (sF (sI σ 106 0 (off A (aN A) + L.length) (ij f)) 107 0 (off A (aN A) + L.length) (cvF f v)) 108 0 (off A (aN A) + L.length) (ij (aN A))) 1 0 12 (ij (off A (aN A) + (L.length + 1) : Nat))) 104 0 (aN A) (ij (off A (aN A) + (L.length + 1) : Nat)) = τ1
  have hU1 : Un Tl σ τ1 := by
    rw [← hτ]
    exact ((((Un.sI _ _ _ rfl).tr (Un.sF _ _ _ rfl)).tr (Un.sI _ _ _ rfl)).tr (Un.sI _ _ _ rfl)).tr (Un.sI _ _ _ rfl)
  have hv : fX0_valueAt N τ1 b (ij f) = some (cvF f (bv A K f)) := by
    rw [f_valueAt (by omega) (by omega), hU1.F 120 b rfl, tn_nat, hq.2.2.1]
  have hs : fX0_stemAt N τ1 b (ij f) = some (ij ((bs A K f : Int) - 1)) := by
    unfold fX0_stemAt
    rw [hU1.I 121 b rfl]
    simp (disch := omega) only [ij_l0, ij_l1, ij_l2, ij_l3, ij_l4, ij_l5, ij_l6, ij_l8, ij_l12, ij_l16, ij_l19, ij_l23, ij_l24, ij_l31, ij_l32, ij_l36, ij_l47, ij_l48, ij_l56, ij_l92, ij_l93, ij_l98, ij_l108, ij_l114, ij_l116, ij_l127, ij_l128, ij_l149, ij_l250, ij_l384, ij_l768, ij_l1000, ij_l1536, ij_l3000, ij_l1000000, ij_l1000003, ij_l1000000000, ij_neg, ij_add, ij_sub, ij_mul, ij_lt, ij_le, ij_eq, ij_nat, tn_nat, tn_12, tn_24, tn_36, tn_48, ck_in, ob_s, o2_s, vl_s, ox_l, ox_r, ck_tr, if_pos, if_neg, hq.2.2.2]
  have h12 : gI τ1 1 0 12 = ij (off A (aN A) + (L.length + 1) : Nat) := by rw [← hτ]; simp (disch := omega) only [gI_sI_ne, gI_sI_eq, if_true]
  have e1 : ((off A (aN A) + (L.length + 1) : Nat) : Int) - 1 = (off A (aN A) + L.length : Nat) := by omega
  rw [hv, hs]
  simp only [ob_s]
  unfold fX1_remember
  rw [h12]
  simp only [ij_l0, ij_l1, ij_l2, ij_l3, ij_l4, ij_l5, ij_l6, ij_l8, ij_l12, ij_l16, ij_l19, ij_l23, ij_l24, ij_l31, ij_l32, ij_l36, ij_l47, ij_l48, ij_l56, ij_l92, ij_l93, ij_l98, ij_l108, ij_l114, ij_l116, ij_l127, ij_l128, ij_l149, ij_l250, ij_l384, ij_l768, ij_l1000, ij_l1536, ij_l3000, ij_l1000000, ij_l1000003, ij_l1000000000, ij_neg, ij_add, ij_sub, ij_mul, e1, vl_s]
  simp (disch := omega) only [ij_l0, ij_l1, ij_l2, ij_l3, ij_l4, ij_l5, ij_l6, ij_l8, ij_l12, ij_l16, ij_l19, ij_l23, ij_l24, ij_l31, ij_l32, ij_l36, ij_l47, ij_l48, ij_l56, ij_l92, ij_l93, ij_l98, ij_l108, ij_l114, ij_l116, ij_l127, ij_l128, ij_l149, ij_l250, ij_l384, ij_l768, ij_l1000, ij_l1536, ij_l3000, ij_l1000000, ij_l1000003, ij_l1000000000, ij_neg, ij_add, ij_sub, ij_mul, ij_lt, ij_le, ij_eq, ij_nat, tn_nat, tn_12, tn_24, tn_36, tn_48, ck_in, ob_s, o2_s, vl_s, ox_l, ox_r, ck_tr, if_pos, if_neg]
  refine ⟨_, rfl, ?_, (hU1.tr (Un.sF _ _ _ rfl)).tr (Un.sI _ _ _ rfl), by rw [← hτ]; funext q; simp (disch := omega) only [gI_sI_ne, gI_sF]⟩
  rw [← hτ]
  refine LgC_app h ?_ ?_ ?_ ?_ ?_ ?_ ?_ ?_ ?_
  · simp (disch := omega) only [gI_sI_ne, gI_sF, gI_sI_eq]; simp
  · simp (disch := omega) only [gI_sI_ne, gI_sF, gI_sI_eq, if_true]
  · intro k hk
    funext q
    simp (disch := omega) only [gI_sI_ne, gI_sF]
  · intro o
    simp (disch := omega) only [gI_sI_ne, gI_sF, gI_sI_eq]
  · intro q
    simp (disch := omega) only [gI_sI_ne, gI_sF, gI_sI_eq]
  · intro q
    simp (disch := omega) only [gF_sF_ne, gF_sI, gF_sF_eq]
  · intro q
    simp (disch := omega) only [gI_sI_ne, gI_sF, gI_sI_eq]
    rw [show (((f, v, aN A + 1, bv A K f, bs A K f) : Rw).2.2.1 : Int) - 1 = aN A by show ((aN A + 1 : Nat) : Int) - 1 = aN A; omega]
  · intro q hq
    simp (disch := omega) only [gI_sI_ne, gI_sF, gI_sI_eq, gF_sF_ne, gF_sI, gF_sF_eq, if_neg hq, and_self]
  · intro _
    simp (disch := omega) only [gI_sI_ne, gI_sF, gI_sI_eq, gF_sF_ne, gF_sI, gF_sF_eq, if_true, and_self]
theorem f_addU (hO : OpsOK A) (hn : aN A < 250) {u c : Nat} {L : List Rw} (h : LgC (opL A u c 0 L) σ) (hl : L.length < 12) (f v s ov os : Nat) :
    ∃ τ, fX1_add N σ (ij f) (cvF f v) (ij ((s : Int) - 1)) = some τ ∧ LgC (opL A u c 0 (L ++ [(f, v, s, ov, os)])) τ ∧ Un To σ τ ∧ gI τ 105 0 = gI σ 105 0 := by
  rw [f_add hO hn h hl]
  refine ⟨_, rfl, ?_, ((((Un.sI _ _ _ rfl).tr (Un.sF _ _ _ rfl)).tr (Un.sI _ _ _ rfl)).tr (Un.sI _ _ _ rfl)).tr (Un.sI _ _ _ rfl), by funext q; simp (disch := omega) only [gI_sI_ne, gI_sF]⟩
  refine LgC_app h ?_ ?_ ?_ ?_ ?_ ?_ ?_ ?_ ?_
  · simp (disch := omega) only [gI_sI_ne, gI_sF, gI_sI_eq]; simp
  · simp (disch := omega) only [gI_sI_ne, gI_sF, gI_sI_eq, if_true]
  · intro k hk
    funext q
    simp (disch := omega) only [gI_sI_ne, gI_sF]
  · intro o
    simp (disch := omega) only [gI_sI_ne, gI_sF, gI_sI_eq]
  · intro q
    simp (disch := omega) only [gI_sI_ne, gI_sF, gI_sI_eq]
  · intro q
    simp (disch := omega) only [gF_sF_ne, gF_sI, gF_sF_eq]
  · intro q
    simp (disch := omega) only [gI_sI_ne, gI_sF, gI_sI_eq]
  · intro q hq
    simp (disch := omega) only [gI_sI_ne, gI_sF, gI_sI_eq, gF_sF_ne, gF_sI, gF_sF_eq, if_neg hq, and_self]
  · intro e
    omega
/-! Learning. -/
theorem lrn_kn (A : Ab) (u o v x : Nat) : kn (lrn A u o) v x = if v = u ∧ x = o then true else kn A v x := by
  unfold kn aKn lrn
  by_cases h : v = u ∧ x = o
  · simp [h]
  · simp [h]
theorem lrn_kn_self (A : Ab) (u o : Nat) : kn (lrn A u o) u = KU (kn A u) o := by
  funext x
  rw [lrn_kn]
  unfold KU
  by_cases h : x = o <;> simp [h]
theorem lrn_kn_ne (A : Ab) {u v : Nat} (o : Nat) (h : v ≠ u) : kn (lrn A u o) v = kn A v := by
  funext x
  rw [lrn_kn, if_neg (fun q => h q.1)]
theorem rwx_eq {A A' : Ab} (h : aFd A' = aFd A) : rwx A' = rwx A := by
  funext o f m
  exact rwx_congr m (fun k _ => by rw [h])
theorem rw_eq {A A' : Ab} (h : aFd A' = aFd A) (hl : aLen A' = aLen A) : rw_ A' = rw_ A := by
  funext o f
  unfold rw_
  rw [rwx_eq h, hl]
theorem off_eq {A A' : Ab} (hl : aLen A' = aLen A) : off A' = off A := by
  funext m
  induction m with
  | zero => rfl
  | succ m ih => simp only [off]; rw [ih, hl]
theorem Top_eq {A A' : Ab} (hN : aN A' = aN A) (hU : aUs A' = aUs A) (hC : aCk A' = aCk A) (h : aFd A' = aFd A) (hl : aLen A' = aLen A) : Top A' = Top A := by
  funext K f w
  unfold Top lat
  rw [hN, hU, hC, rw_eq h hl]
/-- what boards and rows rest on is the same -/
def SameL (A A' : Ab) : Prop := aN A' = aN A ∧ aUs A' = aUs A ∧ aCk A' = aCk A ∧ aFd A' = aFd A ∧ aLen A' = aLen A ∧ aVl A' = aVl A ∧ aSm A' = aSm A
theorem SameL.top {A A' : Ab} (h : SameL A A') : Top A' = Top A := Top_eq h.1 h.2.1 h.2.2.1 h.2.2.2.1 h.2.2.2.2.1
theorem SameL.bw_ {A A' : Ab} (h : SameL A A') : bw A' = bw A := by
  funext K f
  unfold bw
  rw [h.top]
theorem SameL.bv_ {A A' : Ab} (h : SameL A A') : bv A' = bv A ∧ bs A' = bs A := by
  constructor
  · funext K f
    unfold bv tvl
    rw [h.bw_, rw_eq h.2.2.2.1 h.2.2.2.2.1, h.2.2.2.2.2.1]
  · funext K f
    unfold bs tsm
    rw [h.bw_, rw_eq h.2.2.2.1 h.2.2.2.2.1, h.2.2.2.2.2.2]
theorem SameL.bd {A A' : Ab} (h : SameL A A') (K : Nat → Bool) (b : Nat) (σ : St) : BdC A' K b σ = BdC A K b σ := by
  unfold BdC
  rw [h.top, h.bw_, h.bv_.1, h.bv_.2]
theorem SameL.bm {A A' : Ab} (h : SameL A A') (K : Nat → Bool) (σ : St) : BdM A' K σ = BdM A K σ := by
  unfold BdM
  rw [h.top, h.bw_, h.bv_.1, h.bv_.2]
theorem lrn_same (A : Ab) (u o : Nat) : SameL A (lrn A u o) := ⟨rfl, rfl, rfl, rfl, rfl, rfl, rfl⟩
theorem clA_same (A : Ab) (o : Nat) : SameL A (clA A o) := ⟨rfl, rfl, rfl, rfl, rfl, rfl, rfl⟩
theorem shA_same (A : Ab) (w h fr : Nat) : SameL A (shA A w h fr) := ⟨rfl, rfl, rfl, rfl, rfl, rfl, rfl⟩
theorem cnA_same (A : Ab) (a b sd se : Nat) : SameL A (cnA A a b sd se) := ⟨rfl, rfl, rfl, rfl, rfl, rfl, rfl⟩
theorem lrn_BdC (A : Ab) (u o : Nat) (K : Nat → Bool) (b : Nat) (σ : St) : BdC (lrn A u o) K b σ = BdC A K b σ := (lrn_same A u o).bd K b σ
theorem LgC_same {A A' : Ab} (h : SameL A A') (hst : aSt A' = aSt A) (ho : aOv A' = aOv A) (hs : aOs A' = aOs A) (σ : St) : LgC A' σ = LgC A σ := by
  unfold LgC
  rw [h.1, h.2.1, h.2.2.1, h.2.2.2.1, h.2.2.2.2.1, h.2.2.2.2.2.1, h.2.2.2.2.2.2, off_eq h.2.2.2.2.1, hst, ho, hs]
theorem lrn_LgC (A : Ab) (u o : Nat) (σ : St) : LgC (lrn A u o) σ = LgC A σ := LgC_same (lrn_same A u o) rfl rfl rfl σ
theorem lrn_TmC (A : Ab) (u o : Nat) (σ : St) : TmC (lrn A u o) σ = TmC A σ := rfl
theorem lrn_PtC (A : Ab) (u o : Nat) (σ : St) : PtC (lrn A u o) σ = PtC A σ := rfl
theorem lrn_Ops (A : Ab) (u o : Nat) : OpsOK (lrn A u o) = OpsOK A := rfl
theorem lrn_Sh (A : Ab) (u o : Nat) : ShOK (lrn A u o) = ShOK A := rfl
theorem ct_KU {K : Nat → Bool} {o : Nat} (hK : K o = false) : ∀ n, ct (KU K o) n = ct K n + if o < n then 1 else 0 := by
  intro n
  induction n with
  | zero => rfl
  | succ n ih =>
    simp only [ct]
    rw [ih]
    by_cases e : o = n
    · subst e
      simp [KU, hK]
    · have e2 : KU K o n = K n := by unfold KU; simp [show ¬ n = o by omega]
      rw [e2]
      by_cases e3 : o < n
      · rw [if_pos e3, if_pos (show o < n + 1 by omega)]; omega
      · rw [if_neg e3, if_neg (show ¬ o < n + 1 by omega)]; omega
theorem mxk_lrn (A : Ab) (u o : Nat) : ∀ n, mxk (lrn A u o) u n = if o < n then max (mxk A u n) (aCk A o) else mxk A u n := by
  intro n
  induction n with
  | zero => rfl
  | succ n ih =>
    simp only [mxk]
    rw [ih, lrn_kn]
    have hc : aCk (lrn A u o) n = aCk A n := rfl
    rw [hc]
    by_cases e : o = n
    · subst e
      simp
      cases kn A u o <;> simp <;> omega
    · have e1 : ¬ (u = u ∧ n = o) := by omega
      rw [if_neg e1]
      by_cases e3 : o < n
      · rw [if_pos e3, if_pos (show o < n + 1 by omega)]
        cases kn A u n <;> simp <;> omega
      · rw [if_neg e3, if_neg (show ¬ o < n + 1 by omega)]
theorem mxk_ne (A : Ab) {u v : Nat} (o : Nat) (h : v ≠ u) : ∀ n, mxk (lrn A u o) v n = mxk A v n := by
  intro n
  induction n with
  | zero => rfl
  | succ n ih => simp only [mxk]; rw [ih, lrn_kn_ne A o h]; rfl
theorem mxk_le {A : Ab} (hO : OpsOK A) (u : Nat) : ∀ n, n ≤ aN A → mxk A u n ≤ n := by
  intro n
  induction n with
  | zero => intro _; exact Nat.le_refl _
  | succ n ih =>
    intro h
    have h1 := (hO.2.1 n (by omega)).2.1
    have h2 := ih (by omega)
    simp only [mxk]
    split <;> omega
def Tu (u : Nat) : Nat → Nat → Bool := fun c q => (c == 4 || c == 123 || c == 120 || c == 121 || c == 122) && q == u
theorem f_learn (hL : LgC A σ) (hO : OpsOK A) (hN : 1000000 ≤ N) {u o : Nat} (hu : u < 3) (hU : UsC A u σ) (hB : BdC A (kn A u) u σ) (ho : o < aN A) (hk : kn A u o = false) :
    ∃ τ, fX5_learn N σ u (ij o) = some τ ∧ UsC (lrn A u o) u τ ∧ BdC (lrn A u o) (kn (lrn A u o) u) u τ ∧ Un (Tu u) σ τ := by
  have hn := hO.1
  obtain ⟨u1, u2, u3⟩ := hU
  have hc1 := ct_le (kn A u) (aN A)
  have hm := mxk_le hO u (aN A) (Nat.le_refl _)
  have hck := (hO.2.1 o ho).2.1
  have a := (hL.2.2 o ho).2.1
  unfold fX5_learn fX1_clockAt
  have key : ∀ σ4, gI σ4 4 u 5 = ij (ct (kn A u) (aN A) + 1 : Nat) → gI σ4 4 u 6 = ij (max (mxk A u (aN A)) (aCk A o) : Nat) → (∀ x, gI σ4 123 u x = if x = o then ij 1 else gI σ 123 u x) → Un (Tu u) σ σ4 → LgC A σ4 → BdC A (kn A u) u σ4 →
      ∃ τ, ob (fX0_take N σ4 u (ij o)) (fun σ5 => some σ5) = some τ ∧ UsC (lrn A u o) u τ ∧ BdC (lrn A u o) (kn (lrn A u o) u) u τ ∧ Un (Tu u) σ τ := by
    intro σ4 c5 c6 c123 hU4 hL4 hB4
    obtain ⟨τ, t1, t2, t3⟩ := f_take hL4 hO hN hB4 ho
    refine ⟨τ, by rw [t1]; rfl, ?_, ?_, hU4.tr (t3.mono (fun c q h => by unfold Tu at h; unfold Tb; simp at h ⊢; omega))⟩
    · unfold UsC
      rw [t3.I 4 u rfl, t3.I 123 u rfl, c5, c6, lrn_kn_self, mxk_lrn]
      have eN : aN (lrn A u o) = aN A := rfl
      rw [eN, ct_KU hk, if_pos ho, if_pos ho]
      refine ⟨rfl, rfl, fun x hx => ?_⟩
      rw [c123, u3 x hx]
      unfold KU
      by_cases e : x = o
      · rw [if_pos e]; simp [e]; rfl
      · rw [if_neg e]
        show bi (kn A u x) = bi (kn A u x || x == o)
        rw [show (x == o) = false by rw [beq_eq_false_iff_ne]; exact e, Bool.or_false]
    · rw [lrn_BdC, lrn_kn_self]
      exact t2
  simp (disch := omega) only [ij_l0, ij_l1, ij_l2, ij_l3, ij_l4, ij_l5, ij_l6, ij_l8, ij_l12, ij_l16, ij_l19, ij_l23, ij_l24, ij_l31, ij_l32, ij_l36, ij_l47, ij_l48, ij_l56, ij_l92, ij_l93, ij_l98, ij_l108, ij_l114, ij_l116, ij_l127, ij_l128, ij_l149, ij_l250, ij_l384, ij_l768, ij_l1000, ij_l1536, ij_l3000, ij_l1000000, ij_l1000003, ij_l1000000000, ij_neg, ij_add, ij_sub, ij_mul, ij_lt, ij_le, ij_eq, ij_nat, tn_nat, tn_12, tn_24, tn_36, tn_48, ck_in, ob_s, o2_s, vl_s, ox_l, ox_r, ck_tr, if_pos, if_neg, u1, u2, gI_sI_ne, gI_sI_eq, if_true]
  have i1 : ∀ σ2, gI σ2 101 0 = gI σ 101 0 → fX7_intAt N σ2 101 0 250 (ij o) (ij 0) = some (ij (aCk A o)) := fun σ2 h2 => by
    rw [f_intAt (by omega) (by omega) (by omega), tn_nat, h2, a]
  rw [i1 _ (by funext q; simp (disch := omega) only [gI_sI_ne])]
  simp (disch := omega) only [ij_l0, ij_l1, ij_l2, ij_l3, ij_l4, ij_l5, ij_l6, ij_l8, ij_l12, ij_l16, ij_l19, ij_l23, ij_l24, ij_l31, ij_l32, ij_l36, ij_l47, ij_l48, ij_l56, ij_l92, ij_l93, ij_l98, ij_l108, ij_l114, ij_l116, ij_l127, ij_l128, ij_l149, ij_l250, ij_l384, ij_l768, ij_l1000, ij_l1536, ij_l3000, ij_l1000000, ij_l1000003, ij_l1000000000, ij_neg, ij_add, ij_sub, ij_mul, ij_lt, ij_le, ij_eq, ij_nat, tn_nat, tn_12, tn_24, tn_36, tn_48, ck_in, ob_s, o2_s, vl_s, ox_l, ox_r, ck_tr, if_pos, if_neg, gI_sI_ne, gI_sI_eq, u2]
  refine key _ ?_ ?_ ?_ ?_ ?_ ?_
  · simp (disch := omega) only [gI_sI_ne, gI_sI_eq]; simp
  · simp (disch := omega) only [gI_sI_ne, gI_sI_eq, if_true]
    split
    · congr 1; omega
    · congr 1; omega
  · intro x
    simp (disch := omega) only [gI_sI_ne, gI_sI_eq]
    rfl
  · exact ((Un.sI _ _ _ (by unfold Tu; simp)).tr (Un.sI _ _ _ (by unfold Tu; simp))).tr (Un.sI _ _ _ (by unfold Tu; simp))
  · refine LgC_cg hL (fun c hc => ⟨?_, rfl⟩)
    funext q
    simp (disch := omega) only [gI_sI_ne]
  · refine BdC_cg hB rfl ?_ ?_ <;> · funext q; simp (disch := omega) only [gI_sI_ne]
end SP
