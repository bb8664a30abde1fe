/-! The model plans rows and makes an operation. -/
def PL (A : Ab) (u : Nat) (L : List Rw) (σ : St) : Prop :=
  gI σ 8 0 27 = ij L.length ∧ ∀ k, k < L.length → gI σ 166 0 k = ij (L.getD k rz).1 ∧ gI σ 167 0 k = mvI (L.getD k rz).1 (L.getD k rz).2.1 ∧ gI σ 168 0 k = ij (((L.getD k rz).2.2.1 : Int) - 1) ∧ (L.getD k rz).1 < 93 ∧ (L.getD k rz).2.2.2.1 = bv A (kn A u) (L.getD k rz).1 ∧ (L.getD k rz).2.2.2.2 = bs A (kn A u) (L.getD k rz).1
def Tp : Nat → Nat → Bool := fun c q => (c == 8 || c == 166 || c == 167 || c == 168) && q == 0
def Tm : Nat → Nat → Bool := fun c _ => c == 8 || (decide (140 ≤ c) && decide (c ≤ 173))
section MK
variable {A : Ab} {N : Nat} {σ : St}
theorem m_restores {u : Nat} {L : List Rw} (h : PL A u L σ) (hl : L.length < 13) {f v s : Nat} (hf : f < 93) :
    ∃ τ, fX8_restores N σ (ij f) (mvI f v) (ij ((s : Int) - 1)) = some τ ∧ PL A u (L ++ [(f, v, s, bv A (kn A u) f, bs A (kn A u) f)]) τ ∧ Un Tp σ τ ∧ ∀ j, j ≠ 27 → gI τ 8 0 j = gI σ 8 0 j := by
  obtain ⟨l1, l2⟩ := h
  unfold fX8_restores
  simp (disch := omega) only [ij_l0, ij_l1, ij_l2, ij_l3, ij_l4, ij_l5, ij_l6, ij_l8, ij_l12, ij_l16, ij_l19, ij_l23, ij_l24, ij_l31, ij_l32, ij_l36, ij_l47, ij_l48, ij_l56, ij_l92, ij_l93, ij_l98, ij_l108, ij_l114, ij_l116, ij_l127, ij_l128, ij_l149, ij_l250, ij_l384, ij_l768, ij_l1000, ij_l1536, ij_l3000, ij_l1000000, ij_l1000003, ij_l1000000000, ij_neg, ij_add, ij_sub, ij_mul, ij_lt, ij_le, ij_eq, ij_nat, tn_nat, tn_12, tn_24, tn_36, tn_48, ck_in, ob_s, o2_s, vl_s, ox_l, ox_r, ck_tr, if_pos, if_neg, l1, gI_sI_ne]
  refine ⟨_, rfl, ⟨?_, fun k hk => ?_⟩, (((Un.sI _ _ _ rfl).tr (Un.sI _ _ _ rfl)).tr (Un.sI _ _ _ rfl)).tr (Un.sI _ _ _ rfl), fun j hj => ?_⟩
  · simp (disch := omega) only [gI_sI_ne, gI_sI_eq, if_true]; simp
  · rw [getD_app]
    simp (disch := omega) only [gI_sI_ne, gI_sI_eq]
    by_cases e : k = L.length
    · simp only [if_pos e]
      exact ⟨trivial, trivial, trivial, hf, trivial, trivial⟩
    · simp only [if_neg e]
      exact l2 k (by simp at hk; omega)
  · simp (disch := omega) only [gI_sI_ne, gI_sI_eq, if_neg hj]
theorem m_plans {u : Nat} {L : List Rw} (h : PL A u L σ) (hn : gI σ 8 0 20 = ij (aN A)) (hl : L.length < 13) {f v : Nat} (hf : f < 93) {x : Int32} (hx : x = mvI f v) :
    ∃ τ, fX8_plans N σ (ij f) x = some τ ∧ PL A u (L ++ [(f, v, aN A + 1, bv A (kn A u) f, bs A (kn A u) f)]) τ ∧ Un Tp σ τ ∧ ∀ j, j ≠ 27 → gI τ 8 0 j = gI σ 8 0 j := by
  subst hx
  obtain ⟨τ, t1, t2⟩ := m_restores (N := N) h hl (v := v) (s := aN A + 1) hf
  refine ⟨τ, ?_, t2⟩
  unfold fX8_plans
  rw [hn, show ((aN A : Nat) : Int) = ((aN A + 1 : Nat) : Int) - 1 by omega, t1]
  rfl
theorem stp_N (u st : Nat) (L : List Rw) : aN (stp A u st L) = aN A + 1 := rfl
theorem m_makes (hI : Inv0 A) (hn : aN A < 250) (hN : 1000 ≤ N) (hM : PtM A σ) (hL : LgM A σ) {u st : Nat} (hu : u < 3) (hst : st ≤ 1) (hB : BdM A (kn A u) σ) {L : List Rw} (hP : PL A u L σ) (hR : rwsOK A L) :
    ∃ τ, fX8_makes N σ (ij u) (ij st) = some τ ∧ MR (stp A u st L) τ ∧ BdM (stp A u st L) (kn (stp A u st L) u) τ ∧ Un Tm σ τ ∧ gI τ 8 0 0 = gI σ 8 0 0 := by
  obtain ⟨hO, hS, hK⟩ := hI
  obtain ⟨l1, l2, l3⟩ := hL
  have hmx := mxk_le hO u (aN A) (Nat.le_refl _)
  have hlen := hR.1
  unfold fX8_makes
  -- the greatest clock
  have c1 : ∀ (C : Int32 → Int32 → Option St), fX8_makes_L5 C N σ (ij u) N (ij 0) (ij 0) = C (ij (mxk A u (aN A))) (ij (aN A)) := by
    intro C
    refine lp_end (fun n j => fX8_makes_L5 C N σ (ij u) n (ij (mxk A u j)) (ij j)) (a := 0) (b := aN A) (Nat.zero_le _) (fun n j _ hj => ?_) (fun n => ?_) N (by omega)
    · have hm := mxk_le hO u j (by omega)
      have hk := l3 u j hu (by omega)
      have hc := (l2 j hj).2.1
      have hck := (hO.2.1 j hj).2.1
      simp only [fX8_makes_L5]
      rw [l1]
      cases e : kn A u j with
      | false =>
        rw [e] at hk
        simp (disch := omega) only [ij_l0, ij_l1, ij_l2, ij_l3, ij_l4, ij_l5, ij_l6, ij_l8, ij_l12, ij_l16, ij_l19, ij_l23, ij_l24, ij_l31, ij_l32, ij_l36, ij_l47, ij_l48, ij_l56, ij_l92, ij_l93, ij_l98, ij_l108, ij_l114, ij_l116, ij_l127, ij_l128, ij_l149, ij_l250, ij_l384, ij_l768, ij_l1000, ij_l1536, ij_l3000, ij_l1000000, ij_l1000003, ij_l1000000000, ij_neg, ij_add, ij_sub, ij_mul, ij_lt, ij_le, ij_eq, ij_nat, tn_nat, tn_12, tn_24, tn_36, tn_48, ck_in, ob_s, o2_s, vl_s, ox_l, ox_r, ck_tr, if_pos, if_neg, hk, bi_z]
        simp [mxk, e]
      | true =>
        rw [e] at hk
        simp (disch := omega) only [ij_l0, ij_l1, ij_l2, ij_l3, ij_l4, ij_l5, ij_l6, ij_l8, ij_l12, ij_l16, ij_l19, ij_l23, ij_l24, ij_l31, ij_l32, ij_l36, ij_l47, ij_l48, ij_l56, ij_l92, ij_l93, ij_l98, ij_l108, ij_l114, ij_l116, ij_l127, ij_l128, ij_l149, ij_l250, ij_l384, ij_l768, ij_l1000, ij_l1536, ij_l3000, ij_l1000000, ij_l1000003, ij_l1000000000, ij_neg, ij_add, ij_sub, ij_mul, ij_lt, ij_le, ij_eq, ij_nat, tn_nat, tn_12, tn_24, tn_36, tn_48, ck_in, ob_s, o2_s, vl_s, ox_l, ox_r, ck_tr, if_pos, if_neg, hk, bi_z, hc]
        simp only [mxk, e, if_true, Bool.true_eq_false, if_false]
        have e2 : (if (mxk A u j : Int) < aCk A j then ij (aCk A j) else ij (mxk A u j)) = ij (max (mxk A u j) (aCk A j) : Nat) := by
          split
          · congr 1; omega
          · congr 1; omega
        rw [e2]
        rfl
    · simp only [fX8_makes_L5]
      rw [l1, if_pos (by simp (disch := omega) only [ij_le]; omega)]
  simp only [ij_l0, ij_l1]
  rw [c1, l1]
  simp (disch := omega) only [ij_lt, ij_le, ij_eq, ij_nat, tn_nat, tn_12, tn_24, tn_36, tn_48, ck_in, ob_s, o2_s, vl_s, ox_l, ox_r, ck_tr, ij_add, ij_nar, gI_sI_ne, l1, hP.1]
  have hnar : vp_nar .boolean (ij 1) = ij 1 := rfl
  rw [hnar]
  -- facts of the state before the rows
  have key : ∀ σ5, gI σ5 8 0 20 = ij (aN A) → gI σ5 8 0 27 = ij L.length → (∀ j, gI σ5 8 0 j = gI σ 8 0 j) →
      (∀ x, gI σ5 147 0 x = if x = aN A then ij u else gI σ 147 0 x) → (∀ x, gI σ5 148 0 x = if x = aN A then ij ((mxk A u (aN A) : Int) + 1) else gI σ 148 0 x) → (∀ x, gI σ5 149 0 x = if x = aN A then ij L.length else gI σ 149 0 x) → (∀ x, gI σ5 155 0 x = if x = aN A then ij st else gI σ 155 0 x) →
      (∀ v x, gI σ5 165 v x = if v = u ∧ x = aN A then ij 1 else gI σ 165 v x) → (∀ c o x, c ≠ 147 → c ≠ 148 → c ≠ 149 → c ≠ 155 → c ≠ 165 → gI σ5 c o x = gI σ c o x) → Un Tm σ σ5 →
      ∃ τ, fX8_makes_L108 (fun _ σ27 => (vl (sI σ27 8 0 20 ((gI σ27 8 0 20) + ij 1)) fun σ28 => (vl (sI σ28 8 0 27 (ij 0)) fun σ29 => (ob (fX8_builds N σ29 (ij u)) fun σ30 => (some σ30))))) N N (ij 0) σ5 = some τ ∧ MR (stp A u st L) τ ∧ BdM (stp A u st L) (kn (stp A u st L) u) τ ∧ Un Tm σ τ ∧ gI τ 8 0 0 = gI σ 8 0 0 := by
    intro σ5 d20 d27 d8 d147 d148 d149 d155 d165 dr dU
    obtain ⟨τ, e, hQ1, hQ2, hU⟩ := lp_st (fun n j τ => fX8_makes_L108 (fun _ σ27 => (vl (sI σ27 8 0 20 ((gI σ27 8 0 20) + ij 1)) fun σ28 => (vl (sI σ28 8 0 27 (ij 0)) fun σ29 => (ob (fX8_builds N σ29 (ij u)) fun σ30 => (some σ30))))) N n (ij j) τ)
      (fun j τ => (∀ k, k < j → gI τ 160 (aN A) k = ij (L.getD k rz).1 ∧ gI τ 161 (aN A) k = mvI (L.getD k rz).1 (L.getD k rz).2.1 ∧ gI τ 162 (aN A) k = mvI (L.getD k rz).1 (L.getD k rz).2.2.2.1 ∧ gI τ 163 (aN A) k = ij (((L.getD k rz).2.2.1 : Int) - 1) ∧ gI τ 164 (aN A) k = ij (((L.getD k rz).2.2.2.2 : Int) - 1)) ∧
        (∀ c o, ¬ (160 ≤ c ∧ c ≤ 164 ∧ o = aN A) → gI τ c o = gI σ5 c o) ∧ Un Tm σ τ) (Nat.zero_le L.length) (fun n j τ _ hj hQ => by
        obtain ⟨q1, q2, qU⟩ := hQ
        have hp := hP.2 j hj
        have hb := hB _ hp.2.2.2.1
        have a20 : gI τ 8 0 20 = ij (aN A) := by rw [q2 8 0 (by omega)]; exact d20
        have a27 : gI τ 8 0 27 = ij L.length := by rw [q2 8 0 (by omega)]; exact d27
        have a166 : gI τ 166 0 j = ij (L.getD j rz).1 := by rw [q2 166 0 (by omega), dr 166 0 j (by omega) (by omega) (by omega) (by omega) (by omega)]; exact hp.1
        have a167 : gI τ 167 0 j = mvI (L.getD j rz).1 (L.getD j rz).2.1 := by rw [q2 167 0 (by omega), dr 167 0 j (by omega) (by omega) (by omega) (by omega) (by omega)]; exact hp.2.1
        have a168 : gI τ 168 0 j = ij (((L.getD j rz).2.2.1 : Int) - 1) := by rw [q2 168 0 (by omega), dr 168 0 j (by omega) (by omega) (by omega) (by omega) (by omega)]; exact hp.2.2.1
        have a157 : gI τ 157 0 (L.getD j rz).1 = mvI (L.getD j rz).1 (L.getD j rz).2.2.2.1 := by rw [q2 157 0 (by omega), dr 157 0 _ (by omega) (by omega) (by omega) (by omega) (by omega), hp.2.2.2.2.1]; exact hb.2.2.1
        have a159 : gI τ 159 0 (L.getD j rz).1 = ij (((L.getD j rz).2.2.2.2 : Int) - 1) := by rw [q2 159 0 (by omega), dr 159 0 _ (by omega) (by omega) (by omega) (by omega) (by omega), hp.2.2.2.2.2]; exact hb.2.2.2
        have hf := hp.2.2.2.1
        have hj1 : ij (j : Int) + ij 1 = ij ((j + 1 : Nat) : Int) := by rw [ij_add]; rfl
        simp only [fX8_makes_L108]
        simp only [ij_l1, hj1]
        simp (disch := omega) only [ij_lt, ij_le, ij_eq, ij_nat, tn_nat, tn_12, tn_24, tn_36, tn_48, ck_in, ob_s, o2_s, vl_s, ox_l, ox_r, ck_tr, if_neg, a20, a27, a166, a167, a168, gI_sI_ne, a157, a159]
        refine ⟨_, rfl, fun k hk => ?_, fun c o hc => ?_, ((((qU.tr (Un.sI _ _ _ rfl)).tr (Un.sI _ _ _ rfl)).tr (Un.sI _ _ _ rfl)).tr (Un.sI _ _ _ rfl)).tr (Un.sI _ _ _ rfl)⟩
        · simp (disch := omega) only [gI_sI_ne, gI_sI_eq]
          by_cases ek : k = j
          · subst ek
            simp
          · simp only [if_neg ek]
            exact q1 k (by omega)
        · rw [← q2 c o hc]
          funext x
          simp only [gI_sI]
          have g : ∀ c', 160 ≤ c' → c' ≤ 164 → ¬ (c = c' ∧ o = aN A ∧ x = j) := fun c' h1 h2 q => hc ⟨by omega, by omega, q.2.1⟩
          rw [if_neg (g 164 (by omega) (by omega)), if_neg (g 163 (by omega) (by omega)), if_neg (g 162 (by omega) (by omega)), if_neg (g 161 (by omega) (by omega)), if_neg (g 160 (by omega) (by omega))])
      N σ5 (by omega) ⟨fun k hk => by omega, fun _ _ _ => rfl, dU⟩
    have a20 : gI τ 8 0 20 = ij (aN A) := by rw [hQ2 8 0 (by omega)]; exact d20
    have a27 : gI τ 8 0 27 = ij L.length := by rw [hQ2 8 0 (by omega)]; exact d27
    have e0 : N - (L.length - 0) = (N - L.length - 1) + 1 := by omega
    rw [e0] at e
    simp only [fX8_makes_L108] at e
    rw [a27, if_pos (by simp (disch := omega) only [ij_le]; omega), vl_s, vl_s, a20, ij_add] at e
    generalize hυ : sI (sI τ 8 0 20 (ij ((aN A : Int) + 1))) 8 0 27 (ij 0) = υ at e
    have r : ∀ c o, ¬ (160 ≤ c ∧ c ≤ 164 ∧ o = aN A) → c ≠ 8 → gI υ c o = gI σ5 c o := fun c o h1 h2 => by
      rw [← hυ]
      funext x
      rw [gI_sI_ne h2, gI_sI_ne h2, hQ2 c o h1]
    have r2 : ∀ c k, 160 ≤ c → gI υ c (aN A) k = gI τ c (aN A) k := fun c k h1 => by
      rw [← hυ, gI_sI_ne (by omega), gI_sI_ne (by omega)]
    have r8 : ∀ j, gI υ 8 0 j = if j = 27 then ij 0 else if j = 20 then ij ((aN A : Int) + 1) else gI σ 8 0 j := fun j => by
      rw [← hυ, gI_sI_eq, gI_sI_eq, hQ2 8 0 (by omega), d8]
    have hLυ : LgM (stp A u st L) υ := by
      refine ⟨by rw [r8]; rfl, fun o ho => ?_, fun v o hv ho => ?_⟩
      · have ho : o < aN A + 1 := ho
        have eU : aUs (stp A u st L) o = if o = aN A then u else aUs A o := opL_Us _ _ _ _ _ _
        have eC : aCk (stp A u st L) o = if o = aN A then mxk A u (aN A) + 1 else aCk A o := opL_Ck _ _ _ _ _ _
        have eL : aLen (stp A u st L) o = if o = aN A then L.length else aLen A o := opL_Len _ _ _ _ _ _
        have eS : aSt (stp A u st L) o = if o = aN A then st else aSt A o := opL_St _ _ _ _ _ _
        rw [r 147 0 (by omega) (by omega), r 148 0 (by omega) (by omega), r 149 0 (by omega) (by omega), r 155 0 (by omega) (by omega), d147, d148, d149, d155, eU, eC, eL, eS]
        by_cases e1 : o = aN A
        · subst e1
          simp only [if_true]
          refine ⟨trivial, rfl, trivial, trivial, fun k hk => ?_⟩
          have f1 : aFd (stp A u st L) (aN A) k = (L.getD k rz).1 := (opL_Fd _ _ _ _ _ _ _).trans (if_pos rfl)
          have f2 : aVl (stp A u st L) (aN A) k = (L.getD k rz).2.1 := (opL_Vl _ _ _ _ _ _ _).trans (if_pos rfl)
          have f3 : aSm (stp A u st L) (aN A) k = (L.getD k rz).2.2.1 := (opL_Sm _ _ _ _ _ _ _).trans (if_pos rfl)
          have f4 : aOv (stp A u st L) (aN A) k = (L.getD k rz).2.2.2.1 := (opL_Ov _ _ _ _ _ _ _).trans (if_pos rfl)
          have f5 : aOs (stp A u st L) (aN A) k = (L.getD k rz).2.2.2.2 := (opL_Os _ _ _ _ _ _ _).trans (if_pos rfl)
          rw [r2 160 k (by omega), r2 161 k (by omega), r2 162 k (by omega), r2 163 k (by omega), r2 164 k (by omega), f1, f2, f3, f4, f5]
          exact hQ1 k hk
        · simp only [if_neg e1]
          have a := l2 o (by omega)
          refine ⟨a.1, a.2.1, a.2.2.1, a.2.2.2.1, fun k hk => ?_⟩
          have f1 : aFd (stp A u st L) o k = aFd A o k := (opL_Fd _ _ _ _ _ _ _).trans (if_neg e1)
          have f2 : aVl (stp A u st L) o k = aVl A o k := (opL_Vl _ _ _ _ _ _ _).trans (if_neg e1)
          have f3 : aSm (stp A u st L) o k = aSm A o k := (opL_Sm _ _ _ _ _ _ _).trans (if_neg e1)
          have f4 : aOv (stp A u st L) o k = aOv A o k := (opL_Ov _ _ _ _ _ _ _).trans (if_neg e1)
          have f5 : aOs (stp A u st L) o k = aOs A o k := (opL_Os _ _ _ _ _ _ _).trans (if_neg e1)
          rw [r 160 o (by omega) (by omega), r 161 o (by omega) (by omega), r 162 o (by omega) (by omega), r 163 o (by omega) (by omega), r 164 o (by omega) (by omega), f1, f2, f3, f4, f5]
          rw [dr 160 o k (by omega) (by omega) (by omega) (by omega) (by omega), dr 161 o k (by omega) (by omega) (by omega) (by omega) (by omega), dr 162 o k (by omega) (by omega) (by omega) (by omega) (by omega), dr 163 o k (by omega) (by omega) (by omega) (by omega) (by omega), dr 164 o k (by omega) (by omega) (by omega) (by omega) (by omega)]
          exact a.2.2.2.2 k hk
      · rw [r 165 v (by omega) (by omega), d165]
        have ek : kn (stp A u st L) v o = if v = u ∧ o = aN A then true else kn A v o := lrn_kn _ _ _ _ _
        rw [ek]
        by_cases e1 : v = u ∧ o = aN A
        · rw [if_pos e1, if_pos e1]; rfl
        · rw [if_neg e1, if_neg e1]; exact l3 v o hv ho
    have hO' := (Inv0_stp ⟨hO, hS, hK⟩ hn hu hst hR).1
    obtain ⟨τ3, g1, g2, g3⟩ := m_builds hLυ hO' hN hu
    have hUυ : Un Tm σ υ := by rw [← hυ]; exact (hU.tr (Un.sI _ _ _ rfl)).tr (Un.sI _ _ _ rfl)
    have hU3 : Un Tm σ τ3 := hUυ.tr (g3.mono (fun c o h => by unfold Tm at h; unfold Tn; simp at h ⊢; omega))
    refine ⟨τ3, ?_, ⟨?_, ?_, ?_⟩, g2, hU3, ?_⟩
    · refine Eq.trans e ?_
      rw [g1]; rfl
    · refine PtM_cg hM ?_ ?_ (fun c h1 h2 => ?_)
      · rw [g3.I 8 0 rfl, r8]; rfl
      · rw [g3.I 8 0 rfl, r8]; rfl
      · rw [g3.I c 0 (by unfold Tn; simp; omega), r c 0 (by omega) (by omega)]
        funext x
        exact dr c 0 x (by omega) (by omega) (by omega) (by omega) (by omega)
    · exact LgM_cg hLυ (by rw [g3.I 8 0 rfl]) (fun c q hc => g3.I c q (by unfold Tn; simp; omega))
    · rw [g3.I 8 0 rfl, r8]; rfl
    · rw [g3.I 8 0 rfl, r8]; rfl
  refine key _ ?_ ?_ ?_ ?_ ?_ ?_ ?_ ?_ ?_ ?_
  · simp (disch := omega) only [gI_sI_ne, l1]
  · simp (disch := omega) only [gI_sI_ne, hP.1]
  · intro j; simp (disch := omega) only [gI_sI_ne]
  · intro x; simp (disch := omega) only [gI_sI_ne, gI_sI_eq]
  · intro x; simp (disch := omega) only [gI_sI_ne, gI_sI_eq]
  · intro x; simp (disch := omega) only [gI_sI_ne, gI_sI_eq, hP.1]
  · intro x; simp (disch := omega) only [gI_sI_ne, gI_sI_eq]
  · intro v x
    rw [gI_sI]
    simp (disch := omega) only [gI_sI_ne]
    simp
  · intro c o x h1 h2 h3 h4 h5
    simp (disch := omega) only [gI_sI_ne]
  · exact ((((Un.sI _ _ _ rfl).tr (Un.sI _ _ _ rfl)).tr (Un.sI _ _ _ rfl)).tr (Un.sI _ _ _ rfl)).tr (Un.sI _ _ _ rfl)
end MK
