/-! Whole steps of the class. -/
def rwsOK (A : Ab) (L : List Rw) : Prop := L.length ≤ 12 ∧ ∀ k, k < L.length → (L.getD k rz).1 < 93 ∧ vokn A (aN A + 1) (L.getD k rz).1 (L.getD k rz).2.1 ∧ vokn A (aN A + 1) (L.getD k rz).1 (L.getD k rz).2.2.2.1 ∧ (L.getD k rz).2.2.1 ≤ 250 ∧ (L.getD k rz).2.2.2.2 ≤ 250 ∧ ∀ j, j < k → (L.getD j rz).1 ≠ (L.getD k rz).1
def stp (A : Ab) (u st : Nat) (L : List Rw) : Ab := lrn (opL A u (mxk A u (aN A) + 1) st L) u (aN A)
def Inv0 (A : Ab) : Prop := OpsOK A ∧ ShOK A ∧ KnOK A
theorem mxk_kn {A : Ab} {u o : Nat} (hk : kn A u o = true) : ∀ n, o < n → aCk A o ≤ mxk A u n := by
  intro n
  induction n with
  | zero => intro h; omega
  | succ n ih =>
    intro h
    simp only [mxk]
    by_cases e : o = n
    · subst e; rw [if_pos hk]; omega
    · have := ih (by omega)
      split <;> omega
theorem OpsOK_opL {A : Ab} (hI : Inv0 A) (hn : aN A < 250) {u st : Nat} (hu : u < 3) (hst : st ≤ 1) {L : List Rw} (hL : rwsOK A L) : OpsOK (opL A u (mxk A u (aN A) + 1) st L) := by
  obtain ⟨hO, hS, hK⟩ := hI
  have hm := mxk_le hO u (aN A) (Nat.le_refl _)
  refine ⟨by rw [opL_N]; omega, fun o ho => ?_, fun o p ho hp hne => ?_⟩
  · rw [opL_N] at ho
    rw [opL_Us, opL_Ck, opL_St, opL_Len]
    by_cases e : o = aN A
    · subst e
      simp only [if_true]
      refine ⟨hu, by omega, hst, hL.1, fun k hk => ?_⟩
      rw [opL_Fd, opL_Vl, opL_Sm, opL_Ov, opL_Os]
      simp only [if_true]
      obtain ⟨a1, a2, a3, a4, a5, a6⟩ := hL.2 k hk
      refine ⟨a1, a2, a3, a4, a5, fun j hj => ?_⟩
      rw [opL_Fd, if_pos rfl]
      exact a6 j hj
    · simp only [if_neg e]
      obtain ⟨b1, b2, b3, b4, b5⟩ := hO.2.1 o (by omega)
      refine ⟨b1, b2, b3, b4, fun k hk => ?_⟩
      rw [opL_Fd, opL_Vl, opL_Sm, opL_Ov, opL_Os]
      simp only [if_neg e]
      obtain ⟨a1, a2, a3, a4, a5, a6⟩ := b5 k hk
      refine ⟨a1, vokn_mono (A := A) (Nat.le_succ _) a2, vokn_mono (A := A) (Nat.le_succ _) a3, a4, a5, fun j hj => ?_⟩
      rw [opL_Fd, if_neg e]
      exact a6 j hj
  · rw [opL_N] at ho hp
    rw [opL_Us, opL_Us, opL_Ck, opL_Ck]
    have old : ∀ q, q < aN A → u = aUs A q → mxk A u (aN A) + 1 ≠ aCk A q := fun q hq h => by
      have := mxk_kn ((hK u hu).2 q hq h.symm) (aN A) hq
      omega
    by_cases e : o = aN A
    · have e2 : ¬ p = aN A := by omega
      rw [if_pos e, if_pos e, if_neg e2, if_neg e2]
      exact old p (by omega)
    · rw [if_neg e, if_neg e]
      by_cases e2 : p = aN A
      · rw [if_pos e2, if_pos e2]
        exact fun h q => old o (by omega) h.symm q.symm
      · rw [if_neg e2, if_neg e2]
        exact hO.2.2 o p (by omega) (by omega) hne
theorem Inv0_stp {A : Ab} (hI : Inv0 A) (hn : aN A < 250) {u st : Nat} (hu : u < 3) (hst : st ≤ 1) {L : List Rw} (hL : rwsOK A L) : Inv0 (stp A u st L) := by
  refine ⟨OpsOK_opL hI hn hu hst hL, hI.2.1, fun v hv => ?_⟩
  have hK := hI.2.2 v hv
  have eN : aN (stp A u st L) = aN A + 1 := rfl
  unfold stp
  refine ⟨fun o ho => ?_, fun o ho => ?_⟩
  · have ho : aN A + 1 ≤ o := ho
    rw [lrn_kn, if_neg (by omega)]
    exact hK.1 o (by omega)
  · have ho : o < aN A + 1 := ho
    have eU : aUs (lrn (opL A u (mxk A u (aN A) + 1) st L) u (aN A)) o = if o = aN A then u else aUs A o := opL_Us _ _ _ _ _ _
    rw [lrn_kn, eU]
    by_cases e : o = aN A
    · rw [if_pos e]
      intro h
      rw [if_pos ⟨h.symm, e⟩]
    · rw [if_neg e, if_neg (fun q => e q.2)]
      exact hK.2 o (by omega)
theorem Inv0_clA {A : Ab} (hI : Inv0 A) (o : Nat) : Inv0 (clA A o) := by
  refine ⟨⟨hI.1.1, fun x hx => ?_, hI.1.2.2⟩, hI.2.1, hI.2.2⟩
  obtain ⟨b1, b2, b3, b4, b5⟩ := hI.1.2.1 x hx
  refine ⟨b1, b2, ?_, b4, b5⟩
  show clA A o 3 x 0 ≤ 1
  unfold clA
  split
  · omega
  · exact b3
/-- in the midst of a step of user u: the rows L are written -/
def BG (A : Ab) (u st : Nat) (L : List Rw) (σ : St) : Prop :=
  LgC (opL A u (mxk A u (aN A) + 1) st L) σ ∧ TmC (opL A u (mxk A u (aN A) + 1) st L) σ ∧ PtC A σ ∧ (∀ v, v < 3 → UsC A v σ ∧ BdC A (kn A v) v σ) ∧ RfC σ ∧ gI σ 4 u 7 = ij (aN A)
theorem BG_un {A : Ab} {u st : Nat} {L M : List Rw} {σ τ : St} (h : BG A u st L σ) (hU : Un Tl σ τ) (hL : LgC (opL A u (mxk A u (aN A) + 1) st M) τ) (hT : gI τ 105 0 = gI σ 105 0) : BG A u st M τ := by
  obtain ⟨h1, h2, h3, h4, h5, h6⟩ := h
  refine ⟨hL, TmC_cg h2 hT, PtC_cg h3 (fun c hc => hU.I c 0 (by unfold Tl; simp; omega)), fun v hv => ⟨UsC_cg (h4 v hv).1 (hU.I 4 v rfl) (hU.I 123 v rfl), BdC_cg (h4 v hv).2 (hU.F 120 v rfl) (hU.I 121 v rfl) (hU.I 122 v rfl)⟩, RfC_cg h5 (hU.2.2 rfl), ?_⟩
  rw [hU.I 4 u rfl]
  exact h6
def Tc : Nat → Nat → Bool := fun c _ => decide (c ≤ 7) || (decide (100 ≤ c) && decide (c ≤ 131))
theorem Tl_Tc {σ τ : St} (h : Un Tl σ τ) : Un Tc σ τ := h.mono (fun c o e => by unfold Tc at e; unfold Tl; simp at e ⊢; omega)
theorem Tu_Tc {u : Nat} {σ τ : St} (h : Un (Tu u) σ τ) : Un Tc σ τ := h.mono (fun c o e => by unfold Tc at e; unfold Tu; simp at e ⊢; omega)
theorem UsC_opL {A : Ab} (hK : KnOK A) {u c st v : Nat} (hv : v < 3) {L : List Rw} {σ : St} (h : UsC A v σ) : UsC (opL A u c st L) v σ := by
  have hk := (hK v hv).1 (aN A) (Nat.le_refl _)
  have hm : ∀ m, m ≤ aN A → mxk (opL A u c st L) v m = mxk A v m := by
    intro m
    induction m with
    | zero => intro _; rfl
    | succ m ih => intro hm; simp only [mxk]; rw [ih (by omega), opL_Ck, opL_kn, show (if m = aN A then c else aCk A m) = aCk A m from if_neg (by omega)]
  unfold UsC at h ⊢
  rw [opL_N]
  simp only [ct, mxk]
  rw [opL_kn, hk, hm _ (Nat.le_refl _)]
  simp
  exact h
section SS
variable {A : Ab} {N : Nat} {σ : St}
theorem f_begin (hI : Inv0 A) (hC : CR A σ) (hN : 1000000 ≤ N) (hn : aN A < 250) {u st : Nat} (hu : u < 3) (hst : st ≤ 1) : ∃ τ, fX5_begin N σ u (ij st) = some τ ∧ BG A u st [] τ ∧ Un Tc σ τ ∧ gF τ 109 0 = gF σ 109 0 ∧ gI τ 110 0 = gI σ 110 0 := by
  obtain ⟨c1, c2, c3, c4, c5⟩ := hC
  obtain ⟨⟨u1, u2, u3⟩, ub⟩ := c4 u hu
  have hm := mxk_le hI.1 u (aN A) (Nat.le_refl _)
  unfold fX5_begin
  rw [u2]
  simp only [ij_l0, ij_l1, ij_l2, ij_l3, ij_l4, ij_l5, ij_l6, ij_l8, ij_l12, ij_l16, ij_l19, ij_l23, ij_l24, ij_l31, ij_l32, ij_l36, ij_l47, ij_l48, ij_l56, ij_l92, ij_l93, ij_l98, ij_l108, ij_l114, ij_l116, ij_l127, ij_l128, ij_l149, ij_l250, ij_l384, ij_l768, ij_l1000, ij_l1536, ij_l3000, ij_l1000000, ij_l1000003, ij_l1000000000, ij_neg, ij_add, ij_sub, ij_mul]
  obtain ⟨τ, t1, t2, t3, t4⟩ := f_open c2 c3 hn (by omega) (N := N) (u := u) (c := mxk A u (aN A) + 1) hst
  have e1 : nI u = ij u := ij_ofn u
  rw [e1, show ((mxk A u (aN A) : Nat) : Int) + 1 = (mxk A u (aN A) + 1 : Nat) from rfl, t1]
  simp only [o2_s, vl_s]
  have t5 := To_Tl t4
  refine ⟨_, rfl, ⟨?_, ?_, ?_, fun v hv => ?_, ?_, ?_⟩, (Tl_Tc t5).tr (Un.sI _ _ _ rfl), ?_, ?_⟩
  · exact LgC_cg t2 (fun c hc => ⟨by funext q; simp (disch := omega) only [gI_sI_ne], rfl⟩)
  · exact TmC_cg t3 (by funext q; simp (disch := omega) only [gI_sI_ne])
  · exact PtC_cg c1 (fun c hc => by funext q; simp (disch := omega) only [gI_sI_ne]; rw [t5.I c 0 (by unfold Tl; simp; omega)])
  · obtain ⟨⟨v1, v2, v3⟩, vb⟩ := c4 v hv
    refine ⟨⟨?_, ?_, fun o ho => ?_⟩, BdC_cg vb ?_ ?_ ?_⟩
    · rw [gI_sI]; simp; rw [t5.I 4 v rfl]; exact v1
    · rw [gI_sI]; simp; rw [t5.I 4 v rfl]; exact v2
    · rw [gI_sI_ne (by omega), t5.I 123 v rfl]; exact v3 o ho
    · show gF τ 120 v = _; exact t5.F 120 v rfl
    · funext q; rw [gI_sI_ne (by omega), t5.I 121 v rfl]
    · funext q; rw [gI_sI_ne (by omega), t5.I 122 v rfl]
  · exact RfC_cg c5 (t5.2.2 rfl)
  · simp only [gI_sI_eq, if_true]
  · show gF τ 109 0 = _; exact t4.F 109 0 rfl
  · funext q; rw [gI_sI_ne (by omega), t4.I 110 0 rfl]
theorem f_wr (hI : Inv0 A) (hN : 1000000 ≤ N) (hn : aN A < 250) {u : Nat} (hu : u < 3) {L : List Rw} (h : BG A u 1 L σ) (hl : L.length < 12) {f v : Nat} (hf : f < 93) :
    ∃ τ, fX5_write N σ u (ij f) (cvF f v) = some τ ∧ BG A u 1 (L ++ [(f, v, aN A + 1, bv A (kn A u) f, bs A (kn A u) f)]) τ ∧ Un Tl σ τ := by
  obtain ⟨τ, t1, t2, t3, t4⟩ := f_write hI.1 hn h.1 hl h.2.2.2.2.2 (h.2.2.2.1 u hu).2 (N := N) (v := v) hf
  exact ⟨τ, t1, BG_un h t3 t2 t4, t3⟩
theorem f_end (hI : Inv0 A) (hN : 1000000 ≤ N) (hn : aN A < 250) {u st : Nat} (hu : u < 3) (hst : st ≤ 1) {L : List Rw} (hL : rwsOK A L) (h : BG A u st L σ) : ∃ τ, fX5_end N σ u = some τ ∧ CR (stp A u st L) τ ∧ Un (Tu u) σ τ := by
  obtain ⟨h1, h2, h3, h4, h5, h6⟩ := h
  have hO := OpsOK_opL hI hn hu hst hL
  have hk := (hI.2.2 u hu).1 (aN A) (Nat.le_refl _)
  have hAg := opL_Ag A u (mxk A u (aN A) + 1) st L
  have hB : BdC (opL A u (mxk A u (aN A) + 1) st L) (kn A u) u σ := Ag_BdC hAg (hI.2.2 u hu).1 (h4 u hu).2
  obtain ⟨τ, t1, t2, t3, t4⟩ := f_learn h1 hO hN hu (UsC_opL hI.2.2 hu (h4 u hu).1) hB (o := aN A) (by rw [opL_N]; omega) hk
  refine ⟨τ, ?_, ⟨?_, ?_, ?_, fun v hv => ?_, ?_⟩, t4⟩
  · unfold fX5_end
    rw [h6, t1]
    rfl
  · exact PtC_cg h3 (fun c hc => t4.I c 0 (by unfold Tu; simp; omega))
  · unfold stp
    rw [lrn_LgC]
    exact LgC_cg h1 (fun c hc => ⟨t4.I c 0 (by unfold Tu; simp; omega), t4.F c 0 (by unfold Tu; simp; omega)⟩)
  · exact TmC_cg h2 (t4.I 105 0 rfl)
  · by_cases e : v = u
    · subst e
      exact ⟨t2, t3⟩
    · have hvu : (v == u) = false := by simpa using e
      have ev : ∀ c, Tu u c v = false := fun c => by unfold Tu; rw [hvu, Bool.and_false]
      refine ⟨UsC_cg ?_ (t4.I 4 v (ev _)) (t4.I 123 v (ev _)), BdC_cg ?_ (t4.F 120 v (ev _)) (t4.I 121 v (ev _)) (t4.I 122 v (ev _))⟩
      · have q := UsC_opL hI.2.2 hv (h4 v hv).1 (u := u) (c := mxk A u (aN A) + 1) (st := st) (L := L)
        unfold stp UsC
        rw [lrn_kn_ne _ _ e, mxk_ne _ _ e]
        exact q
      · unfold stp
        rw [lrn_BdC, lrn_kn_ne _ _ e]
        exact Ag_BdC hAg (hI.2.2 v hv).1 (h4 v hv).2
  · exact RfC_cg h5 (t4.2.2 rfl)
theorem f_step (hI : Inv0 A) (hC : CR A σ) (hN : 1000000 ≤ N) (hn : aN A < 250) {u : Nat} (hu : u < 3) {f v : Nat} (hf : f < 93) (hv : vokn A (aN A + 1) f v) :
    ∃ τ, fX5_step N σ u (ij f) (cvF f v) = some τ ∧ CR (stp A u 1 [(f, v, aN A + 1, bv A (kn A u) f, bs A (kn A u) f)]) τ ∧ Un Tc σ τ ∧ Inv0 (stp A u 1 [(f, v, aN A + 1, bv A (kn A u) f, bs A (kn A u) f)]) := by
  have hB := (hC.2.2.2.1 u hu).2
  have hL : rwsOK A [(f, v, aN A + 1, bv A (kn A u) f, bs A (kn A u) f)] := by
    refine ⟨by simp, fun k hk => ?_⟩
    have hk0 : k = 0 := by simp at hk; omega
    subst hk0
    refine ⟨hf, hv, vokn_mono (Nat.le_succ _) (BOK_bv hI.1 hI.2.1 (fun g hg => (hB g hg).1) f hf), ?_, bs_le hI.1 (hB f hf).1, fun j hj => by omega⟩
    show aN A + 1 ≤ 250
    omega
  obtain ⟨τ1, a1, a2, a3, _⟩ := f_begin hI hC hN hn hu (st := 1) (by omega)
  obtain ⟨τ2, b1, b2, b3⟩ := f_wr hI hN hn hu a2 (by simp) (v := v) hf
  obtain ⟨τ3, d1, d2, d3⟩ := f_end hI hN hn hu (by omega) hL b2
  refine ⟨τ3, ?_, d2, (a3.tr (Tl_Tc b3)).tr (Tu_Tc d3), Inv0_stp hI hn hu (by omega) hL⟩
  unfold fX5_step
  simp only [ij_l0, ij_l1, ij_l2, ij_l3, ij_l4, ij_l5, ij_l6, ij_l8, ij_l12, ij_l16, ij_l19, ij_l23, ij_l24, ij_l31, ij_l32, ij_l36, ij_l47, ij_l48, ij_l56, ij_l92, ij_l93, ij_l98, ij_l108, ij_l114, ij_l116, ij_l127, ij_l128, ij_l149, ij_l250, ij_l384, ij_l768, ij_l1000, ij_l1536, ij_l3000, ij_l1000000, ij_l1000003, ij_l1000000000, ij_neg, ij_add, ij_sub, ij_mul]
  have a1' : fX5_begin N σ u (ij 1) = some τ1 := a1
  rw [a1', ob_s, b1, ob_s, d1, ob_s]
end SS
