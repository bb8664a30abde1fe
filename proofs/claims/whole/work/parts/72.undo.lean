/-! Taking back, and carrying. -/
theorem rwsOK_nil (A : Ab) : rwsOK A [] := ⟨by simp, fun k hk => by simp at hk⟩
theorem rwsOK_app {A : Ab} {L : List Rw} {x : Rw} (h : rwsOK A L) (hl : L.length < 12) (h1 : x.1 < 93) (h2 : vokn A (aN A + 1) x.1 x.2.1) (h3 : vokn A (aN A + 1) x.1 x.2.2.2.1) (h4 : x.2.2.1 ≤ 250) (h5 : x.2.2.2.2 ≤ 250) (h6 : ∀ k, k < L.length → (L.getD k rz).1 ≠ x.1) : rwsOK A (L ++ [x]) := by
  refine ⟨by simp; omega, fun k hk => ?_⟩
  have hk : k < L.length + 1 := by simpa using hk
  rw [getD_app]
  by_cases e : k = L.length
  · rw [if_pos e]
    refine ⟨h1, h2, h3, h4, h5, fun j hj => ?_⟩
    rw [getD_app, if_neg (by omega)]
    exact h6 j (by omega)
  · rw [if_neg e]
    obtain ⟨a1, a2, a3, a4, a5, a6⟩ := h.2 k (by omega)
    refine ⟨a1, a2, a3, a4, a5, fun j hj => ?_⟩
    rw [getD_app, if_neg (by omega)]
    exact a6 j hj
noncomputable def unL (A : Ab) (K : Nat → Bool) (s : Nat) : Nat → List Rw
  | 0 => []
  | j + 1 => if bs A K (aFd A s j) = s + 1 then unL A K s j ++ [(aFd A s j, aOv A s j, aOs A s j, bv A K (aFd A s j), bs A K (aFd A s j))] else unL A K s j
theorem unL_len (A : Ab) (K : Nat → Bool) (s : Nat) : ∀ j, (unL A K s j).length ≤ j := by
  intro j
  induction j with
  | zero => exact Nat.le_refl _
  | succ j ih =>
    simp only [unL]
    split
    · simp; exact ih
    · omega
theorem unL_fd (A : Ab) (K : Nat → Bool) (s : Nat) : ∀ j k, k < (unL A K s j).length → ∃ i, i < j ∧ ((unL A K s j).getD k rz).1 = aFd A s i := by
  intro j
  induction j with
  | zero => intro k hk; simp [unL] at hk
  | succ j ih =>
    intro k hk
    simp only [unL] at hk ⊢
    split at hk
    · rename_i e
      rw [if_pos e, getD_app]
      by_cases ek : k = (unL A K s j).length
      · rw [if_pos ek]; exact ⟨j, by omega, rfl⟩
      · rw [if_neg ek]
        obtain ⟨i, i1, i2⟩ := ih k (by simp at hk; omega)
        exact ⟨i, by omega, i2⟩
    · rename_i e
      rw [if_neg e]
      obtain ⟨i, i1, i2⟩ := ih k hk
      exact ⟨i, by omega, i2⟩
theorem unL_ok {A : Ab} (hO : OpsOK A) (hS : ShOK A) {K : Nat → Bool} (hB : ∀ f, f < 93 → Top A K f (bw A K f)) {s : Nat} (hs : s < aN A) : ∀ j, j ≤ aLen A s → rwsOK A (unL A K s j) := by
  intro j
  induction j with
  | zero => intro _; exact rwsOK_nil A
  | succ j ih =>
    intro hj
    have a := (hO.2.1 s hs).2.2.2
    have b := a.2 j (by omega)
    simp only [unL]
    split
    · have hl := unL_len A K s j
      refine rwsOK_app (ih (by omega)) (by omega) b.1 (vokn_mono (Nat.le_succ _) b.2.2.1) (vokn_mono (Nat.le_succ _) (BOK_bv hO hS hB _ b.1)) b.2.2.2.2.1 (bs_le hO (hB _ b.1)) (fun k hk => ?_)
      obtain ⟨i, i1, i2⟩ := unL_fd A K s j k hk
      rw [i2]
      exact b.2.2.2.2.2 i i1
    · exact ih (by omega)
theorem mxk_clA (A : Ab) (s u : Nat) : mxk (clA A s) u = mxk A u := by
  funext m
  induction m with
  | zero => rfl
  | succ m ih => simp only [mxk]; rw [ih]; rfl
theorem CR_clA {A : Ab} {σ τ : St} (hC : CR A σ) (s : Nat) (hU : ∀ c o, ¬ (c = 102 ∧ o = 0) → τ.1 c o = σ.1 c o) (hF : τ.2.1 = σ.2.1) (hR : τ.2.2 = σ.2.2) (h2 : ∀ o, gI τ 102 0 o = if o = s then ij 0 else gI σ 102 0 o) : CR (clA A s) τ := by
  obtain ⟨c1, c2, c3, c4, c5⟩ := hC
  have hI : ∀ c o, c ≠ 102 → gI τ c o = gI σ c o := fun c o hc => hU c o (fun q => hc q.1)
  have hG : ∀ c o, gF τ c o = gF σ c o := fun c o => by unfold gF; rw [hF]
  refine ⟨PtC_cg c1 (fun c hc => hI c 0 (by omega)), ?_, TmC_cg c3 (hI 105 0 (by omega)), fun v hv => ⟨?_, ?_⟩, RfC_cg c5 (by rw [hR])⟩
  · obtain ⟨l1, l2, l3⟩ := c2
    have eo : off (clA A s) = off A := off_eq rfl
    unfold LgC
    rw [hI 1 0 (by omega), hI 100 0 (by omega), hI 101 0 (by omega), hI 103 0 (by omega), hI 104 0 (by omega), hI 106 0 (by omega), hG 107 0, hI 108 0 (by omega), hG 109 0, hI 110 0 (by omega), eo]
    refine ⟨l1, l2, fun o ho => ?_⟩
    have a := l3 o ho
    have es : aSt (clA A s) o = if o = s then 0 else aSt A o := by simp [aSt, clA]
    rw [h2, es]
    refine ⟨a.1, a.2.1, ?_, a.2.2.2.1, a.2.2.2.2.1, fun k hk => ?_⟩
    · by_cases e : o = s
      · rw [if_pos e, if_pos e]; rfl
      · rw [if_neg e, if_neg e]; exact a.2.2.1
    · have b := a.2.2.2.2.2 k hk
      refine ⟨b.1, b.2.1, b.2.2.1, fun h => ?_⟩
      by_cases e : o = s
      · rw [if_pos e] at h; omega
      · rw [if_neg e] at h; exact b.2.2.2 h
  · have q := UsC_cg (τ := τ) (c4 v hv).1 (hI 4 v (by omega)) (hI 123 v (by omega))
    unfold UsC at q ⊢
    rw [mxk_clA]
    exact q
  · rw [(clA_same A s).bd]
    exact BdC_cg (c4 v hv).2 (hG 120 v) (hI 121 v (by omega)) (hI 122 v (by omega))
section UN
variable {A : Ab} {N : Nat} {σ : St}
theorem BG_VW {u st : Nat} {L : List Rw} (hI : Inv0 A) (hu : u < 3) (h : BG A u st L σ) : VW A (bv A (kn A u)) u σ :=
  ⟨h.2.2.1, fun f hf => ((h.2.2.2.1 u hu).2 f hf).2.2.1, BOK_bv hI.1 hI.2.1 (fun f hf => ((h.2.2.2.1 u hu).2 f hf).1), hI.2.1⟩
theorem CR_VW {u : Nat} (hI : Inv0 A) (hu : u < 3) (h : CR A σ) : VW A (bv A (kn A u)) u σ :=
  ⟨h.1, fun f hf => ((h.2.2.2.1 u hu).2 f hf).2.2.1, BOK_bv hI.1 hI.2.1 (fun f hf => ((h.2.2.2.1 u hu).2 f hf).1), hI.2.1⟩
theorem f_undo (hI : Inv0 A) (hC : CR A σ) (hN : 1000000 ≤ N) (hn : aN A < 250) {u s : Nat} (hu : u < 3) (hs : s < aN A) (hst : aSt A s = 1) :
    ∃ τ, fX5_undo N σ u (ij s) = some (ij (unL A (kn A u) s (aLen A s)).length, τ) ∧ CR (stp (clA A s) u 0 (unL A (kn A u) s (aLen A s))) τ ∧ Un Tc σ τ ∧ Inv0 (stp (clA A s) u 0 (unL A (kn A u) s (aLen A s))) := by
  have hB := (hC.2.2.2.1 u hu).2
  have hO := hI.1
  have ao := hO.2.1 s hs
  have hL : rwsOK (clA A s) (unL A (kn A u) s (aLen A s)) := unL_ok hO hI.2.1 (fun f hf => (hB f hf).1) hs _ (Nat.le_refl _)
  have a := hC.2.1.2.2 s hs
  have hoff := off_le hO s (by omega)
  unfold fX5_undo
  have hcl : fX1_close N σ (ij s) = some (sI σ 102 0 s (ij 0)) := by
    unfold fX1_close
    simp (disch := omega) only [ij_l0, ij_l1, ij_l2, ij_l3, ij_l4, ij_l5, ij_l6, ij_l8, ij_l12, ij_l16, ij_l19, ij_l23, ij_l24, ij_l31, ij_l32, ij_l36, ij_l47, ij_l48, ij_l56, ij_l92, ij_l93, ij_l98, ij_l108, ij_l114, ij_l116, ij_l127, ij_l128, ij_l149, ij_l250, ij_l384, ij_l768, ij_l1000, ij_l1536, ij_l3000, ij_l1000000, ij_l1000003, ij_l1000000000, ij_neg, ij_add, ij_sub, ij_mul, ij_lt, ij_le, ij_eq, ij_nat, tn_nat, tn_12, tn_24, tn_36, tn_48, ck_in, ob_s, o2_s, vl_s, ox_l, ox_r, ck_tr, if_pos, if_neg, ij_nar]
    rfl
  rw [hcl, ob_s]
  generalize hσ1 : sI σ 102 0 s (ij 0) = σ1
  have hC1 : CR (clA A s) σ1 := by
    rw [← hσ1]
    exact CR_clA hC s (fun c o h => if_neg h) rfl rfl (fun o => by simp (disch := omega) only [gI_sI_eq])
  have hU1 : Un Tc σ σ1 := by rw [← hσ1]; exact Un.sI _ _ _ rfl
  obtain ⟨τ1, b1, b2, b3, b4, b5⟩ := f_begin (Inv0_clA hI s) hC1 hN hn hu (st := 0) (by omega)
  have b1' : fX5_begin N σ1 u 0 = some τ1 := b1
  have q109 : gF τ1 109 0 = gF σ 109 0 := by rw [b4, ← hσ1]; rfl
  have q110 : gI τ1 110 0 = gI σ 110 0 := by rw [b5, ← hσ1]; funext q; rw [gI_sI_ne (by omega)]
  rw [b1', ob_s]
  have lgs : ∀ (L : List Rw) (τ : St), LgC (opL (clA A s) u (mxk (clA A s) u (aN (clA A s)) + 1) 0 L) τ → gI τ 103 0 s = ij (off A s) ∧ gI τ 104 0 s = ij (off A s + aLen A s : Nat) ∧ ∀ k, k < aLen A s → gI τ 106 0 (off A s + k) = ij (aFd A s k) := by
    intro L τ h
    have eo : off (clA A s) = off A := off_eq rfl
    have hsn : s < aN (clA A s) := hs
    have l := h.2.2 s (by rw [opL_N]; omega)
    have e : ¬ s = aN (clA A s) := by omega
    rw [opL_off _ _ _ _ _ _ (Nat.le_of_lt hsn), opL_Len, if_neg e, eo] at l
    refine ⟨l.2.2.2.1, l.2.2.2.2.1, fun k hk => ?_⟩
    have l2 := (l.2.2.2.2.2 k hk).1
    rw [opL_Fd, if_neg e] at l2
    exact l2
  have g1 := lgs _ _ b2.1
  unfold fX1_endRowOf fX1_firstRowOf
  simp (disch := omega) only [ij_l0, ij_l1, ij_l2, ij_l3, ij_l4, ij_l5, ij_l6, ij_l8, ij_l12, ij_l16, ij_l19, ij_l23, ij_l24, ij_l31, ij_l32, ij_l36, ij_l47, ij_l48, ij_l56, ij_l92, ij_l93, ij_l98, ij_l108, ij_l114, ij_l116, ij_l127, ij_l128, ij_l149, ij_l250, ij_l384, ij_l768, ij_l1000, ij_l1536, ij_l3000, ij_l1000000, ij_l1000003, ij_l1000000000, ij_neg, ij_add, ij_sub, ij_mul, ij_lt, ij_le, ij_eq, ij_nat, tn_nat, tn_12, tn_24, tn_36, tn_48, ck_in, ob_s, o2_s, vl_s, ox_l, ox_r, ck_tr, if_pos, if_neg, g1.1, g1.2.1]
  obtain ⟨τ, e, hP, p109, p110, pU⟩ := lp_st (fun n j τ => fX5_undo_L34 (fun v16 _ σ17 => (ob (fX5_end N σ17 u) fun σ18 => (some (v16, σ18)))) N u (ij s) (ij (off A s + aLen A s : Nat)) n (ij (unL A (kn A u) s j).length) (ij (off A s + j : Nat)) τ)
    (fun j τ => BG (clA A s) u 0 (unL A (kn A u) s j) τ ∧ gF τ 109 0 = gF σ 109 0 ∧ gI τ 110 0 = gI σ 110 0 ∧ Un Tc σ τ)
    (Nat.zero_le (aLen A s)) (fun n j τ _ hj hP => by
      obtain ⟨hP, p109, p110, pU⟩ := hP
      have g2 := (lgs _ _ hP.1).2.2 j hj
      have ar := a.2.2.2.2.2 j hj
      have ar4 := ar.2.2.2 hst
      have aor := ao.2.2.2.2 j hj
      have hb := (hP.2.2.2.1 u hu).2 (aFd A s j) aor.1
      have hbs : bs (clA A s) (kn (clA A s) u) (aFd A s j) = bs A (kn A u) (aFd A s j) := by rw [(clA_same A s).bv_.2]; rfl
      have hbv : bv (clA A s) (kn (clA A s) u) (aFd A s j) = bv A (kn A u) (aFd A s j) := by rw [(clA_same A s).bv_.1]; rfl
      have hb4 := hb.2.2.2
      rw [hbs] at hb4
      have hbl := bs_le hO (hB (aFd A s j) aor.1).1
      have hlen := unL_len A (kn A u) s j
      have i1 : fX7_intAt N τ 106 0 3000 (ij (off A s + j : Nat)) (ij (-1)) = some (ij (aFd A s j)) := by
        rw [f_intAt (by omega) (by omega) (by omega), tn_nat, g2]
      have i2 : fX0_stemAt N τ u (ij (aFd A s j)) = some (ij ((bs A (kn A u) (aFd A s j) : Int) - 1)) := by
        unfold fX0_stemAt
        simp (disch := omega) only [ij_l0, ij_l1, ij_l2, ij_l3, ij_l4, ij_l5, ij_l6, ij_l8, ij_l12, ij_l16, ij_l19, ij_l23, ij_l24, ij_l31, ij_l32, ij_l36, ij_l47, ij_l48, ij_l56, ij_l92, ij_l93, ij_l98, ij_l108, ij_l114, ij_l116, ij_l127, ij_l128, ij_l149, ij_l250, ij_l384, ij_l768, ij_l1000, ij_l1536, ij_l3000, ij_l1000000, ij_l1000003, ij_l1000000000, ij_neg, ij_add, ij_sub, ij_mul, ij_lt, ij_le, ij_eq, ij_nat, tn_nat, tn_12, tn_24, tn_36, tn_48, ck_in, ob_s, o2_s, vl_s, ox_l, ox_r, ck_tr, if_pos, if_neg, hb4]
      have i3 : fX7_floatAt N τ 109 0 3000 (ij (off A s + j : Nat)) = some (cvF (aFd A s j) (aOv A s j)) := by
        rw [f_floatAt (by omega) (by omega) (by omega), tn_nat, p109, ar4.1]
      have i4 : fX7_intAt N τ 110 0 3000 (ij (off A s + j : Nat)) (ij (-1)) = some (ij ((aOs A s j : Int) - 1)) := by
        rw [f_intAt (by omega) (by omega) (by omega), tn_nat, p110, ar4.2]
      have hc1 : ij (off A s + j : Nat) + ij 1 = ij (off A s + (j + 1) : Nat) := by rw [ij_add]; rfl
      simp only [fX5_undo_L34]
      rw [if_neg (by simp (disch := omega) only [ij_le]; omega)]
      simp only [ij_l0, ij_l1, ij_neg]
      rw [i1, ob_s, i2, ob_s]
      simp (disch := omega) only [ij_eq, vl_s, hc1]
      by_cases e1 : bs A (kn A u) (aFd A s j) = s + 1
      · rw [if_pos (by omega), i3, ob_s, i4, ob_s]
        obtain ⟨τ', d1, d2, d3, d4⟩ := f_addU (Inv0_clA hI s).1 hn hP.1 (N := N) (by omega) (aFd A s j) (aOv A s j) (aOs A s j) (bv A (kn A u) (aFd A s j)) (bs A (kn A u) (aFd A s j))
        rw [d1, ob_s]
        have hun : unL A (kn A u) s (j + 1) = unL A (kn A u) s j ++ [(aFd A s j, aOv A s j, aOs A s j, bv A (kn A u) (aFd A s j), bs A (kn A u) (aFd A s j))] := by simp only [unL]; rw [if_pos e1]
        rw [hun]
        refine ⟨τ', ?_, BG_un hP (To_Tl d3) d2 d4, ?_, ?_, pU.tr (Tl_Tc (To_Tl d3))⟩
        · rw [List.length_append]
          simp only [ij_add]
          rfl
        · rw [d3.F 109 0 rfl]; exact p109
        · rw [d3.I 110 0 rfl]; exact p110
      · have hun : unL A (kn A u) s (j + 1) = unL A (kn A u) s j := by simp only [unL]; rw [if_neg e1]
        rw [if_neg (by omega), hun]
        exact ⟨τ, rfl, hP, p109, p110, pU⟩)
    N τ1 (by omega) ⟨b2, q109, q110, hU1.tr b3⟩
  obtain ⟨τ3, d1, d2, d3⟩ := f_end (Inv0_clA hI s) hN hn hu (by omega) hL hP
  have e0 : N - (aLen A s - 0) = (N - aLen A s - 1) + 1 := by omega
  rw [e0] at e
  simp only [fX5_undo_L34] at e
  rw [if_pos (by simp (disch := omega) only [ij_le]; omega), d1, ob_s] at e
  exact ⟨τ3, e, d2, pU.tr (Tu_Tc d3), Inv0_stp (Inv0_clA hI s) hn hu (by omega) hL⟩
/-- the rows of a move -/
noncomputable def cyL (A : Ab) (K : Nat → Bool) (u sh cell : Nat) : Nat → List Rw
  | 0 => []
  | j + 1 => if j = sh ∨ (aFr A sh = 1 ∧ crd A (bv A K) u sh j = true) then cyL A K u sh cell j ++ [(12 + j, bv A K (12 + j) + cell - bv A K (12 + sh), aN A + 1, bv A K (12 + j), bs A K (12 + j))] else cyL A K u sh cell j
theorem cyL_len (A : Ab) (K : Nat → Bool) (u sh cell : Nat) : ∀ j, (cyL A K u sh cell j).length ≤ j := by
  intro j
  induction j with
  | zero => exact Nat.le_refl _
  | succ j ih =>
    simp only [cyL]
    split
    · simp; exact ih
    · omega
theorem cyL_fd (A : Ab) (K : Nat → Bool) (u sh cell : Nat) : ∀ j k, k < (cyL A K u sh cell j).length → ((cyL A K u sh cell j).getD k rz).1 < 12 + j := by
  intro j
  induction j with
  | zero => intro k hk; simp [cyL] at hk
  | succ j ih =>
    intro k hk
    simp only [cyL] at hk ⊢
    split at hk
    · rename_i e
      rw [if_pos e, getD_app]
      by_cases ek : k = (cyL A K u sh cell j).length
      · rw [if_pos ek]; show 12 + j < _; omega
      · rw [if_neg ek]
        have := ih k (by simp at hk; omega)
        omega
    · rename_i e
      rw [if_neg e]
      have := ih k hk
      omega
/-- where a shape comes to that is moved along -/
theorem cy_pos {A : Ab} {β : Nat → Nat} (hS : ShOK A) (hb : BOK A β) {u sh cell j : Nat} (hsh : sn A β sh = true) (hc : cell < 384) (hw : cell % 24 + aW A sh ≤ 24) (hh : cell / 24 + aH A sh ≤ 16) (hj : j = sh ∨ (aFr A sh = 1 ∧ crd A β u sh j = true)) :
    β (12 + sh) ≤ β (12 + j) + cell ∧ vok A (12 + j) (β (12 + j) + cell - β (12 + sh)) ∧ j < 12 ∧ (β (12 + j) + cell - β (12 + sh)) % 24 + cl β sh = cl β j + cell % 24 ∧ (β (12 + j) + cell - β (12 + sh)) / 24 + rwv β sh = rwv β j + cell / 24 ∧ sn A β j = true := by
  have l1 := hS.1
  have ls := sn_lt hsh
  have hq : sn A β j = true ∧ cl β sh ≤ cl β j ∧ rwv β sh ≤ rwv β j ∧ cl β j + aW A j ≤ cl β sh + aW A sh ∧ rwv β j + aH A j ≤ rwv β sh + aH A sh := by
    rcases hj with rfl | ⟨_, h⟩
    · exact ⟨hsh, by omega, by omega, by omega, by omega⟩
    · unfold crd ins at h
      simp at h
      exact ⟨h.1.1, h.1.2⟩
  have lj := sn_lt hq.1
  have w1 := (hS.2.2.1 j).1 lj
  have p1 := (hb (12 + sh) (by omega)).2.1 (by omega) (by omega)
  have p2 := (hb (12 + j) (by omega)).2.1 (by omega) (by omega)
  rw [show 12 + sh - 12 = sh by omega] at p1
  rw [show 12 + j - 12 = j by omega] at p2
  unfold cl rwv at hq ⊢
  obtain ⟨q0, q1, q2, q3, q4⟩ := hq
  have key : β (12 + sh) ≤ β (12 + j) + cell ∧ (β (12 + j) + cell - β (12 + sh)) = 24 * (β (12 + j) / 24 + cell / 24 - β (12 + sh) / 24) + (β (12 + j) % 24 + cell % 24 - β (12 + sh) % 24) := by omega
  refine ⟨key.1, ⟨fun h => by omega, fun _ _ => ?_, fun h1 h2 => by omega, fun h1 h2 => by omega, fun h1 h2 => by omega, fun h1 h2 => by omega, fun h => by omega⟩, by omega, by omega, by omega, q0⟩
  rw [show 12 + j - 12 = j by omega]
  omega
theorem cyL_ok (hI : Inv0 A) (hn : aN A < 250) {K : Nat → Bool} (hB : ∀ f, f < 93 → Top A K f (bw A K f)) {u sh cell : Nat} (hsh : sn A (bv A K) sh = true) (hc : cell < 384) (hw : cell % 24 + aW A sh ≤ 24) (hh : cell / 24 + aH A sh ≤ 16) : ∀ j, j ≤ 12 → rwsOK A (cyL A K u sh cell j) := by
  intro j
  induction j with
  | zero => intro _; exact rwsOK_nil A
  | succ j ih =>
    intro hj
    have hb := BOK_bv hI.1 hI.2.1 hB
    simp only [cyL]
    split
    · rename_i e
      have hl := cyL_len A K u sh cell j
      have p := cy_pos hI.2.1 hb hsh hc hw hh e
      refine rwsOK_app (ih (by omega)) (by omega) (by show 12 + j < 93; omega) (vokn_mono (Nat.le_succ _) p.2.1) (vokn_mono (Nat.le_succ _) (hb _ (by show 12 + j < 93; omega))) (by show aN A + 1 ≤ 250; omega) (bs_le hI.1 (hB _ (by show 12 + j < 93; omega))) (fun k hk => ?_)
      have := cyL_fd A K u sh cell j k hk
      show _ ≠ 12 + j
      omega
    · exact ih (by omega)
theorem f_carry (hI : Inv0 A) (hC : CR A σ) (hN : 1000000 ≤ N) (hn : aN A < 250) {u sh cell : Nat} (hu : u < 3) (hsh : sn A (bv A (kn A u)) sh = true) (hc : cell < 384) (hw : cell % 24 + aW A sh ≤ 24) (hh : cell / 24 + aH A sh ≤ 16) :
    ∃ τ, fX7_carry N σ u (ij sh) (ij cell) = some (ij (cyL A (kn A u) u sh cell 12).length, τ) ∧ CR (stp A u 1 (cyL A (kn A u) u sh cell 12)) τ ∧ Un Tc σ τ ∧ Inv0 (stp A u 1 (cyL A (kn A u) u sh cell 12)) := by
  have hB := (hC.2.2.2.1 u hu).2
  have hS := hI.2.1
  have l1 := hS.1
  have ls := sn_lt hsh
  have hb := BOK_bv hI.1 hS (fun f hf => (hB f hf).1)
  have hL := cyL_ok (u := u) hI hn (fun f hf => (hB f hf).1) hsh hc hw hh 12 (by omega)
  have p1 := (hb (12 + sh) (by omega)).2.1 (by omega) (by omega)
  obtain ⟨τ1, a1, a2, a3, _⟩ := f_begin hI hC hN hn hu (st := 1) (by omega)
  have a1' : fX5_begin N σ u 1 = some τ1 := a1
  unfold fX7_carry
  rw [f_cellUnder (CR_VW hI hu hC) (by omega), ob_s, a1']
  simp only [vl_s, ij_sub, ob_s]
  obtain ⟨τ, e, hP, pU⟩ := lp_st (fun n j τ => fX7_carry_L27 (fun v19 _ σ20 => (ob (fX5_end N σ20 u) fun σ21 => (some (v19, σ21)))) N u (ij sh) (ij ((cell : Int) - bv A (kn A u) (12 + sh))) n (ij (cyL A (kn A u) u sh cell j).length) (ij j) τ)
    (fun j τ => BG A u 1 (cyL A (kn A u) u sh cell j) τ ∧ Un Tc σ τ) (Nat.zero_le 12) (fun n j τ _ hj hP => by
      obtain ⟨hP, pU⟩ := hP
      have hV := BG_VW hI hu hP
      have hlen := cyL_len A (kn A u) u sh cell j
      have hcu := f_cellUnder (N := N) hV hj
      have hcr := f_isCarried (N := N) hV hu ls hj
      have hfr := f_isFrameAt (N := N) hP.2.2.1 hS ls
      have hf1 := (hS.2.2.1 sh).2.2.2
      have e1 : nI u = ij u := ij_ofn u
      have hj1 : ij (j : Int) + ij 1 = ij ((j + 1 : Nat) : Int) := by rw [ij_add]; rfl
      have hwr : (j = sh ∨ (aFr A sh = 1 ∧ crd A (bv A (kn A u)) u sh j = true)) → ∃ τ', fX5_write N τ u (ij 12 + ij j) (FP.i2f (ij (bv A (kn A u) (12 + j) : Nat) + ij ((cell : Int) - bv A (kn A u) (12 + sh)))) = some τ' ∧ BG A u 1 (cyL A (kn A u) u sh cell (j + 1)) τ' ∧ Un Tc σ τ' := by
        intro hq
        have p := cy_pos hS hb hsh hc hw hh hq
        obtain ⟨τ', d1, d2, d3⟩ := f_wr hI hN hn hu hP (by omega) (f := 12 + j) (v := bv A (kn A u) (12 + j) + cell - bv A (kn A u) (12 + sh)) (by omega)
        refine ⟨τ', ?_, ?_, pU.tr (Tl_Tc d3)⟩
        · rw [cvF_n _ (by omega)] at d1
          rw [ij_add, ij_add]
          rw [show ((bv A (kn A u) (12 + j) : Nat) : Int) + ((cell : Int) - bv A (kn A u) (12 + sh)) = ((bv A (kn A u) (12 + j) + cell - bv A (kn A u) (12 + sh) : Nat) : Int) by omega, show (12 : Int) + j = ((12 + j : Nat) : Int) by omega]
          exact d1
        · simp only [cyL]
          rw [if_pos hq]
          exact d2
      have hyes : (j = sh ∨ (aFr A sh = 1 ∧ crd A (bv A (kn A u)) u sh j = true)) → (cyL A (kn A u) u sh cell (j + 1)).length = (cyL A (kn A u) u sh cell j).length + 1 := fun hq => by simp only [cyL]; rw [if_pos hq]; simp
      simp only [fX7_carry_L27]
      rw [hcu, e1, hcr, hfr]
      by_cases q1 : j = sh
      · obtain ⟨τ', d1, d2, d3⟩ := hwr (Or.inl q1)
        refine ⟨τ', ?_, d2, d3⟩
        rw [hyes (Or.inl q1)]
        have q2 : (j : Int) = sh := by omega
        simp (disch := omega) only [ij_l0, ij_l1, ij_l12, ij_le, ij_eq, if_neg, if_pos, ob_s, vl_s, hj1]
        rw [d1, ob_s, ij_add]
        rfl
      · have q2 : ¬ (j : Int) = sh := by omega
        by_cases q3 : aFr A sh = 1
        · by_cases q4 : crd A (bv A (kn A u)) u sh j = true
          · obtain ⟨τ', d1, d2, d3⟩ := hwr (Or.inr ⟨q3, q4⟩)
            refine ⟨τ', ?_, d2, d3⟩
            rw [hyes (Or.inr ⟨q3, q4⟩)]
            simp (disch := omega) only [ij_l0, ij_l1, ij_l12, ij_le, ij_eq, if_neg, if_pos, ob_s, vl_s, hj1, bi_z, q3, q4, decide_true, Bool.true_eq_false, if_false]
            rw [d1, ob_s, ij_add]
            rfl
          · have q4' : crd A (bv A (kn A u)) u sh j = false := by simpa using q4
            have hno : cyL A (kn A u) u sh cell (j + 1) = cyL A (kn A u) u sh cell j := by simp only [cyL]; rw [if_neg (fun q => q.elim q1 (fun z => q4 z.2))]
            refine ⟨τ, ?_, by rw [hno]; exact hP, pU⟩
            rw [hno]
            simp (disch := omega) only [ij_l0, ij_l1, ij_l12, ij_le, ij_eq, if_neg, if_pos, ob_s, vl_s, hj1, bi_z, q3, q4', decide_true, Bool.true_eq_false, if_false, if_true]
        · have q3' : decide (aFr A sh = 1) = false := by simpa using q3
          have hno : cyL A (kn A u) u sh cell (j + 1) = cyL A (kn A u) u sh cell j := by simp only [cyL]; rw [if_neg (fun q => q.elim q1 (fun z => q3 z.1))]
          refine ⟨τ, ?_, by rw [hno]; exact hP, pU⟩
          rw [hno]
          simp (disch := omega) only [ij_l0, ij_l1, ij_l12, ij_le, ij_eq, if_neg, if_pos, ob_s, vl_s, hj1, bi_z, q3', if_true])
    N τ1 (by omega) ⟨a2, a3⟩
  obtain ⟨τ3, d1, d2, d3⟩ := f_end hI hN hn hu (by omega) hL hP
  have e0 : N - (12 - 0) = (N - 12 - 1) + 1 := by omega
  rw [e0] at e
  simp only [fX7_carry_L27] at e
  rw [if_pos (show (12 : Int32) ≤ ij ((12 : Nat) : Int) by decide), d1, ob_s] at e
  exact ⟨τ3, e, d2, pU.tr (Tu_Tc d3), Inv0_stp hI hn hu (by omega) hL⟩
end UN
