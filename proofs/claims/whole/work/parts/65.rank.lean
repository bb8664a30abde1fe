/-! Ranks: the first and the last of the shapes that are seen. -/
section RK
variable {A : Ab} {β : Nat → Nat} {o N : Nat} {σ : St}
theorem blw_iff (β : Nat → Nat) (s t : Nat) : blw β s t = true ↔ fk (ky β s) < fk (ky β t) ∨ (fk (ky β s) = fk (ky β t) ∧ s < t) := by
  unfold blw; simp
theorem blw_irr (β : Nat → Nat) (s : Nat) : blw β s s = false := by
  rw [← Bool.not_eq_true, blw_iff]; omega
theorem blw_tot (β : Nat → Nat) {s t : Nat} (h : s ≠ t) : blw β s t = true ∨ blw β t s = true := by
  rw [blw_iff, blw_iff]; omega
theorem blw_tr {β : Nat → Nat} {s t u : Nat} (h : blw β s t = true) (g : blw β t u = true) : blw β s u = true := by
  rw [blw_iff] at h g ⊢; omega
theorem blw_as {β : Nat → Nat} {s t : Nat} (h : blw β s t = true) : blw β t s = false := by
  rw [← Bool.not_eq_true]
  rw [blw_iff] at h ⊢; omega
theorem sn_lt {s : Nat} (h : sn A β s = true) : s < aSh A := by
  unfold sn at h; simp at h; exact h.1
theorem rk_lt {s : Nat} (hS : ShOK A) (h : sn A β s = true) : rk A β s + 1 ≤ ct (sn A β) 12 := ct_lt (Nat.lt_of_lt_of_le (sn_lt h) hS.1) h (blw_irr β s)
theorem ct_lt2 {p q : Nat → Bool} {n s t : Nat} (hst : s < t) (ht : t < n) (h1 : p s = true) (h2 : q s = false) (h3 : p t = true) (h4 : q t = false) : ct (fun t => p t && q t) n + 2 ≤ ct p n := by
  induction n with
  | zero => omega
  | succ n ih =>
    simp only [ct]
    by_cases e : t = n
    · subst e
      have h5 := ct_lt (p := p) (q := q) hst h1 h2
      simp [h3, h4]
      omega
    · have h5 := ih (by omega)
      by_cases e1 : p n = true <;> by_cases e2 : q n = true <;> simp [e1, e2] <;> omega
/-- the shape with the greatest rank is above all others -/
theorem rk_top {s : Nat} (hS : ShOK A) (h : sn A β s = true) (hr : rk A β s + 1 = ct (sn A β) 12) : ∀ t, sn A β t = true → t = s ∨ blw β t s = true := by
  intro t ht
  by_cases e : t = s
  · exact Or.inl e
  · refine Or.inr ?_
    rcases Bool.eq_false_or_eq_true (blw β t s) with q | q
    · exact q
    · have l1 := Nat.lt_of_lt_of_le (sn_lt h) hS.1
      have l2 := Nat.lt_of_lt_of_le (sn_lt ht) hS.1
      have h0 : ct (fun t => sn A β t && blw β t s) 12 + 2 ≤ ct (sn A β) 12 := by
        rcases Nat.lt_or_gt_of_ne e with g | g
        · exact ct_lt2 g l1 ht q h (blw_irr β s)
        · exact ct_lt2 g l2 h (blw_irr β s) ht q
      have h1 : ct (fun t => sn A β t && blw β t s) 12 = rk A β s := rfl
      omega
theorem rk_bot {s : Nat} (hS : ShOK A) (hr : rk A β s = 0) : ∀ t, sn A β t = true → t = s ∨ blw β s t = true := by
  intro t ht
  by_cases e : t = s
  · exact Or.inl e
  · refine Or.inr ?_
    rcases blw_tot β (s := s) (t := t) (fun q => e q.symm) with q | q
    · exact q
    · have h0 : ∀ n, t < n → 0 < ct (fun t => sn A β t && blw β t s) n := by
        intro n hn
        induction n with
        | zero => omega
        | succ n ih =>
          simp only [ct]
          by_cases e2 : t = n
          · subst e2; simp [ht, q]
          · have := ih (by omega); omega
      have := h0 12 (Nat.lt_of_lt_of_le (sn_lt ht) hS.1)
      have h1 : ct (fun t => sn A β t && blw β t s) 12 = rk A β s := rfl
      omega
/-- of two shapes the one below has the lower rank -/
theorem rk_mono {s t : Nat} (hS : ShOK A) (hs : sn A β s = true) (h : blw β s t = true) : rk A β s < rk A β t := by
  have l1 := Nat.lt_of_lt_of_le (sn_lt hs) hS.1
  have e : ∀ n, ct (fun x => sn A β x && blw β x s) n = ct (fun x => (sn A β x && blw β x t) && blw β x s) n := fun n => ct_congr (fun k _ => by
    cases e1 : sn A β k
    · rfl
    · cases e2 : blw β k s
      · simp
      · simp [blw_tr e2 h])
  have h2 := ct_lt (p := fun x => sn A β x && blw β x t) (q := fun x => blw β x s) l1 (by simp [hs, h]) (blw_irr β s)
  rw [← e] at h2
  exact h2
theorem rk_iff {s t : Nat} (hS : ShOK A) (hs : sn A β s = true) (ht : sn A β t = true) : rk A β s < rk A β t ↔ blw β s t = true := by
  constructor
  · intro h
    by_cases e : s = t
    · subst e; omega
    · rcases blw_tot β e with q | q
      · exact q
      · have := rk_mono hS ht q; omega
  · exact rk_mono hS hs
/-- there is a shape above all others, if any is seen -/
theorem mx_ex (A : Ab) (β : Nat → Nat) : ∀ n, (∀ t, t < n → sn A β t = false) ∨ (∃ s, s < n ∧ sn A β s = true ∧ ∀ t, t < n → sn A β t = true → t = s ∨ blw β t s = true) := by
  intro n
  induction n with
  | zero => exact Or.inl (fun t h => by omega)
  | succ n ih =>
    cases e : sn A β n with
    | false =>
      rcases ih with h | ⟨s, h1, h2, h3⟩
      · refine Or.inl (fun t ht => ?_)
        by_cases q : t = n
        · rw [q]; exact e
        · exact h t (by omega)
      · refine Or.inr ⟨s, by omega, h2, fun t ht g => ?_⟩
        by_cases q : t = n
        · rw [q, e] at g; cases g
        · exact h3 t (by omega) g
    | true =>
      rcases ih with h | ⟨s, h1, h2, h3⟩
      · refine Or.inr ⟨n, by omega, e, fun t ht g => ?_⟩
        by_cases q : t = n
        · exact Or.inl q
        · rw [h t (by omega)] at g; cases g
      · rcases blw_tot β (s := s) (t := n) (by omega) with q | q
        · refine Or.inr ⟨n, by omega, e, fun t ht g => ?_⟩
          by_cases z : t = n
          · exact Or.inl z
          · rcases h3 t (by omega) g with w | w
            · rw [w]; exact Or.inr q
            · exact Or.inr (blw_tr w q)
        · refine Or.inr ⟨s, by omega, h2, fun t ht g => ?_⟩
          by_cases z : t = n
          · rw [z]; exact Or.inr q
          · exact h3 t (by omega) g
theorem rk_of_top {s : Nat} (hS : ShOK A) (h : sn A β s = true) (hs : ∀ t, sn A β t = true → t = s ∨ blw β t s = true) : rk A β s + 1 = ct (sn A β) 12 := by
  have l1 := Nat.lt_of_lt_of_le (sn_lt h) hS.1
  have key : ∀ n, s < n → ct (fun t => sn A β t && blw β t s) n + 1 = ct (sn A β) n := by
    intro n hn
    induction n with
    | zero => omega
    | succ n ih =>
      simp only [ct]
      by_cases e : s = n
      · subst e
        have h2 : ct (fun t => sn A β t && blw β t s) s = ct (sn A β) s := ct_congr (fun k hk => by
          cases e1 : sn A β k
          · rfl
          · rcases hs k e1 with q | q
            · omega
            · rw [q]; rfl)
        simp [h2, h, blw_irr]
      · rw [← ih (by omega)]
        by_cases e1 : sn A β n = true
        · rcases hs n e1 with q | q
          · omega
          · simp [q, e1]
        · simp [e1]
  exact key 12 l1
theorem ct_pos {p : Nat → Bool} {n : Nat} : (∀ t, t < n → p t = false) ∨ 0 < ct p n := by
  induction n with
  | zero => exact Or.inl (fun t h => by omega)
  | succ n ih =>
    simp only [ct]
    by_cases e : p n = true
    · right; simp [e]
    · rcases ih with h | h
      · refine Or.inl (fun t ht => ?_)
        by_cases q : t = n
        · rw [q]; exact Bool.not_eq_true _ ▸ e
        · exact h t (by omega)
      · right; omega
theorem ct_none {p : Nat → Bool} {n : Nat} (h : ∀ t, t < n → p t = false) : ct p n = 0 := by
  induction n with
  | zero => rfl
  | succ n ih => simp only [ct]; rw [ih (fun t ht => h t (by omega)), h n (by omega)]; rfl
/-- a shape whose key is the greatest (lowest) that is seen -/
def IsHi (A : Ab) (β : Nat → Nat) (s : Nat) : Prop := sn A β s = true ∧ ∀ t, sn A β t = true → fk (ky β t) ≤ fk (ky β s)
def IsLo (A : Ab) (β : Nat → Nat) (s : Nat) : Prop := sn A β s = true ∧ ∀ t, sn A β t = true → fk (ky β s) ≤ fk (ky β t)
noncomputable def hi_ (A : Ab) (β : Nat → Nat) : Nat := Classical.epsilon (IsHi A β)
noncomputable def lo_ (A : Ab) (β : Nat → Nat) : Nat := Classical.epsilon (IsLo A β)
theorem fadd_same {a b : UInt32} (h : fk a = fk b) : FP.fadd a 1065353216 = FP.fadd b 1065353216 := by
  rcases fk_same h with e | ⟨e1 | e1, e2 | e2⟩
  · rw [e]
  · rw [e1, e2]
  · rw [e1, e2]; decide +kernel
  · rw [e1, e2]; decide +kernel
  · rw [e1, e2]
theorem fsub_same {a b : UInt32} (h : fk a = fk b) : FP.fsub a 1065353216 = FP.fsub b 1065353216 := by
  rcases fk_same h with e | ⟨e1 | e1, e2 | e2⟩
  · rw [e]
  · rw [e1, e2]
  · rw [e1, e2]; decide +kernel
  · rw [e1, e2]; decide +kernel
  · rw [e1, e2]
theorem hi_add {s : Nat} (h : IsHi A β s) : FP.fadd (ky β s) 1065353216 = FP.fadd (ky β (hi_ A β)) 1065353216 := by
  have g : IsHi A β (hi_ A β) := Classical.epsilon_spec ⟨s, h⟩
  refine fadd_same ?_
  have h1 := h.2 _ g.1
  have h2 := g.2 _ h.1
  omega
theorem lo_sub {s : Nat} (h : IsLo A β s) : FP.fsub (ky β s) 1065353216 = FP.fsub (ky β (lo_ A β)) 1065353216 := by
  have g : IsLo A β (lo_ A β) := Classical.epsilon_spec ⟨s, h⟩
  refine fsub_same ?_
  have h1 := h.2 _ g.1
  have h2 := g.2 _ h.1
  omega
theorem hi_sn {s : Nat} (h : IsHi A β s) : sn A β (hi_ A β) = true := (Classical.epsilon_spec (p := IsHi A β) ⟨s, h⟩).1
theorem lo_sn {s : Nat} (h : IsLo A β s) : sn A β (lo_ A β) = true := (Classical.epsilon_spec (p := IsLo A β) ⟨s, h⟩).1
theorem f_shapeWithRank (h : VW A β o σ) (hN : 100 ≤ N) {r : Int} (h1 : -2147483648 ≤ r) (h2 : r < 2147483648) : fX6_shapeWithRank N σ o (ij r) = some (ij (ff (fun s => sn A β s && decide ((rk A β s : Int) = r)) 12 0)) := by
  unfold fX6_shapeWithRank
  refine lp_ff (fun n j => fX6_shapeWithRank_L2 (fun _ => some (-1)) N σ o (ij r) n (ij j)) _ (fun z => some (ij z)) (b := 12) (fun n j hj => ?_) (fun n => ?_) N (by omega)
  · have hr : rk A β j ≤ 12 := ct_le _ _
    simp only [fX6_shapeWithRank_L2]
    rw [f_seen h hj, f_rankAt h hN hj]
    simp (disch := omega) only [ij_l0, ij_l1, ij_l2, ij_l3, ij_l4, ij_l5, ij_l6, ij_l8, ij_l12, ij_l16, ij_l19, ij_l23, ij_l24, ij_l31, ij_l32, ij_l36, ij_l47, ij_l48, ij_l56, ij_l92, ij_l93, ij_l98, ij_l108, ij_l114, ij_l116, ij_l127, ij_l128, ij_l149, ij_l250, ij_l384, ij_l768, ij_l1000, ij_l1536, ij_l3000, ij_l1000000, ij_l1000003, ij_l1000000000, ij_neg, ij_add, ij_sub, ij_mul, ij_lt, ij_le, ij_eq, ij_nat, tn_nat, tn_12, tn_24, tn_36, tn_48, ck_in, ob_s, o2_s, vl_s, ox_l, ox_r, ck_tr, if_pos, if_neg, bi_z]
    by_cases e : sn A β j = true
    · by_cases e2 : (rk A β j : Int) = r <;> simp [e, e2]
    · simp [e]
  · simp only [fX6_shapeWithRank_L2]
    simp (disch := omega) only [ij_l0, ij_l1, ij_l2, ij_l3, ij_l4, ij_l5, ij_l6, ij_l8, ij_l12, ij_l16, ij_l19, ij_l23, ij_l24, ij_l31, ij_l32, ij_l36, ij_l47, ij_l48, ij_l56, ij_l92, ij_l93, ij_l98, ij_l108, ij_l114, ij_l116, ij_l127, ij_l128, ij_l149, ij_l250, ij_l384, ij_l768, ij_l1000, ij_l1536, ij_l3000, ij_l1000000, ij_l1000003, ij_l1000000000, ij_neg, ij_add, ij_sub, ij_mul, ij_lt, ij_le, ij_eq, ij_nat, tn_nat, tn_12, tn_24, tn_36, tn_48, ck_in, ob_s, o2_s, vl_s, ox_l, ox_r, ck_tr, if_pos, if_neg]
theorem f_greatestKey (h : VW A β o σ) (hN : 100 ≤ N) : (ct (sn A β) 12 = 0 ∧ (∀ t, sn A β t = false) ∧ fX6_greatestKey N σ o = some 0) ∨ (∃ s, s < 12 ∧ 0 < ct (sn A β) 12 ∧ IsHi A β s ∧ fX6_greatestKey N σ o = some (ky β s)) := by
  have hS := h.2.2.2
  have hc := ct_le (sn A β) 12
  unfold fX6_greatestKey
  rw [f_countShapes h hN]
  simp only [ob_s, ij_l0, ij_l1, ij_l2, ij_l3, ij_l4, ij_l5, ij_l6, ij_l8, ij_l12, ij_l16, ij_l19, ij_l23, ij_l24, ij_l31, ij_l32, ij_l36, ij_l47, ij_l48, ij_l56, ij_l92, ij_l93, ij_l98, ij_l108, ij_l114, ij_l116, ij_l127, ij_l128, ij_l149, ij_l250, ij_l384, ij_l768, ij_l1000, ij_l1536, ij_l3000, ij_l1000000, ij_l1000003, ij_l1000000000, ij_neg, ij_add, ij_sub, ij_mul]
  rw [f_shapeWithRank h hN (by omega) (by omega)]
  simp only [ob_s]
  rcases mx_ex A β 12 with g | ⟨s, g1, g2, g3⟩
  · left
    have g0 : ∀ t, sn A β t = false := fun t => by
      by_cases q : t < 12
      · exact g t q
      · rw [← Bool.not_eq_true]; intro z; have := sn_lt z; have := hS.1; omega
    refine ⟨ct_none g, g0, ?_⟩
    rcases ff_spec (fun s => sn A β s && decide ((rk A β s : Int) = (ct (sn A β) 12 : Int) - 1)) 12 0 with ⟨e, _⟩ | ⟨k, _, _, _, e, _⟩
    · rw [e]; rfl
    · simp [g0] at e
  · right
    have g3' : ∀ t, sn A β t = true → t = s ∨ blw β t s = true := fun t ht => g3 t (Nat.lt_of_lt_of_le (sn_lt ht) hS.1) ht
    have g4 := rk_of_top hS g2 g3'
    rcases ff_spec (fun s => sn A β s && decide ((rk A β s : Int) = (ct (sn A β) 12 : Int) - 1)) 12 0 with ⟨_, e⟩ | ⟨k, e1, _, e2, e3, _⟩
    · have := e s (Nat.zero_le _) (by omega)
      simp [g2] at this
      omega
    · simp at e3
      have g5 := rk_top hS e3.1 (by omega)
      refine ⟨k, by omega, by omega, ⟨e3.1, fun t ht => ?_⟩, ?_⟩
      · rcases g5 t ht with q | q
        · rw [q]; exact Int.le_refl _
        · rw [blw_iff] at q; omega
      · rw [e1]
        simp (disch := omega) only [ij_l0, ij_l1, ij_l2, ij_l3, ij_l4, ij_l5, ij_l6, ij_l8, ij_l12, ij_l16, ij_l19, ij_l23, ij_l24, ij_l31, ij_l32, ij_l36, ij_l47, ij_l48, ij_l56, ij_l92, ij_l93, ij_l98, ij_l108, ij_l114, ij_l116, ij_l127, ij_l128, ij_l149, ij_l250, ij_l384, ij_l768, ij_l1000, ij_l1536, ij_l3000, ij_l1000000, ij_l1000003, ij_l1000000000, ij_neg, ij_add, ij_sub, ij_mul, ij_lt, ij_le, ij_eq, ij_nat, tn_nat, tn_12, tn_24, tn_36, tn_48, ck_in, ob_s, o2_s, vl_s, ox_l, ox_r, ck_tr, if_pos, if_neg]
        rw [f_keyAt h (by omega)]
        rfl
theorem f_lowestKey (h : VW A β o σ) (hN : 100 ≤ N) {z : Nat} (hz : sn A β z = true) : ∃ s, s < 12 ∧ IsLo A β s ∧ fX6_lowestKey N σ o = some (ky β s) := by
  have hS := h.2.2.2
  unfold fX6_lowestKey
  simp only [ob_s, ij_l0, ij_l1, ij_l2, ij_l3, ij_l4, ij_l5, ij_l6, ij_l8, ij_l12, ij_l16, ij_l19, ij_l23, ij_l24, ij_l31, ij_l32, ij_l36, ij_l47, ij_l48, ij_l56, ij_l92, ij_l93, ij_l98, ij_l108, ij_l114, ij_l116, ij_l127, ij_l128, ij_l149, ij_l250, ij_l384, ij_l768, ij_l1000, ij_l1536, ij_l3000, ij_l1000000, ij_l1000003, ij_l1000000000, ij_neg, ij_add, ij_sub, ij_mul]
  rw [f_shapeWithRank h hN (by omega) (by omega)]
  simp only [ob_s]
  have hex : ∃ s, s < 12 ∧ sn A β s = true ∧ rk A β s = 0 := by
    have key : ∀ m s, rk A β s = m → sn A β s = true → ∃ s, s < 12 ∧ sn A β s = true ∧ rk A β s = 0 := by
      intro m
      induction m using Nat.strongRecOn with
      | _ m ih =>
        intro s e hs
        by_cases q : m = 0
        · exact ⟨s, Nat.lt_of_lt_of_le (sn_lt hs) hS.1, hs, by omega⟩
        · rcases ct_pos (p := fun t => sn A β t && blw β t s) (n := 12) with g | g
          · have : rk A β s = 0 := ct_none g
            omega
          · have : ∃ t, sn A β t = true ∧ blw β t s = true := by
              apply Classical.byContradiction
              intro hn
              have := ct_none (p := fun t => sn A β t && blw β t s) (n := 12) (fun t _ => by
                cases e1 : sn A β t
                · rfl
                · cases e2 : blw β t s
                  · rfl
                  · exact absurd ⟨t, e1, e2⟩ hn)
              omega
            obtain ⟨t, t1, t2⟩ := this
            have := rk_mono hS t1 t2
            exact ih _ (by omega) t rfl t1
    exact key _ z rfl hz
  obtain ⟨s0, s1, s2, s3⟩ := hex
  rcases ff_spec (fun s => sn A β s && decide ((rk A β s : Int) = 0)) 12 0 with ⟨_, e⟩ | ⟨k, e1, _, e2, e3, _⟩
  · have := e s0 (Nat.zero_le _) (by omega)
    simp [s2, s3] at this
  · simp at e3
    have g5 := rk_bot hS e3.2
    refine ⟨k, by omega, ⟨e3.1, fun t ht => ?_⟩, ?_⟩
    · rcases g5 t ht with q | q
      · rw [q]; exact Int.le_refl _
      · rw [blw_iff] at q; omega
    · rw [e1]
      simp (disch := omega) only [ij_l0, ij_l1, ij_l2, ij_l3, ij_l4, ij_l5, ij_l6, ij_l8, ij_l12, ij_l16, ij_l19, ij_l23, ij_l24, ij_l31, ij_l32, ij_l36, ij_l47, ij_l48, ij_l56, ij_l92, ij_l93, ij_l98, ij_l108, ij_l114, ij_l116, ij_l127, ij_l128, ij_l149, ij_l250, ij_l384, ij_l768, ij_l1000, ij_l1536, ij_l3000, ij_l1000000, ij_l1000003, ij_l1000000000, ij_neg, ij_add, ij_sub, ij_mul, ij_lt, ij_le, ij_eq, ij_nat, tn_nat, tn_12, tn_24, tn_36, tn_48, ck_in, ob_s, o2_s, vl_s, ox_l, ox_r, ck_tr, if_pos, if_neg]
      rw [f_keyAt h (by omega)]
      rfl
end RK
