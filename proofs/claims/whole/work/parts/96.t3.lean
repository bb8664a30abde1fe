/-! The model's search: costs, and a queue of states whose steps are still to be taken. -/
def uqB (f : Nat → Bool) (k : Nat) (v : Bool) : Nat → Bool := fun j => if j = k then v else f j
theorem uqB_eq {f : Nat → Bool} {k : Nat} {v : Bool} : uqB f k v k = v := if_pos rfl
theorem uqB_ne {f : Nat → Bool} {k j : Nat} {v : Bool} (h : j ≠ k) : uqB f k v j = f j := if_neg h
def sm (D : Nat → Nat) : Nat → Nat
  | 0 => 0
  | n + 1 => sm D n + D n
theorem sm_cg {D D' : Nat → Nat} : ∀ n, (∀ s, s < n → D s = D' s) → sm D n = sm D' n := by
  intro n
  induction n with
  | zero => intro _; rfl
  | succ n ih => intro h; simp only [sm]; rw [ih (fun s hs => h s (by omega)), h n (by omega)]
theorem sm_dn {D : Nat → Nat} {u v : Nat} (hv : v < D u) : ∀ n, u < n → sm (uq D u v) n + 1 ≤ sm D n := by
  intro n
  induction n with
  | zero => intro h; omega
  | succ n ih =>
    intro h
    simp only [sm]
    by_cases q : u = n
    · subst q
      rw [uq_eq, sm_cg (D := uq D u v) (D' := D) u (fun s hs => uq_ne (by omega))]
      omega
    · have := ih (by omega)
      rw [uq_ne (fun z => q z.symm)]
      omega
theorem sm_bd {D : Nat → Nat} {B : Nat} : ∀ n, (∀ s, s < n → D s ≤ B) → sm D n ≤ n * B := by
  intro n
  induction n with
  | zero => intro _; exact Nat.zero_le _
  | succ n ih =>
    intro h
    simp only [sm]
    have h1 := ih (fun s hs => h s (by omega))
    have h2 := h n (by omega)
    rw [Nat.succ_mul]
    omega
def RQ (E : Nat → Nat → Nat → Prop) (D : Nat → Nat) (s J : Nat) : Prop := ∀ d y, d < J → E (s / 4) d y → D (4 * y + d) ≤ D s + 1 + if d = s % 4 then 0 else 1000
def MI (E : Nat → Nat → Nat → Prop) (a : Nat) (D : Nat → Nat) (Fl : Nat → Bool) (w : Nat) (L : Nat → Nat) (c : Nat) : Prop :=
  (∀ s, s < 1536 → D s < 1000000000 → ∃ n, Rm E a n (D s) (s / 4) (s % 4)) ∧ (∀ s, s < 1536 → D s ≤ 1000000000) ∧
  (∀ k, k < w → L k < 1536 ∧ Fl (L k) = true ∧ D (L k) < 1000000000) ∧ (∀ j k, j < w → k < w → L j = L k → j = k) ∧
  (∀ s, s < 1536 → Fl s = true → ∃ k, k < w ∧ L k = s) ∧ (∀ s, s < 1536 → s ≠ c → Fl s = false → D s < 1000000000 → RQ E D s 4) ∧ ∀ d, d < 4 → D (4 * a + d) = 1
section T3_
variable {E : Nat → Nat → Nat → Prop} {a b w c J y : Nat} {D L : Nat → Nat} {Fl : Nat → Bool}
theorem MI_len (g : MI E a D Fl w L c) : w ≤ 1536 := pgh 1536 w L (fun k hk => (g.2.2.1 k hk).1) g.2.2.2.1
theorem MI_pop (g : MI E a D Fl w L 1536) (hw : 0 < w) : MI E a D (uqB Fl (L 0) false) (w - 1) (fun k => L (k + 1)) (L 0) := by
  obtain ⟨g1, g2, g3, g4, g5, g6, g7⟩ := g
  have ne : ∀ k, k < w - 1 → L (k + 1) ≠ L 0 := fun k hk q => by have := g4 _ _ (by omega) (by omega) q; omega
  refine ⟨g1, g2, fun k hk => ?_, fun j k hj hk q => by have := g4 _ _ (by omega) (by omega) q; omega, fun s hs hf => ?_, fun s hs hn hf => ?_, g7⟩
  · have := g3 (k + 1) (by omega)
    exact ⟨this.1, by rw [uqB_ne (ne k hk)]; exact this.2.1, this.2.2⟩
  · by_cases q : s = L 0
    · rw [q, uqB_eq] at hf; cases hf
    · rw [uqB_ne q] at hf
      obtain ⟨k, k1, k2⟩ := g5 s hs hf
      have : k ≠ 0 := fun z => q (by rw [← k2, z])
      exact ⟨k - 1, by omega, by show L (k - 1 + 1) = s; rw [show k - 1 + 1 = k by omega]; exact k2⟩
  · rw [uqB_ne hn] at hf
    exact g6 s hs (by omega) hf
theorem RQ_dn {s u v : Nat} (h : RQ E D s J) (hu : s ≠ u) (hv : v < D u) : RQ E (uq D u v) s J := by
  intro d y hd e
  have := h d y hd e
  rw [uq_ne hu]
  by_cases g : 4 * y + d = u
  · rw [g] at this ⊢
    rw [uq_eq]
    omega
  · rw [uq_ne g]
    exact this
/-- a step that lowers a cost; the queue as it was (the state waits in it already) -/
theorem MI_low (g : MI E a D Fl w L c) (hc : c < 1536) (hJ : J < 4) (e : E (c / 4) J y) (hy : y < 384) (hF : ∀ y', E (c / 4) J y' → y' = y) (hcD : D c < 1000000000) (hx : RQ E D c J) {v : Nat} (hv : v = D c + 1 + if J = c % 4 then 0 else 1000) (hlt : v < D (4 * y + J)) :
    RQ E (uq D (4 * y + J) v) c (J + 1) ∧ uq D (4 * y + J) v c = D c ∧ (Fl (4 * y + J) = true → MI E a (uq D (4 * y + J) v) Fl w L c) ∧
    (Fl (4 * y + J) = false → w < 1536 ∧ MI E a (uq D (4 * y + J) v) (uqB Fl (4 * y + J) true) (w + 1) (uq L w (4 * y + J)) c) ∧ (Fl c = false → uqB Fl (4 * y + J) true c = false) := by
  obtain ⟨g1, g2, g3, g4, g5, g6, g7⟩ := g
  have hu : 4 * y + J < 1536 := by omega
  have nc : c ≠ 4 * y + J := fun q => by rw [← q] at hlt; omega
  have hDu := g2 _ hu
  have k1 : ∀ s, s < 1536 → uq D (4 * y + J) v s < 1000000000 → ∃ n, Rm E a n (uq D (4 * y + J) v s) (s / 4) (s % 4) := by
    intro s hs hu2
    by_cases q : s = 4 * y + J
    · rw [q, uq_eq, show (4 * y + J) / 4 = y by omega, show (4 * y + J) % 4 = J by omega]
      obtain ⟨n, hn⟩ := g1 c hc hcD
      have := Rm_go hn e
      rw [← hv] at this
      exact ⟨_, this⟩
    · rw [uq_ne q] at hu2 ⊢
      exact g1 s hs hu2
  have k2 : ∀ s, s < 1536 → uq D (4 * y + J) v s ≤ D s := by
    intro s hs
    by_cases q : s = 4 * y + J
    · rw [q, uq_eq]; omega
    · rw [uq_ne q]; exact Nat.le_refl _
  have k7 : ∀ d, d < 4 → uq D (4 * y + J) v (4 * a + d) = 1 := by
    intro d hd
    have := g7 d hd
    rw [uq_ne (fun q => by rw [← q] at hlt; omega)]
    exact this
  have k6 : ∀ s, s < 1536 → s ≠ c → s ≠ 4 * y + J → Fl s = false → uq D (4 * y + J) v s < 1000000000 → RQ E (uq D (4 * y + J) v) s 4 := by
    intro s hs hn hn2 hf hd
    rw [uq_ne hn2] at hd
    exact RQ_dn (g6 s hs hn hf hd) hn2 hlt
  refine ⟨fun d y' hd e' => ?_, uq_ne nc, fun hf => ?_, fun hf => ?_, fun hf => by rw [uqB_ne nc]; exact hf⟩
  · by_cases q : d = J
    · subst q
      rw [hF y' e', uq_eq, uq_ne nc]
      omega
    · exact RQ_dn hx nc hlt d y' (by omega) e'
  · refine ⟨k1, fun s hs => Nat.le_trans (k2 s hs) (g2 s hs), fun k hk => ?_, g4, g5, fun s hs hn hf2 => k6 s hs hn (fun q => by rw [q, hf] at hf2; cases hf2) hf2, k7⟩
    have := g3 k hk
    exact ⟨this.1, this.2.1, by have := k2 _ this.1; omega⟩
  · have hne : ∀ k, k < w → L k ≠ 4 * y + J := fun k hk q => by
      have := (g3 k hk).2.1
      rw [q, hf] at this
      cases this
    refine ⟨push_lt (fun k hk => (g3 k hk).1) g4 hne hu, k1, fun s hs => Nat.le_trans (k2 s hs) (g2 s hs), fun k hk => ?_, inj_push g4 hne, fun s hs hf2 => ?_, fun s hs hn hf2 => ?_, k7⟩
    · by_cases q : k = w
      · rw [q, uq_eq, uqB_eq, uq_eq]
        exact ⟨hu, rfl, by omega⟩
      · have e1 : uq L w (4 * y + J) k = L k := uq_ne q
        have := g3 k (by omega)
        rw [e1, uqB_ne (hne k (by omega))]
        exact ⟨this.1, this.2.1, by have := k2 _ this.1; omega⟩
    · by_cases q : s = 4 * y + J
      · exact ⟨w, by omega, by rw [uq_eq, q]⟩
      · rw [uqB_ne q] at hf2
        obtain ⟨k, z1, z2⟩ := g5 s hs hf2
        exact ⟨k, by omega, by rw [uq_ne (by omega)]; exact z2⟩
    · have q : s ≠ 4 * y + J := fun q => by rw [q, uqB_eq] at hf2; cases hf2
      rw [uqB_ne q] at hf2
      exact k6 s hs hn q hf2
theorem RQ_skip (hx : RQ E D c J) (hF : ∀ y', E (c / 4) J y' → D (4 * y' + J) ≤ D c + 1 + if J = c % 4 then 0 else 1000) : RQ E D c (J + 1) := by
  intro d y' hd e'
  by_cases q : d = J
  · subst q
    exact hF y' e'
  · exact hx d y' (by omega) e'
theorem MI_back (g : MI E a D Fl w L c) (hx : RQ E D c 4) : MI E a D Fl w L 1536 := by
  obtain ⟨g1, g2, g3, g4, g5, g6, g7⟩ := g
  refine ⟨g1, g2, g3, g4, g5, fun s hs _ hf hd => ?_, g7⟩
  by_cases q : s = c
  · rw [q]; exact hx
  · exact g6 s hs q hf hd
/-- at the end each cost is the least -/
theorem MI_opt (hE : ∀ x d y, E x d y → d < 4 ∧ y < 384) (ha : a < 384) (g : MI E a D Fl 0 L 1536) : ∀ n w x d, Rm E a n w x d → w < 1000000000 → d < 4 ∧ x < 384 ∧ D (4 * x + d) ≤ w := by
  obtain ⟨g1, g2, g3, g4, g5, g6, g7⟩ := g
  intro n
  induction n with
  | zero => intro w x d h; exact h.elim
  | succ n ih =>
    intro w x d h hw
    rcases h with ⟨_, rfl, rfl, hd⟩ | ⟨w', x', d', h, e, rfl⟩
    · exact ⟨hd, ha, by rw [g7 d hd]; exact Nat.le_refl _⟩
    · have r := hE _ _ _ e
      have i1 := ih _ _ _ h (by omega)
      have hf : Fl (4 * x' + d') = false := by
        cases q : Fl (4 * x' + d') with
        | false => rfl
        | true =>
          obtain ⟨k, hk, _⟩ := g5 _ (by omega) q
          omega
      have := g6 (4 * x' + d') (by omega) (by omega) hf (by omega) d x r.1 (by rw [show (4 * x' + d') / 4 = x' by omega]; exact e)
      rw [show (4 * x' + d') % 4 = d' by omega] at this
      exact ⟨r.1, r.2, by omega⟩
def mnD (D : Nat → Nat) (b : Nat) : Nat → Nat
  | 0 => 1000000000
  | j + 1 => if D (4 * b + j) < mnD D b j then D (4 * b + j) else mnD D b j
theorem mnD_rg (D : Nat → Nat) (b : Nat) : ∀ j, mnD D b j ≤ 1000000000 := by
  intro j
  induction j with
  | zero => exact Nat.le_refl _
  | succ j ih => simp only [mnD]; split <;> omega
theorem mnD_ge {D : Nat → Nat} {b m : Nat} (h0 : m ≤ 1000000000) : ∀ j, (∀ d, d < j → m ≤ D (4 * b + d)) → m ≤ mnD D b j := by
  intro j
  induction j with
  | zero => intro _; exact h0
  | succ j ih =>
    intro h
    simp only [mnD]
    have := ih (fun d hd => h d (by omega))
    have := h j (by omega)
    split <;> omega
theorem mnD_le {D : Nat → Nat} {b m d : Nat} (hm : D (4 * b + d) ≤ m) : ∀ j, d < j → mnD D b j ≤ m := by
  intro j
  induction j with
  | zero => intro h; omega
  | succ j ih =>
    intro h
    simp only [mnD]
    by_cases q : d = j
    · subst q
      split <;> omega
    · have := ih (by omega)
      split <;> omega
/-- directions turned about -/
theorem Rm_opp : ∀ n w x d, d < 4 → (∀ x d y, E x d y → d < 4) → (Rm (fun x d y => E x (opp d) y) a n w x d ↔ Rm E a n w x (opp d)) := by
  intro n
  induction n with
  | zero => intro w x d _ _; exact Iff.rfl
  | succ n ih =>
    intro w x d hd hE
    have od := opp_ax hd
    have dir : ∀ {n w x d}, Rm E a n w x d → d < 4 := by
      intro n w x d h
      cases n with
      | zero => exact h.elim
      | succ n =>
        rcases h with ⟨_, _, _, h⟩ | ⟨_, _, _, _, e, _⟩
        · exact h
        · exact hE _ _ _ e
    have dir2 : ∀ {n w x d}, Rm (fun x d y => E x (opp d) y) a n w x d → d < 4 := by
      intro n w x d h
      cases n with
      | zero => exact h.elim
      | succ n =>
        rcases h with ⟨_, _, _, h⟩ | ⟨_, _, _, _, e, _⟩
        · exact h
        · have := hE _ _ _ e
          unfold opp at this
          split at this <;> omega
    constructor
    · intro h
      rcases h with ⟨h1, h2, h3, h4⟩ | ⟨w', x', d', h, e, hw⟩
      · exact Or.inl ⟨h1, h2, h3, od.2.2.1⟩
      · have hd' := dir2 h
        have od' := opp_ax hd'
        refine Or.inr ⟨w', x', opp d', (ih w' x' d' hd' hE).1 h, e, ?_⟩
        rw [hw]
        by_cases q : d = d'
        · rw [if_pos q, if_pos (by rw [q])]
        · rw [if_neg q, if_neg (fun z => q (by rw [← od.2.2.2, z, od'.2.2.2]))]
    · intro h
      rcases h with ⟨h1, h2, h3, h4⟩ | ⟨w', x', d', h, e, hw⟩
      · exact Or.inl ⟨h1, h2, h3, hd⟩
      · have hd' := dir h
        have od' := opp_ax hd'
        refine Or.inr ⟨w', x', opp d', (ih w' x' (opp d') od'.2.2.1 hE).2 (by rw [od'.2.2.2]; exact h), e, ?_⟩
        rw [hw]
        by_cases q : opp d = d'
        · rw [if_pos q, if_pos (by rw [← q, od.2.2.2])]
        · rw [if_neg q, if_neg (fun z => q (by rw [z, od'.2.2.2]))]
end T3_
