/-! Walks over open cells: with axes, as the class counts, and with directions, as the model counts. -/
def opp (d : Nat) : Nat := if d % 2 = 0 then d + 1 else d - 1
/-- a walk of c cells to x, come to along the axis ax, with t changes of the axis -/
def Rc (E : Nat → Nat → Nat → Prop) (a : Nat) : Nat → Nat → Nat → Nat → Prop
  | 0, _, _, _ => False
  | c + 1, t, x, ax => (c = 0 ∧ t = 0 ∧ x = a ∧ ax < 2) ∨ ∃ t' x' ax' d, Rc E a c t' x' ax' ∧ E x' d x ∧ ax = d / 2 ∧ t = t' + if d / 2 = ax' then 0 else 1
/-- a walk of n cells to x, come to in the direction d, at the cost w -/
def Rm (E : Nat → Nat → Nat → Prop) (a : Nat) : Nat → Nat → Nat → Nat → Prop
  | 0, _, _, _ => False
  | n + 1, w, x, d => (n = 0 ∧ w = 1 ∧ x = a ∧ d < 4) ∨ ∃ w' x' d', Rm E a n w' x' d' ∧ E x' d x ∧ w = w' + 1 + if d = d' then 0 else 1000
theorem opp_ax {d : Nat} (h : d < 4) : opp d / 2 = d / 2 ∧ opp d ≠ d ∧ opp d < 4 ∧ opp (opp d) = d := by
  have : d = 0 ∨ d = 1 ∨ d = 2 ∨ d = 3 := by omega
  rcases this with rfl | rfl | rfl | rfl <;> decide
theorem Rc_pos {E : Nat → Nat → Nat → Prop} {a t c x ax : Nat} (h : Rc E a c t x ax) : 1 ≤ c := by
  cases c with
  | zero => exact h.elim
  | succ c => omega
theorem Rc_st (E : Nat → Nat → Nat → Prop) (a : Nat) {ax : Nat} (h : ax < 2) : Rc E a 1 0 a ax := Or.inl ⟨rfl, rfl, rfl, h⟩
theorem Rc_go {E : Nat → Nat → Nat → Prop} {a t c x ax d y : Nat} (h : Rc E a c t x ax) (e : E x d y) : Rc E a (c + 1) (t + if d / 2 = ax then 0 else 1) y (d / 2) := Or.inr ⟨t, x, ax, d, h, e, rfl, rfl⟩
theorem Rm_st (E : Nat → Nat → Nat → Prop) (a : Nat) {d : Nat} (h : d < 4) : Rm E a 1 1 a d := Or.inl ⟨rfl, rfl, rfl, h⟩
theorem Rm_go {E : Nat → Nat → Nat → Prop} {a n w x d' d y : Nat} (h : Rm E a n w x d') (e : E x d y) : Rm E a (n + 1) (w + 1 + if d = d' then 0 else 1000) y d := Or.inr ⟨w, x, d', h, e, rfl⟩
theorem Rm_Rc {E : Nat → Nat → Nat → Prop} {a : Nat} : ∀ n w x d, Rm E a n w x d → ∃ t c, Rc E a c t x (d / 2) ∧ 1000 * t + c ≤ w := by
  intro n
  induction n with
  | zero => intro w x d h; exact h.elim
  | succ n ih =>
    intro w x d h
    rcases h with ⟨_, rfl, rfl, h⟩ | ⟨w', x', d', h, e, rfl⟩
    · exact ⟨0, 1, Rc_st E x (by omega), by omega⟩
    · obtain ⟨t, c, h1, h2⟩ := ih _ _ _ h
      refine ⟨_, _, Rc_go h1 e, ?_⟩
      by_cases g : d = d'
      · rw [if_pos (by rw [g]), if_pos g]; omega
      · rw [if_neg g]
        split <;> omega
theorem Rm_dir {E : Nat → Nat → Nat → Prop} {a n w x d : Nat} (hE : ∀ x d y, E x d y → d < 4 ∧ E y (opp d) x) (h : Rm E a n w x d) : d < 4 := by
  cases n with
  | zero => exact h.elim
  | succ n =>
    rcases h with ⟨_, _, _, h⟩ | ⟨_, _, _, _, e, _⟩
    · exact h
    · exact (hE _ _ _ e).1
theorem Rc_Rm {E : Nat → Nat → Nat → Prop} {a : Nat} (hE : ∀ x d y, E x d y → d < 4 ∧ E y (opp d) x) (hF : ∀ x d y y', E x d y → E x d y' → y = y') : ∀ c t x ax, Rc E a c t x ax → ∃ d n w, Rm E a n w x d ∧ w + (if d / 2 = ax then 0 else 1000) ≤ 1000 * t + c := by
  intro c
  induction c with
  | zero => intro t x ax h; exact h.elim
  | succ c ih =>
    intro t x ax h
    rcases h with ⟨hc, rfl, rfl, h⟩ | ⟨t', x', ax', d, h, e, rfl, rfl⟩
    · exact ⟨2 * ax, 1, 1, Rm_st E x (by omega), by rw [if_pos (by omega)]; omega⟩
    · have hcp := Rc_pos h
      obtain ⟨d', n, w, h1, h3⟩ := ih _ _ _ h
      have hd := (hE _ _ _ e).1
      have hd' := Rm_dir hE h1
      by_cases g : d = d'
      · subst g
        refine ⟨d, _, _, Rm_go h1 e, ?_⟩
        rw [if_pos rfl, if_pos rfl]
        by_cases k : d / 2 = ax'
        · rw [if_pos k] at h3 ⊢; omega
        · rw [if_neg k] at h3 ⊢; omega
      · by_cases k : d / 2 = ax'
        · rw [if_pos k]
          by_cases k' : d' / 2 = ax'
          · rw [if_pos k'] at h3
            have ho : d' = opp d := by
              have : d = 0 ∨ d = 1 ∨ d = 2 ∨ d = 3 := by omega
              unfold opp
              rcases this with rfl | rfl | rfl | rfl <;> simp <;> omega
            cases n with
            | zero => exact h1.elim
            | succ n =>
              rcases h1 with ⟨_, hw, hx, _⟩ | ⟨w0, x0, d0, h0, e0, hw⟩
              · rw [hx] at e
                refine ⟨d, _, _, Rm_go (Rm_st E a hd) e, ?_⟩
                rw [if_pos rfl, if_pos rfl]
                omega
              · have hy : x0 = x := by
                  have b := (hE _ _ _ e0).2
                  rw [ho, (opp_ax hd).2.2.2] at b
                  exact hF _ _ _ _ b e
                rw [hy] at h0
                refine ⟨d0, n, w0, h0, ?_⟩
                by_cases z : d0 / 2 = d / 2
                · rw [if_pos z]; omega
                · have nq : ¬ d' = d0 := by
                    intro q
                    rw [← q, ho, (opp_ax hd).1] at z
                    exact z rfl
                  rw [if_neg nq] at hw
                  rw [if_neg z]
                  omega
          · rw [if_neg k'] at h3
            refine ⟨d, _, _, Rm_go h1 e, ?_⟩
            rw [if_neg g, if_pos rfl]
            omega
        · rw [if_neg k]
          refine ⟨d, _, _, Rm_go h1 e, ?_⟩
          rw [if_neg g, if_pos rfl]
          split at h3 <;> omega
