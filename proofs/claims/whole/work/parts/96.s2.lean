/-! As many levels as spots at the most. -/
theorem ct_cgr {p q : Nat → Bool} {n : Nat} (h : ∀ s, s < n → p s = q s) : ct p n = ct q n := by
  induction n with
  | zero => rfl
  | succ n ih =>
    simp only [ct]
    rw [ih (fun s hs => h s (by omega)), h n (by omega)]
theorem levels_le {n : Nat} (V : Nat → Nat) : ∀ k, (∀ L, L < k → ∃ s, s < n ∧ V s = L) → k ≤ ct (fun s => decide (V s < k)) n := by
  intro k
  induction k with
  | zero => intro _; omega
  | succ k ih =>
    intro h
    have h1 := ih (fun L hL => h L (by omega))
    obtain ⟨s, hs, hv⟩ := h k (by omega)
    have h2 := ct_lt (p := fun s => decide (V s < k + 1)) (q := fun s => decide (V s < k)) hs (decide_eq_true (by omega)) (decide_eq_false (by omega))
    have h3 : ct (fun t => decide (V t < k + 1) && decide (V t < k)) n = ct (fun s => decide (V s < k)) n := by
      refine ct_cgr (fun t _ => ?_)
      by_cases g : V t < k
      · rw [decide_eq_true g, Bool.and_true, decide_eq_true (by omega)]
      · rw [decide_eq_false g, Bool.and_false]
    omega
theorem levels_n {n : Nat} (V : Nat → Nat) {k : Nat} (h : ∀ L, L < k → ∃ s, s < n ∧ V s = L) : k ≤ n := Nat.le_trans (levels_le V k h) (ct_le _ n)
