/-! The spot beside a spot. -/
section R9
variable {A : Ab} {N : Nat} {σ : St} {β : Nat → Nat} {o : Nat}
def sb (A : Ab) (β : Nat → Nat) (x d : Nat) : Int := if 0 ≤ nbI x d ∧ opn A β (nbI x d).toNat = true then 2 * nbI x d + (d / 2 : Nat) else -1
theorem f_isAt127 (hm : ∀ x, x < 384 → gI σ 127 0 x = bi (opn A β x)) {z : Int} (hz : z = -1 ∨ (0 ≤ z ∧ z < 384)) : fX7_isAt N σ 127 0 384 (ij z) = some (bi (decide (0 ≤ z) && opn A β z.toNat)) := by
  by_cases g : 0 ≤ z
  · rw [f_isAt (b := opn A β z.toNat) g (by omega) (by omega) (hm _ (by omega)), decide_eq_true g, Bool.true_and]
  · have e : z = -1 := by omega
    subst e
    unfold fX7_isAt
    rw [if_pos (by decide)]
    rfl
theorem f_spotBeside (hm : ∀ x, x < 384 → gI σ 127 0 x = bi (opn A β x)) {x d : Nat} (hx : x < 384) (hd : d < 4) : fX4_spotBeside N σ (ij x) (ij d) = some (ij (sb A β x d)) := by
  have hr := nbI_rg (d := d) hx
  unfold fX4_spotBeside
  rw [f_cellBeside hx hd, ob_s, f_isAt127 hm (by omega), ob_s]
  unfold sb
  have hd2 : ij (d : Int) / (2 : Int32) = ij ((d / 2 : Nat) : Int) := by
    rw [show (2 : Int32) = ij 2 from rfl, ij_div (by omega) (by omega) (by omega) (by omega)]
    congr 1
  by_cases g : 0 ≤ nbI x d ∧ opn A β (nbI x d).toNat = true
  · rw [decide_eq_true g.1, g.2, if_neg (by decide), if_pos ⟨g.1, rfl⟩, hd2, show (2 : Int32) = ij 2 from rfl, ij_mul, ij_add, Int.mul_comm]
  · rw [if_neg g]
    have : (decide (0 ≤ nbI x d) && opn A β (nbI x d).toNat) = false := by
      by_cases k : 0 ≤ nbI x d
      · have : opn A β (nbI x d).toNat = false := by
          rw [← Bool.not_eq_true]
          exact fun q => g ⟨k, q⟩
        rw [this, Bool.and_false]
      · rw [decide_eq_false k, Bool.false_and]
    rw [this, if_pos (by decide)]
    rfl
theorem sb_Ed {x d : Nat} (hx : x < 384) (hd : d < 4) (ho : opn A β x = true) : (sb A β x d = -1 ∧ ∀ y, ¬ Ed A β x d y) ∨ ∃ y : Nat, y < 384 ∧ sb A β x d = ((2 * y + d / 2 : Nat) : Int) ∧ Ed A β x d y := by
  have hr := nbI_rg (d := d) hx
  unfold sb
  by_cases g : 0 ≤ nbI x d ∧ opn A β (nbI x d).toNat = true
  · refine Or.inr ⟨(nbI x d).toNat, by omega, ?_, hd, hx, ho, by omega, g.2⟩
    rw [if_pos g]
    omega
  · refine Or.inl ⟨if_neg g, fun y h => g ⟨by have := h.2.2.2.1; omega, ?_⟩⟩
    have e := h.2.2.2.1
    rw [e, tn_nat]
    exact h.2.2.2.2
end R9
