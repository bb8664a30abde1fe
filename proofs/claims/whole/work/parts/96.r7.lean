/-! The cell beside a cell; the steps of walks. Directions as the class has them: left, right, up, down. -/
def nbI (x d : Nat) : Int := if d = 0 then eC ((x % 24 : Nat) - 1) (x / 24 : Nat) else if d = 1 then eC ((x % 24 : Nat) + 1) (x / 24 : Nat) else if d = 2 then eC (x % 24 : Nat) ((x / 24 : Nat) - 1) else eC (x % 24 : Nat) ((x / 24 : Nat) + 1)
def Ed (A : Ab) (β : Nat → Nat) (x d y : Nat) : Prop := d < 4 ∧ x < 384 ∧ opn A β x = true ∧ nbI x d = (y : Int) ∧ opn A β y = true
section R7
variable {A : Ab} {N : Nat} {σ : St} {β : Nat → Nat} {o : Nat}
theorem nbI_rg {x d : Nat} (hx : x < 384) : nbI x d = -1 ∨ (0 ≤ nbI x d ∧ nbI x d < 384) := by
  unfold nbI eC
  split
  · split <;> omega
  · split
    · split <;> omega
    · split
      · split <;> omega
      · split <;> omega
theorem nbI_opp {x d y : Nat} (hd : d < 4) (hx : x < 384) (h : nbI x d = (y : Int)) : nbI y (opp d) = (x : Int) := by
  have hd4 : d = 0 ∨ d = 1 ∨ d = 2 ∨ d = 3 := by omega
  rcases hd4 with rfl | rfl | rfl | rfl
  · have h : eC ((x % 24 : Nat) - 1) (x / 24 : Nat) = (y : Int) := h
    show eC ((y % 24 : Nat) + 1) (y / 24 : Nat) = (x : Int)
    unfold eC at h ⊢
    split at h
    · rw [if_pos (by omega)]; omega
    · omega
  · have h : eC ((x % 24 : Nat) + 1) (x / 24 : Nat) = (y : Int) := h
    show eC ((y % 24 : Nat) - 1) (y / 24 : Nat) = (x : Int)
    unfold eC at h ⊢
    split at h
    · rw [if_pos (by omega)]; omega
    · omega
  · have h : eC (x % 24 : Nat) ((x / 24 : Nat) - 1) = (y : Int) := h
    show eC (y % 24 : Nat) ((y / 24 : Nat) + 1) = (x : Int)
    unfold eC at h ⊢
    split at h
    · rw [if_pos (by omega)]; omega
    · omega
  · have h : eC (x % 24 : Nat) ((x / 24 : Nat) + 1) = (y : Int) := h
    show eC (y % 24 : Nat) ((y / 24 : Nat) - 1) = (x : Int)
    unfold eC at h ⊢
    split at h
    · rw [if_pos (by omega)]; omega
    · omega
theorem Ed_lt {x d y : Nat} (h : Ed A β x d y) : y < 384 := by
  have := nbI_rg (d := d) h.2.1
  have := h.2.2.2.1
  omega
theorem Ed_opp : ∀ x d y, Ed A β x d y → d < 4 ∧ Ed A β y (opp d) x := fun x d y h =>
  ⟨h.1, (opp_ax h.1).2.2.1, Ed_lt h, h.2.2.2.2, nbI_opp h.1 h.2.1 h.2.2.2.1, h.2.2.1⟩
theorem Ed_fun : ∀ x d y y', Ed A β x d y → Ed A β x d y' → y = y' := fun x d y y' h g => by
  have a := h.2.2.2.1
  have b := g.2.2.2.1
  omega
theorem f_cellBeside {x d : Nat} (hx : x < 384) (hd : d < 4) : fX4_cellBeside N σ (ij x) (ij d) = some (ij (nbI x d)) := by
  have hd4 : d = 0 ∨ d = 1 ∨ d = 2 ∨ d = 3 := by omega
  have hm1 : (ij (x : Int) - ij (x : Int) / ij 24 * ij 24) = ij ((x % 24 : Nat) : Int) := by
    rw [ij_div (by omega) (by omega) (by omega) (by omega), ij_mul, ij_sub]
    congr 1
    omega
  have hm2 : ij (x : Int) / ij 24 = ij ((x / 24 : Nat) : Int) := by
    rw [ij_div (by omega) (by omega) (by omega) (by omega)]
    congr 1
  have hca : ∀ a b : Int, -5 ≤ a → a ≤ 50 → -5 ≤ b → b ≤ 50 → fX7_cellAt N σ (ij a) (ij b) = some (ij (eC a b)) := fun a b a1 a2 b1 b2 => f_cellAtE (by constructor <;> omega) (by constructor <;> omega)
  unfold fX4_cellBeside
  simp only [vl_s]
  rw [show (24 : Int32) = ij 24 from rfl, hm1, hm2]
  rcases hd4 with rfl | rfl | rfl | rfl
  · rw [if_pos (by decide), show ij ((x % 24 : Nat) : Int) - (1 : Int32) = ij (((x % 24 : Nat) : Int) - 1) from ij_sub _ 1, hca _ _ (by omega) (by omega) (by omega) (by omega), ob_s]
    rfl
  · rw [if_neg (by decide), if_pos (by decide), show ij ((x % 24 : Nat) : Int) + (1 : Int32) = ij (((x % 24 : Nat) : Int) + 1) from ij_add _ 1, hca _ _ (by omega) (by omega) (by omega) (by omega), ob_s]
    rfl
  · rw [if_neg (by decide), if_neg (by decide), if_pos (by decide), show ij ((x / 24 : Nat) : Int) - (1 : Int32) = ij (((x / 24 : Nat) : Int) - 1) from ij_sub _ 1, hca _ _ (by omega) (by omega) (by omega) (by omega), ob_s]
    rfl
  · rw [if_neg (by decide), if_neg (by decide), if_neg (by decide), show ij ((x / 24 : Nat) : Int) + (1 : Int32) = ij (((x / 24 : Nat) : Int) + 1) from ij_add _ 1, hca _ _ (by omega) (by omega) (by omega) (by omega), ob_s]
    rfl
end R7
