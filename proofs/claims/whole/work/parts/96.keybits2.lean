/-! The bits of a key: the values. -/
theorem norm_ex : ∀ d : Nat, d ≤ 23 → ∀ c : Nat, 2 ^ (23 - d) ≤ c → c < 16777216 → ∃ j : Nat, j ≤ d ∧ MM (c * 2 ^ j) ∧ (8388608 ≤ c → j = 0) := by
  intro d
  induction d with
  | zero =>
    intro _ c h1 h2
    exact ⟨0, by omega, ⟨by rw [Nat.pow_zero, Nat.mul_one]; simpa using h1, by rw [Nat.pow_zero, Nat.mul_one]; exact h2⟩, fun _ => rfl⟩
  | succ d ih =>
    intro hd c h1 h2
    by_cases g : 8388608 ≤ c
    · exact ⟨0, by omega, ⟨by rw [Nat.pow_zero, Nat.mul_one]; exact g, by rw [Nat.pow_zero, Nat.mul_one]; exact h2⟩, fun _ => rfl⟩
    · have e1 : 23 - d = (23 - (d + 1)) + 1 := by omega
      obtain ⟨j, j1, j2, _⟩ := ih (by omega) (2 * c) (by rw [e1, Nat.pow_succ]; omega) (by omega)
      refine ⟨j + 1, by omega, ?_, fun q => absurd q g⟩
      rw [Nat.pow_succ, show c * (2 ^ j * 2) = 2 * c * 2 ^ j by rw [Nat.mul_comm (2 ^ j) 2, ← Nat.mul_assoc, Nat.mul_comm c 2]]
      exact j2
theorem norm_ex' {c : Nat} (h1 : 0 < c) (h2 : c < 16777216) : ∃ j : Nat, j ≤ 23 ∧ MM (c * 2 ^ j) ∧ (8388608 ≤ c → j = 0) := norm_ex 23 (Nat.le_refl _) c (by show 2 ^ 0 ≤ c; rw [Nat.pow_zero]; omega) h2
theorem Dd_of {d : UInt64} {m : Nat} {e : Int} (hm : MM m) (h1 : -1000 ≤ e) (h2 : e ≤ 1000) (h : FP.Core.val64 d = .fin false (m * 536870912) (e - 52)) : d = Dd m e := by
  refine FP.Core.val64_inj ?_ ?_
  · rw [h]; intro q; cases q
  · rw [h, Dd_val hm h1 h2]
theorem Dd_one : (4607182418800017408 : UInt64) = Dd 8388608 0 := by decide +kernel
theorem Dd_2p23 : (4710765210229538816 : UInt64) = Dd 8388608 23 := by decide +kernel
theorem Dd_shl : ∀ k : Fin 23, FP.i2d ((1 : Int32) <<< (ij (k.val : Int) &&& 31)) = Dd 8388608 (k.val : Int) := by decide +kernel
theorem MM_p : MM 8388608 := by constructor <;> omega
theorem Dd_mulp {m : Nat} {e f : Int} (hm : MM m) (h1 : -400 ≤ e) (h2 : e ≤ 400) (h3 : -400 ≤ f) (h4 : f ≤ 400) : FP.dmul (Dd m e) (Dd 8388608 f) = Dd m (e + f) := by
  refine Dd_of hm (by omega) (by omega) ?_
  show FP.Core.val64 (FP.Core.dmul (Dd m e) (Dd 8388608 f)) = _
  rw [FP.Core.val64_dmul, Dd_val hm (by omega) (by omega), Dd_val MM_p (by omega) (by omega)]
  show FP.Core.roundRatio FP.Core.b64 (false != false) (m * 536870912 * (8388608 * 536870912)) 1 (e - 52 + (f - 52)) = _
  refine FP.Core.roundRatio_exact FP.Core.good_b64 (by decide) (Dd_fits hm (by omega) (by omega)) ?_
  rw [show (e - 52 + (f - 52) - (e + f - 52)).toNat = 0 by omega, show (e + f - 52 - (e - 52 + (f - 52))).toNat = 52 by omega, show (2 : Nat) ^ 52 = 4503599627370496 by decide, Nat.pow_zero, Nat.mul_one, Nat.mul_one]
theorem Dd_int {n j : Nat} (hm : MM (n * 2 ^ j)) (hj : j ≤ 23) (hn : n < 16777216) : Dd (n * 2 ^ j) (23 - (j : Int)) = FP.i2d (ij n) := by
  refine (Dd_of hm (by omega) (by omega) ?_).symm
  show FP.Core.val64 (FP.Core.i2d (ij n)) = _
  rw [FP.Core.val64_i2d, ij_toInt (by omega) (by omega)]
  show FP.Core.roundRatio FP.Core.b64 (decide ((n : Int) < 0)) (n : Int).natAbs 1 0 = _
  rw [decide_eq_false (by omega)]
  refine FP.Core.roundRatio_exact FP.Core.good_b64 (by decide) (Dd_fits hm (by omega) (by omega)) ?_
  rw [show (0 - (23 - (j : Int) - 52)).toNat = j + 29 by omega, show (23 - (j : Int) - 52 - 0).toNat = 0 by omega, show (n : Int).natAbs = n by omega, Nat.pow_add, Nat.pow_zero, Nat.mul_one, Nat.mul_one, ← Nat.mul_assoc]
theorem Dd_sub1 {m j : Nat} (hm : MM m) (hj : j ≤ 23) (hn : MM ((m - 8388608) * 2 ^ j)) : FP.dsub (Dd m 0) 4607182418800017408 = Dd ((m - 8388608) * 2 ^ j) (-(j : Int)) := by
  obtain ⟨m1, m2⟩ := id hm
  refine Dd_of hn (by omega) (by omega) ?_
  show FP.Core.val64 (FP.Core.dsub (Dd m 0) 4607182418800017408) = _
  rw [FP.Core.val64_dsub, Dd_val hm (by omega) (by omega), v64_1]
  have hs : FP.Core.exactSum (.fin false (m * 536870912) (0 - 52)) (FP.Core.negate (.fin false 4503599627370496 (-52))) = .fin false ((m - 8388608) * 536870912) (-52) := by
    show FP.Core.Datum.fin (FP.Core.sumSign false true (((m * 536870912 * 2 ^ 0 : Nat) : Int) + -((4503599627370496 * 2 ^ 0 : Nat) : Int))) ((((m * 536870912 * 2 ^ 0 : Nat) : Int) + -((4503599627370496 * 2 ^ 0 : Nat) : Int))).natAbs (-52) = _
    have e1 : (((m * 536870912 * 2 ^ 0 : Nat) : Int) + -((4503599627370496 * 2 ^ 0 : Nat) : Int)) = (((m - 8388608) * 536870912 : Nat) : Int) := by
      rw [Nat.pow_zero, Nat.mul_one]
      omega
    have e2 : FP.Core.sumSign false true (((m - 8388608) * 536870912 : Nat) : Int) = false := by
      unfold FP.Core.sumSign
      by_cases z : ((((m - 8388608) * 536870912 : Nat) : Int)) = 0
      · rw [if_pos z]; rfl
      · rw [if_neg z, decide_eq_false (by omega)]
    rw [e1, e2, show ((((m - 8388608) * 536870912 : Nat) : Int)).natAbs = (m - 8388608) * 536870912 by omega]
  rw [hs]
  show FP.Core.roundRatio FP.Core.b64 false ((m - 8388608) * 536870912) 1 (-52) = _
  refine FP.Core.roundRatio_exact FP.Core.good_b64 (by decide) (Dd_fits hn (by omega) (by omega)) ?_
  rw [show (-52 - (-(j : Int) - 52)).toNat = j by omega, show (-(j : Int) - 52 - -52).toNat = 0 by omega, Nat.pow_zero, Nat.mul_one, Nat.mul_one, Nat.mul_assoc, Nat.mul_comm 536870912, ← Nat.mul_assoc]
theorem d2i_i (n : Nat) (h : n < 16777216) : FP.d2i (FP.i2d (ij n)) = ij n := FP.Core.d2i_i2d (ij n)
/-- the significand's digits behind the first -/
theorem Dd_frac {m : Nat} (hm : MM m) : nn64 (FP.dsub (Dd m 0) 4607182418800017408) = true ∧ nn64 (FP.dmul (FP.dsub (Dd m 0) 4607182418800017408) 4710765210229538816) = true ∧ FP.d2i (FP.dmul (FP.dsub (Dd m 0) 4607182418800017408) 4710765210229538816) = ij (m - 8388608 : Nat) := by
  obtain ⟨m1, m2⟩ := id hm
  by_cases e : m = 8388608
  · subst e
    decide +kernel
  · obtain ⟨j, j1, j2, _⟩ := norm_ex' (c := m - 8388608) (by omega) (by omega)
    have h1 := Dd_sub1 hm j1 j2
    have h2 : FP.dmul (Dd ((m - 8388608) * 2 ^ j) (-(j : Int))) 4710765210229538816 = FP.i2d (ij (m - 8388608 : Nat)) := by
      rw [Dd_2p23, Dd_mulp j2 (by omega) (by omega) (by omega) (by omega), show -(j : Int) + 23 = 23 - (j : Int) by omega, Dd_int j2 j1 (by omega)]
    rw [h1, h2]
    refine ⟨nn64_of (Dd_nn j2 (by omega) (by omega)), ?_, d2i_i _ (by omega)⟩
    rw [← Dd_int j2 j1 (by omega)]
    exact nn64_of (Dd_nn j2 (by omega) (by omega))
/-- a number below the normal ones -/
theorem Dd_sub {c j : Nat} {e : Int} (hm : MM (c * 2 ^ j)) (hj : j ≤ 23) (hj0 : 1 ≤ j) (hc : c < 16777216) (he : e = -126 - (j : Int)) : nn64 (FP.dmul (Dd (c * 2 ^ j) 0) (FP.i2d ((1 : Int32) <<< (ij (e + 149) &&& 31)))) = true ∧ FP.d2i (FP.dmul (Dd (c * 2 ^ j) 0) (FP.i2d ((1 : Int32) <<< (ij (e + 149) &&& 31)))) = ij c := by
  have hk := Dd_shl ⟨(e + 149).toNat, by omega⟩
  have e1 : (((e + 149).toNat : Nat) : Int) = e + 149 := by omega
  simp only [e1] at hk
  rw [hk, Dd_mulp hm (by omega) (by omega) (by omega) (by omega), show (0 : Int) + (e + 149) = 23 - (j : Int) by omega, Dd_int hm hj hc]
  refine ⟨?_, d2i_i _ hc⟩
  rw [← Dd_int hm hj hc]
  exact nn64_of (Dd_nn hm (by omega) (by omega))
