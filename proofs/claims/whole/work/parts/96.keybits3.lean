/-! The bits of a key: the pattern. -/
theorem b32_tails : FP.Core.b32.tails = 8388608 := by decide
theorem b32_exps : FP.Core.b32.exps = 256 := by decide
theorem b32_qmin : FP.Core.b32.qmin = -149 := by decide
theorem b32_qmax : FP.Core.b32.qmax = 104 := by decide
theorem bits_of {a : UInt32} {s : Bool} {c : Nat} {q : Int} (h : FP.Core.val32 a = .fin s c q) : (a.toNat = if c < 8388608 then s.toNat * 2147483648 + c else s.toNat * 2147483648 + ((q + 149).toNat + 1) * 8388608 + (c - 8388608)) ∧ c < 16777216 ∧ -149 ≤ q ∧ q ≤ 104 ∧ (q = -149 ∨ 8388608 ≤ c) := by
  have h0 : FP.Core.val32 a ≠ .nan := by rw [h]; intro z; cases z
  have h1 := FP.Core.of32_val32 h0
  have hf := FP.Core.val32_fits a
  rw [h] at h1 hf
  have h2 := FP.Core.encode_lt FP.Core.good_b32 (.fin s c q) hf
  rw [FP.Core.size_b32] at h2
  have h3 : a.toNat = FP.Core.encode FP.Core.b32 (.fin s c q) := by
    rw [← h1]
    exact UInt32.toNat_ofNat_of_lt' (by simpa using h2)
  obtain ⟨f1, f2, f3, f4⟩ := hf
  rw [b32_qmin] at f2 f4
  rw [b32_qmax] at f3
  rw [b32_tails] at f4
  have f1' : c < 16777216 := f1
  refine ⟨?_, f1', f2, f3, f4⟩
  rw [h3]
  simp only [FP.Core.encode, FP.Core.assemble, b32_tails, b32_exps, b32_qmin]
  by_cases g : c < 8388608
  · rw [if_pos g, if_pos g]
    omega
  · rw [if_neg g, if_neg g, show q - -149 = q + 149 by omega]
    omega
theorem f2d_Dd {a : UInt32} {s : Bool} {c : Nat} {q : Int} (h : FP.Core.val32 a = .fin s c q) (hc : 0 < c) : ∃ j : Nat, j ≤ 23 ∧ MM (c * 2 ^ j) ∧ (8388608 ≤ c → j = 0) ∧ (s = false → FP.f2d a = Dd (c * 2 ^ j) (q + 23 - j)) ∧ (s = true → FP.dneg (FP.f2d a) = Dd (c * 2 ^ j) (q + 23 - j)) := by
  obtain ⟨_, b2, b3, b4, _⟩ := bits_of h
  obtain ⟨j, j1, j2, j3⟩ := norm_ex' hc b2
  have hv : FP.Core.val64 (FP.f2d a) = .fin s (c * 2 ^ j * 536870912) (q + 23 - j - 52) := by
    have hn : FP.Core.val32 a ≠ .nan := by rw [h]; intro z; cases z
    rw [FP.f2d_core ((FP.Core.notNaN_iff32 a).mpr hn), FP.Core.val64_f2d, h]
    show FP.Core.roundRatio FP.Core.b64 s c 1 q = _
    refine FP.Core.roundRatio_exact FP.Core.good_b64 (by decide) (Dd_fits j2 (by omega) (by omega)) ?_
    rw [show (q - (q + 23 - (j : Int) - 52)).toNat = j + 29 by omega, show (q + 23 - (j : Int) - 52 - q).toNat = 0 by omega, Nat.pow_add, Nat.pow_zero, Nat.mul_one, Nat.mul_one, ← Nat.mul_assoc]
  refine ⟨j, j1, j2, j3, fun e => ?_, fun e => ?_⟩
  · rw [e] at hv
    exact Dd_of j2 (by omega) (by omega) hv
  · rw [e] at hv
    refine Dd_of j2 (by omega) (by omega) ?_
    have hn : FP.Core.val64 (FP.f2d a) ≠ .nan := by rw [hv]; intro z; cases z
    rw [FP.dneg_core ((FP.Core.notNaN_iff _).mpr hn), FP.Core.val64_dneg, hv]
    rfl
theorem or_p : ∀ E : Fin 256, ((0 : Int32) ||| (ij (E.val : Int) <<< ((23 : Int32) &&& 31))) = ij ((E.val * 8388608 : Nat) : Int) := by decide +kernel
theorem or_n : ∀ E : Fin 256, ((-2147483648 : Int32) ||| (ij (E.val : Int) <<< ((23 : Int32) &&& 31))) = ij (((256 + E.val) * 8388608 : Nat) : Int) := by decide +kernel
theorem ij_bv (n : Nat) : (ij (n : Int)).toBitVec = BitVec.ofNat 32 n := by
  show (Int32.ofInt (n : Int)).toBitVec = _
  rw [Int32.toBitVec_ofInt]
  exact BitVec.ofInt_natCast 32 n
theorem or_t {E t : Nat} (hE : E < 512) (ht : t < 8388608) : (ij ((E * 8388608 : Nat) : Int) ||| ij (t : Int)) = ij ((E * 8388608 + t : Nat) : Int) := by
  apply Int32.toBitVec_inj.mp
  rw [Int32.toBitVec_or, ij_bv, ij_bv, ij_bv]
  apply BitVec.eq_of_toNat_eq
  rw [BitVec.toNat_or, BitVec.toNat_ofNat, BitVec.toNat_ofNat, BitVec.toNat_ofNat, Nat.mod_eq_of_lt (by omega), Nat.mod_eq_of_lt (by omega), Nat.mod_eq_of_lt (by omega)]
  have := Nat.shiftLeft_add_eq_or_of_lt (b := t) (i := 23) (by omega) E
  rw [Nat.shiftLeft_eq] at this
  exact this.symm
theorem toI_ij (a : UInt32) : a.toInt32 = ij (a.toNat : Int) := by
  apply Int32.toBitVec_inj.mp
  rw [ij_bv]
  apply BitVec.eq_of_toNat_eq
  rw [BitVec.toNat_ofNat, Nat.mod_eq_of_lt (by have := a.toNat_lt; omega)]
  rfl
