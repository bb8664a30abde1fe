/-! Keys as floats: their order, their sums, no NaN. -/
def kyB (a : UInt32) : Prop := a.toNat % 2147483648 ≤ 1266679808
theorem kyB_of {v : Nat} (h : kyOK v) : kyB (UInt32.ofNat v) ∧ (UInt32.ofNat v).toNat = v := by
  have e : (UInt32.ofNat v).toNat = v := UInt32.toNat_ofNat_of_lt' h.1
  exact ⟨by unfold kyB; rw [e]; exact h.2, e⟩
theorem kyB_ok {a : UInt32} (h : kyB a) : kyOK a.toNat := ⟨by have := a.toNat_lt; omega, h⟩
theorem ofN_toN (a : UInt32) : UInt32.ofNat a.toNat = a := UInt32.ofNat_toNat
theorem kyB_nn {a : UInt32} (h : kyB a) : FP.Core.val32 a ≠ .nan := (FP.Core.ne_nan32 a).mpr (by unfold kyB at h; omega)
theorem kyB_fin {a : UInt32} (h : kyB a) : FP.Core.FFin a := (FP.Core.fin_bits32 a).mpr (by unfold kyB at h; omega)
abbrev fk (a : UInt32) : Int := FP.Core.fkey a
theorem fk_cmp {a b : UInt32} (ha : kyB a) (hb : kyB b) : FP.fcmp a b = some (compare (fk a) (fk b)) := FP.Core.fcmp_key (kyB_nn ha) (kyB_nn hb)
theorem cv_g_lt {x y : Int} : (Op.cmpValue (some (compare x y)) CmpOp.g < 0) = (x < y) := by
  rw [eq_iff_iff, ← FP.Core.compare_lt_iff]
  cases compare x y <;> decide
theorem cv_g_ge {x y : Int} : (0 ≤ Op.cmpValue (some (compare x y)) CmpOp.g) = (y ≤ x) := by
  rw [eq_iff_iff, ← Int.not_lt, ← FP.Core.compare_lt_iff]
  cases compare x y <;> decide
theorem cv_l_eq {x y : Int} : (Op.cmpValue (some (compare x y)) CmpOp.l = 0) = (x = y) := by
  rw [eq_iff_iff, ← FP.Core.compare_eq_iff]
  cases compare x y <;> decide
theorem cv_l_le {x y : Int} : (Op.cmpValue (some (compare x y)) CmpOp.l ≤ 0) = (x ≤ y) := by
  rw [eq_iff_iff, ← Int.not_lt, ← FP.Core.compare_gt_iff]
  cases compare x y <;> decide
theorem fk_g_lt {a b : UInt32} (ha : kyB a) (hb : kyB b) : (Op.cmpValue (FP.fcmp a b) CmpOp.g < ij 0) = (fk a < fk b) := by rw [fk_cmp ha hb]; exact cv_g_lt
theorem fk_g_ge {a b : UInt32} (ha : kyB a) (hb : kyB b) : (ij 0 ≤ Op.cmpValue (FP.fcmp a b) CmpOp.g) = (fk b ≤ fk a) := by rw [fk_cmp ha hb]; exact cv_g_ge
theorem fk_l_eq {a b : UInt32} (ha : kyB a) (hb : kyB b) : (Op.cmpValue (FP.fcmp a b) CmpOp.l = ij 0) = (fk a = fk b) := by rw [fk_cmp ha hb]; exact cv_l_eq
theorem fk_l_le {a b : UInt32} (ha : kyB a) (hb : kyB b) : (Op.cmpValue (FP.fcmp a b) CmpOp.l ≤ ij 0) = (fk a ≤ fk b) := by rw [fk_cmp ha hb]; exact cv_l_le
/-- the order of keys is that of their values -/
theorem fk_zv {a b : UInt32} (ha : kyB a) (hb : kyB b) : fk a ≤ fk b ↔ FP.Core.zval FP.Core.b32 (FP.Core.val32 a) ≤ FP.Core.zval FP.Core.b32 (FP.Core.val32 b) := by
  have h1 := FP.Core.fcmp_key (kyB_nn ha) (kyB_nn hb)
  have h2 := FP.Core.fcmp_zval (kyB_nn ha) (kyB_nn hb)
  rw [h1] at h2
  have h3 := Option.some.inj h2
  rw [← Int.not_lt, ← Int.not_lt, ← FP.Core.compare_gt_iff, ← FP.Core.compare_gt_iff, h3]
theorem fk_nn {a b : UInt32} (ha : FP.Core.val32 a ≠ .nan) (hb : FP.Core.val32 b ≠ .nan) : fk a ≤ fk b ↔ FP.Core.zval FP.Core.b32 (FP.Core.val32 a) ≤ FP.Core.zval FP.Core.b32 (FP.Core.val32 b) := by
  have h1 := FP.Core.fcmp_key ha hb
  have h2 := FP.Core.fcmp_zval ha hb
  rw [h1] at h2
  have h3 := Option.some.inj h2
  rw [← Int.not_lt, ← Int.not_lt, ← FP.Core.compare_gt_iff, ← FP.Core.compare_gt_iff, h3]
theorem fk_kyB {a : UInt32} : kyB a ↔ -1266679808 ≤ fk a ∧ fk a ≤ 1266679808 := by
  have h := a.toNat_lt
  unfold kyB fk FP.Core.fkey
  split <;> omega
theorem fk_same {a b : UInt32} (h : fk a = fk b) : a = b ∨ ((a = 0 ∨ a = 2147483648) ∧ (b = 0 ∨ b = 2147483648)) := by
  have h1 := a.toNat_lt
  have h2 := b.toNat_lt
  unfold fk FP.Core.fkey at h
  have key : a.toNat = b.toNat ∨ ((a.toNat = 0 ∨ a.toNat = 2147483648) ∧ (b.toNat = 0 ∨ b.toNat = 2147483648)) := by
    split at h <;> split at h <;> omega
  have e : ∀ {x y : UInt32}, x.toNat = y.toNat → x = y := fun {x y} q => UInt32.toNat_inj.mp q
  rcases key with k | ⟨k1, k2⟩
  · exact Or.inl (e k)
  · exact Or.inr ⟨k1.imp (fun q => e q) (fun q => e q), k2.imp (fun q => e q) (fun q => e q)⟩
theorem zv_top : FP.Core.zval FP.Core.b32 (FP.Core.val32 1266679807) + FP.Core.zval FP.Core.b32 (FP.Core.val32 1065353216) = FP.Core.zval FP.Core.b32 (FP.Core.val32 1266679808) := by decide +kernel
theorem zv_one : 0 ≤ FP.Core.zval FP.Core.b32 (FP.Core.val32 1065353216) := by decide +kernel
theorem zv_low : FP.Core.zval FP.Core.b32 (FP.Core.val32 3414163456) = -FP.Core.zval FP.Core.b32 (FP.Core.val32 1266679808) := by decide +kernel
theorem zv_low1 : FP.Core.zval FP.Core.b32 (FP.Core.val32 3414163455) = -FP.Core.zval FP.Core.b32 (FP.Core.val32 1266679807) := by decide +kernel
theorem zv_two : FP.Core.zval FP.Core.b32 (FP.Core.val32 1275068416) = 2 * FP.Core.zval FP.Core.b32 (FP.Core.val32 1266679808) := by decide +kernel
theorem zv_twon : FP.Core.zval FP.Core.b32 (FP.Core.val32 3422552064) = -(2 * FP.Core.zval FP.Core.b32 (FP.Core.val32 1266679808)) := by decide +kernel
theorem nn32_of {z : UInt32} (h : FP.Core.val32 z ≠ .nan) : nn32 z = true := by
  unfold nn32
  rw [decide_eq_true_eq, UInt32.le_iff_toNat_le, FP.Core.mask_toNat32]
  exact (FP.Core.ne_nan32 z).mp h
theorem nn64_of {z : UInt64} (h : FP.Core.val64 z ≠ .nan) : nn64 z = true := by
  unfold nn64
  rw [decide_eq_true_eq, UInt64.le_iff_toNat_le, FP.Core.mask_toNat]
  exact (FP.Core.ne_nan z).mp h
theorem fadd_nn {a b : UInt32} (ha : kyB a) (hb : kyB b) : FP.Core.val32 (FP.fadd a b) ≠ .nan := (FP.Core.notNaN_iff32 _).mp (FP.Core.fadd_out (kyB_fin ha).notNaN (kyB_fin hb))
theorem fsub_nn {a b : UInt32} (ha : kyB a) (hb : kyB b) : FP.Core.val32 (FP.fsub a b) ≠ .nan := (FP.Core.notNaN_iff32 _).mp (FP.Core.fsub_out (kyB_fin ha).notNaN (kyB_fin hb))
theorem kyB_1 : kyB 1065353216 := by unfold kyB; decide
theorem kyB_0 : kyB 0 := by unfold kyB; decide
theorem kyB_hi : kyB 1266679808 := by unfold kyB; decide
theorem kyB_lo : kyB 3414163456 := by unfold kyB; decide
/-- a sum or quotient lies between two numbers where its value does -/
theorem kyB_zv {a : UInt32} (hn : FP.Core.val32 a ≠ .nan) (h1 : FP.Core.zval FP.Core.b32 (FP.Core.val32 a) ≤ FP.Core.zval FP.Core.b32 (FP.Core.val32 1266679808)) (h2 : -FP.Core.zval FP.Core.b32 (FP.Core.val32 1266679808) ≤ FP.Core.zval FP.Core.b32 (FP.Core.val32 a)) : kyB a := by
  rw [fk_kyB]
  have g1 := (fk_nn hn (kyB_nn kyB_hi)).mpr h1
  rw [← zv_low] at h2
  have g2 := (fk_nn (kyB_nn kyB_lo) hn).mpr h2
  have e1 : fk 1266679808 = 1266679808 := by decide
  have e2 : fk 3414163456 = -1266679808 := by decide
  rw [e1] at g1
  rw [e2] at g2
  exact ⟨g2, g1⟩
theorem kyB_hz {a : UInt32} (ha : kyB a) : FP.Core.zval FP.Core.b32 (FP.Core.val32 a) ≤ FP.Core.zval FP.Core.b32 (FP.Core.val32 1266679808) ∧ -FP.Core.zval FP.Core.b32 (FP.Core.val32 1266679808) ≤ FP.Core.zval FP.Core.b32 (FP.Core.val32 a) := by
  have h := fk_kyB.mp ha
  have e1 : fk 1266679808 = 1266679808 := by decide
  have e2 : fk 3414163456 = -1266679808 := by decide
  refine ⟨(fk_zv ha kyB_hi).mp (by rw [e1]; exact h.2), ?_⟩
  rw [← zv_low]
  exact (fk_zv kyB_lo ha).mp (by rw [e2]; exact h.1)
theorem kyB_add1 {a : UInt32} (ha : kyB a) : kyB (FP.fadd a 1065353216) := by
  have hn := fadd_nn ha kyB_1
  have h := fk_kyB.mp ha
  by_cases e : fk a = 1266679808
  · have ea : a = 1266679808 := by
      rcases fk_same (a := a) (b := 1266679808) (by rw [e]; decide) with q | ⟨_, q⟩
      · exact q
      · exact absurd q (by decide)
    rw [ea]
    unfold kyB
    decide +kernel
  · have k1 : kyB 1266679807 := by unfold kyB; decide
    have e1 : fk 1266679807 = 1266679807 := by decide
    have g1 := (fk_zv ha k1).mp (by rw [e1]; omega)
    have g2 := (kyB_hz ha).2
    have z1 := zv_one
    have z2 := zv_top
    have s1 := FP.Core.sum_le FP.Core.good_b32 (kyB_fin ha) (kyB_fin kyB_1) (FP.Core.val32_fits a) (FP.Core.val32_fits _) (FP.Core.val32_fits 1266679808) (kyB_nn kyB_hi) (by omega)
    have s2 := FP.Core.sum_ge FP.Core.good_b32 (kyB_fin ha) (kyB_fin kyB_1) (FP.Core.val32_fits a) (FP.Core.val32_fits _) (FP.Core.val32_fits 3414163456) (kyB_nn kyB_lo) (by rw [zv_low]; omega)
    rw [← FP.Core.val32_fadd] at s1 s2
    rw [zv_low] at s2
    exact kyB_zv hn s1 s2
theorem kyB_sub1 {a : UInt32} (ha : kyB a) : kyB (FP.fsub a 1065353216) := by
  have hn := fsub_nn ha kyB_1
  have h := fk_kyB.mp ha
  have hv : FP.Core.val32 (FP.fsub a 1065353216) = FP.Core.round FP.Core.b32 (FP.Core.exactSum (FP.Core.val32 a) (FP.Core.negate (FP.Core.val32 1065353216))) := FP.Core.val32_fsub _ _
  by_cases e : fk a = -1266679808
  · have ea : a = 3414163456 := by
      rcases fk_same (a := a) (b := 3414163456) (by rw [e]; decide) with q | ⟨_, q⟩
      · exact q
      · exact absurd q (by decide)
    rw [ea]
    unfold kyB
    decide +kernel
  · have k1 : kyB 3414163455 := by unfold kyB; decide
    have e1 : fk 3414163455 = -1266679807 := by decide
    have g1 := (fk_zv k1 ha).mp (by rw [e1]; omega)
    have g2 := (kyB_hz ha).1
    have z1 := zv_one
    have z2 := zv_top
    rw [zv_low1] at g1
    have hneg : ∃ s c q, FP.Core.negate (FP.Core.val32 1065353216) = .fin s c q := by
      obtain ⟨s, c, q, e⟩ := kyB_fin kyB_1
      rw [e]
      exact ⟨_, _, _, rfl⟩
    have zn := FP.Core.zval_negate FP.Core.b32 (FP.Core.val32 1065353216)
    have s1 := FP.Core.sum_le FP.Core.good_b32 (kyB_fin ha) hneg (FP.Core.val32_fits a) (FP.Core.negate_fits (FP.Core.val32_fits _)) (FP.Core.val32_fits 1266679808) (kyB_nn kyB_hi) (by omega)
    have s2 := FP.Core.sum_ge FP.Core.good_b32 (kyB_fin ha) hneg (FP.Core.val32_fits a) (FP.Core.negate_fits (FP.Core.val32_fits _)) (FP.Core.val32_fits 3414163456) (kyB_nn kyB_lo) (by rw [zv_low]; omega)
    rw [← hv] at s1 s2
    rw [zv_low] at s2
    exact kyB_zv hn s1 s2
theorem val32_two : FP.Core.val32 1073741824 = .fin false 8388608 (-22) := by decide +kernel
theorem kyB_half {a b : UInt32} (ha : kyB a) (hb : kyB b) : kyB (FP.fdiv (FP.fadd a b) 1073741824) ∧ FP.Core.val32 (FP.fadd a b) ≠ .nan := by
  have hn := fadd_nn ha hb
  have k2 : FP.Core.val32 1275068416 ≠ .nan := (FP.Core.ne_nan32 _).mpr (by decide)
  have k2n : FP.Core.val32 3422552064 ≠ .nan := (FP.Core.ne_nan32 _).mpr (by decide)
  have a1 := kyB_hz ha
  have b1 := kyB_hz hb
  have s1 := FP.Core.sum_le FP.Core.good_b32 (kyB_fin ha) (kyB_fin hb) (FP.Core.val32_fits a) (FP.Core.val32_fits b) (FP.Core.val32_fits 1275068416) k2 (by rw [zv_two]; omega)
  have s2 := FP.Core.sum_ge FP.Core.good_b32 (kyB_fin ha) (kyB_fin hb) (FP.Core.val32_fits a) (FP.Core.val32_fits b) (FP.Core.val32_fits 3422552064) k2n (by rw [zv_twon]; omega)
  have hv : FP.Core.val32 (FP.fadd a b) = FP.Core.round FP.Core.b32 (FP.Core.exactSum (FP.Core.val32 a) (FP.Core.val32 b)) := FP.Core.val32_fadd _ _
  rw [← hv, zv_two] at s1
  rw [← hv, zv_twon] at s2
  refine ⟨?_, hn⟩
  have hd : FP.Core.val32 (FP.fdiv (FP.fadd a b) 1073741824) = FP.Core.quotient FP.Core.b32 (FP.Core.val32 (FP.fadd a b)) (FP.Core.val32 1073741824) := FP.Core.val32_fdiv _ _
  have hfit := FP.Core.val32_fits (FP.fadd a b)
  have ztop : FP.Core.zval FP.Core.b32 (FP.Core.val32 1266679808) = (FP.Core.zmag FP.Core.b32 (FP.Core.val32 1266679808) : Int) := by decide +kernel
  cases e : FP.Core.val32 (FP.fadd a b) with
  | nan => exact absurd e hn
  | inf s =>
    rw [e] at s1 s2
    exfalso
    have hb1 : 2 * FP.Core.zval FP.Core.b32 (FP.Core.val32 1266679808) < FP.Core.zval FP.Core.b32 (.inf false) := by decide +kernel
    have hb2 : FP.Core.zval FP.Core.b32 (.inf true) < -(2 * FP.Core.zval FP.Core.b32 (FP.Core.val32 1266679808)) := by decide +kernel
    cases s <;> omega
  | fin s c q =>
    rw [e] at s1 s2 hfit
    have hd2 : FP.Core.val32 (FP.fdiv (FP.fadd a b) 1073741824) = FP.Core.roundRatio FP.Core.b32 (s != false) c 8388608 (q - (-22)) := by
      rw [hd, e, val32_two]; rfl
    have hq : FP.Core.b32.qmin ≤ q := hfit.2.1
    have hz : FP.Core.zmag FP.Core.b32 (.fin s c q) ≤ 2 * FP.Core.zmag FP.Core.b32 (FP.Core.val32 1266679808) := by
      have h1 : (FP.Core.signed s (FP.Core.zmag FP.Core.b32 (.fin s c q))) ≤ 2 * (FP.Core.zmag FP.Core.b32 (FP.Core.val32 1266679808) : Int) := by rw [← ztop]; exact s1
      have h2 : -(2 * (FP.Core.zmag FP.Core.b32 (FP.Core.val32 1266679808) : Int)) ≤ FP.Core.signed s (FP.Core.zmag FP.Core.b32 (.fin s c q)) := by rw [← ztop]; exact s2
      cases s
      · have h1 : ((FP.Core.zmag FP.Core.b32 (.fin false c q) : Nat) : Int) ≤ _ := h1
        omega
      · have h2 : _ ≤ -((FP.Core.zmag FP.Core.b32 (.fin true c q) : Nat) : Int) := h2
        omega
    have hm : FP.Core.zmag FP.Core.b32 (FP.Core.roundRatio FP.Core.b32 (s != false) c 8388608 (q - (-22))) ≤ FP.Core.zmag FP.Core.b32 (FP.Core.val32 1266679808) := by
      refine FP.Core.zmag_roundRatio_le (e0 := FP.Core.b32.qmin) FP.Core.good_b32 (by decide) (FP.Core.val32_fits _) (kyB_nn kyB_hi) (Int.le_refl _) (by omega) ?_
      have h3 : FP.Core.inUnits c (q - (-22)) FP.Core.b32.qmin = FP.Core.zmag FP.Core.b32 (.fin s c q) * 4194304 := by
        show c * 2 ^ (q - -22 - FP.Core.b32.qmin).toNat = c * 2 ^ (q - FP.Core.b32.qmin).toNat * 4194304
        rw [show (q - -22 - FP.Core.b32.qmin).toNat = (q - FP.Core.b32.qmin).toNat + 22 by omega, Nat.pow_add, Nat.mul_assoc]
      rw [h3, Int.sub_self]
      show _ ≤ _ * 2 ^ 0 * 8388608
      omega
    have hnn : FP.Core.val32 (FP.fdiv (FP.fadd a b) 1073741824) ≠ .nan := by
      have hz2 : ¬ FP.Core.FZero 1073741824 := by
        rintro ⟨s', q', h'⟩
        rw [val32_two] at h'
        cases h'
      exact (FP.Core.notNaN_iff32 _).mp (FP.Core.fdiv_out ((FP.Core.notNaN_iff32 _).mpr hn) ⟨_, _, _, val32_two⟩ hz2)
    have hsz : FP.Core.zval FP.Core.b32 (FP.Core.val32 (FP.fdiv (FP.fadd a b) 1073741824)) = FP.Core.signed (s != false) (FP.Core.zmag FP.Core.b32 (FP.Core.val32 (FP.fdiv (FP.fadd a b) 1073741824))) := by
      unfold FP.Core.zval
      rw [hd2, FP.Core.sgn_roundRatio]
    rw [← hd2] at hm
    refine kyB_zv hnn ?_ ?_
    · rw [hsz, ztop]
      cases s <;> simp only [FP.Core.signed] <;> (try simp only [bne_self_eq_false, Bool.false_eq_true, if_false]) <;> (try simp) <;> omega
    · rw [hsz, ztop]
      cases s <;> simp only [FP.Core.signed] <;> (try simp only [bne_self_eq_false, Bool.false_eq_true, if_false]) <;> (try simp) <;> omega
/-! Keys by how many steps there were. -/
theorem one32_v : (FP.Core.one32 : Int) = FP.Core.zval FP.Core.b32 (FP.Core.val32 1065353216) := by decide +kernel
theorem fint_i {i : Int} (h : i.natAbs ≤ 16777216) : FP.Core.FInt i (FP.i2f (ij i)) := by
  have h1 : (ij i).toInt = i := ij_toInt (by omega) (by omega)
  have h2 := FP.Core.i2f_int (a := ij i) (by rw [h1]; omega)
  rwa [h1] at h2
theorem zv_i {i : Int} (h : i.natAbs ≤ 16777216) : FP.Core.zval FP.Core.b32 (FP.Core.val32 (FP.i2f (ij i))) = i * (FP.Core.one32 : Int) ∧ FP.Core.val32 (FP.i2f (ij i)) ≠ .nan :=
  ⟨FP.Core.FInt_zval (fint_i h), FP.Core.FInt_ne_nan (fint_i h)⟩
theorem mulo (m : Nat) : ((m + 1 : Nat) : Int) * (FP.Core.one32 : Int) = (m : Int) * (FP.Core.one32 : Int) + (FP.Core.one32 : Int) := by
  rw [show ((m + 1 : Nat) : Int) = (m : Int) + 1 from rfl, Int.add_mul, Int.one_mul]
theorem kz_kyB {m : Nat} (hm : m ≤ 16777216) {a : UInt32} (k : kz m a) : kyB a := by
  have h1 := kz_mono hm k
  have h2 : ((16777216 : Nat) : Int) * (FP.Core.one32 : Int) = FP.Core.zval FP.Core.b32 (FP.Core.val32 1266679808) := by decide +kernel
  exact kyB_zv h1.1 (by rw [← h2]; exact h1.2.1) (by rw [← h2]; exact h1.2.2)
theorem kz_add1 {m : Nat} (hm : m < 1000) {a : UInt32} (k : kz m a) : kz (m + 1) (FP.fadd a 1065353216) := by
  have ha := kz_kyB (by omega) k
  have hn := fadd_nn ha kyB_1
  have e1 := zv_i (i := ((m + 1 : Nat) : Int)) (by omega)
  have e2 := zv_i (i := -((m + 1 : Nat) : Int)) (by omega)
  have o := one32_v
  have o1 : (0 : Int) < (FP.Core.one32 : Int) := by have := FP.Core.one32_pos; omega
  have mo := mulo m
  have n1 : -((m + 1 : Nat) : Int) * (FP.Core.one32 : Int) = -(((m + 1 : Nat) : Int) * (FP.Core.one32 : Int)) := Int.neg_mul _ _
  rw [n1] at e2
  have s1 := FP.Core.sum_le FP.Core.good_b32 (kyB_fin ha) (kyB_fin kyB_1) (FP.Core.val32_fits a) (FP.Core.val32_fits _) (FP.Core.val32_fits (FP.i2f (ij ((m + 1 : Nat) : Int)))) e1.2 (by rw [e1.1]; have := k.2.1; omega)
  have s2 := FP.Core.sum_ge FP.Core.good_b32 (kyB_fin ha) (kyB_fin kyB_1) (FP.Core.val32_fits a) (FP.Core.val32_fits _) (FP.Core.val32_fits (FP.i2f (ij (-((m + 1 : Nat) : Int))))) e2.2 (by rw [e2.1]; have := k.2.2; omega)
  rw [← FP.Core.val32_fadd, e1.1] at s1
  rw [← FP.Core.val32_fadd, e2.1] at s2
  exact ⟨hn, s1, s2⟩
theorem kz_sub1 {m : Nat} (hm : m < 1000) {a : UInt32} (k : kz m a) : kz (m + 1) (FP.fsub a 1065353216) := by
  have ha := kz_kyB (by omega) k
  have hn := fsub_nn ha kyB_1
  have hv : FP.Core.val32 (FP.fsub a 1065353216) = FP.Core.round FP.Core.b32 (FP.Core.exactSum (FP.Core.val32 a) (FP.Core.negate (FP.Core.val32 1065353216))) := FP.Core.val32_fsub _ _
  have e1 := zv_i (i := ((m + 1 : Nat) : Int)) (by omega)
  have e2 := zv_i (i := -((m + 1 : Nat) : Int)) (by omega)
  have o := one32_v
  have o1 : (0 : Int) < (FP.Core.one32 : Int) := by have := FP.Core.one32_pos; omega
  have mo := mulo m
  have n1 : -((m + 1 : Nat) : Int) * (FP.Core.one32 : Int) = -(((m + 1 : Nat) : Int) * (FP.Core.one32 : Int)) := Int.neg_mul _ _
  rw [n1] at e2
  have hneg : ∃ s c q, FP.Core.negate (FP.Core.val32 1065353216) = .fin s c q := by
    obtain ⟨s, c, q, e⟩ := kyB_fin kyB_1
    rw [e]
    exact ⟨_, _, _, rfl⟩
  have zn := FP.Core.zval_negate FP.Core.b32 (FP.Core.val32 1065353216)
  have s1 := FP.Core.sum_le FP.Core.good_b32 (kyB_fin ha) hneg (FP.Core.val32_fits a) (FP.Core.negate_fits (FP.Core.val32_fits _)) (FP.Core.val32_fits (FP.i2f (ij ((m + 1 : Nat) : Int)))) e1.2 (by rw [e1.1]; have := k.2.1; omega)
  have s2 := FP.Core.sum_ge FP.Core.good_b32 (kyB_fin ha) hneg (FP.Core.val32_fits a) (FP.Core.negate_fits (FP.Core.val32_fits _)) (FP.Core.val32_fits (FP.i2f (ij (-((m + 1 : Nat) : Int))))) e2.2 (by rw [e2.1]; have := k.2.2; omega)
  rw [← hv, e1.1] at s1
  rw [← hv, e2.1] at s2
  exact ⟨hn, s1, s2⟩
theorem fadd_mag_fin {a b : UInt32} (ha : kyB a) (hb : kyB b) : FP.Core.FFin (FP.fadd a b) := by
  refine FP.Core.fin_of_lt32 (K := 155) ?_ (by omega)
  have := FP.Core.fadd_mag (a := a) (b := b) (K := 152) (by unfold kyB at ha; omega) (by unfold kyB at hb; omega) (by omega)
  exact Nat.lt_of_lt_of_le this (by omega)
theorem kz_half {m : Nat} (hm : m < 1000) {a b : UInt32} (ka : kz m a) (kb : kz m b) : kz m (FP.fdiv (FP.fadd a b) 1073741824) := by
  have ha := kz_kyB (by omega) ka
  have hb := kz_kyB (by omega) kb
  have hn := fadd_nn ha hb
  have e1 := zv_i (i := ((2 * m : Nat) : Int)) (by omega)
  have e2 := zv_i (i := -((2 * m : Nat) : Int)) (by omega)
  have em := zv_i (i := (m : Int)) (by omega)
  have n1 : -((2 * m : Nat) : Int) * (FP.Core.one32 : Int) = -(((2 * m : Nat) : Int) * (FP.Core.one32 : Int)) := Int.neg_mul _ _
  have n2 : ((2 * m : Nat) : Int) * (FP.Core.one32 : Int) = 2 * ((m : Int) * (FP.Core.one32 : Int)) := by rw [show ((2 * m : Nat) : Int) = 2 * (m : Int) by omega, Int.mul_assoc]
  rw [n1] at e2
  rw [n2] at e1 e2
  have k1 := ka.2
  have k2 := kb.2
  have s1 := FP.Core.sum_le FP.Core.good_b32 (kyB_fin ha) (kyB_fin hb) (FP.Core.val32_fits a) (FP.Core.val32_fits b) (FP.Core.val32_fits (FP.i2f (ij ((2 * m : Nat) : Int)))) e1.2 (by rw [e1.1]; omega)
  have s2 := FP.Core.sum_ge FP.Core.good_b32 (kyB_fin ha) (kyB_fin hb) (FP.Core.val32_fits a) (FP.Core.val32_fits b) (FP.Core.val32_fits (FP.i2f (ij (-((2 * m : Nat) : Int))))) e2.2 (by rw [e2.1]; omega)
  have hv : FP.Core.val32 (FP.fadd a b) = FP.Core.round FP.Core.b32 (FP.Core.exactSum (FP.Core.val32 a) (FP.Core.val32 b)) := FP.Core.val32_fadd _ _
  rw [← hv, e1.1] at s1
  rw [← hv, e2.1] at s2
  have hbd := (kyB_half ha hb).1
  have hnn := kyB_nn hbd
  have hd : FP.Core.val32 (FP.fdiv (FP.fadd a b) 1073741824) = FP.Core.quotient FP.Core.b32 (FP.Core.val32 (FP.fadd a b)) (FP.Core.val32 1073741824) := FP.Core.val32_fdiv _ _
  have hfit := FP.Core.val32_fits (FP.fadd a b)
  have hm0 : (0 : Int) ≤ (m : Int) * (FP.Core.one32 : Int) := Int.mul_nonneg (by omega) (by omega)
  have hzm : (FP.Core.zmag FP.Core.b32 (FP.Core.val32 (FP.i2f (ij (m : Int)))) : Int) = (m : Int) * (FP.Core.one32 : Int) := by
    have z1 := em.1
    unfold FP.Core.zval at z1
    cases hs : FP.Core.sgn (FP.Core.val32 (FP.i2f (ij (m : Int)))) with
    | false => rw [hs] at z1; exact z1
    | true =>
      rw [hs] at z1
      have z2 : -((FP.Core.zmag FP.Core.b32 (FP.Core.val32 (FP.i2f (ij (m : Int)))) : Nat) : Int) = (m : Int) * (FP.Core.one32 : Int) := z1
      omega
  have key : FP.Core.zmag FP.Core.b32 (FP.Core.val32 (FP.fdiv (FP.fadd a b) 1073741824)) ≤ FP.Core.zmag FP.Core.b32 (FP.Core.val32 (FP.i2f (ij (m : Int)))) := by
    cases e : FP.Core.val32 (FP.fadd a b) with
    | nan => exact absurd e hn
    | inf s =>
      exfalso
      have hs1 := fadd_mag_fin ha hb
      obtain ⟨s', c', q', h'⟩ := hs1
      rw [e] at h'
      cases h'
    | fin s c q =>
      rw [e] at s1 s2 hfit
      have hd2 : FP.Core.val32 (FP.fdiv (FP.fadd a b) 1073741824) = FP.Core.roundRatio FP.Core.b32 (s != false) c 8388608 (q - (-22)) := by
        rw [hd, e, val32_two]; rfl
      have hq : FP.Core.b32.qmin ≤ q := hfit.2.1
      have hz : FP.Core.zmag FP.Core.b32 (.fin s c q) ≤ 2 * FP.Core.zmag FP.Core.b32 (FP.Core.val32 (FP.i2f (ij (m : Int)))) := by
        cases s
        · have h1 : ((FP.Core.zmag FP.Core.b32 (.fin false c q) : Nat) : Int) ≤ _ := s1
          omega
        · have h2 : _ ≤ -((FP.Core.zmag FP.Core.b32 (.fin true c q) : Nat) : Int) := s2
          omega
      rw [hd2]
      refine FP.Core.zmag_roundRatio_le (e0 := FP.Core.b32.qmin) FP.Core.good_b32 (by decide) (FP.Core.val32_fits _) em.2 (Int.le_refl _) (by omega) ?_
      have h3 : FP.Core.inUnits c (q - (-22)) FP.Core.b32.qmin = FP.Core.zmag FP.Core.b32 (.fin s c q) * 4194304 := by
        show c * 2 ^ (q - -22 - FP.Core.b32.qmin).toNat = c * 2 ^ (q - FP.Core.b32.qmin).toNat * 4194304
        rw [show (q - -22 - FP.Core.b32.qmin).toNat = (q - FP.Core.b32.qmin).toNat + 22 by omega, Nat.pow_add, Nat.mul_assoc]
      rw [h3, Int.sub_self]
      show _ ≤ _ * 2 ^ 0 * 8388608
      omega
  refine ⟨hnn, ?_, ?_⟩
  · unfold FP.Core.zval
    cases FP.Core.sgn (FP.Core.val32 (FP.fdiv (FP.fadd a b) 1073741824)) with
    | false => show ((FP.Core.zmag FP.Core.b32 _ : Nat) : Int) ≤ _; omega
    | true => show -((FP.Core.zmag FP.Core.b32 _ : Nat) : Int) ≤ _; omega
  · unfold FP.Core.zval
    cases FP.Core.sgn (FP.Core.val32 (FP.fdiv (FP.fadd a b) 1073741824)) with
    | false => show _ ≤ ((FP.Core.zmag FP.Core.b32 _ : Nat) : Int); omega
    | true => show _ ≤ -((FP.Core.zmag FP.Core.b32 _ : Nat) : Int); omega
