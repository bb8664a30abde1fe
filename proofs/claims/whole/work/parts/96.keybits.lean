/-! The bits of a key, found with doubles. -/
def Dd (m : Nat) (e : Int) : UInt64 := FP.Core.of64 (.fin false (m * 536870912) (e - 52))
def MM (m : Nat) : Prop := 8388608 ≤ m ∧ m < 16777216
theorem b64_qmin : FP.Core.b64.qmin = -1074 := by decide
theorem b64_qmax : FP.Core.b64.qmax = 971 := by decide
theorem Dd_fits {s : Bool} {m : Nat} {e : Int} (hm : MM m) (h1 : -1000 ≤ e) (h2 : e ≤ 1000) : FP.Core.fits FP.Core.b64 (.fin s (m * 536870912) (e - 52)) := by
  obtain ⟨m1, m2⟩ := hm
  refine ⟨?_, ?_, ?_, Or.inr ?_⟩
  · show m * 536870912 < 2 ^ 53
    omega
  · rw [b64_qmin]; omega
  · rw [b64_qmax]; omega
  · show 2 ^ 52 ≤ m * 536870912
    omega
theorem Dd_val {m : Nat} {e : Int} (hm : MM m) (h1 : -1000 ≤ e) (h2 : e ≤ 1000) : FP.Core.val64 (Dd m e) = .fin false (m * 536870912) (e - 52) := FP.Core.val64_of64 (Dd_fits hm h1 h2)
theorem v64_2 : FP.Core.val64 4611686018427387904 = .fin false 4503599627370496 (-51) := by decide +kernel
theorem v64_1 : FP.Core.val64 4607182418800017408 = .fin false 4503599627370496 (-52) := by decide +kernel
theorem v64_23 : FP.Core.val64 4710765210229538816 = .fin false 4503599627370496 (-29) := by decide +kernel
theorem Dd_nn {m : Nat} {e : Int} (hm : MM m) (h1 : -1000 ≤ e) (h2 : e ≤ 1000) : FP.Core.val64 (Dd m e) ≠ .nan := by
  rw [Dd_val hm h1 h2]
  intro h
  cases h
theorem Dd_div {m : Nat} {e : Int} (hm : MM m) (h1 : -999 ≤ e) (h2 : e ≤ 999) : FP.ddiv (Dd m e) 4611686018427387904 = Dd m (e - 1) := by
  have hv : FP.Core.val64 (FP.ddiv (Dd m e) 4611686018427387904) = .fin false (m * 536870912) (e - 1 - 52) := by
    show FP.Core.val64 (FP.Core.ddiv (Dd m e) 4611686018427387904) = _
    rw [FP.Core.val64_ddiv, Dd_val hm (by omega) (by omega), v64_2]
    show (if (4503599627370496 : Nat) = 0 then (if m * 536870912 = 0 then FP.Core.Datum.nan else FP.Core.Datum.inf (false != false)) else FP.Core.roundRatio FP.Core.b64 (false != false) (m * 536870912) 4503599627370496 (e - 52 - -51)) = _
    rw [if_neg (by decide)]
    refine FP.Core.roundRatio_exact FP.Core.good_b64 (by decide) (Dd_fits hm (by omega) (by omega)) ?_
    rw [show (e - 52 - -51 - (e - 1 - 52)).toNat = 52 by omega, show (e - 1 - 52 - (e - 52 - -51)).toNat = 0 by omega, show (2 : Nat) ^ 52 = 4503599627370496 by decide, Nat.pow_zero, Nat.mul_one]
  refine FP.Core.val64_inj ?_ ?_
  · rw [hv]; intro h; cases h
  · rw [hv, Dd_val hm (by omega) (by omega)]
theorem Dd_mul {m : Nat} {e : Int} (hm : MM m) (h1 : -999 ≤ e) (h2 : e ≤ 999) : FP.dmul (Dd m e) 4611686018427387904 = Dd m (e + 1) := by
  have hv : FP.Core.val64 (FP.dmul (Dd m e) 4611686018427387904) = .fin false (m * 536870912) (e + 1 - 52) := by
    show FP.Core.val64 (FP.Core.dmul (Dd m e) 4611686018427387904) = _
    rw [FP.Core.val64_dmul, Dd_val hm (by omega) (by omega), v64_2]
    show FP.Core.roundRatio FP.Core.b64 (false != false) (m * 536870912 * 4503599627370496) 1 (e - 52 + -51) = _
    refine FP.Core.roundRatio_exact FP.Core.good_b64 (by decide) (Dd_fits hm (by omega) (by omega)) ?_
    rw [show (e - 52 + -51 - (e + 1 - 52)).toNat = 0 by omega, show (e + 1 - 52 - (e - 52 + -51)).toNat = 52 by omega, show (2 : Nat) ^ 52 = 4503599627370496 by decide, Nat.pow_zero, Nat.mul_one, Nat.mul_one]
  refine FP.Core.val64_inj ?_ ?_
  · rw [hv]; intro h; cases h
  · rw [hv, Dd_val hm (by omega) (by omega)]
theorem pow_ge1 (k : Nat) : 1 ≤ 2 ^ k := Nat.two_pow_pos k
theorem Dd_lt2 {m : Nat} {e : Int} (hm : MM m) (h1 : -1000 ≤ e) (h2 : e ≤ 1000) : (Op.cmpValue (FP.dcmp (Dd m e) 4611686018427387904) CmpOp.l < 0) = (e ≤ 0) := by
  have hv : FP.dcmp (Dd m e) 4611686018427387904 = FP.Core.order (FP.Core.val64 (Dd m e)) (FP.Core.val64 4611686018427387904) := rfl
  obtain ⟨m1, m2⟩ := hm
  rw [hv, Dd_val ⟨m1, m2⟩ h1 h2, v64_2]
  show (Op.cmpValue (some (compare ((m * 536870912 * 2 ^ (e - 52 - min (e - 52) (-51)).toNat : Nat) : Int) ((4503599627370496 * 2 ^ (-51 - min (e - 52) (-51)).toNat : Nat) : Int))) CmpOp.l < 0) = _
  have key : ((m * 536870912 * 2 ^ (e - 52 - min (e - 52) (-51)).toNat : Nat) : Int) < ((4503599627370496 * 2 ^ (-51 - min (e - 52) (-51)).toNat : Nat) : Int) ↔ e ≤ 0 := by
    by_cases h : e ≤ 0
    · have e1 : (e - 52 - min (e - 52) (-51)).toNat = 0 := by omega
      have e2 : (-51 - min (e - 52) (-51)).toNat = (-e).toNat + 1 := by omega
      rw [e1, e2, Nat.pow_zero, Nat.mul_one, Nat.pow_succ]
      have := pow_ge1 (-e).toNat
      refine ⟨fun _ => h, fun _ => ?_⟩
      have : 4503599627370496 * 2 ≤ 4503599627370496 * (2 ^ (-e).toNat * 2) := Nat.mul_le_mul_left _ (by omega)
      omega
    · have e1 : (e - 52 - min (e - 52) (-51)).toNat = (e - 1).toNat := by omega
      have e2 : (-51 - min (e - 52) (-51)).toNat = 0 := by omega
      rw [e1, e2, Nat.pow_zero, Nat.mul_one]
      have := pow_ge1 (e - 1).toNat
      refine ⟨fun q => ?_, fun q => absurd q h⟩
      have : m * 536870912 * 1 ≤ m * 536870912 * 2 ^ (e - 1).toNat := Nat.mul_le_mul_left _ this
      omega
  rw [eq_iff_iff, ← key, ← FP.Core.compare_lt_iff]
  cases compare ((m * 536870912 * 2 ^ (e - 52 - min (e - 52) (-51)).toNat : Nat) : Int) ((4503599627370496 * 2 ^ (-51 - min (e - 52) (-51)).toNat : Nat) : Int) <;> decide
theorem Dd_ge1 {m : Nat} {e : Int} (hm : MM m) (h1 : -1000 ≤ e) (h2 : e ≤ 1000) : (0 ≤ Op.cmpValue (FP.dcmp (Dd m e) 4607182418800017408) CmpOp.g) = (0 ≤ e) := by
  have hv : FP.dcmp (Dd m e) 4607182418800017408 = FP.Core.order (FP.Core.val64 (Dd m e)) (FP.Core.val64 4607182418800017408) := rfl
  obtain ⟨m1, m2⟩ := hm
  rw [hv, Dd_val ⟨m1, m2⟩ h1 h2, v64_1]
  show (0 ≤ Op.cmpValue (some (compare ((m * 536870912 * 2 ^ (e - 52 - min (e - 52) (-52)).toNat : Nat) : Int) ((4503599627370496 * 2 ^ (-52 - min (e - 52) (-52)).toNat : Nat) : Int))) CmpOp.g) = _
  have key : ((m * 536870912 * 2 ^ (e - 52 - min (e - 52) (-52)).toNat : Nat) : Int) < ((4503599627370496 * 2 ^ (-52 - min (e - 52) (-52)).toNat : Nat) : Int) ↔ e < 0 := by
    by_cases h : e < 0
    · have e1 : (e - 52 - min (e - 52) (-52)).toNat = 0 := by omega
      have e2 : (-52 - min (e - 52) (-52)).toNat = (-e - 1).toNat + 1 := by omega
      rw [e1, e2, Nat.pow_zero, Nat.mul_one, Nat.pow_succ]
      have := pow_ge1 (-e - 1).toNat
      refine ⟨fun _ => h, fun _ => ?_⟩
      have : 4503599627370496 * 2 ≤ 4503599627370496 * (2 ^ (-e - 1).toNat * 2) := Nat.mul_le_mul_left _ (by omega)
      omega
    · have e1 : (e - 52 - min (e - 52) (-52)).toNat = e.toNat := by omega
      have e2 : (-52 - min (e - 52) (-52)).toNat = 0 := by omega
      rw [e1, e2, Nat.pow_zero, Nat.mul_one]
      have := pow_ge1 e.toNat
      refine ⟨fun q => ?_, fun q => absurd q h⟩
      have : m * 536870912 * 1 ≤ m * 536870912 * 2 ^ e.toNat := Nat.mul_le_mul_left _ this
      omega
  rw [eq_iff_iff, ← Int.not_lt, ← key, ← FP.Core.compare_lt_iff]
  cases compare ((m * 536870912 * 2 ^ (e - 52 - min (e - 52) (-52)).toNat : Nat) : Int) ((4503599627370496 * 2 ^ (-52 - min (e - 52) (-52)).toNat : Nat) : Int) <;> decide
theorem lp56 {m : Nat} (hm : MM m) (K : UInt64 → Int32 → Int32 → Option Int32) (N : Nat) : ∀ (k : Nat) (a c : Int) (n : Nat), 0 ≤ c → c + k ≤ 128 → k < n → fX7_bitsOf_L56 K N n (Dd m k) (ij a) (ij c) = K (Dd m 0) (ij (a + k)) (ij (c + k)) := by
  intro k
  induction k with
  | zero =>
    intro a c n h1 h2 h3
    obtain ⟨n, rfl⟩ : ∃ j, n = j + 1 := ⟨n - 1, by omega⟩
    have e0 : Dd m ((0 : Nat) : Int) = Dd m 0 := rfl
    simp only [fX7_bitsOf_L56]
    have q : Op.cmpValue (FP.dcmp (Dd m ((0 : Nat) : Int)) 4611686018427387904) CmpOp.l < 0 := by rw [Dd_lt2 hm (by omega) (by omega)]; omega
    rw [if_pos q, ite_self, e0]
    rw [show a + ((0 : Nat) : Int) = a by omega, show c + ((0 : Nat) : Int) = c by omega]
  | succ k ih =>
    intro a c n h1 h2 h3
    obtain ⟨n, rfl⟩ : ∃ j, n = j + 1 := ⟨n - 1, by omega⟩
    have c1 : ¬ (128 : Int32) ≤ ij c := by
      have : (ij 128 ≤ ij c) = ((128 : Int) ≤ c) := ij_le (by omega) (by omega) (by omega) (by omega)
      intro q
      have q2 : ij 128 ≤ ij c := q
      rw [this] at q2
      omega
    have e1 : (((k + 1 : Nat) : Int) - 1) = (k : Int) := by omega
    simp only [fX7_bitsOf_L56]
    have q : ¬ Op.cmpValue (FP.dcmp (Dd m ((k + 1 : Nat) : Int)) 4611686018427387904) CmpOp.l < 0 := by rw [Dd_lt2 hm (by omega) (by omega)]; omega
    rw [if_neg c1, if_neg q, Dd_div hm (by omega) (by omega), e1, nn64_of (Dd_nn hm (by omega) (by omega)), ck_tr, vl_s]
    simp only [ij_l0, ij_l1, ij_l2, ij_l3, ij_l4, ij_l5, ij_l6, ij_l8, ij_l12, ij_l16, ij_l19, ij_l23, ij_l24, ij_l31, ij_l32, ij_l36, ij_l47, ij_l48, ij_l56, ij_l92, ij_l93, ij_l98, ij_l108, ij_l114, ij_l116, ij_l127, ij_l128, ij_l149, ij_l250, ij_l384, ij_l768, ij_l1000, ij_l1536, ij_l3000, ij_l1000000, ij_l1000003, ij_l1000000000, ij_neg, ij_add, ij_sub, ij_mul, vl_s]
    rw [ih (a + 1) (c + 1) n (by omega) (by omega) (by omega), show a + 1 + (k : Int) = a + ((k + 1 : Nat) : Int) by omega, show c + 1 + (k : Int) = c + ((k + 1 : Nat) : Int) by omega]
theorem lp56n {m : Nat} (hm : MM m) (K : UInt64 → Int32 → Int32 → Option Int32) (N : Nat) {e : Int} (h1 : -200 ≤ e) (h2 : e < 0) (n : Nat) (a c : Int32) : fX7_bitsOf_L56 K N (n + 1) (Dd m e) a c = K (Dd m e) a c := by
  simp only [fX7_bitsOf_L56]
  have q : Op.cmpValue (FP.dcmp (Dd m e) 4611686018427387904) CmpOp.l < 0 := by rw [Dd_lt2 hm (by omega) (by omega)]; omega
  rw [if_pos q, ite_self]
theorem lp56_7 {m : Nat} (hm : MM m) (K : UInt64 → Int32 → Int32 → Option Int32) (N : Nat) : ∀ (k : Nat) (a c : Int) (n : Nat), 0 ≤ c → c + k ≤ 128 → k < n → fX7_bitsOf_L56_7 K N n (Dd m k) (ij a) (ij c) = K (Dd m 0) (ij (a + k)) (ij (c + k)) := by
  intro k
  induction k with
  | zero =>
    intro a c n h1 h2 h3
    obtain ⟨n, rfl⟩ : ∃ j, n = j + 1 := ⟨n - 1, by omega⟩
    have e0 : Dd m ((0 : Nat) : Int) = Dd m 0 := rfl
    simp only [fX7_bitsOf_L56_7]
    have q : Op.cmpValue (FP.dcmp (Dd m ((0 : Nat) : Int)) 4611686018427387904) CmpOp.l < 0 := by rw [Dd_lt2 hm (by omega) (by omega)]; omega
    rw [if_pos q, ite_self, e0]
    rw [show a + ((0 : Nat) : Int) = a by omega, show c + ((0 : Nat) : Int) = c by omega]
  | succ k ih =>
    intro a c n h1 h2 h3
    obtain ⟨n, rfl⟩ : ∃ j, n = j + 1 := ⟨n - 1, by omega⟩
    have c1 : ¬ (128 : Int32) ≤ ij c := by
      have : (ij 128 ≤ ij c) = ((128 : Int) ≤ c) := ij_le (by omega) (by omega) (by omega) (by omega)
      intro q
      have q2 : ij 128 ≤ ij c := q
      rw [this] at q2
      omega
    have e1 : (((k + 1 : Nat) : Int) - 1) = (k : Int) := by omega
    simp only [fX7_bitsOf_L56_7]
    have q : ¬ Op.cmpValue (FP.dcmp (Dd m ((k + 1 : Nat) : Int)) 4611686018427387904) CmpOp.l < 0 := by rw [Dd_lt2 hm (by omega) (by omega)]; omega
    rw [if_neg c1, if_neg q, Dd_div hm (by omega) (by omega), e1, nn64_of (Dd_nn hm (by omega) (by omega)), ck_tr, vl_s]
    simp only [ij_l0, ij_l1, ij_l2, ij_l3, ij_l4, ij_l5, ij_l6, ij_l8, ij_l12, ij_l16, ij_l19, ij_l23, ij_l24, ij_l31, ij_l32, ij_l36, ij_l47, ij_l48, ij_l56, ij_l92, ij_l93, ij_l98, ij_l108, ij_l114, ij_l116, ij_l127, ij_l128, ij_l149, ij_l250, ij_l384, ij_l768, ij_l1000, ij_l1536, ij_l3000, ij_l1000000, ij_l1000003, ij_l1000000000, ij_neg, ij_add, ij_sub, ij_mul, vl_s]
    rw [ih (a + 1) (c + 1) n (by omega) (by omega) (by omega), show a + 1 + (k : Int) = a + ((k + 1 : Nat) : Int) by omega, show c + 1 + (k : Int) = c + ((k + 1 : Nat) : Int) by omega]
theorem lp56n_7 {m : Nat} (hm : MM m) (K : UInt64 → Int32 → Int32 → Option Int32) (N : Nat) {e : Int} (h1 : -200 ≤ e) (h2 : e < 0) (n : Nat) (a c : Int32) : fX7_bitsOf_L56_7 K N (n + 1) (Dd m e) a c = K (Dd m e) a c := by
  simp only [fX7_bitsOf_L56_7]
  have q : Op.cmpValue (FP.dcmp (Dd m e) 4611686018427387904) CmpOp.l < 0 := by rw [Dd_lt2 hm (by omega) (by omega)]; omega
  rw [if_pos q, ite_self]
theorem lp90 {m : Nat} (hm : MM m) (K : UInt64 → Int32 → Int32 → Option Int32) (N : Nat) : ∀ (k : Nat) (a c : Int) (n : Nat), 0 ≤ c → c + k ≤ 149 → k < n → fX7_bitsOf_L90 K N n (Dd m (-(k : Int))) (ij a) (ij c) = K (Dd m 0) (ij (a - k)) (ij (c + k)) := by
  intro k
  induction k with
  | zero =>
    intro a c n h1 h2 h3
    obtain ⟨n, rfl⟩ : ∃ j, n = j + 1 := ⟨n - 1, by omega⟩
    have e0 : Dd m (-((0 : Nat) : Int)) = Dd m 0 := rfl
    simp only [fX7_bitsOf_L90]
    have q : 0 ≤ Op.cmpValue (FP.dcmp (Dd m (-((0 : Nat) : Int))) 4607182418800017408) CmpOp.g := by rw [Dd_ge1 hm (by omega) (by omega)]; omega
    rw [if_pos q, ite_self, e0]
    rw [show a - ((0 : Nat) : Int) = a by omega, show c + ((0 : Nat) : Int) = c by omega]
  | succ k ih =>
    intro a c n h1 h2 h3
    obtain ⟨n, rfl⟩ : ∃ j, n = j + 1 := ⟨n - 1, by omega⟩
    have c1 : ¬ (149 : Int32) ≤ ij c := by
      have : (ij 149 ≤ ij c) = ((149 : Int) ≤ c) := ij_le (by omega) (by omega) (by omega) (by omega)
      intro q
      have q2 : ij 149 ≤ ij c := q
      rw [this] at q2
      omega
    have e1 : (-((k + 1 : Nat) : Int) + 1) = -(k : Int) := by omega
    simp only [fX7_bitsOf_L90]
    have q : ¬ 0 ≤ Op.cmpValue (FP.dcmp (Dd m (-((k + 1 : Nat) : Int))) 4607182418800017408) CmpOp.g := by rw [Dd_ge1 hm (by omega) (by omega)]; omega
    rw [if_neg c1, if_neg q, Dd_mul hm (by omega) (by omega), e1, nn64_of (Dd_nn hm (by omega) (by omega)), ck_tr, vl_s]
    simp only [ij_l0, ij_l1, ij_l2, ij_l3, ij_l4, ij_l5, ij_l6, ij_l8, ij_l12, ij_l16, ij_l19, ij_l23, ij_l24, ij_l31, ij_l32, ij_l36, ij_l47, ij_l48, ij_l56, ij_l92, ij_l93, ij_l98, ij_l108, ij_l114, ij_l116, ij_l127, ij_l128, ij_l149, ij_l250, ij_l384, ij_l768, ij_l1000, ij_l1536, ij_l3000, ij_l1000000, ij_l1000003, ij_l1000000000, ij_neg, ij_add, ij_sub, ij_mul, vl_s]
    rw [ih (a + -1) (c + 1) n (by omega) (by omega) (by omega), show a + -1 - (k : Int) = a - ((k + 1 : Nat) : Int) by omega, show c + 1 + (k : Int) = c + ((k + 1 : Nat) : Int) by omega]
theorem lp90_8 {m : Nat} (hm : MM m) (K : UInt64 → Int32 → Int32 → Option Int32) (N : Nat) : ∀ (k : Nat) (a c : Int) (n : Nat), 0 ≤ c → c + k ≤ 149 → k < n → fX7_bitsOf_L90_8 K N n (Dd m (-(k : Int))) (ij a) (ij c) = K (Dd m 0) (ij (a - k)) (ij (c + k)) := by
  intro k
  induction k with
  | zero =>
    intro a c n h1 h2 h3
    obtain ⟨n, rfl⟩ : ∃ j, n = j + 1 := ⟨n - 1, by omega⟩
    have e0 : Dd m (-((0 : Nat) : Int)) = Dd m 0 := rfl
    simp only [fX7_bitsOf_L90_8]
    have q : 0 ≤ Op.cmpValue (FP.dcmp (Dd m (-((0 : Nat) : Int))) 4607182418800017408) CmpOp.g := by rw [Dd_ge1 hm (by omega) (by omega)]; omega
    rw [if_pos q, ite_self, e0]
    rw [show a - ((0 : Nat) : Int) = a by omega, show c + ((0 : Nat) : Int) = c by omega]
  | succ k ih =>
    intro a c n h1 h2 h3
    obtain ⟨n, rfl⟩ : ∃ j, n = j + 1 := ⟨n - 1, by omega⟩
    have c1 : ¬ (149 : Int32) ≤ ij c := by
      have : (ij 149 ≤ ij c) = ((149 : Int) ≤ c) := ij_le (by omega) (by omega) (by omega) (by omega)
      intro q
      have q2 : ij 149 ≤ ij c := q
      rw [this] at q2
      omega
    have e1 : (-((k + 1 : Nat) : Int) + 1) = -(k : Int) := by omega
    simp only [fX7_bitsOf_L90_8]
    have q : ¬ 0 ≤ Op.cmpValue (FP.dcmp (Dd m (-((k + 1 : Nat) : Int))) 4607182418800017408) CmpOp.g := by rw [Dd_ge1 hm (by omega) (by omega)]; omega
    rw [if_neg c1, if_neg q, Dd_mul hm (by omega) (by omega), e1, nn64_of (Dd_nn hm (by omega) (by omega)), ck_tr, vl_s]
    simp only [ij_l0, ij_l1, ij_l2, ij_l3, ij_l4, ij_l5, ij_l6, ij_l8, ij_l12, ij_l16, ij_l19, ij_l23, ij_l24, ij_l31, ij_l32, ij_l36, ij_l47, ij_l48, ij_l56, ij_l92, ij_l93, ij_l98, ij_l108, ij_l114, ij_l116, ij_l127, ij_l128, ij_l149, ij_l250, ij_l384, ij_l768, ij_l1000, ij_l1536, ij_l3000, ij_l1000000, ij_l1000003, ij_l1000000000, ij_neg, ij_add, ij_sub, ij_mul, vl_s]
    rw [ih (a + -1) (c + 1) n (by omega) (by omega) (by omega), show a + -1 - (k : Int) = a - ((k + 1 : Nat) : Int) by omega, show c + 1 + (k : Int) = c + ((k + 1 : Nat) : Int) by omega]
