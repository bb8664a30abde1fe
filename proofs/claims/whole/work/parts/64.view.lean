/-! What the class sees on a board. -/
def VW (A : Ab) (β : Nat → Nat) (o : Nat) (σ : St) : Prop := PtC A σ ∧ (∀ f, f < 93 → gF σ 120 o f = cvF f (β f)) ∧ BOK A β ∧ ShOK A
def sn (A : Ab) (β : Nat → Nat) (s : Nat) : Bool := decide (s < aSh A) && (β s == 1)
def snz (A : Ab) (β : Nat → Nat) (z : Int) : Bool := decide (0 ≤ z) && sn A β z.toNat
def ky (β : Nat → Nat) (s : Nat) : UInt32 := UInt32.ofNat (β (24 + s))
def blw (β : Nat → Nat) (s t : Nat) : Bool := decide (fk (ky β s) < fk (ky β t)) || (decide (fk (ky β s) = fk (ky β t)) && decide (s < t))
def rk (A : Ab) (β : Nat → Nat) (s : Nat) : Nat := ct (fun t => sn A β t && blw β t s) 12
def cl (β : Nat → Nat) (s : Nat) : Nat := β (12 + s) % 24
def rwv (β : Nat → Nat) (s : Nat) : Nat := β (12 + s) / 24
theorem cvF_n {f : Nat} (v : Nat) (h : f < 24 ∨ 36 ≤ f) : cvF f v = FP.i2f (ij v) := by
  unfold cvF isKey
  rw [if_neg]
  simp only [Bool.and_eq_true, decide_eq_true_eq]
  omega
theorem cvF_k {f : Nat} (v : Nat) (h1 : 24 ≤ f) (h2 : f < 36) : cvF f v = UInt32.ofNat v := by
  unfold cvF isKey
  rw [if_pos]
  simp only [Bool.and_eq_true, decide_eq_true_eq]
  exact ⟨h1, h2⟩
theorem fint_ij {v : Nat} (h : v ≤ 16777216) : FP.Core.FInt (v : Int) (FP.i2f (ij v)) := by
  have h1 : (ij (v : Int)).toInt = v := ij_toInt (by omega) (by omega)
  have h2 := FP.Core.i2f_int (a := ij v) (by rw [h1]; omega)
  rwa [h1] at h2
theorem fint_0 : FP.Core.FInt 0 0 := by
  unfold FP.Core.FInt
  rw [FP.Core.val32_zero]
  decide
theorem fc_zero {v : Nat} (h : v ≤ 16777216) : (Op.cmpValue (FP.fcmp (FP.i2f (ij v)) 0) CmpOp.l = 0) = (v = 0) := by
  have e : FP.fcmp (FP.i2f (ij v)) 0 = some (compare (v : Int) 0) := FP.Core.fcmp_int (fint_ij h) fint_0
  rw [e, cv_l_eq, eq_iff_iff]
  omega
theorem f2i_cv {v : Nat} (h : v ≤ 16777216) : FP.f2i (FP.i2f (ij v)) = ij v := FP.Core.f2i_int (a := ij v) (by rw [ij_toInt (by omega) (by omega)]; exact fint_ij h)
section VV
variable {A : Ab} {β : Nat → Nat} {o N : Nat} {σ : St}
theorem f_valueAt {z : Int} (h0 : 0 ≤ z) (h1 : z < 93) : fX0_valueAt N σ o (ij z) = some (gF σ 120 o z.toNat) := by
  unfold fX0_valueAt
  simp (disch := omega) only [ij_l0, ij_l1, ij_l2, ij_l3, ij_l4, ij_l5, ij_l6, ij_l8, ij_l12, ij_l16, ij_l19, ij_l23, ij_l24, ij_l31, ij_l32, ij_l36, ij_l47, ij_l48, ij_l56, ij_l92, ij_l93, ij_l98, ij_l108, ij_l114, ij_l116, ij_l127, ij_l128, ij_l149, ij_l250, ij_l384, ij_l768, ij_l1000, ij_l1536, ij_l3000, ij_l1000000, ij_l1000003, ij_l1000000000, ij_neg, ij_add, ij_sub, ij_mul, ij_lt, ij_le, ij_eq, ij_nat, ij_natN, ck_in, ob_s, o2_s, vl_s, ox_l, ox_r, ck_tr, if_pos, if_neg]
theorem v_val (h : VW A β o σ) {f : Nat} (hf : f < 93) : fX0_valueAt N σ o (ij f) = some (cvF f (β f)) := by
  rw [f_valueAt (by omega) (by omega), tn_nat, h.2.1 f hf]
theorem v_ky (h : VW A β o σ) {s : Nat} (hs : s < 12) : kyB (ky β s) := (kyB_of ((h.2.2.1 (24 + s) (by omega)).2.2.1 (by omega) (by omega))).1
theorem f_isSeen (h : VW A β o σ) {z : Int} (h1 : -2147483648 ≤ z) (h2 : z < 2147483648) : fX6_isSeen N σ o (ij z) = some (bi (snz A β z)) := by
  have hsh := h.2.2.2.1
  unfold fX6_isSeen fX2_hasShape snz sn
  rw [h.1.1]
  by_cases g1 : 0 ≤ z
  · by_cases g2 : z < aSh A
    · have hv : fX0_valueAt N σ o (ij (0 + z)) = some (FP.i2f (ij (β z.toNat))) := by
        rw [f_valueAt (by omega) (by omega), show (0 + z).toNat = z.toNat by omega, h.2.1 _ (by omega), cvF_n _ (by omega)]
      have hb := (h.2.2.1 z.toNat (by omega)).1 (by omega)
      have e0 : (ij 1 = ij 0) = False := by rw [ij_eq (by omega) (by omega) (by omega) (by omega)]; simp
      simp (disch := omega) only [ij_l0, ij_l1, ij_l2, ij_l3, ij_l4, ij_l5, ij_l6, ij_l8, ij_l12, ij_l16, ij_l19, ij_l23, ij_l24, ij_l31, ij_l32, ij_l36, ij_l47, ij_l48, ij_l56, ij_l92, ij_l93, ij_l98, ij_l108, ij_l114, ij_l116, ij_l127, ij_l128, ij_l149, ij_l250, ij_l384, ij_l768, ij_l1000, ij_l1536, ij_l3000, ij_l1000000, ij_l1000003, ij_l1000000000, ij_neg, ij_add, ij_sub, ij_mul, ij_lt, ij_le, if_neg, ob_s, e0, hv, if_false]
      rw [← ij_l0, fc_zero (by omega)]
      by_cases e : β z.toNat = 0
      · rw [if_pos e]; simp [e, bi]
      · have e1 : β z.toNat = 1 := by omega
        rw [if_neg e]
        simp only [e1, bi, g1, decide_true, Bool.true_and, BEq.rfl, Bool.and_true, decide_eq_true_eq]
        rw [if_pos (by omega)]
        rfl
    · simp (disch := omega) only [ij_l0, ij_l1, ij_l2, ij_l3, ij_l4, ij_l5, ij_l6, ij_l8, ij_l12, ij_l16, ij_l19, ij_l23, ij_l24, ij_l31, ij_l32, ij_l36, ij_l47, ij_l48, ij_l56, ij_l92, ij_l93, ij_l98, ij_l108, ij_l114, ij_l116, ij_l127, ij_l128, ij_l149, ij_l250, ij_l384, ij_l768, ij_l1000, ij_l1536, ij_l3000, ij_l1000000, ij_l1000003, ij_l1000000000, ij_neg, ij_add, ij_sub, ij_mul, ij_lt, ij_le, if_neg, if_pos, ob_s]
      have : ¬ z.toNat < aSh A := by omega
      simp [this, bi]
      rfl
  · simp (disch := omega) only [ij_l0, ij_l1, ij_l2, ij_l3, ij_l4, ij_l5, ij_l6, ij_l8, ij_l12, ij_l16, ij_l19, ij_l23, ij_l24, ij_l31, ij_l32, ij_l36, ij_l47, ij_l48, ij_l56, ij_l92, ij_l93, ij_l98, ij_l108, ij_l114, ij_l116, ij_l127, ij_l128, ij_l149, ij_l250, ij_l384, ij_l768, ij_l1000, ij_l1536, ij_l3000, ij_l1000000, ij_l1000003, ij_l1000000000, ij_neg, ij_add, ij_sub, ij_mul, ij_lt, ij_le, if_neg, if_pos, ob_s]
    simp [g1, bi]
    rfl
theorem snz_nat (s : Nat) : snz A β (s : Int) = sn A β s := by
  unfold snz
  simp
theorem f_seen (h : VW A β o σ) {s : Nat} (hs : s < 12) : fX6_isSeen N σ o (ij s) = some (bi (sn A β s)) := by
  rw [f_isSeen h (by omega) (by omega), snz_nat]
theorem f_countShapes (h : VW A β o σ) (hN : 100 ≤ N) : fX6_countShapes N σ o = some (ij (ct (sn A β) 12)) := by
  unfold fX6_countShapes
  refine lp_end (fun n j => fX6_countShapes_L4 (fun v7 _ => (some v7)) N σ o n (ij (ct (sn A β) j)) (ij j)) (a := 0) (b := 12) (by omega) (fun n j _ hj => ?_) (fun n => ?_) N (by omega)
  · have hc := ct_le (sn A β) j
    simp only [fX6_countShapes_L4]
    rw [f_seen h hj]
    simp (disch := omega) only [ij_l0, ij_l1, ij_l2, ij_l3, ij_l4, ij_l5, ij_l6, ij_l8, ij_l12, ij_l16, ij_l19, ij_l23, ij_l24, ij_l31, ij_l32, ij_l36, ij_l47, ij_l48, ij_l56, ij_l92, ij_l93, ij_l98, ij_l108, ij_l114, ij_l116, ij_l127, ij_l128, ij_l149, ij_l250, ij_l384, ij_l768, ij_l1000, ij_l1536, ij_l3000, ij_l1000000, ij_l1000003, ij_l1000000000, ij_neg, ij_add, ij_sub, ij_mul, ij_lt, ij_le, ij_eq, ij_nat, ij_natN, ck_in, ob_s, o2_s, vl_s, ox_l, ox_r, ck_tr, if_pos, if_neg, bi_z]
    cases e : sn A β j <;> simp [ct, e]
  · simp only [fX6_countShapes_L4]
    simp (disch := omega) only [ij_l0, ij_l1, ij_l2, ij_l3, ij_l4, ij_l5, ij_l6, ij_l8, ij_l12, ij_l16, ij_l19, ij_l23, ij_l24, ij_l31, ij_l32, ij_l36, ij_l47, ij_l48, ij_l56, ij_l92, ij_l93, ij_l98, ij_l108, ij_l114, ij_l116, ij_l127, ij_l128, ij_l149, ij_l250, ij_l384, ij_l768, ij_l1000, ij_l1536, ij_l3000, ij_l1000000, ij_l1000003, ij_l1000000000, ij_neg, ij_add, ij_sub, ij_mul, ij_lt, ij_le, ij_eq, ij_nat, ij_natN, ck_in, ob_s, o2_s, vl_s, ox_l, ox_r, ck_tr, if_pos, if_neg]
end VV
