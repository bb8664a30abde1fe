/-! What the class sees on a board. -/
def VW (A : Ab) (β : Nat → Nat) (o : Nat) (σ : St) : Prop := PtC A σ ∧ (∀ f, f < 93 → gF σ 120 o f = cvF f (β f)) ∧ BOK A β ∧ ShOK A
def sn (A : Ab) (β : Nat → Nat) (s : Nat) : Bool := decide (s < aSh A) && (β s == 1)
def snz (A : Ab) (β : Nat → Nat) (z : Int) : Bool := decide (0 ≤ z) && sn A β z.toNat
def ky (β : Nat → Nat) (s : Nat) : UInt32 := UInt32.ofNat (β (24 + s))
def blw (β : Nat → Nat) (s t : Nat) : Bool := decide (fk (ky β s) < fk (ky β t)) || (decide (fk (ky β s) = fk (ky β t)) && decide (s < t))
def rk (A : Ab) (β : Nat → Nat) (s : Nat) : Nat := ct (fun t => sn A β t && blw β t s) 12
def cl (β : Nat → Nat) (s : Nat) : Nat := β (12 + s) % 24
def rwv (β : Nat → Nat) (s : Nat) : Nat := β (12 + s) / 24
theorem cvF_n {f : Nat} (v : Nat) (h : f < 24 ∨ 36 ≤ f) : cvF f v = FP.i2f (ij v) := by
  unfold cvF isKey
  rw [if_neg]
  simp only [Bool.and_eq_true, decide_eq_true_eq]
  omega
theorem cvF_k {f : Nat} (v : Nat) (h1 : 24 ≤ f) (h2 : f < 36) : cvF f v = UInt32.ofNat v := by
  unfold cvF isKey
  rw [if_pos]
  simp only [Bool.and_eq_true, decide_eq_true_eq]
  exact ⟨h1, h2⟩
theorem fint_ij {v : Nat} (h : v ≤ 16777216) : FP.Core.FInt (v : Int) (FP.i2f (ij v)) := by
  have h1 : (ij (v : Int)).toInt = v := ij_toInt (by omega) (by omega)
  have h2 := FP.Core.i2f_int (a := ij v) (by rw [h1]; omega)
  rwa [h1] at h2
theorem fint_0 : FP.Core.FInt 0 0 := by
  unfold FP.Core.FInt
  rw [FP.Core.val32_zero]
  show FP.Core.signed false (0 * _) = 0 * _
  rw [Nat.zero_mul, Int.zero_mul]
  rfl
theorem fc_zero {v : Nat} (h : v ≤ 16777216) : (Op.cmpValue (FP.fcmp (FP.i2f (ij v)) 0) CmpOp.l = ij 0) = (v = 0) := by
  have e : FP.fcmp (FP.i2f (ij v)) 0 = some (compare (v : Int) 0) := FP.Core.fcmp_int (fint_ij h) fint_0
  rw [e]
  refine cv_l_eq.trans ?_
  rw [eq_iff_iff]
  omega
theorem f2i_cv {v : Nat} (h : v ≤ 16777216) : FP.f2i (FP.i2f (ij v)) = ij v := FP.Core.f2i_int (a := ij v) (by rw [ij_toInt (by omega) (by omega)]; exact fint_ij h)
section VV
variable {A : Ab} {β : Nat → Nat} {o N : Nat} {σ : St}
theorem f_valueAt {z : Int} (h0 : 0 ≤ z) (h1 : z < 93) : fX0_valueAt N σ o (ij z) = some (gF σ 120 o z.toNat) := by
  unfold fX0_valueAt
  simp (disch := omega) only [ij_l0, ij_l1, ij_l2, ij_l3, ij_l4, ij_l5, ij_l6, ij_l8, ij_l12, ij_l16, ij_l19, ij_l23, ij_l24, ij_l31, ij_l32, ij_l36, ij_l47, ij_l48, ij_l56, ij_l92, ij_l93, ij_l98, ij_l108, ij_l114, ij_l116, ij_l127, ij_l128, ij_l149, ij_l250, ij_l384, ij_l768, ij_l1000, ij_l1536, ij_l3000, ij_l1000000, ij_l1000003, ij_l1000000000, ij_neg, ij_add, ij_sub, ij_mul, ij_lt, ij_le, ij_eq, ij_nat, tn_nat, tn_12, tn_24, tn_36, tn_48, ck_in, ob_s, o2_s, vl_s, ox_l, ox_r, ck_tr, if_pos, if_neg]
theorem v_val (h : VW A β o σ) {f : Nat} (hf : f < 93) : fX0_valueAt N σ o (ij f) = some (cvF f (β f)) := by
  rw [f_valueAt (by omega) (by omega), tn_nat, h.2.1 f hf]
theorem v_ky (h : VW A β o σ) {s : Nat} (hs : s < 12) : kyB (ky β s) := (kyB_of ((h.2.2.1 (24 + s) (by omega)).2.2.1 (by omega) (by omega)).1).1
theorem v_kz (h : VW A β o σ) {s : Nat} (hs : s < 12) : kz (aN A) (ky β s) := ((h.2.2.1 (24 + s) (by omega)).2.2.1 (by omega) (by omega)).2
theorem f_isSeen (h : VW A β o σ) {z : Int} (h1 : -2147483648 ≤ z) (h2 : z < 2147483648) : fX6_isSeen N σ o (ij z) = some (bi (snz A β z)) := by
  have hsh := h.2.2.2.1
  unfold fX6_isSeen fX2_hasShape snz sn
  rw [h.1.1]
  by_cases g1 : 0 ≤ z
  · by_cases g2 : z < aSh A
    · have hv : fX0_valueAt N σ o (ij (0 + z)) = some (FP.i2f (ij (β z.toNat))) := by
        rw [f_valueAt (by omega) (by omega), show (0 + z).toNat = z.toNat by omega, h.2.1 _ (by omega), cvF_n _ (by omega)]
      have hb := (h.2.2.1 z.toNat (by omega)).1 (by omega)
      have g3 : decide (z.toNat < aSh A) = true := decide_eq_true (by omega)
      simp (disch := omega) only [ij_l0, ij_l1, ij_l2, ij_l3, ij_l4, ij_l5, ij_l6, ij_l8, ij_l12, ij_l16, ij_l19, ij_l23, ij_l24, ij_l31, ij_l32, ij_l36, ij_l47, ij_l48, ij_l56, ij_l92, ij_l93, ij_l98, ij_l108, ij_l114, ij_l116, ij_l127, ij_l128, ij_l149, ij_l250, ij_l384, ij_l768, ij_l1000, ij_l1536, ij_l3000, ij_l1000000, ij_l1000003, ij_l1000000000, ij_neg, ij_add, ij_sub, ij_mul, ij_lt, ij_le, ij_eq, if_neg, ob_s, hv, fc_zero]
      by_cases e : β z.toNat = 0
      · simp [e, g1, g3, bi_f]
      · have e1 : β z.toNat = 1 := by omega
        simp [e1, g1, g2, bi_t]
    · simp (disch := omega) only [ij_l0, ij_l1, ij_l2, ij_l3, ij_l4, ij_l5, ij_l6, ij_l8, ij_l12, ij_l16, ij_l19, ij_l23, ij_l24, ij_l31, ij_l32, ij_l36, ij_l47, ij_l48, ij_l56, ij_l92, ij_l93, ij_l98, ij_l108, ij_l114, ij_l116, ij_l127, ij_l128, ij_l149, ij_l250, ij_l384, ij_l768, ij_l1000, ij_l1536, ij_l3000, ij_l1000000, ij_l1000003, ij_l1000000000, ij_neg, ij_add, ij_sub, ij_mul, ij_lt, ij_le, if_neg, if_pos, ob_s]
      have : ¬ z.toNat < aSh A := by omega
      simp [this, bi_f]
  · simp (disch := omega) only [ij_l0, ij_l1, ij_l2, ij_l3, ij_l4, ij_l5, ij_l6, ij_l8, ij_l12, ij_l16, ij_l19, ij_l23, ij_l24, ij_l31, ij_l32, ij_l36, ij_l47, ij_l48, ij_l56, ij_l92, ij_l93, ij_l98, ij_l108, ij_l114, ij_l116, ij_l127, ij_l128, ij_l149, ij_l250, ij_l384, ij_l768, ij_l1000, ij_l1536, ij_l3000, ij_l1000000, ij_l1000003, ij_l1000000000, ij_neg, ij_add, ij_sub, ij_mul, ij_lt, ij_le, if_neg, if_pos, ob_s]
    simp [g1, bi_f]
theorem snz_nat (s : Nat) : snz A β (s : Int) = sn A β s := by
  unfold snz
  simp
theorem f_seen (h : VW A β o σ) {s : Nat} (hs : s < 12) : fX6_isSeen N σ o (ij s) = some (bi (sn A β s)) := by
  rw [f_isSeen h (by omega) (by omega), snz_nat]
theorem f_countShapes (h : VW A β o σ) (hN : 100 ≤ N) : fX6_countShapes N σ o = some (ij (ct (sn A β) 12)) := by
  unfold fX6_countShapes
  refine lp_end (fun n j => fX6_countShapes_L4 (fun v7 _ => (some v7)) N σ o n (ij (ct (sn A β) j)) (ij j)) (a := 0) (b := 12) (by omega) (fun n j _ hj => ?_) (fun n => ?_) N (by omega)
  · have hc := ct_le (sn A β) j
    simp only [fX6_countShapes_L4]
    rw [f_seen h hj]
    simp (disch := omega) only [ij_l0, ij_l1, ij_l2, ij_l3, ij_l4, ij_l5, ij_l6, ij_l8, ij_l12, ij_l16, ij_l19, ij_l23, ij_l24, ij_l31, ij_l32, ij_l36, ij_l47, ij_l48, ij_l56, ij_l92, ij_l93, ij_l98, ij_l108, ij_l114, ij_l116, ij_l127, ij_l128, ij_l149, ij_l250, ij_l384, ij_l768, ij_l1000, ij_l1536, ij_l3000, ij_l1000000, ij_l1000003, ij_l1000000000, ij_neg, ij_add, ij_sub, ij_mul, ij_lt, ij_le, ij_eq, ij_nat, tn_nat, tn_12, tn_24, tn_36, tn_48, ck_in, ob_s, o2_s, vl_s, ox_l, ox_r, ck_tr, if_pos, if_neg, bi_z]
    cases e : sn A β j <;> simp [ct, e]
  · simp only [fX6_countShapes_L4]
    simp (disch := omega) only [ij_l0, ij_l1, ij_l2, ij_l3, ij_l4, ij_l5, ij_l6, ij_l8, ij_l12, ij_l16, ij_l19, ij_l23, ij_l24, ij_l31, ij_l32, ij_l36, ij_l47, ij_l48, ij_l56, ij_l92, ij_l93, ij_l98, ij_l108, ij_l114, ij_l116, ij_l127, ij_l128, ij_l149, ij_l250, ij_l384, ij_l768, ij_l1000, ij_l1536, ij_l3000, ij_l1000000, ij_l1000003, ij_l1000000000, ij_neg, ij_add, ij_sub, ij_mul, ij_lt, ij_le, ij_eq, ij_nat, tn_nat, tn_12, tn_24, tn_36, tn_48, ck_in, ob_s, o2_s, vl_s, ox_l, ox_r, ck_tr, if_pos, if_neg]
theorem v_val2 (h : VW A β o σ) {z : Int} (h0 : 0 ≤ z) (h1 : z < 93) : fX0_valueAt N σ o (ij z) = some (cvF z.toNat (β z.toNat)) := by
  rw [f_valueAt h0 h1, h.2.1 _ (by omega)]
theorem f_keyAt (h : VW A β o σ) {s : Nat} (hs : s < 12) : fX6_keyAt N σ o (ij s) = some (ky β s) := by
  unfold fX6_keyAt
  simp only [ij_l0, ij_l1, ij_l2, ij_l3, ij_l4, ij_l5, ij_l6, ij_l8, ij_l12, ij_l16, ij_l19, ij_l23, ij_l24, ij_l31, ij_l32, ij_l36, ij_l47, ij_l48, ij_l56, ij_l92, ij_l93, ij_l98, ij_l108, ij_l114, ij_l116, ij_l127, ij_l128, ij_l149, ij_l250, ij_l384, ij_l768, ij_l1000, ij_l1536, ij_l3000, ij_l1000000, ij_l1000003, ij_l1000000000, ij_neg, ij_add, ij_sub, ij_mul]
  rw [v_val2 h (by omega) (by omega), show ((24 : Int) + s).toNat = 24 + s by omega, cvF_k _ (by omega) (by omega)]
  rfl
theorem f_isBelow (h : VW A β o σ) {s t : Nat} (hs : s < 12) (ht : t < 12) : fX6_isBelow N σ o (ij s) (ij t) = some (bi (blw β s t)) := by
  unfold fX6_isBelow blw
  rw [f_keyAt h hs, f_keyAt h ht]
  simp (disch := first | omega | exact v_ky h (by omega)) only [ij_l0, ij_l1, ij_l2, ij_l3, ij_l4, ij_l5, ij_l6, ij_l8, ij_l12, ij_l16, ij_l19, ij_l23, ij_l24, ij_l31, ij_l32, ij_l36, ij_l47, ij_l48, ij_l56, ij_l92, ij_l93, ij_l98, ij_l108, ij_l114, ij_l116, ij_l127, ij_l128, ij_l149, ij_l250, ij_l384, ij_l768, ij_l1000, ij_l1536, ij_l3000, ij_l1000000, ij_l1000003, ij_l1000000000, ij_neg, ij_add, ij_sub, ij_mul, ob_s, fk_g_lt, fk_l_eq, ij_le, ij_lt]
  by_cases g1 : fk (ky β s) < fk (ky β t)
  · simp [g1, bi_t]
  · by_cases g2 : fk (ky β s) = fk (ky β t)
    · by_cases g3 : s < t
      · have g4 : ¬ (t : Int) ≤ s := by omega
        simp [g2, g3, g4, bi_t]
      · have g4 : (t : Int) ≤ s := by omega
        simp [g2, g3, g4, bi_f]
    · simp [g1, g2, bi_f]
theorem f_rankAt (h : VW A β o σ) (hN : 100 ≤ N) {s : Nat} (hs : s < 12) : fX6_rankAt N σ o (ij s) = some (ij (rk A β s)) := by
  unfold fX6_rankAt rk
  refine lp_end (fun n j => fX6_rankAt_L4 (fun v9 _ => (some v9)) N σ o (ij s) n (ij (ct (fun t => sn A β t && blw β t s) j)) (ij j)) (a := 0) (b := 12) (by omega) (fun n j _ hj => ?_) (fun n => ?_) N (by omega)
  · have hc := ct_le (fun t => sn A β t && blw β t s) j
    simp only [fX6_rankAt_L4]
    rw [f_seen h hj, f_isBelow h hj hs]
    simp (disch := omega) only [ij_l0, ij_l1, ij_l2, ij_l3, ij_l4, ij_l5, ij_l6, ij_l8, ij_l12, ij_l16, ij_l19, ij_l23, ij_l24, ij_l31, ij_l32, ij_l36, ij_l47, ij_l48, ij_l56, ij_l92, ij_l93, ij_l98, ij_l108, ij_l114, ij_l116, ij_l127, ij_l128, ij_l149, ij_l250, ij_l384, ij_l768, ij_l1000, ij_l1536, ij_l3000, ij_l1000000, ij_l1000003, ij_l1000000000, ij_neg, ij_add, ij_sub, ij_mul, ij_lt, ij_le, ij_eq, ij_nat, tn_nat, tn_12, tn_24, tn_36, tn_48, ck_in, ob_s, o2_s, vl_s, ox_l, ox_r, ck_tr, if_pos, if_neg, bi_z]
    cases e : sn A β j <;> cases e2 : blw β j s <;> simp [ct, e, e2]
  · simp only [fX6_rankAt_L4]
    simp (disch := omega) only [ij_l0, ij_l1, ij_l2, ij_l3, ij_l4, ij_l5, ij_l6, ij_l8, ij_l12, ij_l16, ij_l19, ij_l23, ij_l24, ij_l31, ij_l32, ij_l36, ij_l47, ij_l48, ij_l56, ij_l92, ij_l93, ij_l98, ij_l108, ij_l114, ij_l116, ij_l127, ij_l128, ij_l149, ij_l250, ij_l384, ij_l768, ij_l1000, ij_l1536, ij_l3000, ij_l1000000, ij_l1000003, ij_l1000000000, ij_neg, ij_add, ij_sub, ij_mul, ij_lt, ij_le, ij_eq, ij_nat, tn_nat, tn_12, tn_24, tn_36, tn_48, ck_in, ob_s, o2_s, vl_s, ox_l, ox_r, ck_tr, if_pos, if_neg]
end VV
/-- the first number below b of which p holds, or -1 -/
def ff (p : Nat → Bool) : Nat → Nat → Int
  | 0, _ => -1
  | d + 1, j => if p j then (j : Int) else ff p d (j + 1)
theorem ff_spec (p : Nat → Bool) : ∀ d j, (ff p d j = -1 ∧ ∀ i, j ≤ i → i < j + d → p i = false) ∨ (∃ k : Nat, ff p d j = k ∧ j ≤ k ∧ k < j + d ∧ p k = true ∧ ∀ i, j ≤ i → i < k → p i = false) := by
  intro d
  induction d with
  | zero => intro j; exact Or.inl ⟨rfl, fun i h1 h2 => by omega⟩
  | succ d ih =>
    intro j
    simp only [ff]
    cases e : p j with
    | true => exact Or.inr ⟨j, by simp, Nat.le_refl _, by omega, e, fun i h1 h2 => by omega⟩
    | false =>
      simp only [Bool.false_eq_true, if_false]
      rcases ih (j + 1) with ⟨h1, h2⟩ | ⟨k, h1, h2, h3, h4, h5⟩
      · refine Or.inl ⟨h1, fun i g1 g2 => ?_⟩
        by_cases q : i = j
        · rw [q]; exact e
        · exact h2 i (by omega) (by omega)
      · refine Or.inr ⟨k, h1, by omega, by omega, h4, fun i g1 g2 => ?_⟩
        by_cases q : i = j
        · rw [q]; exact e
        · exact h5 i (by omega) g2
theorem ff_congr {p q : Nat → Bool} : ∀ d j, (∀ i, j ≤ i → i < j + d → p i = q i) → ff p d j = ff q d j := by
  intro d
  induction d with
  | zero => intro j _; rfl
  | succ d ih => intro j h; simp only [ff]; rw [h j (Nat.le_refl _) (by omega), ih (j + 1) (fun i h1 h2 => h i (by omega) (by omega))]
theorem ff_cut {p : Nat → Bool} : ∀ m d j, (∀ i, j + m ≤ i → i < j + m + d → p i = false) → ff p (m + d) j = ff p m j := by
  intro m
  induction m with
  | zero =>
    intro d j h
    rcases ff_spec p (0 + d) j with ⟨h1, _⟩ | ⟨k, _, h2, h3, h4, _⟩
    · rw [h1]; rfl
    · rw [h k (by omega) (by omega)] at h4; cases h4
  | succ m ih =>
    intro d j h
    rw [show m + 1 + d = (m + d) + 1 by omega]
    simp only [ff]
    rw [ih d (j + 1) (fun i h1 h2 => h i (by omega) (by omega))]
theorem lp_ff {β : Type} (g : Nat → Nat → β) (p : Nat → Bool) (F : Int → β) {b : Nat} (hs : ∀ n j, j < b → g (n + 1) j = if p j then F j else g n (j + 1)) (he : ∀ n, g (n + 1) b = F (-1)) : ∀ n, b < n → g n 0 = F (ff p b 0) := by
  have key : ∀ d n j, j + d = b → d < n → g n j = F (ff p d j) := by
    intro d
    induction d with
    | zero =>
      intro n j h1 h2
      have e : n = (n - 1) + 1 := by omega
      rw [show j = b by omega, e, he]
      rfl
    | succ d ih =>
      intro n j h1 h2
      have e : n = (n - 1) + 1 := by omega
      rw [e, hs _ _ (by omega)]
      simp only [ff]
      cases q : p j
      · simp only [Bool.false_eq_true, if_false]; exact ih _ _ (by omega) (by omega)
      · simp
  exact fun n hn => key b n 0 (by omega) hn
/-! Ranks. -/
theorem ct_lt {p q : Nat → Bool} {n s : Nat} (hs : s < n) (h1 : p s = true) (h2 : q s = false) : ct (fun t => p t && q t) n + 1 ≤ ct p n := by
  induction n with
  | zero => omega
  | succ n ih =>
    simp only [ct]
    by_cases e : s = n
    · subst e
      have h3 : ct (fun t => p t && q t) s ≤ ct p s := ct_mono (fun t h => by simp at h; exact h.1) _
      simp [h1, h2]
      omega
    · have h3 := ih (by omega)
      by_cases e1 : p n = true <;> by_cases e2 : q n = true <;> simp [e1, e2] <;> omega
