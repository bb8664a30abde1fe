/-! What else the class sees on a board. -/
def nx (A : Ab) (β : Nat → Nat) (x : UInt32) : Nat → Int
  | 0 => -1
  | j + 1 => if sn A β j = true ∧ fk x < fk (ky β j) ∧ (nx A β x j = -1 ∨ fk (ky β j) < fk (ky β (nx A β x j).toNat)) then (j : Int) else nx A β x j
theorem nx_rg (A : Ab) (β : Nat → Nat) (x : UInt32) (j : Nat) : nx A β x j = -1 ∨ (0 ≤ nx A β x j ∧ nx A β x j < j ∧ sn A β (nx A β x j).toNat = true ∧ fk x < fk (ky β (nx A β x j).toNat)) := by
  induction j with
  | zero => exact Or.inl rfl
  | succ j ih =>
    simp only [nx]
    split
    · rename_i h
      exact Or.inr ⟨by omega, by omega, h.1, h.2.1⟩
    · rcases ih with h | h
      · exact Or.inl h
      · exact Or.inr ⟨h.1, by omega, h.2.2⟩
theorem nx_cut {A : Ab} {β : Nat → Nat} (x : UInt32) (hS : ShOK A) {n : Nat} (hn : aSh A ≤ n) : nx A β x n = nx A β x (aSh A) := by
  induction n with
  | zero => rw [show aSh A = 0 by omega]
  | succ n ih =>
    by_cases e : aSh A = n + 1
    · rw [e]
    · have : sn A β n = false := by rw [← Bool.not_eq_true]; intro z; have := sn_lt z; omega
      simp only [nx]
      rw [if_neg (by rw [this]; simp), ih (by omega)]
def ins (A : Ab) (β : Nat → Nat) (s fr : Nat) : Bool := decide (cl β fr ≤ cl β s ∧ rwv β fr ≤ rwv β s ∧ cl β s + aW A s ≤ cl β fr + aW A fr ∧ rwv β s + aH A s ≤ rwv β fr + aH A fr)
def ovr (A : Ab) (β : Nat → Nat) (s : Nat) (c r : Int) : Bool := decide ((cl β s : Int) ≤ c ∧ c < cl β s + aW A s ∧ (rwv β s : Int) ≤ r ∧ r < rwv β s + aH A s)
def lkb (β : Nat → Nat) (u s : Nat) : Bool := decide (β (36 + s) ≠ 0 ∧ β (36 + s) ≠ u + 1)
def crd (A : Ab) (β : Nat → Nat) (u fr s : Nat) : Bool := sn A β s && ins A β s fr && !lkb β u s
def tp (A : Ab) (β : Nat → Nat) (c r : Int) : Nat → Int
  | 0 => -1
  | j + 1 => if sn A β j = true ∧ aFr A j = 0 ∧ ovr A β j c r = true ∧ (tp A β c r j = -1 ∨ blw β (tp A β c r j).toNat j = true) then (j : Int) else tp A β c r j
theorem tp_rg (A : Ab) (β : Nat → Nat) (c r : Int) (j : Nat) : tp A β c r j = -1 ∨ (0 ≤ tp A β c r j ∧ tp A β c r j < j ∧ sn A β (tp A β c r j).toNat = true) := by
  induction j with
  | zero => exact Or.inl rfl
  | succ j ih =>
    simp only [tp]
    split
    · rename_i h
      exact Or.inr ⟨by omega, by omega, h.1⟩
    · rcases ih with h | h
      · exact Or.inl h
      · exact Or.inr ⟨h.1, by omega, h.2.2⟩
theorem tp_cut {A : Ab} {β : Nat → Nat} (c r : Int) (hS : ShOK A) {n : Nat} (hn : aSh A ≤ n) : tp A β c r n = tp A β c r (aSh A) := by
  induction n with
  | zero => rw [show aSh A = 0 by omega]
  | succ n ih =>
    by_cases e : aSh A = n + 1
    · rw [e]
    · have : sn A β n = false := by rw [← Bool.not_eq_true]; intro z; have := sn_lt z; omega
      simp only [tp]
      rw [if_neg (by rw [this]; simp), ih (by omega)]
def jnd (A : Ab) (β : Nat → Nat) (c : Nat) : Bool := decide (c < aCn A) && (β (48 + c) == 1) && sn A β (aOne A c) && sn A β (aOth A c)
def jndz (A : Ab) (β : Nat → Nat) (z : Int) : Bool := decide (0 ≤ z) && jnd A β z.toNat
def vtf (β : Nat → Nat) (s : Nat) : Nat := β (56 + s) + β (68 + s) + β (80 + s)
def vtb (β : Nat → Nat) (u : Nat) : Nat → Nat
  | 0 => 0
  | j + 1 => vtb β u j + β (56 + 12 * u + j)
def vz (β : Nat → Nat) (z : Int) : Nat := if z = -1 then 0 else vtf β z.toNat
def mv (A : Ab) (β : Nat → Nat) : Nat → Int
  | 0 => -1
  | j + 1 => if sn A β j = true ∧ vz β (mv A β j) < vtf β j then (j : Int) else mv A β j
theorem mv_rg (A : Ab) (β : Nat → Nat) (j : Nat) : mv A β j = -1 ∨ (0 ≤ mv A β j ∧ mv A β j < j ∧ sn A β (mv A β j).toNat = true) := by
  induction j with
  | zero => exact Or.inl rfl
  | succ j ih =>
    simp only [mv]
    split
    · rename_i h
      exact Or.inr ⟨by omega, by omega, h.1⟩
    · rcases ih with h | h
      · exact Or.inl h
      · exact Or.inr ⟨h.1, by omega, h.2.2⟩
theorem mv_cut {A : Ab} {β : Nat → Nat} (hS : ShOK A) {n : Nat} (hn : aSh A ≤ n) : mv A β n = mv A β (aSh A) := by
  induction n with
  | zero => rw [show aSh A = 0 by omega]
  | succ n ih =>
    by_cases e : aSh A = n + 1
    · rw [e]
    · have : sn A β n = false := by rw [← Bool.not_eq_true]; intro z; have := sn_lt z; omega
      simp only [mv]
      rw [if_neg (by rw [this]; simp), ih (by omega)]
def jn (x v : Int32) : Int32 := (((x * 31) + v) + 1) - (((x * 31) + v) + 1) / 1000003 * 1000003
def su (A : Ab) (β : Nat → Nat) : Nat → Int32
  | 0 => 0
  | j + 1 => if sn A β j = true then jn (jn (jn (jn (su A β j) (ij j)) (ij (cl β j))) (ij (rwv β j))) (ij (rk A β j)) else su A β j
theorem su_cut {A : Ab} {β : Nat → Nat} (hS : ShOK A) {n : Nat} (hn : aSh A ≤ n) : su A β n = su A β (aSh A) := by
  induction n with
  | zero => rw [show aSh A = 0 by omega]
  | succ n ih =>
    by_cases e : aSh A = n + 1
    · rw [e]
    · have : sn A β n = false := by rw [← Bool.not_eq_true]; intro z; have := sn_lt z; omega
      simp only [su]
      rw [if_neg (by rw [this]; simp), ih (by omega)]
def lj (z : Int) : Int64 := Int64.ofInt z
def sar (A : Ab) (β : Nat → Nat) : Nat → Nat
  | 0 => 0
  | j + 1 => sar A β j + if sn A β j = true then aW A j * aH A j else 0
theorem sar_cut {A : Ab} {β : Nat → Nat} (hS : ShOK A) {n : Nat} (hn : aSh A ≤ n) : sar A β n = sar A β (aSh A) := by
  induction n with
  | zero => rw [show aSh A = 0 by omega]
  | succ n ih =>
    by_cases e : aSh A = n + 1
    · rw [e]
    · have : sn A β n = false := by rw [← Bool.not_eq_true]; intro z; have := sn_lt z; omega
      simp only [sar]
      rw [if_neg (by rw [this]; simp), ih (by omega)]; rfl
theorem lj_add (a b : Int) : lj a + lj b = lj (a + b) := (Int64.ofInt_add a b).symm
theorem lj_mul (a b : Int) : lj a * lj b = lj (a * b) := (Int64.ofInt_mul a b).symm
theorem ij_l {z : Int} (h1 : -2147483648 ≤ z) (h2 : z < 2147483648) : Int32.toInt64 (ij z) = lj z := Int32.toInt64_ofInt (by show -2147483648 ≤ z; exact h1) (by show z ≤ 2147483647; omega)
section V2
variable {A : Ab} {β : Nat → Nat} {o N : Nat} {σ : St}
theorem f_nextAbove (h : VW A β o σ) (hN : 100 ≤ N) {x : UInt32} (hx : kyB x) : fX6_nextAbove N σ o x = some (ij (nx A β x 12)) := by
  unfold fX6_nextAbove
  simp only [vl_s, ij_l0, ij_l1, ij_l2, ij_l3, ij_l4, ij_l5, ij_l6, ij_l8, ij_l12, ij_l16, ij_l19, ij_l23, ij_l24, ij_l31, ij_l32, ij_l36, ij_l47, ij_l48, ij_l56, ij_l92, ij_l93, ij_l98, ij_l108, ij_l114, ij_l116, ij_l127, ij_l128, ij_l149, ij_l250, ij_l384, ij_l768, ij_l1000, ij_l1536, ij_l3000, ij_l1000000, ij_l1000003, ij_l1000000000, ij_neg, ij_add, ij_sub, ij_mul]
  refine lp_end (fun n j => fX6_nextAbove_L4 (fun v13 _ => (some v13)) N σ o x n (ij (nx A β x j)) (ij j)) (a := 0) (b := 12) (by omega) (fun n j _ hj => ?_) (fun n => ?_) N (by omega)
  · have hr := nx_rg A β x j
    simp only [fX6_nextAbove_L4]
    rw [f_seen h hj, f_keyAt h hj]
    simp only [nx]
    by_cases e : sn A β j = true
    · by_cases e2 : fk x < fk (ky β j)
      · have e2' : ¬ fk (ky β j) ≤ fk x := by omega
        rcases hr with r | ⟨r1, r2, _⟩
        · rw [r]
          simp (disch := first | omega | exact hx | exact v_ky h hj) only [ij_l0, ij_l1, ij_l2, ij_l3, ij_l4, ij_l5, ij_l6, ij_l8, ij_l12, ij_l16, ij_l19, ij_l23, ij_l24, ij_l31, ij_l32, ij_l36, ij_l47, ij_l48, ij_l56, ij_l92, ij_l93, ij_l98, ij_l108, ij_l114, ij_l116, ij_l127, ij_l128, ij_l149, ij_l250, ij_l384, ij_l768, ij_l1000, ij_l1536, ij_l3000, ij_l1000000, ij_l1000003, ij_l1000000000, ij_neg, ij_add, ij_sub, ij_mul, ob_s, vl_s, bi_z, fk_l_le, ij_lt, ij_le, ij_eq, if_pos, if_neg, e, e2, e2']
          simp
        · generalize hz : nx A β x j = z at *
          obtain ⟨k, rfl⟩ : ∃ k : Nat, z = k := ⟨z.toNat, by omega⟩
          rw [f_keyAt h (by omega)]
          simp (disch := first | omega | exact hx | exact v_ky h (by omega)) only [ij_l0, ij_l1, ij_l2, ij_l3, ij_l4, ij_l5, ij_l6, ij_l8, ij_l12, ij_l16, ij_l19, ij_l23, ij_l24, ij_l31, ij_l32, ij_l36, ij_l47, ij_l48, ij_l56, ij_l92, ij_l93, ij_l98, ij_l108, ij_l114, ij_l116, ij_l127, ij_l128, ij_l149, ij_l250, ij_l384, ij_l768, ij_l1000, ij_l1536, ij_l3000, ij_l1000000, ij_l1000003, ij_l1000000000, ij_neg, ij_add, ij_sub, ij_mul, ob_s, vl_s, bi_z, fk_l_le, fk_g_ge, ij_lt, ij_le, ij_eq, if_pos, if_neg, e, e2, e2']
          have e3 : ¬ ((k : Int) = -1) := by omega
          by_cases e4 : fk (ky β j) < fk (ky β k)
          · have e5 : ¬ fk (ky β k) ≤ fk (ky β j) := by omega
            simp [e3, e4, e5]
          · have e5 : fk (ky β k) ≤ fk (ky β j) := by omega
            simp [e3, e4, e5]
      · have e2' : fk (ky β j) ≤ fk x := by omega
        simp (disch := first | omega | exact hx | exact v_ky h hj) only [ij_l0, ij_l1, ij_l2, ij_l3, ij_l4, ij_l5, ij_l6, ij_l8, ij_l12, ij_l16, ij_l19, ij_l23, ij_l24, ij_l31, ij_l32, ij_l36, ij_l47, ij_l48, ij_l56, ij_l92, ij_l93, ij_l98, ij_l108, ij_l114, ij_l116, ij_l127, ij_l128, ij_l149, ij_l250, ij_l384, ij_l768, ij_l1000, ij_l1536, ij_l3000, ij_l1000000, ij_l1000003, ij_l1000000000, ij_neg, ij_add, ij_sub, ij_mul, ob_s, vl_s, bi_z, fk_l_le, ij_lt, ij_le, ij_eq, if_pos, if_neg, e, e2, e2']
        simp
    · have e' : sn A β j = false := by simpa using e
      simp (disch := first | omega) only [ij_l0, ij_l1, ij_l2, ij_l3, ij_l4, ij_l5, ij_l6, ij_l8, ij_l12, ij_l16, ij_l19, ij_l23, ij_l24, ij_l31, ij_l32, ij_l36, ij_l47, ij_l48, ij_l56, ij_l92, ij_l93, ij_l98, ij_l108, ij_l114, ij_l116, ij_l127, ij_l128, ij_l149, ij_l250, ij_l384, ij_l768, ij_l1000, ij_l1536, ij_l3000, ij_l1000000, ij_l1000003, ij_l1000000000, ij_neg, ij_add, ij_sub, ij_mul, ob_s, vl_s, bi_z, ij_lt, ij_le, ij_eq, if_pos, if_neg, e, e']
      simp
  · simp only [fX6_nextAbove_L4]
    simp (disch := omega) only [ij_l0, ij_l1, ij_l2, ij_l3, ij_l4, ij_l5, ij_l6, ij_l8, ij_l12, ij_l16, ij_l19, ij_l23, ij_l24, ij_l31, ij_l32, ij_l36, ij_l47, ij_l48, ij_l56, ij_l92, ij_l93, ij_l98, ij_l108, ij_l114, ij_l116, ij_l127, ij_l128, ij_l149, ij_l250, ij_l384, ij_l768, ij_l1000, ij_l1536, ij_l3000, ij_l1000000, ij_l1000003, ij_l1000000000, ij_neg, ij_add, ij_sub, ij_mul, ij_lt, ij_le, ij_eq, ij_nat, tn_nat, tn_12, tn_24, tn_36, tn_48, ck_in, ob_s, o2_s, vl_s, ox_l, ox_r, ck_tr, if_pos, if_neg]
theorem f_widthAt (h : PtC A σ) (hS : ShOK A) {s : Nat} (hs : s < aSh A) : fX2_widthAt N σ (ij s) = some (ij (aW A s)) := by
  have h1 := (h.2.2.1 s (by have := hS.1; omega) hs).1
  have := hS.1
  unfold fX2_widthAt fX7_intAt
  simp (disch := omega) only [ij_l0, ij_l1, ij_l2, ij_l3, ij_l4, ij_l5, ij_l6, ij_l8, ij_l12, ij_l16, ij_l19, ij_l23, ij_l24, ij_l31, ij_l32, ij_l36, ij_l47, ij_l48, ij_l56, ij_l92, ij_l93, ij_l98, ij_l108, ij_l114, ij_l116, ij_l127, ij_l128, ij_l149, ij_l250, ij_l384, ij_l768, ij_l1000, ij_l1536, ij_l3000, ij_l1000000, ij_l1000003, ij_l1000000000, ij_neg, ij_add, ij_sub, ij_mul, ij_lt, ij_le, ij_eq, ij_nat, tn_nat, tn_12, tn_24, tn_36, tn_48, ck_in, ob_s, o2_s, vl_s, ox_l, ox_r, ck_tr, if_pos, if_neg, ij_ofn, h1]
theorem f_heightAt (h : PtC A σ) (hS : ShOK A) {s : Nat} (hs : s < aSh A) : fX2_heightAt N σ (ij s) = some (ij (aH A s)) := by
  have h1 := (h.2.2.1 s (by have := hS.1; omega) hs).2.1
  have := hS.1
  unfold fX2_heightAt fX7_intAt
  simp (disch := omega) only [ij_l0, ij_l1, ij_l2, ij_l3, ij_l4, ij_l5, ij_l6, ij_l8, ij_l12, ij_l16, ij_l19, ij_l23, ij_l24, ij_l31, ij_l32, ij_l36, ij_l47, ij_l48, ij_l56, ij_l92, ij_l93, ij_l98, ij_l108, ij_l114, ij_l116, ij_l127, ij_l128, ij_l149, ij_l250, ij_l384, ij_l768, ij_l1000, ij_l1536, ij_l3000, ij_l1000000, ij_l1000003, ij_l1000000000, ij_neg, ij_add, ij_sub, ij_mul, ij_lt, ij_le, ij_eq, ij_nat, tn_nat, tn_12, tn_24, tn_36, tn_48, ck_in, ob_s, o2_s, vl_s, ox_l, ox_r, ck_tr, if_pos, if_neg, ij_ofn, h1]
theorem f_isFrameAt (h : PtC A σ) (hS : ShOK A) {s : Nat} (hs : s < aSh A) : fX2_isFrameAt N σ (ij s) = some (bi (decide (aFr A s = 1))) := by
  have h1 := (h.2.2.1 s (by have := hS.1; omega) hs).2.2
  have := hS.1
  have h2 := (hS.2.2.1 s).2.2.2
  unfold fX2_isFrameAt fX7_isAt
  simp (disch := omega) only [ij_l0, ij_l1, ij_l2, ij_l3, ij_l4, ij_l5, ij_l6, ij_l8, ij_l12, ij_l16, ij_l19, ij_l23, ij_l24, ij_l31, ij_l32, ij_l36, ij_l47, ij_l48, ij_l56, ij_l92, ij_l93, ij_l98, ij_l108, ij_l114, ij_l116, ij_l127, ij_l128, ij_l149, ij_l250, ij_l384, ij_l768, ij_l1000, ij_l1536, ij_l3000, ij_l1000000, ij_l1000003, ij_l1000000000, ij_neg, ij_add, ij_sub, ij_mul, ij_lt, ij_le, ij_eq, ij_nat, tn_nat, tn_12, tn_24, tn_36, tn_48, ck_in, ob_s, o2_s, vl_s, ox_l, ox_r, ck_tr, if_pos, if_neg, ij_ofn, h1]
  by_cases e : aFr A s = 0
  · simp [e, ob_s, ij_l0]; rfl
  · have e1 : aFr A s = 1 := by omega
    simp [e1, ob_s]; rfl
theorem f_cell (h : VW A β o σ) {s : Nat} (hs : s < 12) : fX0_valueAt N σ o (ij 12 + ij s) = some (FP.i2f (ij (β (12 + s)))) ∧ β (12 + s) < 384 ∧ cl β s + aW A s ≤ 24 ∧ rwv β s + aH A s ≤ 16 := by
  have hb := (h.2.2.1 (12 + s) (by omega)).2.1 (by omega) (by omega)
  refine ⟨?_, hb.1, ?_, ?_⟩
  · rw [ij_add, v_val2 h (by omega) (by omega), show ((12 : Int) + s).toNat = 12 + s by omega, cvF_n _ (by omega)]
  · have := hb.2.1; rw [show 12 + s - 12 = s by omega] at this; exact this
  · have := hb.2.2.1; rw [show 12 + s - 12 = s by omega] at this; exact this
theorem f_cellUnder (h : VW A β o σ) {s : Nat} (hs : s < 12) : fX6_cellUnder N σ o (ij s) = some (ij (β (12 + s))) := by
  have hc := f_cell (N := N) h hs
  unfold fX6_cellUnder
  rw [ij_l12, hc.1, ob_s, f2i_cv (by omega)]
theorem f_columnAt (h : VW A β o σ) {s : Nat} (hs : s < 12) : fX6_columnAt N σ o (ij s) = some (ij (cl β s)) := by
  have hc := f_cell (N := N) h hs
  unfold fX6_columnAt
  rw [ij_l12, hc.1, ob_s, f2i_cv (by omega)]
  simp (disch := omega) only [ij_l0, ij_l1, ij_l2, ij_l3, ij_l4, ij_l5, ij_l6, ij_l8, ij_l12, ij_l16, ij_l19, ij_l23, ij_l24, ij_l31, ij_l32, ij_l36, ij_l47, ij_l48, ij_l56, ij_l92, ij_l93, ij_l98, ij_l108, ij_l114, ij_l116, ij_l127, ij_l128, ij_l149, ij_l250, ij_l384, ij_l768, ij_l1000, ij_l1536, ij_l3000, ij_l1000000, ij_l1000003, ij_l1000000000, ij_neg, ij_add, ij_sub, ij_mul, ij_div]
  unfold cl
  congr 2
  omega
theorem f_rowAt (h : VW A β o σ) {s : Nat} (hs : s < 12) : fX6_rowAt N σ o (ij s) = some (ij (rwv β s)) := by
  have hc := f_cell (N := N) h hs
  unfold fX6_rowAt
  rw [ij_l12, hc.1, ob_s, f2i_cv (by omega)]
  simp (disch := omega) only [ij_l0, ij_l1, ij_l2, ij_l3, ij_l4, ij_l5, ij_l6, ij_l8, ij_l12, ij_l16, ij_l19, ij_l23, ij_l24, ij_l31, ij_l32, ij_l36, ij_l47, ij_l48, ij_l56, ij_l92, ij_l93, ij_l98, ij_l108, ij_l114, ij_l116, ij_l127, ij_l128, ij_l149, ij_l250, ij_l384, ij_l768, ij_l1000, ij_l1536, ij_l3000, ij_l1000000, ij_l1000003, ij_l1000000000, ij_neg, ij_add, ij_sub, ij_mul, ij_div]
  unfold rwv
  rfl
theorem rg_cl (h : VW A β o σ) {s : Nat} (hs : s < 12) : cl β s < 24 ∧ rwv β s < 16 ∧ cl β s + aW A s ≤ 24 ∧ rwv β s + aH A s ≤ 16 := by
  have hc := f_cell (N := 0) h hs
  refine ⟨Nat.mod_lt _ (by omega), ?_, hc.2.2⟩
  unfold rwv
  omega
theorem f_isOver (h : VW A β o σ) {s : Nat} (hs : s < aSh A) {c r : Int} (c1 : -1000 ≤ c) (c2 : c ≤ 1000) (r1 : -1000 ≤ r) (r2 : r ≤ 1000) : fX6_isOver N σ o (ij s) (ij c) (ij r) = some (bi (ovr A β s c r)) := by
  have hS := h.2.2.2
  have l := hS.1
  have g := rg_cl h (s := s) (by omega)
  have w := hS.2.2.1 s
  unfold fX6_isOver
  rw [f_columnAt h (by omega), f_rowAt h (by omega), f_widthAt h.1 hS hs, f_heightAt h.1 hS hs]
  simp (disch := omega) only [ij_l0, ij_l1, ij_l2, ij_l3, ij_l4, ij_l5, ij_l6, ij_l8, ij_l12, ij_l16, ij_l19, ij_l23, ij_l24, ij_l31, ij_l32, ij_l36, ij_l47, ij_l48, ij_l56, ij_l92, ij_l93, ij_l98, ij_l108, ij_l114, ij_l116, ij_l127, ij_l128, ij_l149, ij_l250, ij_l384, ij_l768, ij_l1000, ij_l1536, ij_l3000, ij_l1000000, ij_l1000003, ij_l1000000000, ij_neg, ij_add, ij_sub, ij_mul, ob_s, vl_s, ij_lt, ij_le]
  unfold ovr
  by_cases e1 : c - cl β s < 0
  · rw [if_pos e1, decide_eq_false (by omega)]; rfl
  · rw [if_neg e1]
    by_cases e2 : (aW A s : Int) ≤ c - cl β s
    · rw [if_pos e2, decide_eq_false (by omega)]; rfl
    · rw [if_neg e2]
      by_cases e3 : r - rwv β s < 0
      · rw [if_pos e3, decide_eq_false (by omega)]; rfl
      · rw [if_neg e3]
        by_cases e4 : (aH A s : Int) ≤ r - rwv β s
        · rw [if_pos e4, decide_eq_false (by omega)]; rfl
        · rw [if_neg e4, decide_eq_true (by omega)]; rfl
theorem f_covers (h : VW A β o σ) {s t : Nat} (hs : s < aSh A) (ht : t < aSh A) : fX6_covers N σ o (ij s) (ij t) = some (bi (ins A β t s)) := by
  have hS := h.2.2.2
  have l := hS.1
  have g := rg_cl h (s := s) (by omega)
  have g2 := rg_cl h (s := t) (by omega)
  have w := hS.2.2.1 s
  have w2 := hS.2.2.1 t
  have w3 := w2.1 ht
  unfold fX6_covers
  rw [f_columnAt h (by omega), f_rowAt h (by omega), f_widthAt h.1 hS ht, f_heightAt h.1 hS ht]
  simp only [ij_l0, ij_l1, ij_l2, ij_l3, ij_l4, ij_l5, ij_l6, ij_l8, ij_l12, ij_l16, ij_l19, ij_l23, ij_l24, ij_l31, ij_l32, ij_l36, ij_l47, ij_l48, ij_l56, ij_l92, ij_l93, ij_l98, ij_l108, ij_l114, ij_l116, ij_l127, ij_l128, ij_l149, ij_l250, ij_l384, ij_l768, ij_l1000, ij_l1536, ij_l3000, ij_l1000000, ij_l1000003, ij_l1000000000, ij_neg, ij_add, ij_sub, ij_mul, ob_s, vl_s]
  rw [f_isOver h hs (by omega) (by omega) (by omega) (by omega), f_isOver h hs (by omega) (by omega) (by omega) (by omega)]
  simp only [ob_s, bi_z]
  unfold ins
  cases e1 : ovr A β s (cl β t) (rwv β t) with
  | false =>
    rw [if_pos rfl, decide_eq_false]; · rfl
    unfold ovr at e1
    rw [decide_eq_false_iff_not] at e1
    omega
  | true =>
    rw [if_neg (by simp)]
    unfold ovr at e1
    rw [decide_eq_true_eq] at e1
    cases e2 : ovr A β s (↑(cl β t) + ↑(aW A t) - 1) (↑(rwv β t) + ↑(aH A t) - 1) with
    | false =>
      rw [if_pos rfl, decide_eq_false]; · rfl
      unfold ovr at e2
      rw [decide_eq_false_iff_not] at e2
      omega
    | true =>
      unfold ovr at e2
      rw [decide_eq_true_eq] at e2
      rw [if_neg (by simp), decide_eq_true (by omega)]; rfl
end V2
