/-! The class's lists of spots: a push. -/
section S1_
variable {A : Ab} {N : Nat} {σ : St}
def Tq : Nat → Nat → Bool := fun c q => (c == 131 && (q == 0 || q == 1)) || (c == 6 && q == 0)
theorem f_pushHere {r l : Nat} {x : Int32} (hr : gR σ 0 = r) (hr2 : r < 2) (hl : gI σ 6 0 5 = ij l) (hl2 : l < 768) : fX4_pushHere N σ x = some (sI (sI σ 131 r l x) 6 0 5 (ij (l + 1))) := by
  unfold fX4_pushHere
  rw [hl, hr, show decide (r < 2) = true from decide_eq_true hr2]
  simp (disch := omega) only [ij_l0, ij_l1, ij_l2, ij_l3, ij_l4, ij_l5, ij_l6, ij_l8, ij_l12, ij_l16, ij_l19, ij_l23, ij_l24, ij_l31, ij_l32, ij_l36, ij_l47, ij_l48, ij_l56, ij_l92, ij_l93, ij_l98, ij_l108, ij_l114, ij_l116, ij_l127, ij_l128, ij_l149, ij_l250, ij_l384, ij_l768, ij_l1000, ij_l1536, ij_l3000, ij_l1000000, ij_l1000003, ij_l1000000000, ij_neg, ij_add, ij_sub, ij_mul, ij_lt, ij_le, ij_eq, ij_nat, tn_nat, tn_12, tn_24, tn_36, tn_48, ck_in, ob_s, o2_s, vl_s, ox_l, ox_r, ck_tr, if_pos, if_neg, ck_tr, gI_sI_ne, hl]
theorem f_pushLater {r l : Nat} {x : Int32} (hr : gR σ 1 = r) (hr2 : r < 2) (hl : gI σ 6 0 6 = ij l) (hl2 : l < 768) : fX4_pushLater N σ x = some (sI (sI σ 131 r l x) 6 0 6 (ij (l + 1))) := by
  unfold fX4_pushLater
  rw [hl, hr, show decide (r < 2) = true from decide_eq_true hr2]
  simp (disch := omega) only [ij_l0, ij_l1, ij_l2, ij_l3, ij_l4, ij_l5, ij_l6, ij_l8, ij_l12, ij_l16, ij_l19, ij_l23, ij_l24, ij_l31, ij_l32, ij_l36, ij_l47, ij_l48, ij_l56, ij_l92, ij_l93, ij_l98, ij_l108, ij_l114, ij_l116, ij_l127, ij_l128, ij_l149, ij_l250, ij_l384, ij_l768, ij_l1000, ij_l1536, ij_l3000, ij_l1000000, ij_l1000003, ij_l1000000000, ij_neg, ij_add, ij_sub, ij_mul, ij_lt, ij_le, ij_eq, ij_nat, tn_nat, tn_12, tn_24, tn_36, tn_48, ck_in, ob_s, o2_s, vl_s, ox_l, ox_r, ck_tr, if_pos, if_neg, ck_tr, gI_sI_ne, hl]
end S1_
