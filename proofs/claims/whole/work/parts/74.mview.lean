/-! What the model sees on the board that it built. -/
def WM (A : Ab) (β : Nat → Nat) (σ : St) : Prop := PtM A σ ∧ (∀ f, f < 93 → gI σ 157 0 f = mvI f (β f)) ∧ BOK A β ∧ ShOK A
section MV_
variable {A : Ab} {β : Nat → Nat} {N : Nat} {σ : St}
theorem m_isSeen (h : WM A β σ) {z : Int} (h1 : -2147483648 ≤ z) (h2 : z < 2147483648) : fX8_isSeen N σ (ij z) = some (bi (snz A β z)) := by
  have hsh := h.2.2.2.1
  unfold fX8_isSeen
  rw [h.1.1]
  simp only [ij_l0, ij_l1, ij_l2, ij_l3, ij_l4, ij_l5, ij_l6, ij_l8, ij_l12, ij_l16, ij_l19, ij_l23, ij_l24, ij_l31, ij_l32, ij_l36, ij_l47, ij_l48, ij_l56, ij_l92, ij_l93, ij_l98, ij_l108, ij_l114, ij_l116, ij_l127, ij_l128, ij_l149, ij_l250, ij_l384, ij_l768, ij_l1000, ij_l1536, ij_l3000, ij_l1000000, ij_l1000003, ij_l1000000000, ij_neg, ij_add, ij_sub, ij_mul]
  rw [m_isBetween ⟨h1, h2⟩ (by omega) (by omega), ob_s]
  unfold snz sn
  by_cases g : 0 ≤ z ∧ z ≤ (aSh A : Int) - 1
  · have hb := (h.2.2.1 z.toNat (by omega)).1 (by omega)
    have hv := h.2.1 z.toNat (by omega)
    rw [mvI_n _ (by omega)] at hv
    rw [decide_eq_true g]
    simp (disch := omega) only [ij_l0, ij_l1, ij_l2, ij_l3, ij_l4, ij_l5, ij_l6, ij_l8, ij_l12, ij_l16, ij_l19, ij_l23, ij_l24, ij_l31, ij_l32, ij_l36, ij_l47, ij_l48, ij_l56, ij_l92, ij_l93, ij_l98, ij_l108, ij_l114, ij_l116, ij_l127, ij_l128, ij_l149, ij_l250, ij_l384, ij_l768, ij_l1000, ij_l1536, ij_l3000, ij_l1000000, ij_l1000003, ij_l1000000000, ij_neg, ij_add, ij_sub, ij_mul, ij_lt, ij_le, ij_eq, ij_nat, tn_nat, tn_12, tn_24, tn_36, tn_48, ck_in, ob_s, o2_s, vl_s, ox_l, ox_r, ck_tr, if_pos, if_neg, bi_z, hv]
    have g1 : decide (0 ≤ z) = true := decide_eq_true g.1
    have g3 : decide (z.toNat < aSh A) = true := decide_eq_true (by omega)
    rw [g1, g3]
    by_cases e : β z.toNat = 1
    · simp [e, bi_t]
    · have e0 : β z.toNat = 0 := by omega
      simp [e0, bi_f]
  · rw [decide_eq_false g, if_pos (show bi false = ij 0 from rfl)]
    have : (decide (0 ≤ z) && decide (z.toNat < aSh A)) = false := by
      rw [Bool.and_eq_false_iff]
      by_cases q : 0 ≤ z
      · right; exact decide_eq_false (by omega)
      · left; exact decide_eq_false q
    rw [← Bool.and_assoc, this]
    rfl
theorem m_seen (h : WM A β σ) {s : Nat} (hs : s < 12) : fX8_isSeen N σ (ij s) = some (bi (sn A β s)) := by
  rw [m_isSeen h (by omega) (by omega), snz_nat]
theorem m_isJoined (h : WM A β σ) {z : Int} (h1 : -2147483648 ≤ z) (h2 : z < 2147483648) : fX8_isJoined N σ (ij z) = some (bi (jndz A β z)) := by
  have hS := h.2.2.2
  have hcn := hS.2.1
  unfold fX8_isJoined
  rw [h.1.2.1]
  simp only [ij_l0, ij_l1, ij_l2, ij_l3, ij_l4, ij_l5, ij_l6, ij_l8, ij_l12, ij_l16, ij_l19, ij_l23, ij_l24, ij_l31, ij_l32, ij_l36, ij_l47, ij_l48, ij_l56, ij_l92, ij_l93, ij_l98, ij_l108, ij_l114, ij_l116, ij_l127, ij_l128, ij_l149, ij_l250, ij_l384, ij_l768, ij_l1000, ij_l1536, ij_l3000, ij_l1000000, ij_l1000003, ij_l1000000000, ij_neg, ij_add, ij_sub, ij_mul]
  rw [m_isBetween ⟨h1, h2⟩ (by omega) (by omega), ob_s]
  unfold jndz jnd
  by_cases g : 0 ≤ z ∧ z ≤ (aCn A : Int) - 1
  · obtain ⟨c, rfl⟩ : ∃ c : Nat, z = c := ⟨z.toNat, by omega⟩
    have hp := h.1.2.2.2 c (by omega) (by omega)
    have hc := hS.2.2.2 c (by omega)
    have hb := (h.2.2.1 (48 + c) (by omega)).2.2.2.2.1 (by omega) (by omega)
    have hv := h.2.1 (48 + c) (by omega)
    rw [mvI_n _ (by omega)] at hv
    have s1 := m_seen (N := N) h (s := aOne A c) (by have := hS.1; omega)
    have s2 := m_seen (N := N) h (s := aOth A c) (by have := hS.1; omega)
    rw [decide_eq_true g]
    simp (disch := omega) only [ij_l0, ij_l1, ij_l2, ij_l3, ij_l4, ij_l5, ij_l6, ij_l8, ij_l12, ij_l16, ij_l19, ij_l23, ij_l24, ij_l31, ij_l32, ij_l36, ij_l47, ij_l48, ij_l56, ij_l92, ij_l93, ij_l98, ij_l108, ij_l114, ij_l116, ij_l127, ij_l128, ij_l149, ij_l250, ij_l384, ij_l768, ij_l1000, ij_l1536, ij_l3000, ij_l1000000, ij_l1000003, ij_l1000000000, ij_neg, ij_add, ij_sub, ij_mul, ij_lt, ij_le, ij_eq, ij_nat, tn_nat, tn_12, tn_24, tn_36, tn_48, ck_in, ob_s, o2_s, vl_s, ox_l, ox_r, ck_tr, if_pos, if_neg, bi_z, hv, hp.1, hp.2.1, s1, s2]
    have g1 : decide (0 ≤ (c : Int)) = true := decide_eq_true g.1
    have g3 : decide (c < aCn A) = true := decide_eq_true (by omega)
    rw [g1, g3]
    by_cases e : β (48 + c) = 1
    · cases q1 : sn A β (aOne A c) <;> cases q2 : sn A β (aOth A c) <;> simp [e, bi_t, bi_f]
    · have e0 : β (48 + c) = 0 := by omega
      simp [e0, bi_f]
  · rw [decide_eq_false g, if_pos (show bi false = ij 0 from rfl)]
    have : (decide (0 ≤ z) && decide (z.toNat < aCn A)) = false := by
      rw [Bool.and_eq_false_iff]
      by_cases q : 0 ≤ z
      · right; exact decide_eq_false (by omega)
      · left; exact decide_eq_false q
    rw [← Bool.and_assoc, ← Bool.and_assoc, ← Bool.and_assoc, this]
    rfl
theorem m_jnd (h : WM A β σ) {c : Nat} (hc : c < 8) : fX8_isJoined N σ (ij c) = some (bi (jnd A β c)) := by
  rw [m_isJoined h (by omega) (by omega)]
  unfold jndz
  simp
theorem m_place (h : WM A β σ) {s : Nat} (hs : s < 12) : gI σ 157 0 (12 + s) = ij (32 * cl β s + rwv β s : Nat) ∧ cl β s < 24 ∧ rwv β s < 16 := by
  have hb := (h.2.2.1 (12 + s) (by omega)).2.1 (by omega) (by omega)
  rw [h.2.1 _ (by omega), mvI_pl _ (by omega) (by omega)]
  refine ⟨rfl, Nat.mod_lt _ (by omega), ?_⟩
  unfold rwv
  omega
theorem m_column (h : WM A β σ) {s : Nat} (hs : s < 12) : fX8_column N σ (ij s) = some (ij (cl β s)) := by
  obtain ⟨p1, p2, p3⟩ := m_place h hs
  unfold fX8_column
  simp (disch := omega) only [ij_l0, ij_l1, ij_l2, ij_l3, ij_l4, ij_l5, ij_l6, ij_l8, ij_l12, ij_l16, ij_l19, ij_l23, ij_l24, ij_l31, ij_l32, ij_l36, ij_l47, ij_l48, ij_l56, ij_l92, ij_l93, ij_l98, ij_l108, ij_l114, ij_l116, ij_l127, ij_l128, ij_l149, ij_l250, ij_l384, ij_l768, ij_l1000, ij_l1536, ij_l3000, ij_l1000000, ij_l1000003, ij_l1000000000, ij_neg, ij_add, ij_sub, ij_mul, ij_lt, ij_le, ij_eq, ij_nat, tn_nat, tn_12, tn_24, tn_36, tn_48, ck_in, ob_s, o2_s, vl_s, ox_l, ox_r, ck_tr, if_pos, if_neg, p1, ij_div]
  congr 2
  omega
theorem m_row (h : WM A β σ) {s : Nat} (hs : s < 12) : fX8_row N σ (ij s) = some (ij (rwv β s)) := by
  obtain ⟨p1, p2, p3⟩ := m_place h hs
  unfold fX8_row
  simp (disch := omega) only [ij_l0, ij_l1, ij_l2, ij_l3, ij_l4, ij_l5, ij_l6, ij_l8, ij_l12, ij_l16, ij_l19, ij_l23, ij_l24, ij_l31, ij_l32, ij_l36, ij_l47, ij_l48, ij_l56, ij_l92, ij_l93, ij_l98, ij_l108, ij_l114, ij_l116, ij_l127, ij_l128, ij_l149, ij_l250, ij_l384, ij_l768, ij_l1000, ij_l1536, ij_l3000, ij_l1000000, ij_l1000003, ij_l1000000000, ij_neg, ij_add, ij_sub, ij_mul, ij_lt, ij_le, ij_eq, ij_nat, tn_nat, tn_12, tn_24, tn_36, tn_48, ck_in, ob_s, o2_s, vl_s, ox_l, ox_r, ck_tr, if_pos, if_neg, p1, ij_div]
  congr 2
  omega
theorem nsn {a : UInt32} (h : kyB a) : vn_sni2f a.toInt32 = false := by
  have e : a.toInt32.toUInt32 = a := by simp
  unfold vn_sni2f
  rw [e]
  have h1 : ¬ (a &&& 0x7fffffff > 0x7f800000) := by
    rw [gt_iff_lt, UInt32.lt_iff_toNat_lt, FP.Core.mask_toNat32]
    unfold kyB at h
    show ¬ (2139095040 < _)
    omega
  simp [h1]
theorem m_key (h : WM A β σ) {s : Nat} (hs : s < 12) : fX8_key N σ (ij s) = some (ky β s) ∧ kyB (ky β s) := by
  have hk := kyB_of ((h.2.2.1 (24 + s) (by omega)).2.2.1 (by omega) (by omega)).1
  have hv := h.2.1 (24 + s) (by omega)
  rw [mvI_ky _ (by omega) (by omega)] at hv
  refine ⟨?_, hk.1⟩
  unfold fX8_key
  simp (disch := omega) only [ij_l0, ij_l1, ij_l2, ij_l3, ij_l4, ij_l5, ij_l6, ij_l8, ij_l12, ij_l16, ij_l19, ij_l23, ij_l24, ij_l31, ij_l32, ij_l36, ij_l47, ij_l48, ij_l56, ij_l92, ij_l93, ij_l98, ij_l108, ij_l114, ij_l116, ij_l127, ij_l128, ij_l149, ij_l250, ij_l384, ij_l768, ij_l1000, ij_l1536, ij_l3000, ij_l1000000, ij_l1000003, ij_l1000000000, ij_neg, ij_add, ij_sub, ij_mul, ij_lt, ij_le, ij_eq, ij_nat, tn_nat, tn_12, tn_24, tn_36, tn_48, ck_in, ob_s, o2_s, vl_s, ox_l, ox_r, ck_tr, if_pos, if_neg, hv]
  have e : (UInt32.ofNat (β (24 + s))).toInt32.toUInt32 = UInt32.ofNat (β (24 + s)) := by simp
  rw [nsn hk.1, e]
  rfl
theorem m_seenMany (h : WM A β σ) (hN : 100 ≤ N) : fX8_seenMany N σ = some (ij (ct (sn A β) 12)) := by
  have hsh := h.2.2.2.1
  rw [ct_cut (m := aSh A) hsh (fun k h1 _ => by rw [← Bool.not_eq_true]; intro z; have := sn_lt z; omega)]
  unfold fX8_seenMany
  refine lp_end (fun n j => fX8_seenMany_L4 (fun v8 _ => (some v8)) N σ n (ij (ct (sn A β) j)) (ij j)) (a := 0) (b := aSh A) (by omega) (fun n j _ hj => ?_) (fun n => ?_) N (by omega)
  · have hc := ct_le (sn A β) j
    simp only [fX8_seenMany_L4]
    rw [h.1.1, m_seen h (by omega)]
    simp (disch := omega) only [ij_l0, ij_l1, ij_l2, ij_l3, ij_l4, ij_l5, ij_l6, ij_l8, ij_l12, ij_l16, ij_l19, ij_l23, ij_l24, ij_l31, ij_l32, ij_l36, ij_l47, ij_l48, ij_l56, ij_l92, ij_l93, ij_l98, ij_l108, ij_l114, ij_l116, ij_l127, ij_l128, ij_l149, ij_l250, ij_l384, ij_l768, ij_l1000, ij_l1536, ij_l3000, ij_l1000000, ij_l1000003, ij_l1000000000, ij_neg, ij_add, ij_sub, ij_mul, ij_lt, ij_le, ij_eq, ij_nat, tn_nat, tn_12, tn_24, tn_36, tn_48, ck_in, ob_s, o2_s, vl_s, ox_l, ox_r, ck_tr, if_pos, if_neg, bi_z]
    cases e : sn A β j <;> simp [ct, e]
  · simp only [fX8_seenMany_L4]
    rw [h.1.1]
    simp (disch := omega) only [ij_l0, ij_l1, ij_l2, ij_l3, ij_l4, ij_l5, ij_l6, ij_l8, ij_l12, ij_l16, ij_l19, ij_l23, ij_l24, ij_l31, ij_l32, ij_l36, ij_l47, ij_l48, ij_l56, ij_l92, ij_l93, ij_l98, ij_l108, ij_l114, ij_l116, ij_l127, ij_l128, ij_l149, ij_l250, ij_l384, ij_l768, ij_l1000, ij_l1536, ij_l3000, ij_l1000000, ij_l1000003, ij_l1000000000, ij_neg, ij_add, ij_sub, ij_mul, ij_lt, ij_le, ij_eq, ij_nat, tn_nat, tn_12, tn_24, tn_36, tn_48, ck_in, ob_s, o2_s, vl_s, ox_l, ox_r, ck_tr, if_pos, if_neg]
theorem m_joinedMany (h : WM A β σ) (hN : 100 ≤ N) : fX8_joinedMany N σ = some (ij (ct (jnd A β) 8)) := by
  have hcn := h.2.2.2.2.1
  rw [ct_cut (m := aCn A) hcn (fun k h1 _ => by unfold jnd; rw [decide_eq_false (by omega)]; rfl)]
  unfold fX8_joinedMany
  refine lp_end (fun n j => fX8_joinedMany_L4 (fun v8 _ => (some v8)) N σ n (ij (ct (jnd A β) j)) (ij j)) (a := 0) (b := aCn A) (by omega) (fun n j _ hj => ?_) (fun n => ?_) N (by omega)
  · have hc := ct_le (jnd A β) j
    simp only [fX8_joinedMany_L4]
    rw [h.1.2.1, m_jnd h (by omega)]
    simp (disch := omega) only [ij_l0, ij_l1, ij_l2, ij_l3, ij_l4, ij_l5, ij_l6, ij_l8, ij_l12, ij_l16, ij_l19, ij_l23, ij_l24, ij_l31, ij_l32, ij_l36, ij_l47, ij_l48, ij_l56, ij_l92, ij_l93, ij_l98, ij_l108, ij_l114, ij_l116, ij_l127, ij_l128, ij_l149, ij_l250, ij_l384, ij_l768, ij_l1000, ij_l1536, ij_l3000, ij_l1000000, ij_l1000003, ij_l1000000000, ij_neg, ij_add, ij_sub, ij_mul, ij_lt, ij_le, ij_eq, ij_nat, tn_nat, tn_12, tn_24, tn_36, tn_48, ck_in, ob_s, o2_s, vl_s, ox_l, ox_r, ck_tr, if_pos, if_neg, bi_z]
    cases e : jnd A β j <;> simp [ct, e]
  · simp only [fX8_joinedMany_L4]
    rw [h.1.2.1]
    simp (disch := omega) only [ij_l0, ij_l1, ij_l2, ij_l3, ij_l4, ij_l5, ij_l6, ij_l8, ij_l12, ij_l16, ij_l19, ij_l23, ij_l24, ij_l31, ij_l32, ij_l36, ij_l47, ij_l48, ij_l56, ij_l92, ij_l93, ij_l98, ij_l108, ij_l114, ij_l116, ij_l127, ij_l128, ij_l149, ij_l250, ij_l384, ij_l768, ij_l1000, ij_l1536, ij_l3000, ij_l1000000, ij_l1000003, ij_l1000000000, ij_neg, ij_add, ij_sub, ij_mul, ij_lt, ij_le, ij_eq, ij_nat, tn_nat, tn_12, tn_24, tn_36, tn_48, ck_in, ob_s, o2_s, vl_s, ox_l, ox_r, ck_tr, if_pos, if_neg]
theorem m_rank (h : WM A β σ) (hN : 100 ≤ N) {s : Nat} (hs : s < 12) : fX8_rank N σ (ij s) = some (ij (rk A β s)) := by
  have hsh := h.2.2.2.1
  unfold rk
  have hcut : ct (fun t => sn A β t && blw β t s) 12 = ct (fun t => sn A β t && blw β t s) (aSh A) := ct_cut hsh (fun k h1 _ => by
    have hf : sn A β k = false := by rw [← Bool.not_eq_true]; intro z; have := sn_lt z; omega
    show (sn A β k && blw β k s) = false
    rw [hf]
    rfl)
  rw [hcut]
  have ks := (m_key (N := N) h hs)
  unfold fX8_rank
  refine lp_end (fun n j => fX8_rank_L4 (fun v18 _ => (some v18)) N σ (ij s) n (ij (ct (fun t => sn A β t && blw β t s) j)) (ij j)) (a := 0) (b := aSh A) (by omega) (fun n j _ hj => ?_) (fun n => ?_) N (by omega)
  · have hc := ct_le (fun t => sn A β t && blw β t s) j
    have kj := (m_key (N := N) h (s := j) (by omega))
    simp only [fX8_rank_L4]
    rw [h.1.1, m_seen h (by omega), kj.1, ks.1]
    by_cases e : sn A β j = true
    · by_cases g1 : fk (ky β j) < fk (ky β s)
      · have e2 : blw β j s = true := by rw [blw_iff]; exact Or.inl g1
        simp (disch := first | omega | exact kj.2 | exact ks.2) only [ij_l0, ij_l1, ij_l2, ij_l3, ij_l4, ij_l5, ij_l6, ij_l8, ij_l12, ij_l16, ij_l19, ij_l23, ij_l24, ij_l31, ij_l32, ij_l36, ij_l47, ij_l48, ij_l56, ij_l92, ij_l93, ij_l98, ij_l108, ij_l114, ij_l116, ij_l127, ij_l128, ij_l149, ij_l250, ij_l384, ij_l768, ij_l1000, ij_l1536, ij_l3000, ij_l1000000, ij_l1000003, ij_l1000000000, ij_neg, ij_add, ij_sub, ij_mul, ij_le, if_neg, ob_s, vl_s, bi_z, e, fk_g_lt, g1, if_true, Bool.true_eq_false, if_false]
        simp [ct, e, e2]
      · by_cases g2 : fk (ky β j) = fk (ky β s)
        · by_cases g3 : j < s
          · have e2 : blw β j s = true := by rw [blw_iff]; exact Or.inr ⟨g2, g3⟩
            have g4 : ¬ (s : Int) ≤ j := by omega
            simp (disch := first | omega | exact kj.2 | exact ks.2) only [ij_l0, ij_l1, ij_l2, ij_l3, ij_l4, ij_l5, ij_l6, ij_l8, ij_l12, ij_l16, ij_l19, ij_l23, ij_l24, ij_l31, ij_l32, ij_l36, ij_l47, ij_l48, ij_l56, ij_l92, ij_l93, ij_l98, ij_l108, ij_l114, ij_l116, ij_l127, ij_l128, ij_l149, ij_l250, ij_l384, ij_l768, ij_l1000, ij_l1536, ij_l3000, ij_l1000000, ij_l1000003, ij_l1000000000, ij_neg, ij_add, ij_sub, ij_mul, ij_le, if_neg, ob_s, vl_s, bi_z, e, fk_g_lt, fk_l_eq, g1, g2, g4, if_true, Bool.true_eq_false, if_false]
            simp [ct, e, e2]
          · have e2 : blw β j s = false := by rw [← Bool.not_eq_true, blw_iff]; omega
            have g4 : (s : Int) ≤ j := by omega
            simp (disch := first | omega | exact kj.2 | exact ks.2) only [ij_l0, ij_l1, ij_l2, ij_l3, ij_l4, ij_l5, ij_l6, ij_l8, ij_l12, ij_l16, ij_l19, ij_l23, ij_l24, ij_l31, ij_l32, ij_l36, ij_l47, ij_l48, ij_l56, ij_l92, ij_l93, ij_l98, ij_l108, ij_l114, ij_l116, ij_l127, ij_l128, ij_l149, ij_l250, ij_l384, ij_l768, ij_l1000, ij_l1536, ij_l3000, ij_l1000000, ij_l1000003, ij_l1000000000, ij_neg, ij_add, ij_sub, ij_mul, ij_le, if_neg, ob_s, vl_s, bi_z, e, fk_g_lt, fk_l_eq, g1, g2, g4, if_true, Bool.true_eq_false, if_false]
            simp [ct, e, e2]
        · have e2 : blw β j s = false := by rw [← Bool.not_eq_true, blw_iff]; omega
          simp (disch := first | omega | exact kj.2 | exact ks.2) only [ij_l0, ij_l1, ij_l2, ij_l3, ij_l4, ij_l5, ij_l6, ij_l8, ij_l12, ij_l16, ij_l19, ij_l23, ij_l24, ij_l31, ij_l32, ij_l36, ij_l47, ij_l48, ij_l56, ij_l92, ij_l93, ij_l98, ij_l108, ij_l114, ij_l116, ij_l127, ij_l128, ij_l149, ij_l250, ij_l384, ij_l768, ij_l1000, ij_l1536, ij_l3000, ij_l1000000, ij_l1000003, ij_l1000000000, ij_neg, ij_add, ij_sub, ij_mul, ij_le, if_neg, ob_s, vl_s, bi_z, e, fk_g_lt, fk_l_eq, g1, g2, if_true, Bool.true_eq_false, if_false]
          simp [ct, e, e2]
    · have e' : sn A β j = false := by simpa using e
      simp (disch := omega) only [ij_l0, ij_l1, ij_l2, ij_l3, ij_l4, ij_l5, ij_l6, ij_l8, ij_l12, ij_l16, ij_l19, ij_l23, ij_l24, ij_l31, ij_l32, ij_l36, ij_l47, ij_l48, ij_l56, ij_l92, ij_l93, ij_l98, ij_l108, ij_l114, ij_l116, ij_l127, ij_l128, ij_l149, ij_l250, ij_l384, ij_l768, ij_l1000, ij_l1536, ij_l3000, ij_l1000000, ij_l1000003, ij_l1000000000, ij_neg, ij_add, ij_sub, ij_mul, ij_le, if_neg, ob_s, vl_s, bi_z, e', if_true]
      simp [ct, e']
  · simp only [fX8_rank_L4]
    rw [h.1.1]
    simp (disch := omega) only [ij_l0, ij_l1, ij_l2, ij_l3, ij_l4, ij_l5, ij_l6, ij_l8, ij_l12, ij_l16, ij_l19, ij_l23, ij_l24, ij_l31, ij_l32, ij_l36, ij_l47, ij_l48, ij_l56, ij_l92, ij_l93, ij_l98, ij_l108, ij_l114, ij_l116, ij_l127, ij_l128, ij_l149, ij_l250, ij_l384, ij_l768, ij_l1000, ij_l1536, ij_l3000, ij_l1000000, ij_l1000003, ij_l1000000000, ij_neg, ij_add, ij_sub, ij_mul, ij_lt, ij_le, ij_eq, ij_nat, tn_nat, tn_12, tn_24, tn_36, tn_48, ck_in, ob_s, o2_s, vl_s, ox_l, ox_r, ck_tr, if_pos, if_neg]
/-- the first shape with the greatest (lowest) key -/
def gr (A : Ab) (β : Nat → Nat) : Nat → Int
  | 0 => -1
  | j + 1 => if sn A β j = true ∧ (gr A β j < 0 ∨ fk (ky β (gr A β j).toNat) < fk (ky β j)) then (j : Int) else gr A β j
def lr (A : Ab) (β : Nat → Nat) : Nat → Int
  | 0 => -1
  | j + 1 => if sn A β j = true ∧ (lr A β j < 0 ∨ fk (ky β j) < fk (ky β (lr A β j).toNat)) then (j : Int) else lr A β j
theorem gr_sp (A : Ab) (β : Nat → Nat) : ∀ j, (gr A β j = -1 ∧ ∀ t, t < j → sn A β t = false) ∨ (∃ s : Nat, gr A β j = s ∧ s < j ∧ sn A β s = true ∧ ∀ t, t < j → sn A β t = true → fk (ky β t) ≤ fk (ky β s)) := by
  intro j
  induction j with
  | zero => exact Or.inl ⟨rfl, fun t h => by omega⟩
  | succ j ih =>
    simp only [gr]
    by_cases e : sn A β j = true
    · rcases ih with ⟨h1, h2⟩ | ⟨s, h1, h2, h3, h4⟩
      · rw [if_pos ⟨e, by omega⟩]
        refine Or.inr ⟨j, rfl, by omega, e, fun t ht q => ?_⟩
        by_cases z : t = j
        · rw [z]; exact Int.le_refl _
        · rw [h2 t (by omega)] at q; cases q
      · rw [h1]
        by_cases g : fk (ky β s) < fk (ky β j)
        · rw [if_pos ⟨e, Or.inr g⟩]
          refine Or.inr ⟨j, rfl, by omega, e, fun t ht q => ?_⟩
          by_cases z : t = j
          · rw [z]; exact Int.le_refl _
          · have := h4 t (by omega) q; omega
        · rw [if_neg (fun q => q.2.elim (fun z => by omega) g)]
          refine Or.inr ⟨s, rfl, by omega, h3, fun t ht q => ?_⟩
          by_cases z : t = j
          · rw [z]; omega
          · exact h4 t (by omega) q
    · rw [if_neg (fun q => e q.1)]
      rcases ih with ⟨h1, h2⟩ | ⟨s, h1, h2, h3, h4⟩
      · refine Or.inl ⟨h1, fun t ht => ?_⟩
        by_cases z : t = j
        · rw [z]; simpa using e
        · exact h2 t (by omega)
      · refine Or.inr ⟨s, h1, by omega, h3, fun t ht q => ?_⟩
        by_cases z : t = j
        · rw [z] at q; exact absurd q e
        · exact h4 t (by omega) q
theorem lr_sp (A : Ab) (β : Nat → Nat) : ∀ j, (lr A β j = -1 ∧ ∀ t, t < j → sn A β t = false) ∨ (∃ s : Nat, lr A β j = s ∧ s < j ∧ sn A β s = true ∧ ∀ t, t < j → sn A β t = true → fk (ky β s) ≤ fk (ky β t)) := by
  intro j
  induction j with
  | zero => exact Or.inl ⟨rfl, fun t h => by omega⟩
  | succ j ih =>
    simp only [lr]
    by_cases e : sn A β j = true
    · rcases ih with ⟨h1, h2⟩ | ⟨s, h1, h2, h3, h4⟩
      · rw [if_pos ⟨e, by omega⟩]
        refine Or.inr ⟨j, rfl, by omega, e, fun t ht q => ?_⟩
        by_cases z : t = j
        · rw [z]; exact Int.le_refl _
        · rw [h2 t (by omega)] at q; cases q
      · rw [h1]
        by_cases g : fk (ky β j) < fk (ky β s)
        · rw [if_pos ⟨e, Or.inr g⟩]
          refine Or.inr ⟨j, rfl, by omega, e, fun t ht q => ?_⟩
          by_cases z : t = j
          · rw [z]; exact Int.le_refl _
          · have := h4 t (by omega) q; omega
        · rw [if_neg (fun q => q.2.elim (fun z => by omega) g)]
          refine Or.inr ⟨s, rfl, by omega, h3, fun t ht q => ?_⟩
          by_cases z : t = j
          · rw [z]; omega
          · exact h4 t (by omega) q
    · rw [if_neg (fun q => e q.1)]
      rcases ih with ⟨h1, h2⟩ | ⟨s, h1, h2, h3, h4⟩
      · refine Or.inl ⟨h1, fun t ht => ?_⟩
        by_cases z : t = j
        · rw [z]; simpa using e
        · exact h2 t (by omega)
      · refine Or.inr ⟨s, h1, by omega, h3, fun t ht q => ?_⟩
        by_cases z : t = j
        · rw [z] at q; exact absurd q e
        · exact h4 t (by omega) q
theorem m_greatest (h : WM A β σ) (hN : 100 ≤ N) : fX8_greatest N σ = some (ij (gr A β (aSh A))) := by
  have hsh := h.2.2.2.1
  unfold fX8_greatest
  simp only [vl_s, ij_l0, ij_l1, ij_l2, ij_l3, ij_l4, ij_l5, ij_l6, ij_l8, ij_l12, ij_l16, ij_l19, ij_l23, ij_l24, ij_l31, ij_l32, ij_l36, ij_l47, ij_l48, ij_l56, ij_l92, ij_l93, ij_l98, ij_l108, ij_l114, ij_l116, ij_l127, ij_l128, ij_l149, ij_l250, ij_l384, ij_l768, ij_l1000, ij_l1536, ij_l3000, ij_l1000000, ij_l1000003, ij_l1000000000, ij_neg, ij_add, ij_sub, ij_mul]
  refine lp_end (fun n j => fX8_greatest_L4 (fun v11 _ => (some v11)) N σ n (ij (gr A β j)) (ij j)) (a := 0) (b := aSh A) (by omega) (fun n j _ hj => ?_) (fun n => ?_) N (by omega)
  · have hst : gr A β (j + 1) = if sn A β j = true ∧ (gr A β j < 0 ∨ fk (ky β (gr A β j).toNat) < fk (ky β j)) then (j : Int) else gr A β j := rfl
    have hr := gr_sp A β j
    have kj := (m_key (N := N) h (s := j) (by omega))
    simp only [fX8_greatest_L4]
    rw [h.1.1, m_seen h (by omega), kj.1]
    by_cases e : sn A β j = true
    · rcases hr with ⟨r, _⟩ | ⟨k, r, r2, _⟩
      · rw [if_pos ⟨e, by omega⟩] at hst
        rw [hst, r]
        simp (disch := omega) only [ij_l0, ij_l1, ij_l2, ij_l3, ij_l4, ij_l5, ij_l6, ij_l8, ij_l12, ij_l16, ij_l19, ij_l23, ij_l24, ij_l31, ij_l32, ij_l36, ij_l47, ij_l48, ij_l56, ij_l92, ij_l93, ij_l98, ij_l108, ij_l114, ij_l116, ij_l127, ij_l128, ij_l149, ij_l250, ij_l384, ij_l768, ij_l1000, ij_l1536, ij_l3000, ij_l1000000, ij_l1000003, ij_l1000000000, ij_neg, ij_add, ij_sub, ij_mul, ij_le, ij_lt, if_neg, if_pos, ob_s, vl_s, bi_z, e, Bool.true_eq_false, if_false]
        simp
      · have kk := (m_key (N := N) h (s := k) (by omega))
        rw [r] at hst ⊢
        rw [kk.1]
        by_cases g : fk (ky β k) < fk (ky β j)
        · rw [if_pos ⟨e, Or.inr g⟩] at hst
          have g' : ¬ fk (ky β j) ≤ fk (ky β k) := by omega
          rw [hst]
          simp (disch := first | omega | exact kj.2 | exact kk.2) only [ij_l0, ij_l1, ij_l2, ij_l3, ij_l4, ij_l5, ij_l6, ij_l8, ij_l12, ij_l16, ij_l19, ij_l23, ij_l24, ij_l31, ij_l32, ij_l36, ij_l47, ij_l48, ij_l56, ij_l92, ij_l93, ij_l98, ij_l108, ij_l114, ij_l116, ij_l127, ij_l128, ij_l149, ij_l250, ij_l384, ij_l768, ij_l1000, ij_l1536, ij_l3000, ij_l1000000, ij_l1000003, ij_l1000000000, ij_neg, ij_add, ij_sub, ij_mul, ij_le, ij_lt, if_neg, if_pos, ob_s, vl_s, bi_z, e, Bool.true_eq_false, if_false, fk_l_le, g']
          simp
        · rw [if_neg (fun q => q.2.elim (fun z => by omega) g)] at hst
          have g' : fk (ky β j) ≤ fk (ky β k) := by omega
          rw [hst]
          simp (disch := first | omega | exact kj.2 | exact kk.2) only [ij_l0, ij_l1, ij_l2, ij_l3, ij_l4, ij_l5, ij_l6, ij_l8, ij_l12, ij_l16, ij_l19, ij_l23, ij_l24, ij_l31, ij_l32, ij_l36, ij_l47, ij_l48, ij_l56, ij_l92, ij_l93, ij_l98, ij_l108, ij_l114, ij_l116, ij_l127, ij_l128, ij_l149, ij_l250, ij_l384, ij_l768, ij_l1000, ij_l1536, ij_l3000, ij_l1000000, ij_l1000003, ij_l1000000000, ij_neg, ij_add, ij_sub, ij_mul, ij_le, ij_lt, if_neg, if_pos, ob_s, vl_s, bi_z, e, Bool.true_eq_false, if_false, fk_l_le, g', if_true]
          simp
    · have e' : sn A β j = false := by simpa using e
      rw [if_neg (fun q => e q.1)] at hst
      rw [hst]
      simp (disch := omega) only [ij_l0, ij_l1, ij_l2, ij_l3, ij_l4, ij_l5, ij_l6, ij_l8, ij_l12, ij_l16, ij_l19, ij_l23, ij_l24, ij_l31, ij_l32, ij_l36, ij_l47, ij_l48, ij_l56, ij_l92, ij_l93, ij_l98, ij_l108, ij_l114, ij_l116, ij_l127, ij_l128, ij_l149, ij_l250, ij_l384, ij_l768, ij_l1000, ij_l1536, ij_l3000, ij_l1000000, ij_l1000003, ij_l1000000000, ij_neg, ij_add, ij_sub, ij_mul, ij_le, ij_lt, if_neg, if_pos, ob_s, vl_s, bi_z, e', if_true]
      simp
  · simp only [fX8_greatest_L4]
    rw [h.1.1]
    simp (disch := omega) only [ij_l0, ij_l1, ij_l2, ij_l3, ij_l4, ij_l5, ij_l6, ij_l8, ij_l12, ij_l16, ij_l19, ij_l23, ij_l24, ij_l31, ij_l32, ij_l36, ij_l47, ij_l48, ij_l56, ij_l92, ij_l93, ij_l98, ij_l108, ij_l114, ij_l116, ij_l127, ij_l128, ij_l149, ij_l250, ij_l384, ij_l768, ij_l1000, ij_l1536, ij_l3000, ij_l1000000, ij_l1000003, ij_l1000000000, ij_neg, ij_add, ij_sub, ij_mul, ij_lt, ij_le, ij_eq, ij_nat, tn_nat, tn_12, tn_24, tn_36, tn_48, ck_in, ob_s, o2_s, vl_s, ox_l, ox_r, ck_tr, if_pos, if_neg]
theorem m_lowest (h : WM A β σ) (hN : 100 ≤ N) : fX8_lowest N σ = some (ij (lr A β (aSh A))) := by
  have hsh := h.2.2.2.1
  unfold fX8_lowest
  simp only [vl_s, ij_l0, ij_l1, ij_l2, ij_l3, ij_l4, ij_l5, ij_l6, ij_l8, ij_l12, ij_l16, ij_l19, ij_l23, ij_l24, ij_l31, ij_l32, ij_l36, ij_l47, ij_l48, ij_l56, ij_l92, ij_l93, ij_l98, ij_l108, ij_l114, ij_l116, ij_l127, ij_l128, ij_l149, ij_l250, ij_l384, ij_l768, ij_l1000, ij_l1536, ij_l3000, ij_l1000000, ij_l1000003, ij_l1000000000, ij_neg, ij_add, ij_sub, ij_mul]
  refine lp_end (fun n j => fX8_lowest_L4 (fun v11 _ => (some v11)) N σ n (ij (lr A β j)) (ij j)) (a := 0) (b := aSh A) (by omega) (fun n j _ hj => ?_) (fun n => ?_) N (by omega)
  · have hst : lr A β (j + 1) = if sn A β j = true ∧ (lr A β j < 0 ∨ fk (ky β j) < fk (ky β (lr A β j).toNat)) then (j : Int) else lr A β j := rfl
    have hr := lr_sp A β j
    have kj := (m_key (N := N) h (s := j) (by omega))
    simp only [fX8_lowest_L4]
    rw [h.1.1, m_seen h (by omega), kj.1]
    by_cases e : sn A β j = true
    · rcases hr with ⟨r, _⟩ | ⟨k, r, r2, _⟩
      · rw [if_pos ⟨e, by omega⟩] at hst
        rw [hst, r]
        simp (disch := omega) only [ij_l0, ij_l1, ij_l2, ij_l3, ij_l4, ij_l5, ij_l6, ij_l8, ij_l12, ij_l16, ij_l19, ij_l23, ij_l24, ij_l31, ij_l32, ij_l36, ij_l47, ij_l48, ij_l56, ij_l92, ij_l93, ij_l98, ij_l108, ij_l114, ij_l116, ij_l127, ij_l128, ij_l149, ij_l250, ij_l384, ij_l768, ij_l1000, ij_l1536, ij_l3000, ij_l1000000, ij_l1000003, ij_l1000000000, ij_neg, ij_add, ij_sub, ij_mul, ij_le, ij_lt, if_neg, if_pos, ob_s, vl_s, bi_z, e, Bool.true_eq_false, if_false]
        simp
      · have kk := (m_key (N := N) h (s := k) (by omega))
        rw [r] at hst ⊢
        rw [kk.1]
        by_cases g : fk (ky β j) < fk (ky β k)
        · rw [if_pos ⟨e, Or.inr g⟩] at hst
          have g' : ¬ fk (ky β k) ≤ fk (ky β j) := by omega
          rw [hst]
          simp (disch := first | omega | exact kj.2 | exact kk.2) only [ij_l0, ij_l1, ij_l2, ij_l3, ij_l4, ij_l5, ij_l6, ij_l8, ij_l12, ij_l16, ij_l19, ij_l23, ij_l24, ij_l31, ij_l32, ij_l36, ij_l47, ij_l48, ij_l56, ij_l92, ij_l93, ij_l98, ij_l108, ij_l114, ij_l116, ij_l127, ij_l128, ij_l149, ij_l250, ij_l384, ij_l768, ij_l1000, ij_l1536, ij_l3000, ij_l1000000, ij_l1000003, ij_l1000000000, ij_neg, ij_add, ij_sub, ij_mul, ij_le, ij_lt, if_neg, if_pos, ob_s, vl_s, bi_z, e, Bool.true_eq_false, if_false, fk_g_ge, g']
          simp
        · rw [if_neg (fun q => q.2.elim (fun z => by omega) g)] at hst
          have g' : fk (ky β k) ≤ fk (ky β j) := by omega
          rw [hst]
          simp (disch := first | omega | exact kj.2 | exact kk.2) only [ij_l0, ij_l1, ij_l2, ij_l3, ij_l4, ij_l5, ij_l6, ij_l8, ij_l12, ij_l16, ij_l19, ij_l23, ij_l24, ij_l31, ij_l32, ij_l36, ij_l47, ij_l48, ij_l56, ij_l92, ij_l93, ij_l98, ij_l108, ij_l114, ij_l116, ij_l127, ij_l128, ij_l149, ij_l250, ij_l384, ij_l768, ij_l1000, ij_l1536, ij_l3000, ij_l1000000, ij_l1000003, ij_l1000000000, ij_neg, ij_add, ij_sub, ij_mul, ij_le, ij_lt, if_neg, if_pos, ob_s, vl_s, bi_z, e, Bool.true_eq_false, if_false, fk_g_ge, g', if_true]
          simp
    · have e' : sn A β j = false := by simpa using e
      rw [if_neg (fun q => e q.1)] at hst
      rw [hst]
      simp (disch := omega) only [ij_l0, ij_l1, ij_l2, ij_l3, ij_l4, ij_l5, ij_l6, ij_l8, ij_l12, ij_l16, ij_l19, ij_l23, ij_l24, ij_l31, ij_l32, ij_l36, ij_l47, ij_l48, ij_l56, ij_l92, ij_l93, ij_l98, ij_l108, ij_l114, ij_l116, ij_l127, ij_l128, ij_l149, ij_l250, ij_l384, ij_l768, ij_l1000, ij_l1536, ij_l3000, ij_l1000000, ij_l1000003, ij_l1000000000, ij_neg, ij_add, ij_sub, ij_mul, ij_le, ij_lt, if_neg, if_pos, ob_s, vl_s, bi_z, e', if_true]
      simp
  · simp only [fX8_lowest_L4]
    rw [h.1.1]
    simp (disch := omega) only [ij_l0, ij_l1, ij_l2, ij_l3, ij_l4, ij_l5, ij_l6, ij_l8, ij_l12, ij_l16, ij_l19, ij_l23, ij_l24, ij_l31, ij_l32, ij_l36, ij_l47, ij_l48, ij_l56, ij_l92, ij_l93, ij_l98, ij_l108, ij_l114, ij_l116, ij_l127, ij_l128, ij_l149, ij_l250, ij_l384, ij_l768, ij_l1000, ij_l1536, ij_l3000, ij_l1000000, ij_l1000003, ij_l1000000000, ij_neg, ij_add, ij_sub, ij_mul, ij_lt, ij_le, ij_eq, ij_nat, tn_nat, tn_12, tn_24, tn_36, tn_48, ck_in, ob_s, o2_s, vl_s, ox_l, ox_r, ck_tr, if_pos, if_neg]
theorem m_width (h : WM A β σ) {s : Nat} (hs : s < aSh A) : gI σ 140 0 s = ij (aW A s) ∧ gI σ 141 0 s = ij (aH A s) ∧ gI σ 144 0 s = ij (aFr A s) := h.1.2.2.1 s (by have := h.2.2.2.1; omega) hs
theorem mrg_cl (h : WM A β σ) {s : Nat} (hs : s < 12) : cl β s < 24 ∧ rwv β s < 16 ∧ cl β s + aW A s ≤ 24 ∧ rwv β s + aH A s ≤ 16 := by
  have hb := (h.2.2.1 (12 + s) (by omega)).2.1 (by omega) (by omega)
  rw [show 12 + s - 12 = s by omega] at hb
  unfold cl rwv
  omega
theorem m_isInside (h : WM A β σ) {s t : Nat} (hs : s < aSh A) (ht : t < aSh A) : fX8_isInside N σ (ij s) (ij t) = some (bi (ins A β s t)) := by
  have hsh := h.2.2.2.1
  have w1 := m_width h hs
  have w2 := m_width h ht
  have c1 := mrg_cl h (s := s) (by omega)
  have c2 := mrg_cl h (s := t) (by omega)
  unfold fX8_isInside ins
  rw [m_column h (by omega), m_column h (by omega), m_row h (by omega), m_row h (by omega)]
  simp (disch := omega) only [ij_l0, ij_l1, ij_l2, ij_l3, ij_l4, ij_l5, ij_l6, ij_l8, ij_l12, ij_l16, ij_l19, ij_l23, ij_l24, ij_l31, ij_l32, ij_l36, ij_l47, ij_l48, ij_l56, ij_l92, ij_l93, ij_l98, ij_l108, ij_l114, ij_l116, ij_l127, ij_l128, ij_l149, ij_l250, ij_l384, ij_l768, ij_l1000, ij_l1536, ij_l3000, ij_l1000000, ij_l1000003, ij_l1000000000, ij_neg, ij_add, ij_sub, ij_mul, ij_lt, ij_le, ij_eq, ij_nat, tn_nat, tn_12, tn_24, tn_36, tn_48, ck_in, ob_s, o2_s, vl_s, ox_l, ox_r, ck_tr, if_pos, if_neg, w1.1, w1.2.1, w2.1, w2.2.1]
  by_cases e1 : (cl β s : Int) < cl β t
  · rw [if_pos e1, decide_eq_false (by omega)]; rfl
  · rw [if_neg e1]
    by_cases e2 : (rwv β s : Int) < rwv β t
    · rw [if_pos e2, decide_eq_false (by omega)]; rfl
    · rw [if_neg e2]
      by_cases e3 : (cl β t : Int) + aW A t < cl β s + aW A s
      · rw [if_pos e3, decide_eq_false (by omega)]; rfl
      · rw [if_neg e3]
        by_cases e4 : (rwv β t : Int) + aH A t < rwv β s + aH A s
        · rw [if_pos e4, decide_eq_false (by omega)]; rfl
        · rw [if_neg e4, decide_eq_true (by omega)]; rfl
theorem m_lk (h : WM A β σ) {s : Nat} (hs : s < 12) : gI σ 157 0 (36 + s) = ij ((β (36 + s) : Int) - 1) ∧ β (36 + s) ≤ 3 := by
  have hb := (h.2.2.1 (36 + s) (by omega)).2.2.2.1 (by omega) (by omega)
  exact ⟨by rw [h.2.1 _ (by omega), mvI_lk _ (by omega) (by omega)], hb⟩
theorem m_isBarred (h : WM A β σ) {s u : Nat} (hs : s < 12) (hu : u < 3) : fX8_isBarred N σ (ij u) (ij s) = some (bi (lkb β u s)) := by
  obtain ⟨h1, h2⟩ := m_lk h hs
  unfold fX8_isBarred lkb
  simp (disch := omega) only [ij_l0, ij_l1, ij_l2, ij_l3, ij_l4, ij_l5, ij_l6, ij_l8, ij_l12, ij_l16, ij_l19, ij_l23, ij_l24, ij_l31, ij_l32, ij_l36, ij_l47, ij_l48, ij_l56, ij_l92, ij_l93, ij_l98, ij_l108, ij_l114, ij_l116, ij_l127, ij_l128, ij_l149, ij_l250, ij_l384, ij_l768, ij_l1000, ij_l1536, ij_l3000, ij_l1000000, ij_l1000003, ij_l1000000000, ij_neg, ij_add, ij_sub, ij_mul, ij_lt, ij_le, ij_eq, ij_nat, tn_nat, tn_12, tn_24, tn_36, tn_48, ck_in, ob_s, o2_s, vl_s, ox_l, ox_r, ck_tr, if_pos, if_neg, h1]
  by_cases e : β (36 + s) = 0
  · simp [e, bi_f]
  · by_cases e1 : β (36 + s) = u + 1
    · simp [e1, bi_f]
    · have e2 : ¬ ((β (36 + s) : Int) - 1 = -1) := by omega
      have e3 : ¬ ((β (36 + s) : Int) - 1 = u) := by omega
      simp [e, e1, e2, e3, bi_t]
end MV_
