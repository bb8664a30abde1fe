/-! The class's map. -/
def T127 : Nat → Nat → Bool := fun c q => c == 127 && q == 0
section R4
variable {A : Ab} {N : Nat} {σ : St} {β : Nat → Nat} {o : Nat}
theorem VW_127 {τ : St} (h : VW A β o σ) (hU : Un T127 σ τ) : VW A β o τ := by
  have h120 : gF τ 120 o = gF σ 120 o := hU.F 120 o (by unfold T127; simp)
  exact ⟨PtC_cg h.1 (fun c hc => hU.I c 0 (by unfold T127; simp; omega)), fun f hf => by rw [h120]; exact h.2.1 f hf, h.2.2⟩
theorem f_blockCol (h : VW A β o σ) (hN : 1000 ≤ N) {s i : Nat} (hs : s < aSh A) (hi : i < aW A s) (K : St → Option St) : ∃ τ, fX4_block_L31 (fun _ s => K s) N o (ij s) (ij (aH A s)) (ij i) N (ij 0) σ = K τ ∧ Un T127 σ τ ∧ ∀ c, c < 384 → gI τ 127 0 c = if c % 24 = cl β s + i ∧ rwv β s ≤ c / 24 ∧ c / 24 < rwv β s + aH A s then bi false else gI σ 127 0 c := by
  have hS := h.2.2.2
  have l12 := hS.1
  have hwh := hS.2.2.1 s
  have r := rg_cl h (s := s) (by omega)
  obtain ⟨τ, e, hU, hP⟩ := lp_st (fun n j τ => fX4_block_L31 (fun _ s => K s) N o (ij s) (ij (aH A s)) (ij i) n (ij j) τ) (fun j τ => Un T127 σ τ ∧ ∀ c, c < 384 → gI τ 127 0 c = if c % 24 = cl β s + i ∧ rwv β s ≤ c / 24 ∧ c / 24 < rwv β s + j then bi false else gI σ 127 0 c) (Nat.zero_le (aH A s)) (fun n j τ _ hj hP => by
      obtain ⟨hU, hP⟩ := hP
      have hV := VW_127 h hU
      have hca := f_cellAt (N := N) (σ := τ) (x := (cl β s : Int) + i) (y := (rwv β s : Int) + j) (by omega) (by omega)
      have n0 : vp_nar .boolean (ij 0) = bi false := rfl
      have ez : (((rwv β s : Int) + j) * 24 + ((cl β s : Int) + i)).toNat = (rwv β s + j) * 24 + (cl β s + i) := by omega
      refine ⟨sI τ 127 0 ((rwv β s + j) * 24 + (cl β s + i)) (bi false), ?_, hU.tr (Un.sI _ _ _ rfl), fun c hc => ?_⟩
      · simp only [fX4_block_L31]
        rw [f_columnAt hV (by omega), ob_s, f_rowAt hV (by omega), ob_s]
        simp (disch := omega) only [ij_l0, ij_l1, ij_l2, ij_l3, ij_l4, ij_l5, ij_l6, ij_l8, ij_l12, ij_l16, ij_l19, ij_l23, ij_l24, ij_l31, ij_l32, ij_l36, ij_l47, ij_l48, ij_l56, ij_l92, ij_l93, ij_l98, ij_l108, ij_l114, ij_l116, ij_l127, ij_l128, ij_l149, ij_l250, ij_l384, ij_l768, ij_l1000, ij_l1536, ij_l3000, ij_l1000000, ij_l1000003, ij_l1000000000, ij_neg, ij_add, ij_sub, ij_mul, ij_lt, ij_le, ij_eq, ij_nat, tn_nat, tn_12, tn_24, tn_36, tn_48, ck_in, ob_s, o2_s, vl_s, ox_l, ox_r, ck_tr, if_pos, if_neg, hca, n0, ez]
        rfl
      · rw [gI_sI_eq, hP c hc]
        by_cases g : c = (rwv β s + j) * 24 + (cl β s + i)
        · rw [if_pos g, if_pos (by omega)]
        · rw [if_neg g]
          by_cases k : c % 24 = cl β s + i ∧ rwv β s ≤ c / 24 ∧ c / 24 < rwv β s + j
          · rw [if_pos k, if_pos (by omega)]
          · rw [if_neg k, if_neg (by omega)]) N σ (by omega) ⟨Un.rfl, fun c hc => by rw [if_neg (by omega)]⟩
  refine ⟨τ, ?_, hU, hP⟩
  refine Eq.trans e ?_
  have e2 : N - (aH A s - 0) = (N - aH A s - 1) + 1 := by omega
  show fX4_block_L31 _ N o _ _ _ (N - (aH A s - 0)) _ τ = _
  rw [e2]
  simp only [fX4_block_L31]
  rw [if_pos (by simp (disch := omega) only [ij_le]; omega)]
theorem f_block (h : VW A β o σ) (hN : 1000 ≤ N) {s : Nat} (hs : s < aSh A) : ∃ τ, fX4_block N σ o (ij s) = some τ ∧ Un T127 σ τ ∧ ∀ c, c < 384 → gI τ 127 0 c = if ovr A β s (c % 24 : Nat) (c / 24 : Nat) = true then bi false else gI σ 127 0 c := by
  have hS := h.2.2.2
  have l12 := hS.1
  have hwh := hS.2.2.1 s
  unfold fX4_block
  rw [f_widthAt h.1 hS hs, ob_s, f_heightAt h.1 hS hs, ob_s]
  obtain ⟨τ, e, hU, hP⟩ := lp_st (fun n i τ => fX4_block_L22 (fun _ σ16 => (some σ16)) N o (ij s) (ij (aW A s)) (ij (aH A s)) n (ij i) τ) (fun i τ => Un T127 σ τ ∧ ∀ c, c < 384 → gI τ 127 0 c = if cl β s ≤ c % 24 ∧ c % 24 < cl β s + i ∧ rwv β s ≤ c / 24 ∧ c / 24 < rwv β s + aH A s then bi false else gI σ 127 0 c) (Nat.zero_le (aW A s)) (fun n i τ _ hi hP => by
      obtain ⟨hU, hP⟩ := hP
      obtain ⟨τ', t1, t2, t3⟩ := f_blockCol (N := N) (VW_127 h hU) hN hs hi (fun σ14 => fX4_block_L22 (fun _ σ16 => (some σ16)) N o (ij s) (ij (aW A s)) (ij (aH A s)) n (ij ((i + 1 : Nat) : Int)) σ14)
      refine ⟨τ', ?_, hU.tr t2, fun c hc => ?_⟩
      · simp only [fX4_block_L22]
        simp (disch := omega) only [ij_l0, ij_l1, ij_l2, ij_l3, ij_l4, ij_l5, ij_l6, ij_l8, ij_l12, ij_l16, ij_l19, ij_l23, ij_l24, ij_l31, ij_l32, ij_l36, ij_l47, ij_l48, ij_l56, ij_l92, ij_l93, ij_l98, ij_l108, ij_l114, ij_l116, ij_l127, ij_l128, ij_l149, ij_l250, ij_l384, ij_l768, ij_l1000, ij_l1536, ij_l3000, ij_l1000000, ij_l1000003, ij_l1000000000, ij_neg, ij_add, ij_sub, ij_mul, ij_lt, ij_le, ij_eq, ij_nat, tn_nat, tn_12, tn_24, tn_36, tn_48, ck_in, ob_s, o2_s, vl_s, ox_l, ox_r, ck_tr, if_pos, if_neg]
        exact t1
      · rw [t3 c hc, hP c hc]
        by_cases g : c % 24 = cl β s + i ∧ rwv β s ≤ c / 24 ∧ c / 24 < rwv β s + aH A s
        · rw [if_pos g, if_pos (by omega)]
        · rw [if_neg g]
          by_cases k : cl β s ≤ c % 24 ∧ c % 24 < cl β s + i ∧ rwv β s ≤ c / 24 ∧ c / 24 < rwv β s + aH A s
          · rw [if_pos k, if_pos (by omega)]
          · rw [if_neg k, if_neg (by omega)]) N σ (by omega) ⟨Un.rfl, fun c hc => by rw [if_neg (by omega)]⟩
  refine ⟨τ, ?_, hU, fun c hc => ?_⟩
  · refine Eq.trans e ?_
    have e2 : N - (aW A s - 0) = (N - aW A s - 1) + 1 := by omega
    show fX4_block_L22 _ N o _ _ _ (N - (aW A s - 0)) _ τ = _
    rw [e2]
    simp only [fX4_block_L22]
    rw [if_pos (by simp (disch := omega) only [ij_le]; omega)]
  · rw [hP c hc]
    unfold ovr
    by_cases k : cl β s ≤ c % 24 ∧ c % 24 < cl β s + aW A s ∧ rwv β s ≤ c / 24 ∧ c / 24 < rwv β s + aH A s
    · rw [if_pos k, decide_eq_true (by omega), if_pos rfl]
    · rw [if_neg k, decide_eq_false (by omega), if_neg (by decide)]
theorem cov_cut (hS : ShOK A) (c : Nat) {n : Nat} (hn : aSh A ≤ n) : cov A β c n = cov A β c (aSh A) := by
  induction n with
  | zero => rw [show aSh A = 0 by omega]
  | succ n ih =>
    by_cases e : aSh A = n + 1
    · rw [e]
    · have hf : sn A β n = false := by
        rw [← Bool.not_eq_true]
        intro z
        have := sn_lt z
        omega
      simp only [cov, hf, Bool.false_and, Bool.or_false]
      exact ih (by omega)
end R4
