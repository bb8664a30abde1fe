/-! The model builds a board. -/
theorem mvI_lk {f : Nat} (v : Nat) (h1 : 36 ≤ f) (h2 : f < 48) : mvI f v = ij ((v : Int) - 1) := by
  unfold mvI isKey
  rw [if_neg (by simp; omega), if_neg (by omega), if_pos ⟨h1, h2⟩]
theorem mvI_pl {f : Nat} (v : Nat) (h1 : 12 ≤ f) (h2 : f < 24) : mvI f v = ij ((32 * (v % 24) + v / 24 : Nat) : Int) := by
  unfold mvI isKey
  rw [if_neg (by simp; omega), if_pos ⟨h1, h2⟩]
theorem mvI_ky {f : Nat} (v : Nat) (h1 : 24 ≤ f) (h2 : f < 36) : mvI f v = (UInt32.ofNat v).toInt32 := by
  unfold mvI isKey
  rw [if_pos (by simp; omega)]
theorem mvI_n {f : Nat} (v : Nat) (h : f < 12 ∨ 48 ≤ f) : mvI f v = ij v := by
  unfold mvI isKey
  rw [if_neg (by simp; omega), if_neg (by omega), if_neg (by omega)]
theorem mvI_0 {f : Nat} (h : f < 36 ∨ 48 ≤ f) : mvI f 0 = ij 0 := by
  by_cases h1 : f < 12 ∨ 48 ≤ f
  · exact mvI_n 0 h1
  · by_cases h2 : f < 24
    · rw [mvI_pl 0 (by omega) h2]; rfl
    · rw [mvI_ky 0 (by omega) (by omega)]; rfl
def Tn : Nat → Nat → Bool := fun c q => (c == 157 || c == 158 || c == 159) && q == 0
theorem PtM_cg {A : Ab} {σ τ : St} (h : PtM A σ) (e1 : gI τ 8 0 8 = gI σ 8 0 8) (e2 : gI τ 8 0 9 = gI σ 8 0 9) (e : ∀ c, 140 ≤ c → c ≤ 146 → gI τ c 0 = gI σ c 0) : PtM A τ := by
  have a0 := e 140 (by omega) (by omega)
  have a1 := e 141 (by omega) (by omega)
  have a2 := e 142 (by omega) (by omega)
  have a3 := e 143 (by omega) (by omega)
  have a4 := e 144 (by omega) (by omega)
  have a5 := e 145 (by omega) (by omega)
  have a6 := e 146 (by omega) (by omega)
  unfold PtM at h ⊢
  rw [e1, e2, a0, a1, a2, a3, a4, a5, a6]
  exact h
theorem LgM_cg {A : Ab} {σ τ : St} (h : LgM A σ) (e1 : gI τ 8 0 20 = gI σ 8 0 20) (e : ∀ c o, (147 ≤ c ∧ c ≤ 149) ∨ c = 155 ∨ (160 ≤ c ∧ c ≤ 165) → gI τ c o = gI σ c o) : LgM A τ := by
  obtain ⟨l1, l2, l3⟩ := h
  refine ⟨by rw [e1]; exact l1, fun o ho => ?_, fun u o hu ho => by rw [e 165 u (by omega)]; exact l3 u o hu ho⟩
  rw [e 147 0 (by omega), e 148 0 (by omega), e 149 0 (by omega), e 155 0 (by omega), e 160 o (by omega), e 161 o (by omega), e 162 o (by omega), e 163 o (by omega), e 164 o (by omega)]
  exact l2 o ho
theorem BdM_cg {A : Ab} {K : Nat → Bool} {σ τ : St} (h : BdM A K σ) (e : ∀ c, 157 ≤ c → c ≤ 159 → gI τ c 0 = gI σ c 0) : BdM A K τ := by
  unfold BdM at h ⊢
  rw [e 157 (by omega) (by omega), e 158 (by omega) (by omega), e 159 (by omega) (by omega)]
  exact h
section MB
variable {A : Ab} {N : Nat} {σ : St}
theorem m_isBetween {a b c : Int} (ha : -2147483648 ≤ a ∧ a < 2147483648) (hb : -2147483648 ≤ b ∧ b < 2147483648) (hc : -2147483648 ≤ c ∧ c < 2147483648) : fX8_isBetween N σ (ij a) (ij b) (ij c) = some (bi (decide (b ≤ a ∧ a ≤ c))) := by
  unfold fX8_isBetween
  simp (disch := omega) only [ij_l0, ij_l1, ij_l2, ij_l3, ij_l4, ij_l5, ij_l6, ij_l8, ij_l12, ij_l16, ij_l19, ij_l23, ij_l24, ij_l31, ij_l32, ij_l36, ij_l47, ij_l48, ij_l56, ij_l92, ij_l93, ij_l98, ij_l108, ij_l114, ij_l116, ij_l127, ij_l128, ij_l149, ij_l250, ij_l384, ij_l768, ij_l1000, ij_l1536, ij_l3000, ij_l1000000, ij_l1000003, ij_l1000000000, ij_neg, ij_add, ij_sub, ij_mul, ij_lt, ij_le, ij_eq, ij_nat, tn_nat, tn_12, tn_24, tn_36, tn_48, ck_in, ob_s, o2_s, vl_s, ox_l, ox_r, ck_tr, if_pos, if_neg]
  by_cases h1 : a < b
  · rw [if_pos h1, decide_eq_false (by omega)]; rfl
  · rw [if_neg h1]
    by_cases h2 : c < a
    · rw [if_pos h2, decide_eq_false (by omega)]; rfl
    · rw [if_neg h2, decide_eq_true (by omega)]; rfl
theorem m_isUser {a : Int} (ha : -2147483648 ≤ a ∧ a < 2147483648) : fX8_isUser N σ (ij a) = some (bi (decide (0 ≤ a ∧ a ≤ 2))) := by
  unfold fX8_isUser
  simp only [ij_l0, ij_l1, ij_l2, ij_l3, ij_l4, ij_l5, ij_l6, ij_l8, ij_l12, ij_l16, ij_l19, ij_l23, ij_l24, ij_l31, ij_l32, ij_l36, ij_l47, ij_l48, ij_l56, ij_l92, ij_l93, ij_l98, ij_l108, ij_l114, ij_l116, ij_l127, ij_l128, ij_l149, ij_l250, ij_l384, ij_l768, ij_l1000, ij_l1536, ij_l3000, ij_l1000000, ij_l1000003, ij_l1000000000, ij_neg, ij_add, ij_sub, ij_mul]
  rw [m_isBetween ha (by omega) (by omega), ob_s, bi_nar]
theorem m_isLater (hL : LgM A σ) (hO : OpsOK A) {o w : Nat} (ho : o < aN A) (hw : w ≤ aN A) : fX8_isLater N σ (ij o) (ij ((w : Int) - 1)) = some (bi (decide (w = 0) || lat A o (w - 1))) := by
  have hn := hO.1
  have a := hL.2.1 o ho
  have ao := hO.2.1 o ho
  unfold fX8_isLater
  by_cases e : w = 0
  · subst e
    simp (disch := omega) only [ij_l0, ij_l1, ij_l2, ij_l3, ij_l4, ij_l5, ij_l6, ij_l8, ij_l12, ij_l16, ij_l19, ij_l23, ij_l24, ij_l31, ij_l32, ij_l36, ij_l47, ij_l48, ij_l56, ij_l92, ij_l93, ij_l98, ij_l108, ij_l114, ij_l116, ij_l127, ij_l128, ij_l149, ij_l250, ij_l384, ij_l768, ij_l1000, ij_l1536, ij_l3000, ij_l1000000, ij_l1000003, ij_l1000000000, ij_neg, ij_add, ij_sub, ij_mul, ij_lt, ij_le, ij_eq, ij_nat, tn_nat, tn_12, tn_24, tn_36, tn_48, ck_in, ob_s, o2_s, vl_s, ox_l, ox_r, ck_tr, if_pos, if_neg]
    simp [bi_t]
  · obtain ⟨p, rfl⟩ : ∃ p, w = p + 1 := ⟨w - 1, by omega⟩
    have b := hL.2.1 p (by omega)
    have bo := hO.2.1 p (by omega)
    have ep : ((p + 1 : Nat) : Int) - 1 = p := by omega
    rw [ep]
    simp (disch := omega) only [ij_l0, ij_l1, ij_l2, ij_l3, ij_l4, ij_l5, ij_l6, ij_l8, ij_l12, ij_l16, ij_l19, ij_l23, ij_l24, ij_l31, ij_l32, ij_l36, ij_l47, ij_l48, ij_l56, ij_l92, ij_l93, ij_l98, ij_l108, ij_l114, ij_l116, ij_l127, ij_l128, ij_l149, ij_l250, ij_l384, ij_l768, ij_l1000, ij_l1536, ij_l3000, ij_l1000000, ij_l1000003, ij_l1000000000, ij_neg, ij_add, ij_sub, ij_mul, ij_lt, ij_le, ij_eq, ij_nat, tn_nat, tn_12, tn_24, tn_36, tn_48, ck_in, ob_s, o2_s, vl_s, ox_l, ox_r, ck_tr, if_pos, if_neg, a.1, a.2.1, b.1, b.2.1]
    have hd : decide (p + 1 = 0) = false := by simp
    rw [hd, Bool.false_or, show p + 1 - 1 = p from rfl]
    cases g : lat A o p with
    | true =>
      rw [lat_iff] at g
      by_cases g1 : aCk A p < aCk A o
      · rw [if_pos (by omega)]; rfl
      · rw [if_neg (by omega), if_pos (by omega), if_neg (by omega)]; rfl
    | false =>
      rw [← Bool.not_eq_true, lat_iff] at g
      rw [if_neg (by omega)]
      by_cases g1 : (aCk A o : Int) = aCk A p
      · rw [if_pos g1, if_pos (by omega)]; rfl
      · rw [if_neg g1]; rfl
theorem m_empties (hN : 1000 ≤ N) : ∃ τ, fX8_empties N σ = some τ ∧ Un Tn σ τ ∧ ∀ f, f < 93 → gI τ 157 0 f = mvI f 0 ∧ gI τ 158 0 f = ij (-1) ∧ gI τ 159 0 f = ij (-1) := by
  unfold fX8_empties
  obtain ⟨τ, e, hU, hP⟩ := lp_st (fun n j τ => fX8_empties_L2 (fun _ σ12 => (some σ12)) N n (ij j) τ)
    (fun j τ => Un Tn σ τ ∧ ∀ f, f < j → gI τ 157 0 f = mvI f 0 ∧ gI τ 158 0 f = ij (-1) ∧ gI τ 159 0 f = ij (-1)) (Nat.zero_le 93) (fun n j τ _ hj hP => by
      obtain ⟨hU, hP⟩ := hP
      have hj1 : ij (j : Int) + ij 1 = ij ((j + 1 : Nat) : Int) := by rw [ij_add]; rfl
      simp only [fX8_empties_L2]
      rw [if_neg (by simp (disch := omega) only [ij_l93, ij_le]; omega)]
      simp only [ij_l0, ij_l1, ij_l36, ij_l47, ij_neg, hj1]
      rw [m_isBetween (by omega) (by omega) (by omega), ob_s]
      have fin : ∀ v, v = mvI j 0 → ∃ τ', fX8_empties_L2 (fun _ σ12 => (some σ12)) N n (ij ((j + 1 : Nat) : Int)) (sI (sI (sI τ 157 0 j v) 158 0 j (ij (-1))) 159 0 j (ij (-1))) = fX8_empties_L2 (fun _ σ12 => (some σ12)) N n (ij ((j + 1 : Nat) : Int)) τ' ∧ Un Tn σ τ' ∧ ∀ f, f < j + 1 → gI τ' 157 0 f = mvI f 0 ∧ gI τ' 158 0 f = ij (-1) ∧ gI τ' 159 0 f = ij (-1) := by
        intro v hv
        refine ⟨_, rfl, ((hU.tr (Un.sI _ _ _ rfl)).tr (Un.sI _ _ _ rfl)).tr (Un.sI _ _ _ rfl), fun f hf => ?_⟩
        simp (disch := omega) only [gI_sI_ne, gI_sI_eq]
        by_cases e : f = j
        · simp [e, hv]
        · simp only [if_neg e]
          exact hP f (by omega)
      by_cases q : (36 : Int) ≤ j ∧ (j : Int) ≤ 47
      · rw [decide_eq_true q, if_neg (show ¬ bi true = ij 0 by rw [bi_z]; simp)]
        simp (disch := omega) only [ij_l0, ij_l1, ij_l2, ij_l3, ij_l4, ij_l5, ij_l6, ij_l8, ij_l12, ij_l16, ij_l19, ij_l23, ij_l24, ij_l31, ij_l32, ij_l36, ij_l47, ij_l48, ij_l56, ij_l92, ij_l93, ij_l98, ij_l108, ij_l114, ij_l116, ij_l127, ij_l128, ij_l149, ij_l250, ij_l384, ij_l768, ij_l1000, ij_l1536, ij_l3000, ij_l1000000, ij_l1000003, ij_l1000000000, ij_neg, ij_add, ij_sub, ij_mul, ij_lt, ij_le, ij_eq, ij_nat, tn_nat, tn_12, tn_24, tn_36, tn_48, ck_in, ob_s, o2_s, vl_s, ox_l, ox_r, ck_tr, if_pos, if_neg, hj1]
        exact fin _ (by rw [mvI_lk 0 (by omega) (by omega)]; rfl)
      · rw [decide_eq_false q, if_pos (show bi false = ij 0 from rfl)]
        simp (disch := omega) only [ij_l0, ij_l1, ij_l2, ij_l3, ij_l4, ij_l5, ij_l6, ij_l8, ij_l12, ij_l16, ij_l19, ij_l23, ij_l24, ij_l31, ij_l32, ij_l36, ij_l47, ij_l48, ij_l56, ij_l92, ij_l93, ij_l98, ij_l108, ij_l114, ij_l116, ij_l127, ij_l128, ij_l149, ij_l250, ij_l384, ij_l768, ij_l1000, ij_l1536, ij_l3000, ij_l1000000, ij_l1000003, ij_l1000000000, ij_neg, ij_add, ij_sub, ij_mul, ij_lt, ij_le, ij_eq, ij_nat, tn_nat, tn_12, tn_24, tn_36, tn_48, ck_in, ob_s, o2_s, vl_s, ox_l, ox_r, ck_tr, if_pos, if_neg, hj1]
        exact fin _ (by rw [mvI_0 (by omega)]))
    N σ (by omega) ⟨Un.rfl, fun f hf => by omega⟩
  have e0 : N - (93 - 0) = (N - 93 - 1) + 1 := by omega
  rw [e0] at e
  simp only [fX8_empties_L2] at e
  rw [if_pos (show (93 : Int32) ≤ ij ((93 : Nat) : Int) by decide)] at e
  exact ⟨τ, e, hU, hP⟩
/-- rows of one operation, written one by one -/
theorem m_rows (hL : LgM A σ) (hO : OpsOK A) (hN : 1000 ≤ N) {K : Nat → Bool} (hB : BdM A K σ) {u o : Nat} (hu : u < 3) (ho : o < aN A) (C : Int32 → St → Option St) :
    ∃ τ v, fX8_builds_L16 C N (ij u) (ij o) N (ij 0) σ = C v τ ∧ BdM A (if kn A u o = true then KU K o else K) τ ∧ Un Tn σ τ := by
  have hn := hO.1
  have ao := hO.2.1 o ho
  cases hk : kn A u o with
  | false =>
    have a := hL.2.1 o ho
    have k := hL.2.2 u o hu (by omega)
    rw [hk] at k
    have e0 : N = (N - 1) + 1 := by omega
    refine ⟨σ, ij 0, ?_, by rw [if_neg (by simp)]; exact hB, Un.rfl⟩
    rw [show fX8_builds_L16 C N (ij u) (ij o) N (ij 0) σ = fX8_builds_L16 C N (ij u) (ij o) ((N - 1) + 1) (ij 0) σ by rw [← e0]]
    simp only [fX8_builds_L16]
    simp (disch := omega) only [ij_l0, ij_l1, ij_l2, ij_l3, ij_l4, ij_l5, ij_l6, ij_l8, ij_l12, ij_l16, ij_l19, ij_l23, ij_l24, ij_l31, ij_l32, ij_l36, ij_l47, ij_l48, ij_l56, ij_l92, ij_l93, ij_l98, ij_l108, ij_l114, ij_l116, ij_l127, ij_l128, ij_l149, ij_l250, ij_l384, ij_l768, ij_l1000, ij_l1536, ij_l3000, ij_l1000000, ij_l1000003, ij_l1000000000, ij_neg, ij_add, ij_sub, ij_mul, ij_lt, ij_le, ij_eq, ij_nat, tn_nat, tn_12, tn_24, tn_36, tn_48, ck_in, ob_s, o2_s, vl_s, ox_l, ox_r, ck_tr, if_pos, if_neg, a.2.2.1, k, bi_f]
    split
    · rfl
    · simp
  | true =>
    obtain ⟨τ, e, hU, hP⟩ := lp_st (fun n j τ => fX8_builds_L16 C N (ij u) (ij o) n (ij j) τ)
      (fun j τ => Un Tn σ τ ∧ ∀ f, f < 93 → gI τ 158 0 f = ij ((nwj A o (bw A K f) f j : Int) - 1) ∧ gI τ 157 0 f = mvI f (tvl A (nwj A o (bw A K f) f j) f) ∧ gI τ 159 0 f = ij ((tsm A (nwj A o (bw A K f) f j) f : Int) - 1))
      (Nat.zero_le (aLen A o)) (fun n j τ _ hj hP => by
        obtain ⟨hU, hP⟩ := hP
        have hLτ : LgM A τ := LgM_cg hL (by rw [hU.I 8 0 rfl]) (fun c q hc => hU.I c q (by unfold Tn; simp; omega))
        have a := hLτ.2.1 o ho
        have k := hLτ.2.2 u o hu (by omega)
        rw [hk] at k
        have ar := a.2.2.2.2 j hj
        have aor := ao.2.2.2.2 j hj
        have hbw := Top_le (hB (aFd A o j) aor.1).1
        have hq := hP (aFd A o j) aor.1
        rw [nwj_at hO ho hj] at hq
        have hlt := m_isLater (N := N) hLτ hO ho hbw
        have hj1 : ij (j : Int) + ij 1 = ij ((j + 1 : Nat) : Int) := by rw [ij_add]; rfl
        simp only [fX8_builds_L16]
        simp only [ij_l0, ij_l1, hj1]
        simp (disch := omega) only [ij_lt, ij_le, ij_eq, ij_nat, tn_nat, tn_12, tn_24, tn_36, tn_48, ck_in, ob_s, o2_s, vl_s, ox_l, ox_r, ck_tr, if_neg, if_pos, a.2.2.1, k, bi_z, Bool.true_eq_false, ar.1, hq.1, hlt]
        by_cases e1 : bw A K (aFd A o j) = 0 ∨ lat A o (bw A K (aFd A o j) - 1) = true
        · have e2 : (decide (bw A K (aFd A o j) = 0) || lat A o (bw A K (aFd A o j) - 1)) = true := by simpa using e1
          rw [e2, if_neg (by simp)]
          unfold fX8_writes
          simp (disch := omega) only [ij_lt, ij_le, ij_eq, ij_nat, tn_nat, tn_12, tn_24, tn_36, tn_48, ck_in, ob_s, o2_s, vl_s, ox_l, ox_r, ck_tr, ar.1, ar.2.1, ar.2.2.2.1, gI_sI_ne]
          refine ⟨_, rfl, ((hU.tr (Un.sI _ _ _ rfl)).tr (Un.sI _ _ _ rfl)).tr (Un.sI _ _ _ rfl), fun f hf => ?_⟩
          simp (disch := omega) only [gI_sI_ne, gI_sI_eq]
          by_cases ef : f = aFd A o j
          · subst ef
            have h3 := nwj_hit (w := bw A K (aFd A o j)) hO ho hj
            rw [if_pos e1] at h3
            rw [h3]
            have h4 := rw_at hO ho hj
            have t1 : tvl A (o + 1) (aFd A o j) = aVl A o j := by
              unfold tvl
              rw [if_neg (by omega), show o + 1 - 1 = o from rfl, h4]; rfl
            have t2 : tsm A (o + 1) (aFd A o j) = aSm A o j := by
              unfold tsm
              rw [if_neg (by omega), show o + 1 - 1 = o from rfl, h4]; rfl
            have t3 : ((o + 1 : Nat) : Int) - 1 = o := by omega
            rw [t1, t2, t3]
            simp
          · rw [nwj_ne hj ef]
            simp only [if_neg ef]
            exact hP f hf
        · have e2 : (decide (bw A K (aFd A o j) = 0) || lat A o (bw A K (aFd A o j) - 1)) = false := by simpa using e1
          rw [e2, if_pos rfl]
          refine ⟨τ, rfl, hU, fun f hf => ?_⟩
          by_cases ef : f = aFd A o j
          · subst ef
            have h3 := nwj_hit (w := bw A K (aFd A o j)) hO ho hj
            rw [if_neg e1] at h3
            rw [h3]
            exact hq
          · rw [nwj_ne hj ef]
            exact hP f hf)
      N σ (by omega) ⟨Un.rfl, fun f hf => by rw [nwj_0]; exact (hB f hf).2⟩
    have e0 : N - (aLen A o - 0) = (N - aLen A o - 1) + 1 := by omega
    have hLτ : LgM A τ := LgM_cg hL (by rw [hU.I 8 0 rfl]) (fun c q hc => hU.I c q (by unfold Tn; simp; omega))
    have a := hLτ.2.1 o ho
    rw [e0] at e
    have e' : fX8_builds_L16 C N (ij u) (ij o) N (ij 0) σ = C (ij (aLen A o)) τ := by
      refine Eq.trans e ?_
      simp only [fX8_builds_L16]
      simp (disch := omega) only [ij_lt, ij_le, ij_eq, ij_nat, tn_nat, tn_12, tn_24, tn_36, tn_48, ck_in, ob_s, o2_s, vl_s, ox_l, ox_r, ck_tr, if_neg, if_pos, a.2.2.1]
    refine ⟨τ, _, e', fun f hf => ?_, hU⟩
    have hT := Top_add hO ho (hB f hf).1
    have hb := bw_eq hT
    have hq := hP f hf
    rw [nwj_len] at hq
    simp only [if_true]
    unfold bv bs
    rw [hb]
    exact ⟨hT, hq⟩
def kl (A : Ab) (u m : Nat) : Nat → Bool := fun x => kn A u x && decide (x < m)
theorem m_builds (hL : LgM A σ) (hO : OpsOK A) (hN : 1000 ≤ N) {u : Nat} (hu : u < 3) : ∃ τ, fX8_builds N σ (ij u) = some τ ∧ BdM A (kn A u) τ ∧ Un Tn σ τ := by
  have hn := hO.1
  unfold fX8_builds
  obtain ⟨τ0, e0, hU0, hP0⟩ := m_empties (N := N) (σ := σ) hN
  rw [e0, ob_s]
  have hB0 : BdM A (kl A u 0) τ0 := by
    have hk0 : kl A u 0 = fun _ => false := by funext x; unfold kl; simp
    intro f hf
    have hT : Top A (kl A u 0) f 0 := by rw [hk0]; exact Top_nil A f
    have hb := bw_eq hT
    unfold bv bs tvl tsm
    rw [hb, if_pos rfl, if_pos rfl]
    have h := hP0 f hf
    exact ⟨hT, h.2.1, h.1, h.2.2⟩
  obtain ⟨τ, e, hU, hP⟩ := lp_st (fun n j τ => fX8_builds_L6 (fun _ σ14 => (some σ14)) N (ij u) n (ij j) τ)
    (fun j τ => Un Tn σ τ ∧ BdM A (kl A u j) τ) (Nat.zero_le (aN A)) (fun n j τ _ hj hP => by
      obtain ⟨hU, hP⟩ := hP
      have hLτ : LgM A τ := LgM_cg hL (by rw [hU.I 8 0 rfl]) (fun c q hc => hU.I c q (by unfold Tn; simp; omega))
      obtain ⟨τ', v, g1, g2, g3⟩ := m_rows hLτ hO hN hP hu hj (fun _ σ12 => (vl (ij j + 1) fun v13 => (fX8_builds_L6 (fun _ σ14 => (some σ14)) N (ij u) n v13 σ12)))
      have hj1 : ij (j : Int) + ij 1 = ij ((j + 1 : Nat) : Int) := by rw [ij_add]; rfl
      simp only [fX8_builds_L6]
      rw [hLτ.1, if_neg (by simp (disch := omega) only [ij_le]; omega)]
      refine ⟨τ', ?_, hU.tr g3, ?_⟩
      · refine Eq.trans g1 ?_
        rw [vl_s, ij_l1, hj1]
      · refine BdM_K (fun x _ => ?_) g2
        unfold kl
        by_cases e : x = j
        · subst e
          cases hk : kn A u x <;> simp [KU, hk]
        · have e2 : decide (x < j + 1) = decide (x < j) := by
            by_cases z : x < j
            · rw [decide_eq_true z, decide_eq_true (by omega)]
            · rw [decide_eq_false z, decide_eq_false (by omega)]
          rw [e2]
          split
          · unfold KU; simp [e]
          · rfl)
    N τ0 (by omega) ⟨hU0, hB0⟩
  have hLτ : LgM A τ := LgM_cg hL (by rw [hU.I 8 0 rfl]) (fun c q hc => hU.I c q (by unfold Tn; simp; omega))
  have e1 : N - (aN A - 0) = (N - aN A - 1) + 1 := by omega
  rw [e1] at e
  refine ⟨τ, ?_, BdM_K (fun x hx => by unfold kl; simp [hx]) hP, hU⟩
  refine Eq.trans e ?_
  simp only [fX8_builds_L6]
  rw [hLτ.1, if_pos (by simp (disch := omega) only [ij_le]; omega)]
end MB
