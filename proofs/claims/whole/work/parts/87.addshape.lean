/-! Steps on both sides: addShape. -/
section S9
variable {A : Ab} {N : Nat} {σ : St} {w h fr : Nat}
theorem shA_Sh : aSh (shA A w h fr) = aSh A + 1 := rfl
theorem shA_W (s : Nat) : aW (shA A w h fr) s = if s = aSh A then w else aW A s := by simp [aW, shA]
theorem shA_H (s : Nat) : aH (shA A w h fr) s = if s = aSh A then h else aH A s := by simp [aH, shA]
theorem shA_Fr (s : Nat) : aFr (shA A w h fr) s = if s = aSh A then fr else aFr A s := by simp [aFr, shA]
theorem vokn_sh {m f v : Nat} (hw : w ≤ 8) (hh : h ≤ 8) (k : vokn A m f v) : vokn (shA A w h fr) m f v := by
  refine ⟨k.1, fun h1 h2 => ?_, k.2.2⟩
  obtain ⟨a1, a2, a3, a4⟩ := k.2.1 h1 h2
  rw [shA_W, shA_H, shA_Sh]
  by_cases e : f - 12 = aSh A
  · rw [if_pos e, if_pos e]
    have v0 : v = 0 := by omega
    subst v0
    omega
  · rw [if_neg e, if_neg e]
    exact ⟨a1, a2, a3, by omega⟩
theorem Inv0_sh (hI : Inv0 A) (hs : aSh A < 12) (hw : 1 ≤ w ∧ w ≤ 8) (hh : 1 ≤ h ∧ h ≤ 8) (hf : fr ≤ 1) : Inv0 (shA A w h fr) := by
  obtain ⟨hO, hS, hK⟩ := hI
  refine ⟨⟨hO.1, fun o ho => ?_, hO.2.2⟩, ⟨by rw [shA_Sh]; omega, hS.2.1, fun s => ?_, fun c hc => ?_⟩, hK⟩
  · obtain ⟨b1, b2, b3, b4, b5⟩ := hO.2.1 o ho
    refine ⟨b1, b2, b3, b4, fun k hk => ?_⟩
    obtain ⟨c1, c2, c3, c4⟩ := b5 k hk
    exact ⟨c1, vokn_sh hw.2 hh.2 c2, vokn_sh hw.2 hh.2 c3, c4⟩
  · have := hS.2.2.1 s
    rw [shA_W, shA_H, shA_Fr, shA_Sh]
    by_cases e : s = aSh A
    · rw [if_pos e, if_pos e, if_pos e]
      exact ⟨fun _ => ⟨hw.1, hh.1⟩, hw.2, hh.2, hf⟩
    · rw [if_neg e, if_neg e, if_neg e]
      exact ⟨fun _ => this.1 (by omega), this.2⟩
  · have := hS.2.2.2 c hc
    rw [shA_Sh]
    exact ⟨Nat.lt_succ_of_lt this.1, Nat.lt_succ_of_lt this.2.1, this.2.2⟩
theorem CR_sh (hC : CR A σ) {τ : St} (hP : PtC (shA A w h fr) τ) (hU : Un (fun c q => (c == 2 || c == 111 || c == 112 || c == 113) && q == 0) σ τ) : CR (shA A w h fr) τ := by
  obtain ⟨h1, h2, h3, h4, h5⟩ := hC
  refine ⟨hP, ?_, ?_, fun v hv => ⟨?_, ?_⟩, ?_⟩
  · rw [LgC_same (shA_same A w h fr) rfl rfl rfl]
    exact LgC_cg h2 (fun c hc => ⟨hU.I c 0 (by simp; omega), hU.F c 0 (by simp; omega)⟩)
  · exact TmC_cg (A := A) h3 (hU.I 105 0 rfl)
  · have hm : ∀ m, mxk (shA A w h fr) v m = mxk A v m := by
      intro m
      induction m with
      | zero => rfl
      | succ m ih => simp only [mxk]; rw [ih]; rfl
    have q : UsC A v τ := UsC_cg (h4 v hv).1 (hU.I 4 v (by simp)) (hU.I 123 v (by simp))
    unfold UsC at q ⊢
    rw [hm]
    exact q
  · rw [(shA_same A w h fr).bd]
    exact BdC_cg (h4 v hv).2 (hU.F 120 v (by simp)) (hU.I 121 v (by simp)) (hU.I 122 v (by simp))
  · exact RfC_cg h5 (hU.2.2 rfl)
theorem f_makeShape (hC : CR A σ) (hs : aSh A < 12) (b : Bool) : ∃ τ, fX2_makeShape N σ (ij w) (ij h) (bi b) = some (ij (aSh A), τ) ∧ CR (shA A w h (if b then 1 else 0)) τ ∧ Un Tc σ τ := by
  have h7 := hC.1.1
  unfold fX2_makeShape
  rw [h7]
  simp (disch := omega) only [ij_l0, ij_l1, ij_l2, ij_l3, ij_l4, ij_l5, ij_l6, ij_l8, ij_l12, ij_l16, ij_l19, ij_l23, ij_l24, ij_l31, ij_l32, ij_l36, ij_l47, ij_l48, ij_l56, ij_l92, ij_l93, ij_l98, ij_l108, ij_l114, ij_l116, ij_l127, ij_l128, ij_l149, ij_l250, ij_l384, ij_l768, ij_l1000, ij_l1536, ij_l3000, ij_l1000000, ij_l1000003, ij_l1000000000, ij_neg, ij_add, ij_sub, ij_mul, ij_lt, ij_le, ij_eq, ij_nat, tn_nat, tn_12, tn_24, tn_36, tn_48, ck_in, ob_s, o2_s, vl_s, ox_l, ox_r, ck_tr, if_pos, if_neg, bi_nar, h7, gI_sI_ne]
  obtain ⟨τ, hτ⟩ : ∃ τ, τ = sI (sI (sI (sI σ 111 0 (aSh A) (ij w)) 112 0 (aSh A) (ij h)) 113 0 (aSh A) (bi b)) 2 0 7 (ij ((aSh A : Int) + 1)) := ⟨_, rfl⟩
  have hU : Un (fun c q => (c == 2 || c == 111 || c == 112 || c == 113) && q == 0) σ τ := by
    rw [hτ]
    exact (((Un.sI _ _ _ rfl).tr (Un.sI _ _ _ rfl)).tr (Un.sI _ _ _ rfl)).tr (Un.sI _ _ _ rfl)
  refine ⟨τ, by rw [hτ], CR_sh hC ?_ hU, hU.mono (fun c o e => by unfold Tc at e; simp at e ⊢; omega)⟩
  obtain ⟨p1, p2, p3, p4⟩ := hC.1
  refine ⟨?_, ?_, fun s hs1 hs2 => ?_, fun c hc1 hc2 => ?_⟩
  · rw [hτ, gI_sI_eq, if_pos rfl]
    rfl
  · rw [hτ, gI_sI_eq, if_neg (by omega), gI_sI_ne (by omega), gI_sI_ne (by omega), gI_sI_ne (by omega)]
    exact p2
  · rw [shA_W, shA_H, shA_Fr, hτ]
    rw [shA_Sh] at hs2
    simp (disch := omega) only [gI_sI_ne, gI_sI_eq]
    by_cases e : s = aSh A
    · rw [if_pos e, if_pos e, if_pos e, if_pos e, if_pos e, if_pos e]
      exact ⟨rfl, rfl, by rw [bi_ij]; cases b <;> rfl⟩
    · rw [if_neg e, if_neg e, if_neg e, if_neg e, if_neg e, if_neg e]
      exact p3 s hs1 (by omega)
  · rw [hτ]
    simp (disch := omega) only [gI_sI_ne]
    exact p4 c hc1 hc2
/-- a shape of that size lies on the board -/
def fit (x y w h : Int) : Bool := decide (0 ≤ x ∧ x ≤ 24 - w ∧ 0 ≤ y ∧ y ≤ 16 - h)
theorem f_fits {x y w h : Int} (hx : rg x) (hy : rg y) (hw : 0 ≤ w ∧ w ≤ 100) (hh : 0 ≤ h ∧ h ≤ 100) : fX7_fits N σ (ij x) (ij y) (ij w) (ij h) = some (bi (fit x y w h)) := by
  obtain ⟨x1, x2⟩ := hx
  obtain ⟨y1, y2⟩ := hy
  unfold fX7_fits fit
  by_cases a1 : x < 0
  · simp (disch := omega) only [ij_l0, ij_l1, ij_l2, ij_l3, ij_l4, ij_l5, ij_l6, ij_l8, ij_l12, ij_l16, ij_l19, ij_l23, ij_l24, ij_l31, ij_l32, ij_l36, ij_l47, ij_l48, ij_l56, ij_l92, ij_l93, ij_l98, ij_l108, ij_l114, ij_l116, ij_l127, ij_l128, ij_l149, ij_l250, ij_l384, ij_l768, ij_l1000, ij_l1536, ij_l3000, ij_l1000000, ij_l1000003, ij_l1000000000, ij_neg, ij_add, ij_sub, ij_mul, ij_lt, ij_le, ij_eq, ij_nat, tn_nat, tn_12, tn_24, tn_36, tn_48, ck_in, ob_s, o2_s, vl_s, ox_l, ox_r, ck_tr, if_pos, if_neg]
    rw [decide_eq_false (by omega)]
    rfl
  · by_cases a2 : 24 - w < x
    · simp (disch := omega) only [ij_l0, ij_l1, ij_l2, ij_l3, ij_l4, ij_l5, ij_l6, ij_l8, ij_l12, ij_l16, ij_l19, ij_l23, ij_l24, ij_l31, ij_l32, ij_l36, ij_l47, ij_l48, ij_l56, ij_l92, ij_l93, ij_l98, ij_l108, ij_l114, ij_l116, ij_l127, ij_l128, ij_l149, ij_l250, ij_l384, ij_l768, ij_l1000, ij_l1536, ij_l3000, ij_l1000000, ij_l1000003, ij_l1000000000, ij_neg, ij_add, ij_sub, ij_mul, ij_lt, ij_le, ij_eq, ij_nat, tn_nat, tn_12, tn_24, tn_36, tn_48, ck_in, ob_s, o2_s, vl_s, ox_l, ox_r, ck_tr, if_pos, if_neg]
      rw [decide_eq_false (by omega)]
      rfl
    · by_cases a3 : y < 0
      · simp (disch := omega) only [ij_l0, ij_l1, ij_l2, ij_l3, ij_l4, ij_l5, ij_l6, ij_l8, ij_l12, ij_l16, ij_l19, ij_l23, ij_l24, ij_l31, ij_l32, ij_l36, ij_l47, ij_l48, ij_l56, ij_l92, ij_l93, ij_l98, ij_l108, ij_l114, ij_l116, ij_l127, ij_l128, ij_l149, ij_l250, ij_l384, ij_l768, ij_l1000, ij_l1536, ij_l3000, ij_l1000000, ij_l1000003, ij_l1000000000, ij_neg, ij_add, ij_sub, ij_mul, ij_lt, ij_le, ij_eq, ij_nat, tn_nat, tn_12, tn_24, tn_36, tn_48, ck_in, ob_s, o2_s, vl_s, ox_l, ox_r, ck_tr, if_pos, if_neg]
        rw [decide_eq_false (by omega)]
        rfl
      · by_cases a4 : 16 - h < y
        · simp (disch := omega) only [ij_l0, ij_l1, ij_l2, ij_l3, ij_l4, ij_l5, ij_l6, ij_l8, ij_l12, ij_l16, ij_l19, ij_l23, ij_l24, ij_l31, ij_l32, ij_l36, ij_l47, ij_l48, ij_l56, ij_l92, ij_l93, ij_l98, ij_l108, ij_l114, ij_l116, ij_l127, ij_l128, ij_l149, ij_l250, ij_l384, ij_l768, ij_l1000, ij_l1536, ij_l3000, ij_l1000000, ij_l1000003, ij_l1000000000, ij_neg, ij_add, ij_sub, ij_mul, ij_lt, ij_le, ij_eq, ij_nat, tn_nat, tn_12, tn_24, tn_36, tn_48, ck_in, ob_s, o2_s, vl_s, ox_l, ox_r, ck_tr, if_pos, if_neg]
          rw [decide_eq_false (by omega)]
          rfl
        · simp (disch := omega) only [ij_l0, ij_l1, ij_l2, ij_l3, ij_l4, ij_l5, ij_l6, ij_l8, ij_l12, ij_l16, ij_l19, ij_l23, ij_l24, ij_l31, ij_l32, ij_l36, ij_l47, ij_l48, ij_l56, ij_l92, ij_l93, ij_l98, ij_l108, ij_l114, ij_l116, ij_l127, ij_l128, ij_l149, ij_l250, ij_l384, ij_l768, ij_l1000, ij_l1536, ij_l3000, ij_l1000000, ij_l1000003, ij_l1000000000, ij_neg, ij_add, ij_sub, ij_mul, ij_lt, ij_le, ij_eq, ij_nat, tn_nat, tn_12, tn_24, tn_36, tn_48, ck_in, ob_s, o2_s, vl_s, ox_l, ox_r, ck_tr, if_pos, if_neg]
          rw [decide_eq_true (by omega)]
          rfl
theorem m_isOnBoard {x y w h : Int} (hx : rg x) (hy : rg y) (hw : 0 ≤ w ∧ w ≤ 100) (hh : 0 ≤ h ∧ h ≤ 100) : fX8_isOnBoard N σ (ij x) (ij y) (ij w) (ij h) = some (bi (fit x y w h)) := by
  unfold fX8_isOnBoard fit
  simp only [ij_l0, ij_l1, ij_l2, ij_l3, ij_l4, ij_l5, ij_l6, ij_l8, ij_l12, ij_l16, ij_l19, ij_l23, ij_l24, ij_l31, ij_l32, ij_l36, ij_l47, ij_l48, ij_l56, ij_l92, ij_l93, ij_l98, ij_l108, ij_l114, ij_l116, ij_l127, ij_l128, ij_l149, ij_l250, ij_l384, ij_l768, ij_l1000, ij_l1536, ij_l3000, ij_l1000000, ij_l1000003, ij_l1000000000, ij_neg, ij_add, ij_sub, ij_mul]
  rw [m_isBetween hx (by omega) (by omega), ob_s, m_isBetween hy (by omega) (by omega)]
  by_cases a1 : 0 ≤ x ∧ x ≤ 24 - w
  · rw [decide_eq_true a1, if_neg (by decide), ob_s]
    by_cases a2 : 0 ≤ y ∧ y ≤ 16 - h
    · rw [decide_eq_true a2, if_neg (by decide), decide_eq_true (by omega)]; rfl
    · rw [decide_eq_false a2, if_pos (by decide), decide_eq_false (by omega)]; rfl
  · rw [decide_eq_false a1, if_pos (by decide), decide_eq_false (by omega)]; rfl
theorem f_isSide {z : Int} (hz : rg z) : fX7_isSide N σ (ij z) = some (bi (decide (1 ≤ z ∧ z ≤ 8))) := by
  obtain ⟨z1, z2⟩ := hz
  unfold fX7_isSide
  by_cases a1 : z < 1
  · simp (disch := omega) only [ij_l0, ij_l1, ij_l2, ij_l3, ij_l4, ij_l5, ij_l6, ij_l8, ij_l12, ij_l16, ij_l19, ij_l23, ij_l24, ij_l31, ij_l32, ij_l36, ij_l47, ij_l48, ij_l56, ij_l92, ij_l93, ij_l98, ij_l108, ij_l114, ij_l116, ij_l127, ij_l128, ij_l149, ij_l250, ij_l384, ij_l768, ij_l1000, ij_l1536, ij_l3000, ij_l1000000, ij_l1000003, ij_l1000000000, ij_neg, ij_add, ij_sub, ij_mul, ij_lt, ij_le, ij_eq, ij_nat, tn_nat, tn_12, tn_24, tn_36, tn_48, ck_in, ob_s, o2_s, vl_s, ox_l, ox_r, ck_tr, if_pos, if_neg]
    rw [decide_eq_false (by omega)]
    rfl
  · by_cases a2 : 8 < z
    · simp (disch := omega) only [ij_l0, ij_l1, ij_l2, ij_l3, ij_l4, ij_l5, ij_l6, ij_l8, ij_l12, ij_l16, ij_l19, ij_l23, ij_l24, ij_l31, ij_l32, ij_l36, ij_l47, ij_l48, ij_l56, ij_l92, ij_l93, ij_l98, ij_l108, ij_l114, ij_l116, ij_l127, ij_l128, ij_l149, ij_l250, ij_l384, ij_l768, ij_l1000, ij_l1536, ij_l3000, ij_l1000000, ij_l1000003, ij_l1000000000, ij_neg, ij_add, ij_sub, ij_mul, ij_lt, ij_le, ij_eq, ij_nat, tn_nat, tn_12, tn_24, tn_36, tn_48, ck_in, ob_s, o2_s, vl_s, ox_l, ox_r, ck_tr, if_pos, if_neg]
      rw [decide_eq_false (by omega)]
      rfl
    · simp (disch := omega) only [ij_l0, ij_l1, ij_l2, ij_l3, ij_l4, ij_l5, ij_l6, ij_l8, ij_l12, ij_l16, ij_l19, ij_l23, ij_l24, ij_l31, ij_l32, ij_l36, ij_l47, ij_l48, ij_l56, ij_l92, ij_l93, ij_l98, ij_l108, ij_l114, ij_l116, ij_l127, ij_l128, ij_l149, ij_l250, ij_l384, ij_l768, ij_l1000, ij_l1536, ij_l3000, ij_l1000000, ij_l1000003, ij_l1000000000, ij_neg, ij_add, ij_sub, ij_mul, ij_lt, ij_le, ij_eq, ij_nat, tn_nat, tn_12, tn_24, tn_36, tn_48, ck_in, ob_s, o2_s, vl_s, ox_l, ox_r, ck_tr, if_pos, if_neg]
      rw [decide_eq_true (by omega)]
      rfl
theorem f_cellAt {x y : Int} (hx : 0 ≤ x ∧ x < 24) (hy : 0 ≤ y ∧ y < 16) : fX7_cellAt N σ (ij x) (ij y) = some (ij (y * 24 + x)) := by
  unfold fX7_cellAt
  simp (disch := omega) only [ij_l0, ij_l1, ij_l2, ij_l3, ij_l4, ij_l5, ij_l6, ij_l8, ij_l12, ij_l16, ij_l19, ij_l23, ij_l24, ij_l31, ij_l32, ij_l36, ij_l47, ij_l48, ij_l56, ij_l92, ij_l93, ij_l98, ij_l108, ij_l114, ij_l116, ij_l127, ij_l128, ij_l149, ij_l250, ij_l384, ij_l768, ij_l1000, ij_l1536, ij_l3000, ij_l1000000, ij_l1000003, ij_l1000000000, ij_neg, ij_add, ij_sub, ij_mul, ij_lt, ij_le, ij_eq, ij_nat, tn_nat, tn_12, tn_24, tn_36, tn_48, ck_in, ob_s, o2_s, vl_s, ox_l, ox_r, ck_tr, if_pos, if_neg]
/-- the rows of a new shape -/
noncomputable def adL (B : Ab) (u s cell : Nat) (a : UInt32) : List Rw :=
  (([] ++ [(s, 1, aN B + 1, bv B (kn B u) s, bs B (kn B u) s)]) ++ [(12 + s, cell, aN B + 1, bv B (kn B u) (12 + s), bs B (kn B u) (12 + s))]) ++ [(24 + s, a.toNat, aN B + 1, bv B (kn B u) (24 + s), bs B (kn B u) (24 + s))]
theorem adL_ok {B : Ab} (hI : Inv0 B) (hn : aN B < 250) {u : Nat} (hB : ∀ f, f < 93 → Top B (kn B u) f (bw B (kn B u) f)) {s cell : Nat} {a : UInt32} (hs : s < aSh B) (hc : cell < 384) (hw : cell % 24 + aW B s ≤ 24) (hh : cell / 24 + aH B s ≤ 16) (ha : kyB a) (hz : kz (aN B + 1) a) : rwsOK B (adL B u s cell a) := by
  have l1 := hI.2.1.1
  have hb := BOK_bv hI.1 hI.2.1 hB
  unfold adL
  refine rwsOK_app (rwsOK_app (rwsOK_app (rwsOK_nil B) (by simp) ?_ ?_ (vokn_mono (Nat.le_succ _) (hb _ (by show s < 93; omega))) ?_ (bs_le hI.1 (hB _ (by show s < 93; omega))) (fun k hk => by simp at hk)) (by simp) ?_ ?_ (vokn_mono (Nat.le_succ _) (hb _ (by show 12 + s < 93; omega))) ?_ (bs_le hI.1 (hB _ (by show 12 + s < 93; omega))) (fun k hk => ?_)) (by simp) ?_ (vok_key (by omega) ha hz) (vokn_mono (Nat.le_succ _) (hb _ (by show 24 + s < 93; omega))) ?_ (bs_le hI.1 (hB _ (by show 24 + s < 93; omega))) (fun k hk => ?_)
  · show s < 93; omega
  · exact vok_b (Or.inl (show s < 12 by omega)) (by show 1 ≤ 1; omega)
  · show aN B + 1 ≤ 250; omega
  · show 12 + s < 93; omega
  · refine ⟨fun q => by have q : 12 + s < 12 := q; omega, fun _ _ => ?_, fun q1 q2 => by have q2 : 24 ≤ 12 + s := q1; omega, fun q1 q2 => by have q2 : 36 ≤ 12 + s := q1; omega, fun q1 q2 => by have q2 : 48 ≤ 12 + s := q1; omega, fun q1 q2 => by have q2 : 56 ≤ 12 + s := q1; omega, fun q1 => by have q2 : 92 ≤ 12 + s := q1; omega⟩
    show cell < 384 ∧ cell % 24 + aW B (12 + s - 12) ≤ 24 ∧ cell / 24 + aH B (12 + s - 12) ≤ 16 ∧ _
    rw [show 12 + s - 12 = s by omega]
    exact ⟨hc, hw, hh, Or.inl hs⟩
  · show aN B + 1 ≤ 250; omega
  · have hk0 : k = 0 := by simp at hk; omega
    subst hk0
    show s ≠ 12 + s
    omega
  · show 24 + s < 93; omega
  · show aN B + 1 ≤ 250; omega
  · have hk0 : k = 0 ∨ k = 1 := by simp at hk; omega
    rcases hk0 with rfl | rfl
    · show s ≠ 24 + s
      omega
    · show 12 + s ≠ 24 + s
      omega
/-- the class's side behind the checks -/
theorem f_addTail (hI : Inv0 A) (hC : CR A σ) (hN : 1000000 ≤ N) (hn : aN A < 250) {u : Nat} (hu : u < 3) (hs : aSh A < 12) (hw : 1 ≤ w ∧ w ≤ 8) (hh : 1 ≤ h ∧ h ≤ 8) (b : Bool) {x y : Nat} (hx : x + w ≤ 24) (hy : y + h ≤ 16) {a : UInt32} (ha : kyB a) (hz : kz (aN A + 1) a) :
    ∃ τ, (o2 (fX2_makeShape N σ (ij w) (ij h) (bi b)) fun v11 σ10 => (ob (fX5_begin N σ10 u (1 : Int32)) fun σ12 => (ob (fX5_write N σ12 u ((0 : Int32) + v11) (1065353216 : UInt32)) fun σ13 => (ob (fX7_cellAt N σ13 (ij x) (ij y)) fun v14 => (ob (fX5_write N σ13 u ((12 : Int32) + v11) (FP.i2f v14)) fun σ15 => (ob (fX5_write N σ15 u ((24 : Int32) + v11) a) fun σ16 => (ob (fX5_end N σ16 u) fun σ17 => (some ((.inl v11 : Int32 ⊕ String), σ17))))))))) = some (.inl (ij (aSh A)), τ) ∧
      CR (stp (shA A w h (if b then 1 else 0)) u 1 (adL (shA A w h (if b then 1 else 0)) u (aSh A) (y * 24 + x) a)) τ ∧ Un Tc σ τ ∧ Inv0 (stp (shA A w h (if b then 1 else 0)) u 1 (adL (shA A w h (if b then 1 else 0)) u (aSh A) (y * 24 + x) a)) := by
  obtain ⟨τ0, m1, m2, m3⟩ := f_makeShape (N := N) (w := w) (h := h) hC hs b
  have hIB := Inv0_sh (fr := if b then 1 else 0) hI hs hw hh (by cases b <;> simp)
  have hW : aW (shA A w h (if b then 1 else 0)) (aSh A) = w := by rw [shA_W, if_pos rfl]
  have hH : aH (shA A w h (if b then 1 else 0)) (aSh A) = h := by rw [shA_H, if_pos rfl]
  have hSh : aSh A < aSh (shA A w h (if b then 1 else 0)) := by rw [shA_Sh]; omega
  have hnB : aN (shA A w h (if b then 1 else 0)) < 250 := hn
  have hzB : kz (aN (shA A w h (if b then 1 else 0)) + 1) a := hz
  generalize shA A w h (if b then 1 else 0) = B at *
  have hL := adL_ok hIB hnB (fun f hf => ((m2.2.2.2.1 u hu).2 f hf).1) (s := aSh A) (cell := y * 24 + x) (a := a) hSh (by omega) (by omega) (by omega) ha hzB
  obtain ⟨τ1, a1, a2, a3, _⟩ := f_begin hIB m2 hN hnB hu (st := 1) (by omega)
  obtain ⟨τ2, b1, b2, b3⟩ := f_wr hIB hN hnB hu a2 (by simp) (f := aSh A) (v := 1) (by omega)
  obtain ⟨τ3, c1, c2, c3⟩ := f_wr hIB hN hnB hu b2 (by simp) (f := 12 + aSh A) (v := y * 24 + x) (by omega)
  obtain ⟨τ4, d1, d2, d3⟩ := f_wr hIB hN hnB hu c2 (by simp) (f := 24 + aSh A) (v := a.toNat) (by omega)
  obtain ⟨τ5, e1, e2, e3⟩ := f_end hIB hN hnB hu (by omega) hL d2
  refine ⟨τ5, ?_, e2, ((((m3.tr a3).tr (Tl_Tc b3)).tr (Tl_Tc c3)).tr (Tl_Tc d3)).tr (Tu_Tc e3), Inv0_stp hIB hnB hu (by omega) hL⟩
  have q1 : cvF (aSh A) 1 = 1065353216 := by rw [cvF_n _ (by omega)]; decide +kernel
  have q2 : cvF (12 + aSh A) (y * 24 + x) = FP.i2f (ij ((y * 24 + x : Nat) : Int)) := cvF_n _ (by omega)
  rw [q1] at b1
  rw [q2] at c1
  rw [cvF_key (by omega)] at d1
  have a1' : fX5_begin N τ0 u 1 = some τ1 := a1
  rw [m1, o2_s, a1', ob_s]
  simp only [ij_l0, ij_l1, ij_l2, ij_l3, ij_l4, ij_l5, ij_l6, ij_l8, ij_l12, ij_l16, ij_l19, ij_l23, ij_l24, ij_l31, ij_l32, ij_l36, ij_l47, ij_l48, ij_l56, ij_l92, ij_l93, ij_l98, ij_l108, ij_l114, ij_l116, ij_l127, ij_l128, ij_l149, ij_l250, ij_l384, ij_l768, ij_l1000, ij_l1536, ij_l3000, ij_l1000000, ij_l1000003, ij_l1000000000, ij_neg, ij_add, ij_sub, ij_mul]
  rw [show (0 : Int) + aSh A = (aSh A : Int) by omega, b1, ob_s, f_cellAt (by omega) (by omega), ob_s, show (12 : Int) + aSh A = ((12 + aSh A : Nat) : Int) by omega, show (y : Int) * 24 + x = ((y * 24 + x : Nat) : Int) by omega, c1, ob_s, show (24 : Int) + aSh A = ((24 + aSh A : Nat) : Int) by omega, d1, ob_s, e1, ob_s]
end S9
