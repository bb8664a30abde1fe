/-! Both sides together: what a call of the law comes to. -/
def Inv (A : Ab) (σ : St) : Prop := Inv0 A ∧ CR A σ ∧ MR A σ
def MB (A : Ab) (u : Nat) (σ : St) : Prop := MR A σ ∧ BdM A (kn A u) σ
theorem CR_un {A : Ab} {σ τ : St} (hC : CR A σ) (hU : Un Tm σ τ) : CR A τ := by
  obtain ⟨c1, c2, c3, c4, c5⟩ := hC
  have hI : ∀ c o, Tm c o = false → gI τ c o = gI σ c o := fun c o e => hU.I c o e
  refine ⟨PtC_cg c1 (fun c hc => hI c 0 (by unfold Tm; simp; omega)), LgC_cg c2 (fun c hc => ⟨hI c 0 (by unfold Tm; simp; omega), hU.F c 0 (by unfold Tm; simp; omega)⟩), TmC_cg c3 (hI 105 0 rfl), fun v hv => ⟨UsC_cg (c4 v hv).1 (hI 4 v rfl) (hI 123 v rfl), BdC_cg (c4 v hv).2 (hU.F 120 v rfl) (hI 121 v rfl) (hI 122 v rfl)⟩, RfC_cg c5 (hU.2.2 rfl)⟩
theorem MR_un {A : Ab} {σ τ : St} (hM : MR A σ) (hU : Un Tc σ τ) : MR A τ := by
  obtain ⟨m1, m2, m3⟩ := hM
  have h8 : gI τ 8 0 = gI σ 8 0 := hU.I 8 0 rfl
  refine ⟨PtM_cg m1 (by rw [h8]) (by rw [h8]) (fun c h1 h2 => hU.I c 0 (by unfold Tc; simp; omega)), LgM_cg m2 (by rw [h8]) (fun c q hc => hU.I c q (by unfold Tc; simp; omega)), by rw [h8]; exact m3⟩
theorem Un_thr (σ : St) (v : Int32) : Un Tm σ (sI σ 8 0 0 v) := Un.sI _ _ _ rfl
theorem MR_thr {A : Ab} {σ : St} (hM : MR A σ) (v : Int32) : MR A (sI σ 8 0 0 v) := by
  obtain ⟨m1, m2, m3⟩ := hM
  refine ⟨PtM_cg m1 ?_ ?_ (fun c h1 h2 => ?_), LgM_cg m2 ?_ (fun c q hc => ?_), ?_⟩
  · rw [gI_sI_eq]; rfl
  · rw [gI_sI_eq]; rfl
  · funext x; rw [gI_sI_ne (by omega)]
  · rw [gI_sI_eq]; rfl
  · funext x; rw [gI_sI_ne (by omega)]
  · rw [gI_sI_eq]; exact m3
theorem MB_thr {A : Ab} {u : Nat} {σ : St} (hM : MB A u σ) (v : Int32) : MB A u (sI σ 8 0 0 v) := ⟨MR_thr hM.1 v, BdM_cg hM.2 (fun c h1 h2 => by funext x; rw [gI_sI_ne (by omega)])⟩
theorem thr_thr (σ : St) (v : Int32) : gI (sI σ 8 0 0 v) 8 0 0 = v := by rw [gI_sI_eq]; rfl
theorem MB_WM {A : Ab} {u : Nat} {σ : St} (hI : Inv0 A) (h : MB A u σ) : WM A (bv A (kn A u)) σ :=
  ⟨h.1.1, fun f hf => (h.2 f hf).2.2.1, BOK_bv hI.1 hI.2.1 (fun f hf => (h.2 f hf).1), hI.2.1⟩
def PairI (f : Option (Int32 × St)) (g : St → Option (Int32 × St)) : Prop := ∃ A' code τ1 r τ2, f = some (code, τ1) ∧ g τ1 = some (r, τ2) ∧ Inv A' τ2 ∧ gI τ2 8 0 0 = code ∧ (code = ij 0 → gJ τ2 0 = Int32.toInt64 r)
def PairB (f : Option (Int32 × St)) (g : St → Option (Int32 × St)) : Prop := ∃ A' code τ1 b τ2, f = some (code, τ1) ∧ g τ1 = some (bi b, τ2) ∧ Inv A' τ2 ∧ gI τ2 8 0 0 = code ∧ (code = ij 0 → gJ τ2 0 = (if b then 1 else 0))
def PairJ (f : Option (Int32 × St)) (g : St → Option (Int64 × St)) : Prop := ∃ A' code τ1 r τ2, f = some (code, τ1) ∧ g τ1 = some (r, τ2) ∧ Inv A' τ2 ∧ gI τ2 8 0 0 = code ∧ (code = ij 0 → gJ τ2 0 = r)
def PairF (f : Option (Int32 × St)) (g : St → Option (UInt32 × St)) : Prop := ∃ A' code τ1 r τ2, f = some (code, τ1) ∧ g τ1 = some (r, τ2) ∧ Inv A' τ2 ∧ gI τ2 8 0 0 = code ∧ (code = ij 0 → gD τ2 0 = FP.f2d r ∧ FP.Core.val64 (FP.f2d r) ≠ .nan)
def PairD (f : Option (Int32 × St)) (g : St → Option (UInt64 × St)) : Prop := ∃ A' code τ1 r τ2, f = some (code, τ1) ∧ g τ1 = some (r, τ2) ∧ Inv A' τ2 ∧ gI τ2 8 0 0 = code ∧ (code = ij 0 → gD τ2 0 = r ∧ FP.Core.val64 r ≠ .nan)
theorem lg_self (x : Int64) : lg_cmp x x = 0 := by
  unfold lg_cmp
  rw [if_neg (by rw [gt_iff_lt, Int64.lt_iff_toInt_lt]; omega), if_pos rfl]
def Nxt (x : Option (Bool × St)) : Prop := ∃ A' τ, x = some (true, τ) ∧ Inv A' τ
theorem fin_I {N : Nat} {f : Option (Int32 × St)} {g : St → Option (Int32 × St)} (h : PairI f g) :
    Nxt (o2 f fun v2 σ1 => o2 (g σ1) fun v4 σ3 => ob (fX8_thrown N σ3) fun v5 => if v5 = v2 then (if v2 = 0 then (if lg_cmp (gJ σ3 0) (Int32.toInt64 v4) = 0 then some (true, σ3) else some (false, σ3)) else some (true, σ3)) else some (false, σ3)) := by
  obtain ⟨A', code, τ1, r, τ2, h1, h2, h3, h4, h5⟩ := h
  refine ⟨A', τ2, ?_, h3⟩
  rw [h1, o2_s, h2, o2_s]
  unfold fX8_thrown
  rw [ob_s, if_pos h4]
  by_cases e : code = 0
  · rw [if_pos e, h5 e, lg_self, if_pos rfl]
  · rw [if_neg e]
theorem fin_J {N : Nat} {f : Option (Int32 × St)} {g : St → Option (Int64 × St)} (h : PairJ f g) :
    Nxt (o2 f fun v2 σ1 => o2 (g σ1) fun v4 σ3 => ob (fX8_thrown N σ3) fun v5 => if v5 = v2 then (if v2 = 0 then (if lg_cmp (gJ σ3 0) v4 = 0 then some (true, σ3) else some (false, σ3)) else some (true, σ3)) else some (false, σ3)) := by
  obtain ⟨A', code, τ1, r, τ2, h1, h2, h3, h4, h5⟩ := h
  refine ⟨A', τ2, ?_, h3⟩
  rw [h1, o2_s, h2, o2_s]
  unfold fX8_thrown
  rw [ob_s, if_pos h4]
  by_cases e : code = 0
  · rw [if_pos e, h5 e, lg_self, if_pos rfl]
  · rw [if_neg e]
theorem fin_B {N : Nat} {f : Option (Int32 × St)} {g : St → Option (Int32 × St)} (h : PairB f g) :
    Nxt (o2 f fun v2 σ1 => o2 (g σ1) fun v4 σ3 => ob (fX8_thrown N σ3) fun v5 => if v5 = v2 then (if v2 = 0 then (if v4 = 0 then (if lg_cmp (gJ σ3 0) (0 : Int64) = 0 then some (true, σ3) else some (false, σ3)) else (if lg_cmp (gJ σ3 0) (1 : Int64) = 0 then some (true, σ3) else some (false, σ3))) else some (true, σ3)) else some (false, σ3)) := by
  obtain ⟨A', code, τ1, b, τ2, h1, h2, h3, h4, h5⟩ := h
  refine ⟨A', τ2, ?_, h3⟩
  rw [h1, o2_s, h2, o2_s]
  unfold fX8_thrown
  rw [ob_s, if_pos h4]
  by_cases e : code = 0
  · rw [if_pos e, h5 e]
    cases b with
    | true => rw [if_neg (by decide)]; show (if lg_cmp 1 1 = 0 then _ else _) = _; rw [lg_self, if_pos rfl]
    | false => rw [if_pos (by decide)]; show (if lg_cmp 0 0 = 0 then _ else _) = _; rw [lg_self, if_pos rfl]
  · rw [if_neg e]
theorem dc_self {x : UInt64} (h : FP.Core.val64 x ≠ .nan) : Op.cmpValue (FP.dcmp x x) CmpOp.l = 0 := by
  have e : FP.dcmp x x = some .eq := FP.Core.dcmp_self h
  rw [e]
  rfl
theorem fin_F {N : Nat} {f : Option (Int32 × St)} {g : St → Option (UInt32 × St)} (h : PairF f g) :
    Nxt (o2 f fun v2 σ1 => o2 (g σ1) fun v4 σ3 => ob (fX8_thrown N σ3) fun v5 => if v5 = v2 then (if v2 = 0 then (ck (nn64 (FP.f2d v4)) (if (Op.cmpValue (FP.dcmp (gD σ3 0) (FP.f2d v4)) CmpOp.l) = 0 then (some (true, σ3)) else (if (Op.cmpValue (FP.dcmp (gD σ3 0) (gD σ3 0)) CmpOp.l) = 0 then (some (false, σ3)) else (if (Op.cmpValue (FP.fcmp v4 v4) CmpOp.l) = 0 then (some (false, σ3)) else (some (true, σ3)))))) else some (true, σ3)) else some (false, σ3)) := by
  obtain ⟨A', code, τ1, r, τ2, h1, h2, h3, h4, h5⟩ := h
  refine ⟨A', τ2, ?_, h3⟩
  rw [h1, o2_s, h2, o2_s]
  unfold fX8_thrown
  rw [ob_s, if_pos h4]
  by_cases e : code = 0
  · obtain ⟨a, b⟩ := h5 e
    rw [if_pos e, nn64_of b, ck_tr, a, if_pos (dc_self b)]
  · rw [if_neg e]
theorem fin_D {N : Nat} {f : Option (Int32 × St)} {g : St → Option (UInt64 × St)} (h : PairD f g) (Z : UInt64 → St → Option (Bool × St)) :
    Nxt (o2 f fun v2 σ1 => o2 (g σ1) fun v4 σ3 => ob (fX8_thrown N σ3) fun v5 => if v5 = v2 then (if v2 = 0 then (if (Op.cmpValue (FP.dcmp (gD σ3 0) v4) CmpOp.l) = 0 then (some (true, σ3)) else Z v4 σ3) else some (true, σ3)) else some (false, σ3)) := by
  obtain ⟨A', code, τ1, r, τ2, h1, h2, h3, h4, h5⟩ := h
  refine ⟨A', τ2, ?_, h3⟩
  rw [h1, o2_s, h2, o2_s]
  unfold fX8_thrown
  rw [ob_s, if_pos h4]
  by_cases e : code = 0
  · obtain ⟨a, b⟩ := h5 e
    rw [if_pos e, a, if_pos (dc_self b)]
  · rw [if_neg e]
/-! The class asks for users, shapes, room. -/
abbrev EI : String := "java/lang/IllegalArgumentException"
abbrev EN : String := "java/util/NoSuchElementException"
abbrev EU : String := "java/lang/UnsupportedOperationException"
abbrev ES : String := "java/lang/IllegalStateException"
def usz (z : Int) : Bool := decide (0 ≤ z ∧ z ≤ 2)
def rg (z : Int) : Prop := -2147483648 ≤ z ∧ z < 2147483648
theorem rg_ex (x : Int32) : ∃ z : Int, x = ij z ∧ rg z := ⟨x.toInt, (ij_eta x).symm, x.le_toInt, x.toInt_lt⟩
section CN_
variable {A : Ab} {N : Nat} {σ : St}
theorem c_user {z : Int} (hz : rg z) : fX7_needUser N σ (ij z) = if usz z then some (.inl z.toNat, σ) else some (.inr EI, σ) := by
  unfold rg at hz
  unfold fX7_needUser usz
  by_cases h : 0 ≤ z ∧ z ≤ 2
  · rw [decide_eq_true h]
    simp (disch := omega) only [ij_l0, ij_l1, ij_l2, ij_l3, ij_l4, ij_l5, ij_l6, ij_l8, ij_l12, ij_l16, ij_l19, ij_l23, ij_l24, ij_l31, ij_l32, ij_l36, ij_l47, ij_l48, ij_l56, ij_l92, ij_l93, ij_l98, ij_l108, ij_l114, ij_l116, ij_l127, ij_l128, ij_l149, ij_l250, ij_l384, ij_l768, ij_l1000, ij_l1536, ij_l3000, ij_l1000000, ij_l1000003, ij_l1000000000, ij_neg, ij_add, ij_sub, ij_mul, ij_lt, ij_le, ij_eq, ij_nat, tn_nat, tn_12, tn_24, tn_36, tn_48, ck_in, ob_s, o2_s, vl_s, ox_l, ox_r, ck_tr, if_pos, if_neg]
    simp
  · rw [decide_eq_false h]
    by_cases g : z < 0
    · simp (disch := omega) only [ij_l0, ij_l1, ij_l2, ij_l3, ij_l4, ij_l5, ij_l6, ij_l8, ij_l12, ij_l16, ij_l19, ij_l23, ij_l24, ij_l31, ij_l32, ij_l36, ij_l47, ij_l48, ij_l56, ij_l92, ij_l93, ij_l98, ij_l108, ij_l114, ij_l116, ij_l127, ij_l128, ij_l149, ij_l250, ij_l384, ij_l768, ij_l1000, ij_l1536, ij_l3000, ij_l1000000, ij_l1000003, ij_l1000000000, ij_neg, ij_add, ij_sub, ij_mul, ij_lt, ij_le, ij_eq, ij_nat, tn_nat, tn_12, tn_24, tn_36, tn_48, ck_in, ob_s, o2_s, vl_s, ox_l, ox_r, ck_tr, if_pos, if_neg]
      simp
    · simp (disch := omega) only [ij_l0, ij_l1, ij_l2, ij_l3, ij_l4, ij_l5, ij_l6, ij_l8, ij_l12, ij_l16, ij_l19, ij_l23, ij_l24, ij_l31, ij_l32, ij_l36, ij_l47, ij_l48, ij_l56, ij_l92, ij_l93, ij_l98, ij_l108, ij_l114, ij_l116, ij_l127, ij_l128, ij_l149, ij_l250, ij_l384, ij_l768, ij_l1000, ij_l1536, ij_l3000, ij_l1000000, ij_l1000003, ij_l1000000000, ij_neg, ij_add, ij_sub, ij_mul, ij_lt, ij_le, ij_eq, ij_nat, tn_nat, tn_12, tn_24, tn_36, tn_48, ck_in, ob_s, o2_s, vl_s, ox_l, ox_r, ck_tr, if_pos, if_neg]
      simp
theorem usz_nat {z : Int} (h : usz z = true) : ∃ u : Nat, z = u ∧ u < 3 := by
  unfold usz at h
  rw [decide_eq_true_eq] at h
  exact ⟨z.toNat, by omega, by omega⟩
theorem usz_ij {u : Nat} (h : u < 3) : usz (u : Int) = true := by
  unfold usz
  exact decide_eq_true (by omega)
theorem c_seen (hI : Inv0 A) (hC : CR A σ) {u : Nat} (hu : u < 3) {z : Int} (hz : rg z) : fX7_needSeen N σ u (ij z) = if snz A (bv A (kn A u)) z then some (.inl (), σ) else some (.inr EN, σ) := by
  unfold fX7_needSeen
  rw [f_isSeen (CR_VW hI hu hC) hz.1 hz.2, ob_s]
  cases snz A (bv A (kn A u)) z <;> simp [bi]
theorem snz_ex {β : Nat → Nat} {z : Int} (h : snz A β z = true) : ∃ s : Nat, z = s ∧ sn A β s = true := by
  unfold snz at h
  rw [Bool.and_eq_true, decide_eq_true_eq] at h
  exact ⟨z.toNat, by omega, h.2⟩
theorem c_change (hI : Inv0 A) (hC : CR A σ) {u : Nat} (hu : u < 3) {z : Int} (hz : rg z) : fX7_needChangeable N σ u (ij z) = if snz A (bv A (kn A u)) z then (if lkb (bv A (kn A u)) u z.toNat then some (.inr EU, σ) else some (.inl (), σ)) else some (.inr EN, σ) := by
  unfold fX7_needChangeable
  rw [c_seen hI hC hu hz]
  cases h : snz A (bv A (kn A u)) z with
  | false => simp only [Bool.false_eq_true, if_false, ox_r]
  | true =>
    obtain ⟨s, rfl, hs⟩ := snz_ex h
    have l := Nat.lt_of_lt_of_le (sn_lt hs) hI.2.1.1
    have e1 : nI u = ij u := ij_ofn u
    simp only [if_true, ox_l]
    rw [e1, f_isLockedByOther (CR_VW hI hu hC) l hu, ob_s, tn_nat]
    cases lkb (bv A (kn A u)) u s <;> simp [bi]
theorem c_room (hC : CR A σ) (hn : aN A ≤ 250) : fX7_needRoom N σ = if aN A = 250 then some (.inr ES, σ) else some (.inl (), σ) := by
  unfold fX7_needRoom fX1_isFull
  rw [hC.2.1.1]
  simp (disch := omega) only [ij_l0, ij_l1, ij_l2, ij_l3, ij_l4, ij_l5, ij_l6, ij_l8, ij_l12, ij_l16, ij_l19, ij_l23, ij_l24, ij_l31, ij_l32, ij_l36, ij_l47, ij_l48, ij_l56, ij_l92, ij_l93, ij_l98, ij_l108, ij_l114, ij_l116, ij_l127, ij_l128, ij_l149, ij_l250, ij_l384, ij_l768, ij_l1000, ij_l1536, ij_l3000, ij_l1000000, ij_l1000003, ij_l1000000000, ij_neg, ij_add, ij_sub, ij_mul, ij_lt, ij_le, ij_eq, ij_nat, tn_nat, tn_12, tn_24, tn_36, tn_48, ck_in, ob_s, o2_s, vl_s, ox_l, ox_r, ck_tr, if_pos, if_neg]
  by_cases h : aN A = 250
  · rw [if_neg (by omega), if_pos h, ob_s, if_neg (by decide)]
  · rw [if_pos (by omega), if_neg h, ob_s, if_pos rfl]
end CN_
/-! The model asks. -/
section MN_
variable {A : Ab} {N : Nat} {σ : St}
theorem m_build (hI : Inv0 A) (hM : MR A σ) (hN : 1000 ≤ N) {u : Nat} (hu : u < 3) : ∃ τ, fX8_builds N σ (ij u) = some τ ∧ MB A u τ ∧ Un Tm σ τ ∧ gI τ 8 0 0 = gI σ 8 0 0 := by
  obtain ⟨m1, m2, m3⟩ := hM
  obtain ⟨τ, t1, t2, t3⟩ := m_builds m2 hI.1 hN hu
  have h8 : gI τ 8 0 = gI σ 8 0 := t3.I 8 0 rfl
  refine ⟨τ, t1, ⟨⟨PtM_cg m1 (by rw [h8]) (by rw [h8]) (fun c h1 h2 => t3.I c 0 (by unfold Tn; simp; omega)), LgM_cg m2 (by rw [h8]) (fun c q hc => t3.I c q (by unfold Tn; simp; omega)), by rw [h8]; exact m3⟩, t2⟩, t3.mono (fun c o h => by unfold Tm at h; unfold Tn; simp at h ⊢; omega), by rw [h8]⟩
theorem m_nobody (hI : Inv0 A) (hM : MR A σ) (hN : 1000 ≤ N) {z : Int} (hz : rg z) :
    (usz z = false ∧ ∃ τ, fX8_isNobody N σ (ij z) = some (ij 1, τ) ∧ MR A τ ∧ Un Tm σ τ ∧ gI τ 8 0 0 = ij 1) ∨ (∃ u : Nat, z = u ∧ u < 3 ∧ ∃ τ, fX8_isNobody N σ (ij z) = some (ij 0, τ) ∧ MB A u τ ∧ Un Tm σ τ ∧ gI τ 8 0 0 = ij 0) := by
  unfold fX8_isNobody
  rw [m_isUser hz, ob_s]
  cases h : usz z with
  | false =>
    left
    have h' : decide (0 ≤ z ∧ z ≤ 2) = false := h
    refine ⟨rfl, _, ?_, MR_thr hM (ij 1), Un_thr σ (ij 1), thr_thr σ (ij 1)⟩
    rw [h', if_pos (by decide), vl_s]
    rw [thr_thr σ 1]
    rw [if_neg (by decide), if_neg (by decide)]
    rfl
  | true =>
    right
    have h' : decide (0 ≤ z ∧ z ≤ 2) = true := h
    obtain ⟨u, rfl, hu⟩ := usz_nat h
    obtain ⟨τ, t1, t2, t3, t4⟩ := m_build hI (MR_thr hM (ij 0)) hN hu
    refine ⟨u, rfl, hu, τ, ?_, t2, (Un_thr σ (ij 0)).tr t3, t4.trans (thr_thr σ (ij 0))⟩
    rw [h', if_neg (by decide), vl_s, thr_thr σ 0, if_pos rfl]
    have t1' : fX8_builds N (sI σ 8 0 0 0) (ij u) = some τ := t1
    have t4' : gI τ 8 0 0 = 0 := t4.trans (thr_thr σ (ij 0))
    rw [t1', ob_s, t4', if_pos (by decide)]
    rfl
theorem m_unseen (hI : Inv0 A) (hM : MR A σ) (hN : 1000 ≤ N) {z y : Int} (hz : rg z) (hy : rg y) :
    (usz z = false ∧ ∃ τ, fX8_isUnseen N σ (ij z) (ij y) = some (ij 1, τ) ∧ MR A τ ∧ Un Tm σ τ ∧ gI τ 8 0 0 = ij 1) ∨
    (∃ u : Nat, z = u ∧ u < 3 ∧ snz A (bv A (kn A u)) y = false ∧ ∃ τ, fX8_isUnseen N σ (ij z) (ij y) = some (ij 1, τ) ∧ MR A τ ∧ Un Tm σ τ ∧ gI τ 8 0 0 = ij 2) ∨
    (∃ u s : Nat, z = u ∧ u < 3 ∧ y = s ∧ sn A (bv A (kn A u)) s = true ∧ ∃ τ, fX8_isUnseen N σ (ij z) (ij y) = some (ij 0, τ) ∧ MB A u τ ∧ Un Tm σ τ ∧ gI τ 8 0 0 = ij 0) := by
  unfold fX8_isUnseen
  rcases m_nobody hI hM hN hz with ⟨h, τ, t1, t2, t3, t4⟩ | ⟨u, rfl, hu, τ, t1, t2, t3, t4⟩
  · refine Or.inl ⟨h, τ, ?_, t2, t3, t4⟩
    rw [t1, o2_s, t4, if_neg (by decide), if_neg (by decide)]
    rfl
  · have hs := m_isSeen (N := N) (MB_WM hI t2) hy.1 hy.2
    cases e : snz A (bv A (kn A u)) y with
    | false =>
      refine Or.inr (Or.inl ⟨u, rfl, hu, e, _, ?_, MR_thr t2.1 (ij 2), t3.tr (Un_thr τ (ij 2)), thr_thr τ (ij 2)⟩)
      rw [t1, o2_s, if_pos (by decide), hs, e, ob_s, if_pos (by decide), vl_s, thr_thr τ 2, if_neg (by decide)]
      rfl
    | true =>
      obtain ⟨s, rfl, hs2⟩ := snz_ex e
      refine Or.inr (Or.inr ⟨u, s, rfl, hu, rfl, hs2, τ, ?_, t2, t3, t4⟩)
      rw [t1, o2_s, if_pos (by decide), hs, e, ob_s, if_neg (by decide), t4, if_pos (by decide)]
      rfl
theorem m_bar (hI : Inv0 A) (hM : MR A σ) (hN : 1000 ≤ N) {u : Nat} (hu : u < 3) {y : Int} (hy : rg y) :
    ∃ τ, fX8_bar N σ (ij u) (ij y) = some (ij (if snz A (bv A (kn A u)) y then (if lkb (bv A (kn A u)) u y.toNat then 3 else if aN A = 250 then 4 else 0) else 2), τ) ∧ MB A u τ ∧ Un Tm σ τ := by
  unfold fX8_bar
  obtain ⟨τ, t1, t2, t3, t4⟩ := m_build hI hM hN hu
  have hn := hI.1.1
  refine ⟨τ, ?_, t2, t3⟩
  rw [t1, ob_s, m_isSeen (MB_WM hI t2) hy.1 hy.2, ob_s]
  cases e : snz A (bv A (kn A u)) y with
  | false => rw [if_pos (by decide)]; rfl
  | true =>
    obtain ⟨s, rfl, hs⟩ := snz_ex e
    have l := Nat.lt_of_lt_of_le (sn_lt hs) hI.2.1.1
    rw [if_neg (by decide), m_isBarred (MB_WM hI t2) l hu, ob_s, tn_nat]
    cases e2 : lkb (bv A (kn A u)) u s with
    | true => rw [if_neg (by decide)]; rfl
    | false =>
      rw [if_pos (by decide), t2.1.2.1.1]
      by_cases q : aN A = 250
      · simp (disch := omega) only [ij_l250, ij_eq]
        rw [if_pos (by omega)]
        simp [q]
        rfl
      · simp (disch := omega) only [ij_l250, ij_eq]
        rw [if_neg (by omega)]
        simp [q]
        rfl
end MN_
