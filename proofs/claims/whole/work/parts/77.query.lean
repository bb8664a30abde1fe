/-! Questions: the ones that look at one board. -/
section QY
variable {A : Ab} {N : Nat} {σ : St}
theorem code0 {c : Int} (hc : 0 ≤ c ∧ c ≤ 9) (h : ij c = ij 0) : c = 0 := by
  rw [ij_eq (by omega) (by omega) (by omega) (by omega)] at h
  exact h
theorem mkI {f : Option (Int32 × St)} {g : St → Option (Int32 × St)} {c : Int} {τ1 : St} (hI : Inv0 A) (hC : CR A τ1) (hf : f = some (ij c, τ1)) (hc : 0 ≤ c ∧ c ≤ 9) (hg : ∃ r τ, g τ1 = some (r, τ) ∧ MR A τ ∧ Un Tm τ1 τ ∧ gI τ 8 0 0 = ij c ∧ (c = 0 → gJ τ1 0 = Int32.toInt64 r)) : PairI f g := by
  obtain ⟨r, τ, g1, g2, g3, g4, g5⟩ := hg
  refine ⟨A, _, τ1, r, τ, hf, g1, ⟨hI, CR_un hC g3, g2⟩, g4, fun h => ?_⟩
  have : gJ τ 0 = gJ τ1 0 := by unfold gJ; rw [g3.2.1]
  rw [this]
  exact g5 (code0 hc h)
theorem mkJ {f : Option (Int32 × St)} {g : St → Option (Int64 × St)} {c : Int} {τ1 : St} (hI : Inv0 A) (hC : CR A τ1) (hf : f = some (ij c, τ1)) (hc : 0 ≤ c ∧ c ≤ 9) (hg : ∃ r τ, g τ1 = some (r, τ) ∧ MR A τ ∧ Un Tm τ1 τ ∧ gI τ 8 0 0 = ij c ∧ (c = 0 → gJ τ1 0 = r)) : PairJ f g := by
  obtain ⟨r, τ, g1, g2, g3, g4, g5⟩ := hg
  refine ⟨A, _, τ1, r, τ, hf, g1, ⟨hI, CR_un hC g3, g2⟩, g4, fun h => ?_⟩
  have : gJ τ 0 = gJ τ1 0 := by unfold gJ; rw [g3.2.1]
  rw [this]
  exact g5 (code0 hc h)
theorem mkB {f : Option (Int32 × St)} {g : St → Option (Int32 × St)} {c : Int} {τ1 : St} (hI : Inv0 A) (hC : CR A τ1) (hf : f = some (ij c, τ1)) (hc : 0 ≤ c ∧ c ≤ 9) (hg : ∃ b τ, g τ1 = some (bi b, τ) ∧ MR A τ ∧ Un Tm τ1 τ ∧ gI τ 8 0 0 = ij c ∧ (c = 0 → gJ τ1 0 = (if b then 1 else 0))) : PairB f g := by
  obtain ⟨r, τ, g1, g2, g3, g4, g5⟩ := hg
  refine ⟨A, _, τ1, r, τ, hf, g1, ⟨hI, CR_un hC g3, g2⟩, g4, fun h => ?_⟩
  have : gJ τ 0 = gJ τ1 0 := by unfold gJ; rw [g3.2.1]
  rw [this]
  exact g5 (code0 hc h)
theorem mkF {f : Option (Int32 × St)} {g : St → Option (UInt32 × St)} {c : Int} {τ1 : St} (hI : Inv0 A) (hC : CR A τ1) (hf : f = some (ij c, τ1)) (hc : 0 ≤ c ∧ c ≤ 9) (hg : ∃ r τ, g τ1 = some (r, τ) ∧ MR A τ ∧ Un Tm τ1 τ ∧ gI τ 8 0 0 = ij c ∧ (c = 0 → gD τ1 0 = FP.f2d r ∧ FP.Core.val64 (FP.f2d r) ≠ .nan)) : PairF f g := by
  obtain ⟨r, τ, g1, g2, g3, g4, g5⟩ := hg
  refine ⟨A, _, τ1, r, τ, hf, g1, ⟨hI, CR_un hC g3, g2⟩, g4, fun h => ?_⟩
  have : gD τ 0 = gD τ1 0 := by unfold gD; rw [g3.2.1]
  rw [this]
  exact g5 (code0 hc h)
theorem mkD {f : Option (Int32 × St)} {g : St → Option (UInt64 × St)} {c : Int} {τ1 : St} (hI : Inv0 A) (hC : CR A τ1) (hf : f = some (ij c, τ1)) (hc : 0 ≤ c ∧ c ≤ 9) (hg : ∃ r τ, g τ1 = some (r, τ) ∧ MR A τ ∧ Un Tm τ1 τ ∧ gI τ 8 0 0 = ij c ∧ (c = 0 → gD τ1 0 = r ∧ FP.Core.val64 r ≠ .nan)) : PairD f g := by
  obtain ⟨r, τ, g1, g2, g3, g4, g5⟩ := hg
  refine ⟨A, _, τ1, r, τ, hf, g1, ⟨hI, CR_un hC g3, g2⟩, g4, fun h => ?_⟩
  have : gD τ 0 = gD τ1 0 := by unfold gD; rw [g3.2.1]
  rw [this]
  exact g5 (code0 hc h)
theorem CR_J {v : Int64} (h : CR A σ) : CR A (sJ σ 0 v) := h
theorem MR_J {v : Int64} (h : MR A σ) : MR A (sJ σ 0 v) := h
theorem CR_D {v : UInt64} (h : CR A σ) : CR A (sD σ 0 v) := h
theorem MR_D {v : UInt64} (h : MR A σ) : MR A (sD σ 0 v) := h
theorem gJ_sJ (σ : St) (v : Int64) : gJ (sJ σ 0 v) 0 = v := by unfold gJ sJ vp_updL; simp
theorem gD_sD (σ : St) (v : UInt64) : gD (sD σ 0 v) 0 = v := by unfold gD sD; simp
/-- handlers -/
abbrev Hd : Type := String → St → Option (Int32 × St)
def H1 (H : Hd) : Prop := ∀ σ, H EI σ = some (1, σ)
def H2 (H : Hd) : Prop := ∀ σ, H EN σ = some (2, σ)
theorem c_view (hI : Inv0 A) (hC : CR A σ) {x y : Int} (hx : rg x) (hy : rg y) :
    fX7_needView N σ (ij x) (ij y) = if usz x then (if snz A (bv A (kn A x.toNat)) y then some (.inl x.toNat, σ) else some (.inr EN, σ)) else some (.inr EI, σ) := by
  unfold fX7_needView
  rw [c_user hx]
  cases e : usz x with
  | false => simp only [Bool.false_eq_true, if_false, ox_r]
  | true =>
    obtain ⟨u, rfl, hu⟩ := usz_nat e
    simp only [if_true, ox_l, tn_nat]
    rw [c_seen hI hC hu hy]
    cases snz A (bv A (kn A u)) y with
    | false => simp only [Bool.false_eq_true, if_false, ox_r]
    | true => simp only [if_true, ox_l]
theorem q_view (h : Inv A σ) (hN : 1000 ≤ N) (x y : Int32) {H : Hd} (k1 : H1 H) (k2 : H2 H) (F : Nat → St → Option ((Int32 ⊕ String) × St)) (G : St → Option (Int32 × St))
    (hv : ∀ u s : Nat, x = ij u → y = ij s → u < 3 → sn A (bv A (kn A u)) s = true → ∃ r, F u σ = some (.inl r, σ) ∧ ∀ τ, MB A u τ → G τ = some (r, τ)) :
    PairI (ox (ox (fX7_needView N σ x y) (fun E τ => some (.inr E, τ)) fun u1 σ2 => F u1 σ2) H fun v1 σ2 => vl (sJ σ2 0 (Int32.toInt64 v1)) fun σ6 => some (0, σ6)) (fun τ => o2 (fX8_isUnseen N τ x y) fun v2 σ1 => if v2 = 0 then G σ1 else some (0, σ1)) := by
  obtain ⟨hI, hC, hM⟩ := h
  obtain ⟨x, rfl, hx⟩ := rg_ex x
  obtain ⟨y, rfl, hy⟩ := rg_ex y
  rw [c_view hI hC hx hy]
  cases e : usz x with
  | false =>
    simp only [Bool.false_eq_true, if_false, ox_r]
    refine mkI hI hC (c := 1) (k1 σ) (by omega) ?_
    rcases m_unseen hI hM hN hx hy with ⟨_, τ, t1, t2, t3, t4⟩ | ⟨u, rfl, hu, _⟩ | ⟨u, s, rfl, hu, _⟩
    · exact ⟨_, τ, by rw [t1]; rfl, t2, t3, t4, fun q => by omega⟩
    · rw [usz_ij hu] at e; cases e
    · rw [usz_ij hu] at e; cases e
  | true =>
    obtain ⟨u, rfl, hu⟩ := usz_nat e
    cases e2 : snz A (bv A (kn A u)) y with
    | false =>
      simp only [if_true, tn_nat, e2, Bool.false_eq_true, if_false, ox_r]
      refine mkI hI hC (c := 2) (k2 σ) (by omega) ?_
      rcases m_unseen hI hM hN hx hy with ⟨q, _⟩ | ⟨u', e', hu', _, τ, t1, t2, t3, t4⟩ | ⟨u', s, e', hu', rfl, q, _⟩
      · rw [usz_ij hu] at q; cases q
      · exact ⟨_, τ, by rw [t1]; rfl, t2, t3, t4, fun q => by omega⟩
      · have : u = u' := by omega
        subst this
        rw [snz_nat, q] at e2
        cases e2
    | true =>
      obtain ⟨s, rfl, hs⟩ := snz_ex e2
      obtain ⟨r, r1, r2⟩ := hv u s rfl rfl hu hs
      simp only [if_true, tn_nat, e2, ox_l]
      rw [r1, ox_l, vl_s]
      refine mkI hI (CR_J hC) (c := 0) rfl (by omega) ?_
      rcases m_unseen (σ := sJ σ 0 (Int32.toInt64 r)) hI (MR_J hM) hN hx hy with ⟨q, _⟩ | ⟨u', e', hu', q, _⟩ | ⟨u', s', e', hu', e3, q, τ, t1, t2, t3, t4⟩
      · rw [usz_ij hu] at q; cases q
      · have : u = u' := by omega
        subst this
        rw [snz_nat] at q
        rw [hs] at q
        cases q
      · have : u = u' := by omega
        subst this
        refine ⟨r, τ, ?_, t2.1, t3, t4, fun _ => gJ_sJ _ _⟩
        rw [t1, o2_s, if_pos (by decide)]
        exact r2 τ t2
theorem q_user (h : Inv A σ) (hN : 1000 ≤ N) (x : Int32) {H : Hd} (k1 : H1 H) (F : Nat → St → Option ((Int32 ⊕ String) × St)) (G : St → Option (Int32 × St))
    (hv : ∀ u : Nat, x = ij u → u < 3 → (∃ r, F u σ = some (.inl r, σ) ∧ ∀ τ, MB A u τ → G τ = some (r, τ)) ∨ (∃ E c, F u σ = some (.inr E, σ) ∧ 0 < c ∧ c ≤ 9 ∧ (∀ σ, H E σ = some (ij c, σ)) ∧ ∀ τ, MB A u τ → ∃ r, G τ = some (r, sI τ 8 0 0 (ij c)))) :
    PairI (ox (ox (fX7_needUser N σ x) (fun E τ => some (.inr E, τ)) fun u1 σ2 => F u1 σ2) H fun v1 σ2 => vl (sJ σ2 0 (Int32.toInt64 v1)) fun σ6 => some (0, σ6)) (fun τ => o2 (fX8_isNobody N τ x) fun v2 σ1 => if v2 = 0 then G σ1 else some (0, σ1)) := by
  obtain ⟨hI, hC, hM⟩ := h
  obtain ⟨x, rfl, hx⟩ := rg_ex x
  rw [c_user hx]
  cases e : usz x with
  | false =>
    simp only [Bool.false_eq_true, if_false, ox_r]
    refine mkI hI hC (c := 1) (k1 σ) (by omega) ?_
    rcases m_nobody hI hM hN hx with ⟨_, τ, t1, t2, t3, t4⟩ | ⟨u, rfl, hu, _⟩
    · exact ⟨_, τ, by rw [t1]; rfl, t2, t3, t4, fun q => by omega⟩
    · rw [usz_ij hu] at e; cases e
  | true =>
    obtain ⟨u, rfl, hu⟩ := usz_nat e
    simp only [if_true, tn_nat, ox_l]
    rcases hv u rfl hu with ⟨r, r1, r2⟩ | ⟨E, c, r1, c1, c2, r2, r3⟩
    · rw [r1, ox_l, vl_s]
      refine mkI hI (CR_J hC) (c := 0) rfl (by omega) ?_
      rcases m_nobody (σ := sJ σ 0 (Int32.toInt64 r)) hI (MR_J hM) hN hx with ⟨q, _⟩ | ⟨u', e', hu', τ, t1, t2, t3, t4⟩
      · rw [usz_ij hu] at q; cases q
      · have : u = u' := by omega
        subst this
        refine ⟨r, τ, ?_, t2.1, t3, t4, fun _ => gJ_sJ _ _⟩
        rw [t1, o2_s, if_pos (by decide)]
        exact r2 τ t2
    · rw [r1, ox_r]
      refine mkI hI hC (r2 σ) (by omega) ?_
      rcases m_nobody hI hM hN hx with ⟨q, _⟩ | ⟨u', e', hu', τ, t1, t2, t3, t4⟩
      · rw [usz_ij hu] at q; cases q
      · have : u = u' := by omega
        subst this
        obtain ⟨r, r4⟩ := r3 τ t2
        refine ⟨r, _, ?_, MR_thr t2.1 _, t3.tr (Un_thr τ _), thr_thr _ _, fun q => by omega⟩
        rw [t1, o2_s, if_pos (by decide)]
        exact r4
theorem h12 {H : Hd} (e : H = fun E5 σ3 => (if E5 = "java/lang/IllegalArgumentException" then (some ((1 : Int32), σ3)) else (if E5 = "java/util/NoSuchElementException" then (some ((2 : Int32), σ3)) else none))) : H1 H ∧ H2 H := by
  subst e
  exact ⟨fun σ => by simp [EI], fun σ => by simp [EN]⟩
theorem h1_ {H : Hd} (e : H = fun E5 σ3 => (if E5 = "java/lang/IllegalArgumentException" then (some ((1 : Int32), σ3)) else none)) : H1 H := by
  subst e
  exact fun σ => by simp [EI]
theorem sn12 {β : Nat → Nat} (hI : Inv0 A) {s : Nat} (h : sn A β s = true) : s < 12 := Nat.lt_of_lt_of_le (sn_lt h) hI.2.1.1
theorem p_columnOf (h : Inv A σ) (hN : 1000 ≤ N) (x y : Int32) : PairI (fL_columnOf N σ x y) (fun τ => fX8_columnOf N τ x y) := by
  refine q_view h hN x y (h12 rfl).1 (h12 rfl).2 (fun u σ2 => (ob (fX6_columnAt N σ2 u y) fun v3 => (some (.inl v3, σ2)))) (fun σ1 => (ob (fX8_column N σ1 y) fun v3 => (some (v3, σ1)))) (fun u s hx hy hu hs => ?_)
  subst hy
  refine ⟨ij (cl (bv A (kn A u)) s), ?_, fun τ ht => ?_⟩
  · show ob _ _ = _
    rw [f_columnAt (CR_VW h.1 hu h.2.1) (sn12 h.1 hs), ob_s]
  · show ob _ _ = _
    rw [m_column (MB_WM h.1 ht) (sn12 h.1 hs), ob_s]
theorem p_rowOf (h : Inv A σ) (hN : 1000 ≤ N) (x y : Int32) : PairI (fL_rowOf N σ x y) (fun τ => fX8_rowOf N τ x y) := by
  refine q_view h hN x y (h12 rfl).1 (h12 rfl).2 (fun u σ2 => (ob (fX6_rowAt N σ2 u y) fun v3 => (some (.inl v3, σ2)))) (fun σ1 => (ob (fX8_row N σ1 y) fun v3 => (some (v3, σ1)))) (fun u s hx hy hu hs => ?_)
  subst hy
  refine ⟨ij (rwv (bv A (kn A u)) s), ?_, fun τ ht => ?_⟩
  · show ob _ _ = _
    rw [f_rowAt (CR_VW h.1 hu h.2.1) (sn12 h.1 hs), ob_s]
  · show ob _ _ = _
    rw [m_row (MB_WM h.1 ht) (sn12 h.1 hs), ob_s]
theorem p_rankOf (h : Inv A σ) (hN : 1000 ≤ N) (x y : Int32) : PairI (fL_rankOf N σ x y) (fun τ => fX8_rankOf N τ x y) := by
  refine q_view h hN x y (h12 rfl).1 (h12 rfl).2 (fun u σ2 => (ob (fX6_rankAt N σ2 u y) fun v3 => (some (.inl v3, σ2)))) (fun σ1 => (ob (fX8_rank N σ1 y) fun v3 => (some (v3, σ1)))) (fun u s hx hy hu hs => ?_)
  subst hy
  refine ⟨ij (rk A (bv A (kn A u)) s), ?_, fun τ ht => ?_⟩
  · show ob _ _ = _
    rw [f_rankAt (CR_VW h.1 hu h.2.1) (by omega) (sn12 h.1 hs), ob_s]
  · show ob _ _ = _
    rw [m_rank (MB_WM h.1 ht) (by omega) (sn12 h.1 hs), ob_s]
theorem p_lockedBy (h : Inv A σ) (hN : 1000 ≤ N) (x y : Int32) : PairI (fL_lockedBy N σ x y) (fun τ => fX8_lockedBy N τ x y) := by
  refine q_view h hN x y (h12 rfl).1 (h12 rfl).2 (fun u σ2 => (ob (fX6_lockerAt N σ2 u y) fun v3 => (some (.inl v3, σ2)))) (fun σ1 => (ck (inb ((36 : Int32) + y) 93) (some ((gI σ1 157 0 (Int32.toNatClampNeg ((36 : Int32) + y))), σ1)))) (fun u s hx hy hu hs => ?_)
  subst hy
  have hs2 := sn12 h.1 hs
  refine ⟨ij ((bv A (kn A u) (36 + s) : Int) - 1), ?_, fun τ ht => ?_⟩
  · show ob _ _ = _
    rw [(f_lockerAt (CR_VW h.1 hu h.2.1) hs2).1, ob_s]
  · simp (disch := omega) only [ij_l0, ij_l1, ij_l2, ij_l3, ij_l4, ij_l5, ij_l6, ij_l8, ij_l12, ij_l16, ij_l19, ij_l23, ij_l24, ij_l31, ij_l32, ij_l36, ij_l47, ij_l48, ij_l56, ij_l92, ij_l93, ij_l98, ij_l108, ij_l114, ij_l116, ij_l127, ij_l128, ij_l149, ij_l250, ij_l384, ij_l768, ij_l1000, ij_l1536, ij_l3000, ij_l1000000, ij_l1000003, ij_l1000000000, ij_neg, ij_add, ij_sub, ij_mul, ij_lt, ij_le, ij_eq, ij_nat, tn_nat, tn_12, tn_24, tn_36, tn_48, ck_in, ob_s, o2_s, vl_s, ox_l, ox_r, ck_tr, if_pos, if_neg, (m_lk (MB_WM h.1 ht) hs2).1]
theorem nn32_mul8 {a : UInt32} (h : kyB a) : nn32 (FP.fmul a 1090519040) = true := by
  refine nn32_of ((FP.Core.notNaN_iff32 _).mp (FP.Core.fmul_out (kyB_fin h) ?_))
  exact (FP.Core.fin_bits32 _).mpr (by decide)
theorem p_keyCut (h : Inv A σ) (hN : 1000 ≤ N) (x y : Int32) : PairI (fL_keyCut N σ x y) (fun τ => fX8_keyCut N τ x y) := by
  refine q_view h hN x y (h12 rfl).1 (h12 rfl).2 (fun u σ2 => (ob (fX6_keyAt N σ2 u y) fun v3 => (ck (nn32 (FP.fmul v3 (1090519040 : UInt32))) (some (.inl (FP.f2i (FP.fmul v3 (1090519040 : UInt32))), σ2))))) (fun σ1 => (ob (fX8_key N σ1 y) fun v3 => (ck (nn32 (FP.fmul v3 (1090519040 : UInt32))) (some ((FP.f2i (FP.fmul v3 (1090519040 : UInt32))), σ1))))) (fun u s hx hy hu hs => ?_)
  subst hy
  have hs2 := sn12 h.1 hs
  have hV := CR_VW h.1 hu h.2.1
  refine ⟨FP.f2i (FP.fmul (ky (bv A (kn A u)) s) (1090519040 : UInt32)), ?_, fun τ ht => ?_⟩
  · show ob _ _ = _
    rw [f_keyAt hV hs2, ob_s, nn32_mul8 (v_ky hV hs2), ck_tr]
  · show ob _ _ = _
    rw [(m_key (MB_WM h.1 ht) hs2).1, ob_s, nn32_mul8 (v_ky hV hs2), ck_tr]
theorem p_ownVotes (h : Inv A σ) (hN : 1000 ≤ N) (x y : Int32) : PairI (fL_ownVotes N σ x y) (fun τ => fX8_ownVotes N τ x y) := by
  refine q_view h hN x y (h12 rfl).1 (h12 rfl).2 (fun u σ2 => (ob (fX6_votesBy N σ2 u x y) fun v3 => (some (.inl v3, σ2)))) (fun σ1 => (ck (inb (((56 : Int32) + ((12 : Int32) * x)) + y) 93) (some ((gI σ1 157 0 (Int32.toNatClampNeg (((56 : Int32) + ((12 : Int32) * x)) + y))), σ1)))) (fun u s hx hy hu hs => ?_)
  subst hy
  subst hx
  have hs2 := sn12 h.1 hs
  have hV := CR_VW h.1 hu h.2.1
  refine ⟨ij (bv A (kn A u) (56 + 12 * u + s)), ?_, fun τ ht => ?_⟩
  · show ob _ _ = _
    rw [(f_votesBy hV hu hs2).1, ob_s]
  · have hv := (MB_WM h.1 ht).2.1 (56 + 12 * u + s) (by omega)
    rw [mvI_n _ (by omega)] at hv
    have e : ((56 : Int) + 12 * u + s).toNat = 56 + 12 * u + s := by omega
    simp (disch := omega) only [ij_l0, ij_l1, ij_l2, ij_l3, ij_l4, ij_l5, ij_l6, ij_l8, ij_l12, ij_l16, ij_l19, ij_l23, ij_l24, ij_l31, ij_l32, ij_l36, ij_l47, ij_l48, ij_l56, ij_l92, ij_l93, ij_l98, ij_l108, ij_l114, ij_l116, ij_l127, ij_l128, ij_l149, ij_l250, ij_l384, ij_l768, ij_l1000, ij_l1536, ij_l3000, ij_l1000000, ij_l1000003, ij_l1000000000, ij_neg, ij_add, ij_sub, ij_mul, ij_lt, ij_le, ij_eq, ij_nat, tn_nat, tn_12, tn_24, tn_36, tn_48, ck_in, ob_s, o2_s, vl_s, ox_l, ox_r, ck_tr, if_pos, if_neg, e, hv]
theorem p_inside (h : Inv A σ) (hN : 1000 ≤ N) (x y : Int32) : PairI (fL_inside N σ x y) (fun τ => fX8_inside N τ x y) := by
  refine q_view h hN x y (h12 rfl).1 (h12 rfl).2 (fun u σ2 => (ob (fX6_countCovered N σ2 u y) fun v3 => (some (.inl v3, σ2)))) (fun σ1 => (fX8_inside_L16 (fun v15 _ => (some (v15, σ1))) N y σ1 N (0 : Int32) (0 : Int32))) (fun u s hx hy hu hs => ?_)
  subst hy
  have hsh := h.1.2.1.1
  have hcut : ct (fun t => decide (t ≠ s) && sn A (bv A (kn A u)) t && ins A (bv A (kn A u)) t s) 12 = ct (fun t => decide (t ≠ s) && sn A (bv A (kn A u)) t && ins A (bv A (kn A u)) t s) (aSh A) := ct_cut hsh (fun k h1 _ => by
    have hf : sn A (bv A (kn A u)) k = false := by rw [← Bool.not_eq_true]; intro z; have := sn_lt z; omega
    simp [hf])
  refine ⟨ij (ct (fun t => decide (t ≠ s) && sn A (bv A (kn A u)) t && ins A (bv A (kn A u)) t s) 12), ?_, fun τ ht => ?_⟩
  · show ob _ _ = _
    rw [f_countCovered (CR_VW h.1 hu h.2.1) (by omega) (sn_lt hs), ob_s]
  · have hW := MB_WM h.1 ht
    rw [hcut]
    show fX8_inside_L16 _ _ _ _ _ _ _ = _
    refine lp_end (fun n j => fX8_inside_L16 (fun v15 _ => (some (v15, τ))) N (ij s) τ n (ij (ct (fun t => decide (t ≠ s) && sn A (bv A (kn A u)) t && ins A (bv A (kn A u)) t s) j)) (ij j)) (a := 0) (b := aSh A) (by omega) (fun n j _ hj => ?_) (fun n => ?_) N (by omega)
    · have hc := ct_le (fun t => decide (t ≠ s) && sn A (bv A (kn A u)) t && ins A (bv A (kn A u)) t s) j
      have hsl := sn_lt hs
      simp only [fX8_inside_L16]
      rw [hW.1.1, m_seen hW (by omega)]
      by_cases e1 : j = s
      · have e1' : (j : Int) = s := by omega
        simp (disch := omega) only [ij_l0, ij_l1, ij_l2, ij_l3, ij_l4, ij_l5, ij_l6, ij_l8, ij_l12, ij_l16, ij_l19, ij_l23, ij_l24, ij_l31, ij_l32, ij_l36, ij_l47, ij_l48, ij_l56, ij_l92, ij_l93, ij_l98, ij_l108, ij_l114, ij_l116, ij_l127, ij_l128, ij_l149, ij_l250, ij_l384, ij_l768, ij_l1000, ij_l1536, ij_l3000, ij_l1000000, ij_l1000003, ij_l1000000000, ij_neg, ij_add, ij_sub, ij_mul, ij_le, ij_eq, if_neg, if_pos, vl_s, e1]
        simp [ct]
      · have e1' : ¬ (j : Int) = s := by omega
        by_cases e : sn A (bv A (kn A u)) j = true
        · rw [m_isInside hW (sn_lt e) hsl]
          by_cases e2 : ins A (bv A (kn A u)) j s = true
          · simp (disch := omega) only [ij_l0, ij_l1, ij_l2, ij_l3, ij_l4, ij_l5, ij_l6, ij_l8, ij_l12, ij_l16, ij_l19, ij_l23, ij_l24, ij_l31, ij_l32, ij_l36, ij_l47, ij_l48, ij_l56, ij_l92, ij_l93, ij_l98, ij_l108, ij_l114, ij_l116, ij_l127, ij_l128, ij_l149, ij_l250, ij_l384, ij_l768, ij_l1000, ij_l1536, ij_l3000, ij_l1000000, ij_l1000003, ij_l1000000000, ij_neg, ij_add, ij_sub, ij_mul, ij_lt, ij_le, ij_eq, ij_nat, tn_nat, tn_12, tn_24, tn_36, tn_48, ck_in, ob_s, o2_s, vl_s, ox_l, ox_r, ck_tr, if_pos, if_neg, bi_z, e, e2]
            simp [ct, e, e1, e2]
          · simp (disch := omega) only [ij_l0, ij_l1, ij_l2, ij_l3, ij_l4, ij_l5, ij_l6, ij_l8, ij_l12, ij_l16, ij_l19, ij_l23, ij_l24, ij_l31, ij_l32, ij_l36, ij_l47, ij_l48, ij_l56, ij_l92, ij_l93, ij_l98, ij_l108, ij_l114, ij_l116, ij_l127, ij_l128, ij_l149, ij_l250, ij_l384, ij_l768, ij_l1000, ij_l1536, ij_l3000, ij_l1000000, ij_l1000003, ij_l1000000000, ij_neg, ij_add, ij_sub, ij_mul, ij_lt, ij_le, ij_eq, ij_nat, tn_nat, tn_12, tn_24, tn_36, tn_48, ck_in, ob_s, o2_s, vl_s, ox_l, ox_r, ck_tr, if_pos, if_neg, bi_z, e, e2]
            simp [ct, e, e1, e2]
        · simp (disch := omega) only [ij_l0, ij_l1, ij_l2, ij_l3, ij_l4, ij_l5, ij_l6, ij_l8, ij_l12, ij_l16, ij_l19, ij_l23, ij_l24, ij_l31, ij_l32, ij_l36, ij_l47, ij_l48, ij_l56, ij_l92, ij_l93, ij_l98, ij_l108, ij_l114, ij_l116, ij_l127, ij_l128, ij_l149, ij_l250, ij_l384, ij_l768, ij_l1000, ij_l1536, ij_l3000, ij_l1000000, ij_l1000003, ij_l1000000000, ij_neg, ij_add, ij_sub, ij_mul, ij_lt, ij_le, ij_eq, ij_nat, tn_nat, tn_12, tn_24, tn_36, tn_48, ck_in, ob_s, o2_s, vl_s, ox_l, ox_r, ck_tr, if_pos, if_neg, bi_z, e]
          simp [ct, e, e1]
    · simp only [fX8_inside_L16]
      rw [hW.1.1]
      simp (disch := omega) only [ij_l0, ij_l1, ij_l2, ij_l3, ij_l4, ij_l5, ij_l6, ij_l8, ij_l12, ij_l16, ij_l19, ij_l23, ij_l24, ij_l31, ij_l32, ij_l36, ij_l47, ij_l48, ij_l56, ij_l92, ij_l93, ij_l98, ij_l108, ij_l114, ij_l116, ij_l127, ij_l128, ij_l149, ij_l250, ij_l384, ij_l768, ij_l1000, ij_l1536, ij_l3000, ij_l1000000, ij_l1000003, ij_l1000000000, ij_neg, ij_add, ij_sub, ij_mul, ij_lt, ij_le, ij_eq, ij_nat, tn_nat, tn_12, tn_24, tn_36, tn_48, ck_in, ob_s, o2_s, vl_s, ox_l, ox_r, ck_tr, if_pos, if_neg]
theorem p_shapes (h : Inv A σ) (hN : 1000 ≤ N) (x : Int32) : PairI (fL_shapes N σ x) (fun τ => fX8_shapes N τ x) := by
  refine q_user h hN x (h1_ rfl) (fun u σ2 => (ob (fX6_countShapes N σ2 u) fun v3 => (some (.inl v3, σ2)))) (fun σ1 => (ob (fX8_seenMany N σ1) fun v3 => (some (v3, σ1)))) (fun u hx hu => Or.inl ?_)
  refine ⟨ij (ct (sn A (bv A (kn A u))) 12), ?_, fun τ ht => ?_⟩
  · show ob _ _ = _
    rw [f_countShapes (CR_VW h.1 hu h.2.1) (by omega), ob_s]
  · show ob _ _ = _
    rw [m_seenMany (MB_WM h.1 ht) (by omega), ob_s]
theorem p_connectors (h : Inv A σ) (hN : 1000 ≤ N) (x : Int32) : PairI (fL_connectors N σ x) (fun τ => fX8_connectors N τ x) := by
  refine q_user h hN x (h1_ rfl) (fun u σ2 => (ob (fX6_countConnectors N σ2 u) fun v3 => (some (.inl v3, σ2)))) (fun σ1 => (ob (fX8_joinedMany N σ1) fun v3 => (some (v3, σ1)))) (fun u hx hu => Or.inl ?_)
  refine ⟨ij (ct (jnd A (bv A (kn A u))) 8), ?_, fun τ ht => ?_⟩
  · show ob _ _ = _
    rw [f_countConnectors (CR_VW h.1 hu h.2.1) (by omega), ob_s]
  · show ob _ _ = _
    rw [m_joinedMany (MB_WM h.1 ht) (by omega), ob_s]
end QY
