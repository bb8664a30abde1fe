/-! Steps on both sides: raise, lower, remove, lock. -/
theorem rws1 {A : Ab} (hI : Inv0 A) (hn : aN A < 250) {K : Nat → Bool} (hB : ∀ f, f < 93 → Top A K f (bw A K f)) {f v : Nat} (hf : f < 93) (hv : vokn A (aN A + 1) f v) : rwsOK A [(f, v, aN A + 1, bv A K f, bs A K f)] := by
  refine ⟨by simp, fun k hk => ?_⟩
  have hk0 : k = 0 := by simp at hk; omega
  subst hk0
  refine ⟨hf, hv, vokn_mono (Nat.le_succ _) (BOK_bv hI.1 hI.2.1 hB f hf), ?_, bs_le hI.1 (hB f hf), fun j hj => by omega⟩
  show aN A + 1 ≤ 250
  omega
/-- the state behind a step with one row -/
noncomputable def st1 (A : Ab) (u f v : Nat) : Ab := stp A u 1 [(f, v, aN A + 1, bv A (kn A u) f, bs A (kn A u) f)]
section S2
variable {A : Ab} {N : Nat} {σ : St}
theorem PL_nil {u : Nat} (hM : MR A σ) : PL A u [] σ := ⟨hM.2.2, fun k hk => by simp at hk⟩
theorem m_one (hI : Inv0 A) (hn : aN A < 250) (hN : 1000 ≤ N) {u : Nat} (hu : u < 3) (hB : MB A u σ) {f v : Nat} (hf : f < 93) (hv : vokn A (aN A + 1) f v) {x : Int32} (hx : x = mvI f v) (C : St → Option (Int32 × St)) :
    ∃ τ, ob (fX8_plans N σ (ij f) x) (fun σ3 => ob (fX8_makes N σ3 (ij u) (ij 1)) C) = C τ ∧ MB (st1 A u f v) u τ ∧ Un Tm σ τ ∧ gI τ 8 0 0 = gI σ 8 0 0 := by
  obtain ⟨τ, t1, t2, t3, t4⟩ := m_plans (N := N) (PL_nil (u := u) hB.1) hB.1.2.1.1 (by simp) hf hx
  have hR := rws1 hI hn (fun g hg => (hB.2 g hg).1) hf hv
  have h8 : ∀ j, j ≠ 27 → gI τ 8 0 j = gI σ 8 0 j := t4
  have hM' : PtM A τ := PtM_cg hB.1.1 (h8 8 (by omega)) (h8 9 (by omega)) (fun c h1 h2 => t3.I c 0 (by unfold Tp; simp; omega))
  have hL' : LgM A τ := LgM_cg hB.1.2.1 (h8 20 (by omega)) (fun c q hc => t3.I c q (by unfold Tp; simp; omega))
  have hB' : BdM A (kn A u) τ := BdM_cg hB.2 (fun c h1 h2 => t3.I c 0 (by unfold Tp; simp; omega))
  obtain ⟨υ, m1, m2, m3, m4, m5⟩ := m_makes hI hn hN hM' hL' hu (st := 1) (by omega) hB' t2 hR
  refine ⟨υ, ?_, ⟨m2, m3⟩, (t3.mono (fun c o h => by unfold Tm at h; unfold Tp; simp at h ⊢; omega)).tr m4, m5.trans (h8 0 (by omega))⟩
  have m1' : fX8_makes N τ (ij u) (ij 1) = some υ := m1
  rw [t1, ob_s, m1', ob_s]
theorem f_one (hI : Inv0 A) (hC : CR A σ) (hN : 1000000 ≤ N) (hn : aN A < 250) {u : Nat} (hu : u < 3) {f v : Nat} (hf : f < 93) (hv : vokn A (aN A + 1) f v) :
    ∃ τ, fX5_step N σ u (ij f) (cvF f v) = some τ ∧ CR (st1 A u f v) τ ∧ Un Tc σ τ ∧ Inv0 (st1 A u f v) := f_step hI hC hN hn hu hf hv
def H4 (H : Hd) : Prop := H1 H ∧ H2 H ∧ (∀ σ, H EU σ = some (3, σ)) ∧ ∀ σ, H ES σ = some (4, σ)
theorem h1234 {H : Hd} (e : H = fun E5 σ3 => (if E5 = "java/lang/IllegalArgumentException" then (some ((1 : Int32), σ3)) else (if E5 = "java/util/NoSuchElementException" then (some ((2 : Int32), σ3)) else (if E5 = "java/lang/UnsupportedOperationException" then (some ((3 : Int32), σ3)) else (if E5 = "java/lang/IllegalStateException" then (some ((4 : Int32), σ3)) else none))))) : H4 H := by
  subst e
  exact ⟨fun σ => by simp [EI], fun σ => by simp [EN], fun σ => by simp [EU], fun σ => by simp [ES]⟩
theorem vok_key {s m : Nat} (hs : s < 12) {a : UInt32} (h : kyB a) (hz : kz m a) : vokn A m (24 + s) a.toNat := by
  refine ⟨fun q => by omega, fun q1 q2 => by omega, fun _ _ => ⟨kyB_ok h, by rw [ofN_toN]; exact hz⟩, fun q1 q2 => by omega, fun q1 q2 => by omega, fun q1 q2 => by omega, fun q => by omega⟩
theorem cvF_key {s : Nat} (hs : s < 12) (a : UInt32) : cvF (24 + s) a.toNat = a := by rw [cvF_k _ (by omega) (by omega), ofN_toN]
theorem mvI_key {s : Nat} (hs : s < 12) (a : UInt32) : mvI (24 + s) a.toNat = a.toInt32 := by rw [mvI_ky _ (by omega) (by omega), ofN_toN]
theorem m_bits {a : UInt32} (h : kyB a) : fJxf58ca_floatToIntBits_5c35a N σ a = some a.toInt32 := by
  unfold fJxf58ca_floatToIntBits_5c35a fJxf58ca_isNaN_12338
  have e : Op.cmpValue (FP.fcmp a a) CmpOp.l = 0 := by
    have : FP.fcmp a a = some .eq := FP.Core.fcmp_self (kyB_nn h)
    rw [this]; rfl
  rw [if_pos e, ob_s, if_pos rfl]
theorem q_bar (h : Inv A σ) (hN : 1000 ≤ N) (x y : Int32) {H : Hd} (k : H4 H) (B : Nat → St → Option ((Int32 ⊕ String) × St)) (G W : St → Option (Int32 × St))
    (hv : ∀ u s : Nat, x = ij u → y = ij s → u < 3 → sn A (bv A (kn A u)) s = true → aN A < 250 → ∃ A' r τ, B u σ = some (.inl r, τ) ∧ CR A' τ ∧ Inv0 A' ∧ Un Tc σ τ ∧ ∀ τ1, MB A u τ1 → gI τ1 8 0 0 = ij 0 → ∃ τ2, G τ1 = some (r, τ2) ∧ MR A' τ2 ∧ Un Tm τ1 τ2 ∧ gI τ2 8 0 0 = ij 0) :
    PairI (ox (ox (fX7_needUser N σ x) (fun E τ => some (.inr E, τ)) fun u1 σ2 => ox (fX7_needChangeable N σ2 u1 y) (fun E τ => some (.inr E, τ)) fun _ σ3 => ox (fX7_needRoom N σ3) (fun E τ => some (.inr E, τ)) fun _ σ4 => B u1 σ4) H fun v1 σ2 => vl (sJ σ2 0 (Int32.toInt64 v1)) fun σ6 => some (0, σ6))
      (fun τ => ob (fX8_isUser N τ x) fun v1 => if v1 = 0 then (vl (sI τ 8 0 0 (1 : Int32)) fun σ2 => if gI σ2 8 0 0 ≤ 0 then W σ2 else some (0, σ2)) else o2 (fX8_bar N τ x y) fun v8 σ7 => vl (sI σ7 8 0 0 v8) fun σ9 => if gI σ9 8 0 0 ≤ 0 then G σ9 else some (0, σ9)) := by
  obtain ⟨hI, hC, hM⟩ := h
  obtain ⟨x, rfl, hx⟩ := rg_ex x
  obtain ⟨y, rfl, hy⟩ := rg_ex y
  have hn := hI.1.1
  rw [c_user hx]
  cases e : usz x with
  | false =>
    have e' : decide (0 ≤ x ∧ x ≤ 2) = false := e
    simp only [Bool.false_eq_true, if_false, ox_r]
    refine mkI hI hC (c := 1) (k.1 σ) (by omega) ⟨0, sI σ 8 0 0 (ij 1), ?_, MR_thr hM _, Un_thr _ _, thr_thr _ _, fun q => by omega⟩
    rw [m_isUser hx, e', ob_s, if_pos (by decide), vl_s, thr_thr σ 1, if_neg (by decide)]
    rfl
  | true =>
    have e' : decide (0 ≤ x ∧ x ≤ 2) = true := e
    obtain ⟨u, rfl, hu⟩ := usz_nat e
    simp only [if_true, tn_nat, ox_l]
    rw [c_change hI hC hu hy]
    -- the model's side of a refusal
    have ref : ∀ c : Int, 0 < c → c ≤ 9 → (∀ τ, MR A τ → ∃ τ2, fX8_bar N τ (ij u) (ij y) = some (ij c, τ2) ∧ MB A u τ2 ∧ Un Tm τ τ2) →
        ∃ r τ, (ob (fX8_isUser N σ (ij u)) fun v1 => if v1 = 0 then (vl (sI σ 8 0 0 (1 : Int32)) fun σ2 => if gI σ2 8 0 0 ≤ 0 then W σ2 else some (0, σ2)) else o2 (fX8_bar N σ (ij u) (ij y)) fun v8 σ7 => vl (sI σ7 8 0 0 v8) fun σ9 => if gI σ9 8 0 0 ≤ 0 then G σ9 else some (0, σ9)) = some (r, τ) ∧ MR A τ ∧ Un Tm σ τ ∧ gI τ 8 0 0 = ij c ∧ (c = 0 → gJ σ 0 = Int32.toInt64 r) := by
      intro c c1 c2 hb
      obtain ⟨τ2, b1, b2, b3⟩ := hb σ hM
      refine ⟨0, sI τ2 8 0 0 (ij c), ?_, MR_thr b2.1 _, b3.tr (Un_thr _ _), thr_thr _ _, fun q => by omega⟩
      have hc : ¬ ij c ≤ 0 := by
        have : (ij c ≤ ij 0) = (c ≤ 0) := ij_le (by omega) (by omega) (by omega) (by omega)
        intro q
        have q2 : ij c ≤ ij 0 := q
        rw [this] at q2
        omega
      rw [m_isUser hx, e', ob_s, if_neg (by decide), b1, o2_s, vl_s, thr_thr τ2 (ij c), if_neg hc]
    cases e2 : snz A (bv A (kn A u)) y with
    | false =>
      simp only [Bool.false_eq_true, if_false, ox_r]
      refine mkI hI hC (c := 2) (k.2.1 σ) (by omega) (ref 2 (by omega) (by omega) (fun τ hm => ?_))
      obtain ⟨τ2, b1, b2, b3⟩ := m_bar (σ := τ) hI hm hN hu hy
      rw [e2] at b1
      exact ⟨τ2, b1, b2, b3⟩
    | true =>
      obtain ⟨s, rfl, hs⟩ := snz_ex e2
      simp only [if_true, tn_nat]
      cases e3 : lkb (bv A (kn A u)) u s with
      | true =>
        simp only [if_true, ox_r]
        refine mkI hI hC (c := 3) (k.2.2.1 σ) (by omega) (ref 3 (by omega) (by omega) (fun τ hm => ?_))
        obtain ⟨τ2, b1, b2, b3⟩ := m_bar (σ := τ) hI hm hN hu hy
        rw [e2, tn_nat, e3] at b1
        exact ⟨τ2, b1, b2, b3⟩
      | false =>
        simp only [Bool.false_eq_true, if_false, ox_l]
        rw [c_room hC hn]
        by_cases e4 : aN A = 250
        · rw [if_pos e4, ox_r, ox_r]
          refine mkI hI hC (c := 4) (k.2.2.2 σ) (by omega) (ref 4 (by omega) (by omega) (fun τ hm => ?_))
          obtain ⟨τ2, b1, b2, b3⟩ := m_bar (σ := τ) hI hm hN hu hy
          rw [e2, tn_nat, e3, e4] at b1
          exact ⟨τ2, b1, b2, b3⟩
        · obtain ⟨A', r, τ, v1, v2, v3, v4, v5⟩ := hv u s rfl rfl hu hs (by omega)
          rw [if_neg e4, ox_l, v1, ox_l, vl_s]
          refine mkI v3 (CR_J v2) (c := 0) rfl (by omega) ?_
          have hm : MR A (sJ τ 0 (Int32.toInt64 r)) := MR_J (MR_un hM v4)
          obtain ⟨τ2, b1, b2, b3⟩ := m_bar (σ := sJ τ 0 (Int32.toInt64 r)) hI hm hN hu hy
          rw [e2, tn_nat, e3] at b1
          simp only [if_true, Bool.false_eq_true, if_false, if_neg e4] at b1
          obtain ⟨τ3, w1, w2, w3, w4⟩ := v5 (sI τ2 8 0 0 (ij 0)) (MB_thr b2 _) (thr_thr _ _)
          refine ⟨r, τ3, ?_, w2, (b3.tr (Un_thr _ _)).tr w3, w4, fun _ => gJ_sJ _ _⟩
          rw [m_isUser hx, e', ob_s, if_neg (by decide), b1, o2_s, vl_s, thr_thr τ2 (ij 0), if_pos (by decide)]
          exact w1
noncomputable def rkn (A : Ab) (u s : Nat) : Int32 := ij (rk A (bv A (kn A u)) s)
theorem gkey (hI : Inv0 A) (hC : CR A σ) (hN : 1000000 ≤ N) (hn : aN A < 250) {u s : Nat} (hu : u < 3) (hs : s < 12) {a : UInt32} (ha : kyB a) (hz : kz (aN A + 1) a) :
    ∃ τ, fX7_giveKey N σ u (ij s) a = some (rkn (st1 A u (24 + s) a.toNat) u s, τ) ∧ CR (st1 A u (24 + s) a.toNat) τ ∧ Inv0 (st1 A u (24 + s) a.toNat) ∧ Un Tc σ τ := by
  obtain ⟨τ, t1, t2, t3, t4⟩ := f_one hI hC hN hn hu (f := 24 + s) (v := a.toNat) (by omega) (vok_key hs ha hz)
  rw [cvF_key hs] at t1
  refine ⟨τ, ?_, t2, t4, t3⟩
  unfold fX7_giveKey
  rw [ij_l24, ij_add, show (24 : Int) + s = ((24 + s : Nat) : Int) by omega, t1, ob_s, f_rankAt (CR_VW t4 hu t2) (by omega) hs, ob_s]
  rfl
theorem mkeys (hI : Inv0 A) (hn : aN A < 250) (hN : 1000 ≤ N) {u s : Nat} (hu : u < 3) (hs : s < 12) (hB : MB A u σ) {a : UInt32} (ha : kyB a) (hz : kz (aN A + 1) a) (hI' : Inv0 (st1 A u (24 + s) a.toNat)) :
    ∃ τ, fX8_keys N σ (ij u) (ij s) a = some (rkn (st1 A u (24 + s) a.toNat) u s, τ) ∧ MR (st1 A u (24 + s) a.toNat) τ ∧ Un Tm σ τ ∧ gI τ 8 0 0 = gI σ 8 0 0 := by
  obtain ⟨τ, t1, t2, t3, t4⟩ := m_one hI hn hN hu hB (f := 24 + s) (v := a.toNat) (by omega) (vok_key hs ha hz) (mvI_key hs a).symm (fun σ3 => ob (fX8_rank N σ3 (ij s)) fun v4 => some (v4, σ3))
  refine ⟨τ, ?_, t2.1, t3, t4⟩
  unfold fX8_keys
  rw [m_bits ha, ob_s, ij_l24, ij_add, show (24 : Int) + s = ((24 + s : Nat) : Int) by omega]
  refine Eq.trans t1 ?_
  rw [m_rank (MB_WM hI' t2) (by omega) hs, ob_s]
  rfl
theorem p_raise (h : Inv A σ) (hN : 1000000 ≤ N) (x y : Int32) : PairI (fL_raise N σ x y) (fun τ => fX8_raise N τ x y) := by
  refine q_bar h (by omega) x y (h1234 rfl) (fun u1 σ4 => (ob (fX6_greatestKey N σ4 u1) fun v5 => (ck (nn32 (FP.fadd v5 (1065353216 : UInt32))) (o2 (fX7_giveKey N σ4 u1 y (FP.fadd v5 (1065353216 : UInt32))) fun v7 σ6 => (some (.inl v7, σ6))))))
    (fun σ9 => (ob (fX8_greatest N σ9) fun v10 => (ob (fX8_key N σ9 v10) fun v11 => (ck (nn32 (FP.fadd v11 (1065353216 : UInt32))) (o2 (fX8_keys N σ9 x y (FP.fadd v11 (1065353216 : UInt32))) fun v13 σ12 => (some (v13, σ12)))))))
    (fun σ2 => (ob (fX8_greatest N σ2) fun v3 => (ob (fX8_key N σ2 v3) fun v4 => (ck (nn32 (FP.fadd v4 (1065353216 : UInt32))) (o2 (fX8_keys N σ2 x y (FP.fadd v4 (1065353216 : UInt32))) fun v6 σ5 => (some (v6, σ5))))))) (fun u s hx hy hu hs hn => ?_)
  subst hx
  subst hy
  obtain ⟨hI, hC, hM⟩ := h
  have hs2 := sn12 hI hs
  have hV := CR_VW hI hu hC
  rcases f_greatestKey (N := N) hV (by omega) with ⟨_, q, _⟩ | ⟨t, ht, _, hh, hg⟩
  · rw [q s] at hs; cases hs
  · have hk := kyB_add1 (v_ky hV ht)
    have hz := kz_add1 (show aN A < 1000 by omega) (v_kz hV ht)
    rw [hi_add hh] at hk hz
    obtain ⟨K, hK⟩ : ∃ K, K = FP.fadd (ky (bv A (kn A u)) (hi_ A (bv A (kn A u)))) 1065353216 := ⟨_, rfl⟩
    rw [← hK] at hk hz
    obtain ⟨τ, g1, g2, g3, g4⟩ := gkey hI hC hN hn hu hs2 hk hz
    refine ⟨_, rkn (st1 A u (24 + s) K.toNat) u s, τ, ?_, g2, g3, g4, fun τ1 hB h0 => ?_⟩
    · show ob _ _ = _
      rw [hg, ob_s, hi_add hh, ← hK, nn32_of (kyB_nn hk), ck_tr, g1, o2_s]
    · have hW := MB_WM hI hB
      obtain ⟨τ2, w1, w2, w3, w4⟩ := mkeys (N := N) hI hn (by omega) hu hs2 hB hk hz g3
      refine ⟨τ2, ?_, w2, w3, w4.trans h0⟩
      rcases gr_sp A (bv A (kn A u)) (aSh A) with ⟨_, q⟩ | ⟨t', r1, r2, r3, r4⟩
      · rw [q s (sn_lt hs)] at hs; cases hs
      · have hh' : IsHi A (bv A (kn A u)) t' := ⟨r3, fun z hz => r4 z (sn_lt hz) hz⟩
        show ob _ _ = _
        rw [m_greatest hW (by omega), ob_s, r1, (m_key hW (sn12 hI r3)).1, ob_s, hi_add hh', ← hK, nn32_of (kyB_nn hk), ck_tr, w1, o2_s]
theorem p_lower (h : Inv A σ) (hN : 1000000 ≤ N) (x y : Int32) : PairI (fL_lower N σ x y) (fun τ => fX8_lower N τ x y) := by
  refine q_bar h (by omega) x y (h1234 rfl) (fun u1 σ4 => (ob (fX6_lowestKey N σ4 u1) fun v5 => (ck (nn32 (FP.fsub v5 (1065353216 : UInt32))) (o2 (fX7_giveKey N σ4 u1 y (FP.fsub v5 (1065353216 : UInt32))) fun v7 σ6 => (some (.inl v7, σ6))))))
    (fun σ9 => (ob (fX8_lowest N σ9) fun v10 => (ob (fX8_key N σ9 v10) fun v11 => (ck (nn32 (FP.fsub v11 (1065353216 : UInt32))) (o2 (fX8_keys N σ9 x y (FP.fsub v11 (1065353216 : UInt32))) fun v13 σ12 => (some (v13, σ12)))))))
    (fun σ2 => (ob (fX8_lowest N σ2) fun v3 => (ob (fX8_key N σ2 v3) fun v4 => (ck (nn32 (FP.fsub v4 (1065353216 : UInt32))) (o2 (fX8_keys N σ2 x y (FP.fsub v4 (1065353216 : UInt32))) fun v6 σ5 => (some (v6, σ5))))))) (fun u s hx hy hu hs hn => ?_)
  subst hx
  subst hy
  obtain ⟨hI, hC, hM⟩ := h
  have hs2 := sn12 hI hs
  have hV := CR_VW hI hu hC
  obtain ⟨t, ht, hh, hg⟩ := f_lowestKey (N := N) hV (by omega) hs
  have hk := kyB_sub1 (v_ky hV ht)
  have hz := kz_sub1 (show aN A < 1000 by omega) (v_kz hV ht)
  rw [lo_sub hh] at hk hz
  obtain ⟨K, hK⟩ : ∃ K, K = FP.fsub (ky (bv A (kn A u)) (lo_ A (bv A (kn A u)))) 1065353216 := ⟨_, rfl⟩
  rw [← hK] at hk hz
  obtain ⟨τ, g1, g2, g3, g4⟩ := gkey hI hC hN hn hu hs2 hk hz
  refine ⟨_, rkn (st1 A u (24 + s) K.toNat) u s, τ, ?_, g2, g3, g4, fun τ1 hB h0 => ?_⟩
  · show ob _ _ = _
    rw [hg, ob_s, lo_sub hh, ← hK, nn32_of (kyB_nn hk), ck_tr, g1, o2_s]
  · have hW := MB_WM hI hB
    obtain ⟨τ2, w1, w2, w3, w4⟩ := mkeys (N := N) hI hn (by omega) hu hs2 hB hk hz g3
    refine ⟨τ2, ?_, w2, w3, w4.trans h0⟩
    rcases lr_sp A (bv A (kn A u)) (aSh A) with ⟨_, q⟩ | ⟨t', r1, r2, r3, r4⟩
    · rw [q s (sn_lt hs)] at hs; cases hs
    · have hh' : IsLo A (bv A (kn A u)) t' := ⟨r3, fun z hz => r4 z (sn_lt hz) hz⟩
      show ob _ _ = _
      rw [m_lowest hW (by omega), ob_s, r1, (m_key hW (sn12 hI r3)).1, ob_s, lo_sub hh', ← hK, nn32_of (kyB_nn hk), ck_tr, w1, o2_s]
theorem vok_b {f v : Nat} (hf : f < 12 ∨ (48 ≤ f ∧ f < 56) ∨ f = 92) (hv : v ≤ 1) : vokn A (aN A + 1) f v := by
  refine ⟨fun q => hv, fun q1 q2 => by omega, fun _ _ => by omega, fun q1 q2 => by omega, fun q1 q2 => hv, fun q1 q2 => by omega, fun q => hv⟩
theorem vok_l {s v : Nat} (hs : s < 12) (hv : v ≤ 3) : vokn A (aN A + 1) (36 + s) v := by
  refine ⟨fun q => by omega, fun q1 q2 => by omega, fun _ _ => by omega, fun q1 q2 => hv, fun q1 q2 => by omega, fun q1 q2 => by omega, fun q => by omega⟩
theorem p_remove (h : Inv A σ) (hN : 1000000 ≤ N) (x y : Int32) : PairI (fL_remove N σ x y) (fun τ => fX8_remove N τ x y) := by
  refine q_bar h (by omega) x y (h1234 rfl) (fun u1 σ4 => (ob (fX5_step N σ4 u1 ((0 : Int32) + y) (0 : UInt32)) fun σ5 => (ob (fX6_countShapes N σ5 u1) fun v6 => (some (.inl v6, σ5)))))
    (fun σ8 => (ob (fX8_plans N σ8 y (0 : Int32)) fun σ9 => (ob (fX8_makes N σ9 x (1 : Int32)) fun σ10 => (ob (fX8_seenMany N σ10) fun v11 => (some (v11, σ10))))))
    (fun σ2 => (ob (fX8_plans N σ2 y (0 : Int32)) fun σ3 => (ob (fX8_makes N σ3 x (1 : Int32)) fun σ4 => (ob (fX8_seenMany N σ4) fun v5 => (some (v5, σ4)))))) (fun u s hx hy hu hs hn => ?_)
  subst hx
  subst hy
  obtain ⟨hI, hC, hM⟩ := h
  have hs2 := sn12 hI hs
  obtain ⟨τ, t1, t2, t3, t4⟩ := f_one hI hC hN hn hu (f := s) (v := 0) (by omega) (vok_b (Or.inl hs2) (by omega))
  refine ⟨_, ij (ct (sn (st1 A u s 0) (bv (st1 A u s 0) (kn (st1 A u s 0) u))) 12), τ, ?_, t2, t4, t3, fun τ1 hB h0 => ?_⟩
  · have t1' : fX5_step N σ u ((0 : Int32) + ij s) 0 = some τ := by
      rw [ij_l0, ij_add, show (0 : Int) + s = (s : Int) by omega]
      have : cvF s 0 = 0 := by rw [cvF_n _ (by omega)]; decide +kernel
      rw [this] at t1
      exact t1
    show ob _ _ = _
    rw [t1', ob_s, f_countShapes (CR_VW t4 hu t2) (by omega), ob_s]
  · obtain ⟨τ2, w1, w2, w3, w4⟩ := m_one hI hn (show 1000 ≤ N by omega) hu hB (f := s) (v := 0) (by omega) (vok_b (Or.inl hs2) (by omega)) (x := 0) (mvI_n 0 (by omega)).symm (fun σ3 => ob (fX8_seenMany N σ3) fun v4 => some (v4, σ3))
    refine ⟨τ2, ?_, w2.1, w3, w4.trans h0⟩
    refine Eq.trans w1 ?_
    rw [m_seenMany (MB_WM t4 w2) (by omega), ob_s]
theorem p_lock (h : Inv A σ) (hN : 1000000 ≤ N) (x y : Int32) : PairI (fL_lock N σ x y) (fun τ => fX8_lock N τ x y) := by
  refine q_bar h (by omega) x y (h1234 rfl) (fun u1 σ4 => (ob (fX5_step N σ4 u1 ((36 : Int32) + y) (FP.i2f (x + (1 : Int32)))) fun σ5 => (ob (fX6_countLockedBy N σ5 u1 x) fun v6 => (some (.inl v6, σ5)))))
    (fun σ17 => (ob (fX8_plans N σ17 ((36 : Int32) + y) x) fun σ18 => (ob (fX8_makes N σ18 x (1 : Int32)) fun σ19 => (fX8_lock_L50_2 (fun v29 _ => (some (v29, σ19))) N x σ19 N (0 : Int32) (0 : Int32)))))
    (fun σ2 => (ob (fX8_plans N σ2 ((36 : Int32) + y) x) fun σ3 => (ob (fX8_makes N σ3 x (1 : Int32)) fun σ4 => (fX8_lock_L50 (fun v14 _ => (some (v14, σ4))) N x σ4 N (0 : Int32) (0 : Int32))))) (fun u s hx hy hu hs hn => ?_)
  subst hx
  subst hy
  obtain ⟨hI, hC, hM⟩ := h
  have hs2 := sn12 hI hs
  obtain ⟨τ, t1, t2, t3, t4⟩ := f_one hI hC hN hn hu (f := 36 + s) (v := u + 1) (by omega) (vok_l hs2 (by omega))
  generalize hA' : st1 A u (36 + s) (u + 1) = A' at *
  refine ⟨A', ij (ct (fun s => sn A' (bv A' (kn A' u)) s && decide (bv A' (kn A' u) (36 + s) = u + 1)) 12), τ, ?_, t2, t4, t3, fun τ1 hB h0 => ?_⟩
  · show ob _ _ = _
    rw [ij_l36, ij_l1, ij_add, ij_add, show (36 : Int) + s = ((36 + s : Nat) : Int) by omega, show (u : Int) + 1 = ((u + 1 : Nat) : Int) from rfl]
    rw [cvF_n _ (by omega)] at t1
    rw [t1, ob_s, f_countLockedBy (CR_VW t4 hu t2) (by omega) hu, ob_s]
  · have hx : ij (u : Int) = mvI (36 + s) (u + 1) := by rw [mvI_lk _ (by omega) (by omega)]; congr 1; omega
    obtain ⟨τ2, w1, w2, w3, w4⟩ := m_one hI hn (show 1000 ≤ N by omega) hu hB (f := 36 + s) (v := u + 1) (by omega) (vok_l hs2 (by omega)) hx (fun σ19 => (fX8_lock_L50_2 (fun v29 _ => (some (v29, σ19))) N (ij u) σ19 N (0 : Int32) (0 : Int32)))
    rw [hA'] at w2
    refine ⟨τ2, ?_, w2.1, w3, w4.trans h0⟩
    have hW := MB_WM t4 w2
    have hsh := t4.2.1.1
    have hcut : ct (fun s => sn A' (bv A' (kn A' u)) s && decide (bv A' (kn A' u) (36 + s) = u + 1)) 12 = ct (fun s => sn A' (bv A' (kn A' u)) s && decide (bv A' (kn A' u) (36 + s) = u + 1)) (aSh A') := ct_cut hsh (fun k h1 _ => by
      have hf : sn A' (bv A' (kn A' u)) k = false := by rw [← Bool.not_eq_true]; intro z; have := sn_lt z; omega
      simp [hf])
    rw [hcut]
    show ob (fX8_plans N τ1 ((36 : Int32) + ij s) (ij u)) _ = _
    rw [ij_l36, ij_add, show (36 : Int) + s = ((36 + s : Nat) : Int) by omega]
    refine Eq.trans w1 ?_
    refine lp_end (fun n j => fX8_lock_L50_2 (fun v29 _ => (some (v29, τ2))) N (ij u) τ2 n (ij (ct (fun s => sn A' (bv A' (kn A' u)) s && decide (bv A' (kn A' u) (36 + s) = u + 1)) j)) (ij j)) (a := 0) (b := aSh A') (by omega) (fun n j _ hj => ?_) (fun n => ?_) N (by omega)
    · have hc := ct_le (fun s => sn A' (bv A' (kn A' u)) s && decide (bv A' (kn A' u) (36 + s) = u + 1)) j
      have hlk := m_lk hW (s := j) (by omega)
      simp only [fX8_lock_L50_2]
      rw [hW.1.1, m_seen hW (by omega)]
      by_cases e : sn A' (bv A' (kn A' u)) j = true
      · by_cases e1 : bv A' (kn A' u) (36 + j) = u + 1
        · simp (disch := omega) only [ij_l0, ij_l1, ij_l2, ij_l3, ij_l4, ij_l5, ij_l6, ij_l8, ij_l12, ij_l16, ij_l19, ij_l23, ij_l24, ij_l31, ij_l32, ij_l36, ij_l47, ij_l48, ij_l56, ij_l92, ij_l93, ij_l98, ij_l108, ij_l114, ij_l116, ij_l127, ij_l128, ij_l149, ij_l250, ij_l384, ij_l768, ij_l1000, ij_l1536, ij_l3000, ij_l1000000, ij_l1000003, ij_l1000000000, ij_neg, ij_add, ij_sub, ij_mul, ij_lt, ij_le, ij_eq, ij_nat, tn_nat, tn_12, tn_24, tn_36, tn_48, ck_in, ob_s, o2_s, vl_s, ox_l, ox_r, ck_tr, if_pos, if_neg, bi_z, e, hlk.1]
          simp [ct, e, e1]
        · have e2 : ¬ ((bv A' (kn A' u) (36 + j) : Int) - 1 = u) := by omega
          simp (disch := omega) only [ij_l0, ij_l1, ij_l2, ij_l3, ij_l4, ij_l5, ij_l6, ij_l8, ij_l12, ij_l16, ij_l19, ij_l23, ij_l24, ij_l31, ij_l32, ij_l36, ij_l47, ij_l48, ij_l56, ij_l92, ij_l93, ij_l98, ij_l108, ij_l114, ij_l116, ij_l127, ij_l128, ij_l149, ij_l250, ij_l384, ij_l768, ij_l1000, ij_l1536, ij_l3000, ij_l1000000, ij_l1000003, ij_l1000000000, ij_neg, ij_add, ij_sub, ij_mul, ij_lt, ij_le, ij_eq, ij_nat, tn_nat, tn_12, tn_24, tn_36, tn_48, ck_in, ob_s, o2_s, vl_s, ox_l, ox_r, ck_tr, if_pos, if_neg, bi_z, e, hlk.1]
          simp [ct, e, e1]
      · simp (disch := omega) only [ij_l0, ij_l1, ij_l2, ij_l3, ij_l4, ij_l5, ij_l6, ij_l8, ij_l12, ij_l16, ij_l19, ij_l23, ij_l24, ij_l31, ij_l32, ij_l36, ij_l47, ij_l48, ij_l56, ij_l92, ij_l93, ij_l98, ij_l108, ij_l114, ij_l116, ij_l127, ij_l128, ij_l149, ij_l250, ij_l384, ij_l768, ij_l1000, ij_l1536, ij_l3000, ij_l1000000, ij_l1000003, ij_l1000000000, ij_neg, ij_add, ij_sub, ij_mul, ij_lt, ij_le, ij_eq, ij_nat, tn_nat, tn_12, tn_24, tn_36, tn_48, ck_in, ob_s, o2_s, vl_s, ox_l, ox_r, ck_tr, if_pos, if_neg, bi_z, e]
        simp [ct, e]
    · simp only [fX8_lock_L50_2]
      rw [hW.1.1]
      simp (disch := omega) only [ij_l0, ij_l1, ij_l2, ij_l3, ij_l4, ij_l5, ij_l6, ij_l8, ij_l12, ij_l16, ij_l19, ij_l23, ij_l24, ij_l31, ij_l32, ij_l36, ij_l47, ij_l48, ij_l56, ij_l92, ij_l93, ij_l98, ij_l108, ij_l114, ij_l116, ij_l127, ij_l128, ij_l149, ij_l250, ij_l384, ij_l768, ij_l1000, ij_l1536, ij_l3000, ij_l1000000, ij_l1000003, ij_l1000000000, ij_neg, ij_add, ij_sub, ij_mul, ij_lt, ij_le, ij_eq, ij_nat, tn_nat, tn_12, tn_24, tn_36, tn_48, ck_in, ob_s, o2_s, vl_s, ox_l, ox_r, ck_tr, if_pos, if_neg]
end S2
