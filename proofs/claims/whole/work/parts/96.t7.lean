/-! meanRoute: both sides. -/
/-- the sum of the lengths and how many routes there are, of the first j connectors -/
def Ms (A : Ab) (β : Nat → Nat) : Nat → Nat → Nat → Prop
  | 0, s, n => s = 0 ∧ n = 0
  | j + 1, s, n => ((jnd A β j = false ∨ Nw A β j) ∧ Ms A β j s n) ∨ ∃ T C s' n', jnd A β j = true ∧ Wy A β j T C ∧ Ms A β j s' n' ∧ s = s' + C ∧ n = n' + 1
section T7_
variable {A : Ab} {N : Nat} {σ τ : St} {β : Nat → Nat}
theorem Wy_rg {c T C : Nat} (h : Wy A β c T C) : T < 768 ∧ C ≤ 768 := by
  obtain ⟨_, _, _, _, _, _, _, _, q, q2⟩ := h
  exact ⟨q, q2.1⟩
theorem Ms_rg : ∀ j s n, Ms A β j s n → s ≤ 768 * j ∧ n ≤ j := by
  intro j
  induction j with
  | zero => intro s n h; obtain ⟨rfl, rfl⟩ := h; omega
  | succ j ih =>
    intro s n h
    rcases h with ⟨_, h⟩ | ⟨T, C, s', n', _, hW, h, rfl, rfl⟩
    · have := ih _ _ h; omega
    · have := ih _ _ h
      have := Wy_rg hW
      omega
theorem Ms_un : ∀ j s n s' n', Ms A β j s n → Ms A β j s' n' → s = s' ∧ n = n' := by
  intro j
  induction j with
  | zero => intro s n s' n' h g; obtain ⟨rfl, rfl⟩ := h; obtain ⟨rfl, rfl⟩ := g; exact ⟨rfl, rfl⟩
  | succ j ih =>
    intro s n s' n' h g
    rcases h with ⟨h1, h⟩ | ⟨T, C, s1, n1, h1, hW, h, rfl, rfl⟩
    · rcases g with ⟨g1, g⟩ | ⟨T', C', s2, n2, g1, gW, g, rfl, rfl⟩
      · exact ih _ _ _ _ h g
      · rcases h1 with h1 | h1
        · rw [g1] at h1; cases h1
        · exact (Wy_Nw gW h1).elim
    · rcases g with ⟨g1, g⟩ | ⟨T', C', s2, n2, g1, gW, g, rfl, rfl⟩
      · rcases g1 with g1 | g1
        · rw [h1] at g1; cases g1
        · exact (Wy_Nw hW g1).elim
      · obtain ⟨rfl, rfl⟩ := ih _ _ _ _ h g
        obtain ⟨_, e⟩ := Wy_un hW gW
        rw [e]
        exact ⟨rfl, rfl⟩
theorem Ms_cut {j s n : Nat} (hj : aCn A ≤ j) : ∀ k, Ms A β j s n → Ms A β (j + k) s n := by
  intro k
  induction k with
  | zero => intro h; exact h
  | succ k ih =>
    intro h
    refine Or.inl ⟨Or.inl ?_, ih h⟩
    rw [← Bool.not_eq_true]
    intro q
    have : j + k < aCn A := jnd_lt q
    omega
theorem ddiv_ij {a b : Nat} (hb : b ≤ 1000) (h : b ≠ 0) : FP.Core.val64 (FP.ddiv (FP.i2d (ij a)) (FP.i2d (ij b))) ≠ .nan := by
  refine (FP.Core.notNaN_iff _).mp (FP.Core.ddiv_out (FP.Core.i2d_fin _).notNaN (FP.Core.i2d_fin _) ?_)
  intro hz
  have h1 := (FP.Core.zero_bits2 _).mp hz
  refine FP.Core.i2d_ne_zero (v := ij b) ?_ h1
  intro q
  have q2 : ij (b : Int) = ij 0 := q
  rw [ij_eq (by omega) (by omega) (by omega) (by omega)] at q2
  omega
theorem jnd_dich (hI : Inv0 A) (hC : CR A σ) {u : Nat} (hu : u < 3) {c : Nat} (hc : jnd A (bv A (kn A u)) c = true) : Nw A (bv A (kn A u)) c ∨ ∃ T C, Wy A (bv A (kn A u)) c T C := by
  obtain ⟨τ, _, _, h⟩ := a_draw (N := 1000) hI hC (Nat.le_refl _) hu hc
  exact a_dich h
/-- the class's sum -/
theorem f_mean (hI : Inv0 A) (hC : CR A σ) (hN : 1000 ≤ N) {u : Nat} (hu : u < 3) (K : Int32 → Int32 → St → Option (((UInt64 ⊕ String) × St))) : ∃ s n τ, fX7_meanRoute_L17 (fun a b _ s => K a b s) N u N (0 : Int32) (0 : Int32) (0 : Int32) σ = K (ij (s : Nat)) (ij (n : Nat)) τ ∧ Un Trt σ τ ∧ CR A τ ∧ Ms A (bv A (kn A u)) 8 s n := by
  obtain ⟨⟨s, n, τ⟩, e, h1, h2, h3⟩ := lp_st (S := Nat × Nat × St) (fun m j s => fX7_meanRoute_L17 (fun a b _ s => K a b s) N u m (ij (s.1 : Nat)) (ij (s.2.1 : Nat)) (ij j) s.2.2) (fun j s => Un Trt σ s.2.2 ∧ CR A s.2.2 ∧ Ms A (bv A (kn A u)) j s.1 s.2.1) (Nat.zero_le 8) (fun m j s _ hj hP => by
    obtain ⟨s, n, τ⟩ := s
    obtain ⟨h1, h2, h3⟩ := hP
    have h1 : Un Trt σ τ := h1
    have h2 : CR A τ := h2
    have h3 : Ms A (bv A (kn A u)) j s n := h3
    have rg := Ms_rg _ _ _ h3
    have hj1 : ij (j : Int) + (1 : Int32) = ij ((j + 1 : Nat) : Int) := ij_add _ 1
    have hs := f_isSeenConnector (N := N) (CR_VW hI hu h2) (z := (j : Int)) (by omega) (by omega)
    have jz : jndz A (bv A (kn A u)) (j : Int) = jnd A (bv A (kn A u)) j := by
      unfold jndz
      rw [decide_eq_true (by omega), Bool.true_and, tn_nat]
    show ∃ s', fX7_meanRoute_L17 (fun a b _ s => K a b s) N u (m + 1) (ij (s : Nat)) (ij (n : Nat)) (ij j) τ = _ ∧ _
    simp only [fX7_meanRoute_L17]
    rw [if_neg (by rw [show (8 : Int32) = ij 8 from rfl, ij_le (by omega) (by omega) (by omega) (by omega)]; omega), hs, ob_s, jz, hj1]
    cases ej : jnd A (bv A (kn A u)) j with
    | false =>
      rw [if_pos (by decide), vl_s]
      exact ⟨(s, n, τ), rfl, h1, h2, Or.inl ⟨Or.inl ej, h3⟩⟩
    | true =>
      obtain ⟨τ1, d1, d2, d3⟩ := a_draw (N := N) hI h2 hN hu ej
      obtain ⟨τ2, v, c1, c2, c3, c4⟩ := a_cells (N := N) hN d3
      have hC2 := CR_rt h2 (d2.tr c2) c3
      rw [if_neg (by decide), d1, ob_s, c1, o2_s]
      rcases c4 with ⟨rfl, c4⟩ | ⟨T, C, ev, c4⟩
      · rw [if_pos (by decide), vl_s]
        exact ⟨(s, n, τ2), rfl, (h1.tr d2).tr c2, hC2, Or.inl ⟨Or.inr c4, h3⟩⟩
      · have rw_ := Wy_rg c4
        have ev : v = (C : Int) := ev
        subst ev
        rw [if_neg (by rw [show (-1 : Int32) = ij (-1) from rfl, ij_eq (by omega) (by omega) (by omega) (by omega)]; omega), vl_s, vl_s, vl_s, ij_add, show ij (n : Int) + (1 : Int32) = ij ((n + 1 : Nat) : Int) from ij_add _ 1]
        exact ⟨(s + C, n + 1, τ2), rfl, (h1.tr d2).tr c2, hC2, Or.inr ⟨T, C, s, n, ej, c4, h3, rfl, rfl⟩⟩) N (0, 0, σ) (by omega) ⟨Un.rfl, hC, rfl, rfl⟩
  refine ⟨s, n, τ, ?_, h1, h2, h3⟩
  refine Eq.trans e ?_
  have e2 : N - (8 - 0) = (N - 8 - 1) + 1 := by omega
  show fX7_meanRoute_L17 _ N u (N - (8 - 0)) (ij (s : Nat)) (ij (n : Nat)) _ τ = _
  rw [e2]
  simp only [fX7_meanRoute_L17]
  rw [if_pos (by decide)]
/-- the model's sum -/
theorem m_mean (hI : Inv0 A) {u : Nat} (hB : MB A u σ) (hN : 10000000000000 ≤ N) (hD : ∀ c, jnd A (bv A (kn A u)) c = true → Nw A (bv A (kn A u)) c ∨ ∃ T C, Wy A (bv A (kn A u)) c T C) (K : Int32 → Int32 → St → Option (UInt64 × St)) : ∃ s n τ, fX8_meanRoute_L17 (fun a b _ s => K a b s) N N (0 : Int32) (0 : Int32) (0 : Int32) σ = K (ij (n : Nat)) (ij (s : Nat)) τ ∧ Un Tw σ τ ∧ Ms A (bv A (kn A u)) 8 s n := by
  have l8 := hI.2.1.2.1
  obtain ⟨⟨s, n, τ⟩, e, h1, h3⟩ := lp_st (S := Nat × Nat × St) (fun m j s => fX8_meanRoute_L17 (fun a b _ s => K a b s) N m (ij (s.2.1 : Nat)) (ij (s.1 : Nat)) (ij j) s.2.2) (fun j s => Un Tw σ s.2.2 ∧ Ms A (bv A (kn A u)) j s.1 s.2.1) (Nat.zero_le (aCn A)) (fun m j s _ hj hP => by
    obtain ⟨s, n, τ⟩ := s
    obtain ⟨h1, h3⟩ := hP
    have h1 : Un Tw σ τ := h1
    have h3 : Ms A (bv A (kn A u)) j s n := h3
    have hBt := MB_tw hB h1
    have hW := MB_WM hI hBt
    have rg := Ms_rg _ _ _ h3
    have hj1 : ij (j : Int) + (1 : Int32) = ij ((j + 1 : Nat) : Int) := ij_add _ 1
    have hs := m_isJoined (N := N) hW (z := (j : Int)) (by omega) (by omega)
    have jz : jndz A (bv A (kn A u)) (j : Int) = jnd A (bv A (kn A u)) j := by
      unfold jndz
      rw [decide_eq_true (by omega), Bool.true_and, tn_nat]
    show ∃ s', fX8_meanRoute_L17 (fun a b _ s => K a b s) N (m + 1) (ij (n : Nat)) (ij (s : Nat)) (ij j) τ = _ ∧ _
    simp only [fX8_meanRoute_L17]
    rw [hW.1.2.1, if_neg (by rw [ij_le (by omega) (by omega) (by omega) (by omega)]; omega), hs, ob_s, jz, hj1]
    cases ej : jnd A (bv A (kn A u)) j with
    | false =>
      rw [if_pos (by decide), if_pos trivial, vl_s]
      exact ⟨(s, n, τ), rfl, h1, Or.inl ⟨Or.inl ej, h3⟩⟩
    | true =>
      obtain ⟨τ2, v, c1, c2, c4⟩ := m_route (N := N) hW hN ej (hD j ej)
      rw [if_neg (by decide), c1, o2_s]
      rcases c4 with ⟨rfl, c4⟩ | ⟨T, C, rfl, c4⟩
      · rw [if_pos (by decide), vl_s]
        exact ⟨(s, n, τ2), rfl, h1.tr c2, Or.inl ⟨Or.inr c4, h3⟩⟩
      · have rw_ := Wy_rg c4
        rw [if_neg (by rw [show (1000000000 : Int32) = ij 1000000000 from rfl, ij_eq (by omega) (by omega) (by omega) (by omega)]; omega), vl_s, vl_s, vl_s, g_C rw_.1 rw_.2, ij_add, show ij (n : Int) + (1 : Int32) = ij ((n + 1 : Nat) : Int) from ij_add _ 1]
        exact ⟨(s + C, n + 1, τ2), rfl, h1.tr c2, Or.inr ⟨T, C, s, n, ej, c4, h3, rfl, rfl⟩⟩) N (0, 0, σ) (by omega) ⟨Un.rfl, rfl, rfl⟩
  have h1 : Un Tw σ τ := h1
  have hcut := Ms_cut (A := A) (β := bv A (kn A u)) (Nat.le_refl (aCn A)) (8 - aCn A) h3
  rw [show aCn A + (8 - aCn A) = 8 by omega] at hcut
  refine ⟨s, n, τ, ?_, h1, hcut⟩
  refine Eq.trans e ?_
  have e2 : N - (aCn A - 0) = (N - aCn A - 1) + 1 := by omega
  show fX8_meanRoute_L17 _ N (N - (aCn A - 0)) (ij (n : Nat)) (ij (s : Nat)) _ τ = _
  rw [e2]
  simp only [fX8_meanRoute_L17]
  rw [(MB_WM hI (MB_tw hB h1)).1.2.1, if_pos (by rw [ij_le (by omega) (by omega) (by omega) (by omega)]; omega)]
theorem p_meanRoute (h : Inv A σ) (hN : 10000000000000 ≤ N) (x : Int32) : PairD (fL_meanRoute N σ x) (fun τ => fX8_meanRoute N τ x) := by
  obtain ⟨hI, hC, hM⟩ := h
  obtain ⟨x, rfl, hx⟩ := rg_ex x
  unfold fL_meanRoute fX7_meanRoute
  rw [c_user hx]
  cases e : usz x with
  | false =>
    simp only [Bool.false_eq_true, if_false, ox_r]
    refine mkD hI hC (c := 1) rfl (by omega) ?_
    rcases m_nobody hI hM (by omega : 1000 ≤ N) hx with ⟨_, τ, t1, t2, t3, t4⟩ | ⟨u, rfl, hu, _⟩
    · refine ⟨0, τ, ?_, t2, t3, t4, fun q => by omega⟩
      unfold fX8_meanRoute
      rw [t1]; rfl
    · rw [usz_ij hu] at e; cases e
  | true =>
    obtain ⟨u, rfl, hu⟩ := usz_nat e
    have hD : ∀ c, jnd A (bv A (kn A u)) c = true → Nw A (bv A (kn A u)) c ∨ ∃ T C, Wy A (bv A (kn A u)) c T C := fun c hc => jnd_dich hI hC hu hc
    simp only [if_true, tn_nat, ox_l]
    obtain ⟨s, n, σ1, e1, u1, hC1, hMs⟩ := f_mean (N := N) hI hC (by omega) hu (fun v16 v17 σ18 => (if v17 = 0 then (some ((.inr "java/lang/ArithmeticException" : UInt64 ⊕ String), σ18)) else (ck (nn64 (FP.ddiv (FP.i2d v16) (FP.i2d v17))) (some (.inl (FP.ddiv (FP.i2d v16) (FP.i2d v17)), σ18)))))
    have hM1 := MR_un hM (Trt_Tc u1)
    have rg := Ms_rg _ _ _ hMs
    rw [e1]
    by_cases e2 : n = 0
    · have : (if ij (n : Nat) = 0 then (some ((.inr "java/lang/ArithmeticException" : UInt64 ⊕ String), σ1)) else (ck (nn64 (FP.ddiv (FP.i2d (ij (s : Nat))) (FP.i2d (ij (n : Nat))))) (some (.inl (FP.ddiv (FP.i2d (ij (s : Nat))) (FP.i2d (ij (n : Nat)))), σ1)))) = some ((.inr "java/lang/ArithmeticException" : UInt64 ⊕ String), σ1) := if_pos (by rw [e2]; rfl)
      rw [this, ox_r]
      refine mkD hI hC1 (c := 2) rfl (by omega) ?_
      rcases m_nobody hI hM1 (by omega : 1000 ≤ N) hx with ⟨q, _⟩ | ⟨u', e', hu', τ, t1, t2, t3, t4⟩
      · rw [usz_ij hu] at q; cases q
      · have : u = u' := by omega
        subst this
        obtain ⟨s', n', τ2, m1, m2, m3⟩ := m_mean (N := N) hI t2 hN hD (fun v18 v19 σ20 => (if v18 = 0 then (o2 (fX8_fails N σ20 (2 : Int32)) fun v22 σ21 => (some ((FP.i2d v22), σ21))) else (ck (nn64 (FP.ddiv (FP.i2d v19) (FP.i2d v18))) (some ((FP.ddiv (FP.i2d v19) (FP.i2d v18)), σ20)))))
        obtain ⟨es, en⟩ := Ms_un _ _ _ _ _ hMs m3
        subst es
        subst en
        refine ⟨FP.i2d (ij 0), sI τ2 8 0 0 (ij 2), ?_, MR_thr (MB_tw t2 m2).1 _, (t3.tr (Tw_Tm m2)).tr (Un_thr _ _), thr_thr _ _, fun q => by omega⟩
        unfold fX8_meanRoute
        rw [t1, o2_s, if_pos (by decide)]
        refine Eq.trans m1 ?_
        show (if ij (n : Nat) = 0 then _ else _) = _
        rw [if_pos (by rw [e2]; rfl)]
        rfl
    · have hd := ddiv_ij (a := s) (b := n) (by omega) e2
      have hne : ¬ ij (n : Nat) = 0 := by
        intro q
        have q2 : ij (n : Int) = ij 0 := q
        rw [ij_eq (by omega) (by omega) (by omega) (by omega)] at q2
        omega
      have : (if ij (n : Nat) = 0 then (some ((.inr "java/lang/ArithmeticException" : UInt64 ⊕ String), σ1)) else (ck (nn64 (FP.ddiv (FP.i2d (ij (s : Nat))) (FP.i2d (ij (n : Nat))))) (some (.inl (FP.ddiv (FP.i2d (ij (s : Nat))) (FP.i2d (ij (n : Nat)))), σ1)))) = some ((.inl (FP.ddiv (FP.i2d (ij (s : Nat))) (FP.i2d (ij (n : Nat)))) : UInt64 ⊕ String), σ1) := by
        rw [if_neg hne, nn64_of hd, ck_tr]
      rw [this, ox_l, vl_s]
      refine mkD hI (CR_D hC1) (c := 0) rfl (by omega) ?_
      rcases m_nobody (σ := sD σ1 0 (FP.ddiv (FP.i2d (ij (s : Nat))) (FP.i2d (ij (n : Nat))))) hI (MR_D hM1) (by omega : 1000 ≤ N) hx with ⟨q, _⟩ | ⟨u', e', hu', τ, t1, t2, t3, t4⟩
      · rw [usz_ij hu] at q; cases q
      · have : u = u' := by omega
        subst this
        obtain ⟨s', n', τ2, m1, m2, m3⟩ := m_mean (N := N) hI t2 hN hD (fun v18 v19 σ20 => (if v18 = 0 then (o2 (fX8_fails N σ20 (2 : Int32)) fun v22 σ21 => (some ((FP.i2d v22), σ21))) else (ck (nn64 (FP.ddiv (FP.i2d v19) (FP.i2d v18))) (some ((FP.ddiv (FP.i2d v19) (FP.i2d v18)), σ20)))))
        obtain ⟨es, en⟩ := Ms_un _ _ _ _ _ hMs m3
        subst es
        subst en
        have u8 : gI τ2 8 0 = gI τ 8 0 := m2.I 8 0 rfl
        refine ⟨FP.ddiv (FP.i2d (ij (s : Nat))) (FP.i2d (ij (n : Nat))), τ2, ?_, (MB_tw t2 m2).1, t3.tr (Tw_Tm m2), by rw [u8]; exact t4, fun _ => ⟨gD_sD _ _, hd⟩⟩
        unfold fX8_meanRoute
        rw [t1, o2_s, if_pos (by decide)]
        refine Eq.trans m1 ?_
        show (if ij (n : Nat) = 0 then _ else _) = _
        rw [if_neg hne, nn64_of hd, ck_tr]
end T7_
