/-! Rounds: the class. -/
def CV (A : Ab) (β : Nat → Nat) (a b : Nat) (τ : St) (V : Nat → Nat) : Prop := (∀ x, x < 384 → gI τ 127 0 x = bi (opn A β x)) ∧ gI τ 6 0 7 = ij (a : Nat) ∧ gI τ 6 0 8 = ij (b : Nat) ∧ ∀ s, s < 768 → gI τ 128 0 s = ij (V s)
def IS (A : Ab) (β : Nat → Nat) (a b : Nat) (W : Nat → Nat) (σ : St) (x J : Nat) (ch : Bool) (τ : St) : Prop := ∃ V, Un T128 σ τ ∧ CV A β a b τ V ∧ RI (Ed A β) a W V x J ch
section T2_
variable {A : Ab} {N : Nat} {σ τ : St} {β : Nat → Nat} {a b x J : Nat} {V W : Nat → Nat}
theorem CV_up (g : CV A β a b τ V) (u v : Nat) : CV A β a b (sI τ 128 0 u (ij v)) (uq V u v) := by
  refine ⟨fun x hx => by rw [gI_sI_ne (by omega)]; exact g.1 x hx, by rw [gI_sI_ne (by omega)]; exact g.2.1, by rw [gI_sI_ne (by omega)]; exact g.2.2.1, fun s hs => ?_⟩
  rw [gI_sI_eq]
  by_cases q : s = u
  · rw [if_pos q, q, uq_eq]
  · rw [if_neg q, uq_ne q]; exact g.2.2.2 s hs
theorem IS_step (hx : x < 384) (hop : opn A β x = true) (c0 : Bool) (K : Int32 → St → Option (Int32 × St)) (n : Nat) (hJ : J < 4) {f : Bool} (g : IS A β a b W σ x J (c0 || f) τ) : ∃ υ f', fX4_improve_L4 (fun v _ s => K v s) N (ij x) (n + 1) (bi f) (ij J) τ = fX4_improve_L4 (fun v _ s => K v s) N (ij x) n (bi f') (ij ((J + 1 : Nat) : Int)) υ ∧ IS A β a b W σ x (J + 1) (c0 || f') υ := by
  obtain ⟨V, gU, gC, gI_⟩ := g
  have hJ1 : ij (J : Int) + (1 : Int32) = ij ((J + 1 : Nat) : Int) := ij_add _ 1
  have n4 : ¬ (4 : Int32) ≤ ij (J : Int) := by
    rw [show (4 : Int32) = ij 4 from rfl, ij_le (by omega) (by omega) (by omega) (by omega)]
    omega
  have hr := nbI_rg (d := J) hx
  have ex : ij (x : Int) * (2 : Int32) + ij ((J / 2 : Nat) : Int) = ij ((2 * x + J / 2 : Nat) : Int) := by
    rw [show (2 : Int32) = ij 2 from rfl, ij_mul, ij_add]
    congr 1
    omega
  simp only [fX4_improve_L4]
  rw [if_neg n4, f_cellBeside hx hJ, ob_s, ij_half (by omega), vl_s, vl_s, ex, f_isAt127 gC.1 (by omega), ob_s, hJ1]
  by_cases g : 0 ≤ nbI x J ∧ opn A β (nbI x J).toNat = true
  · obtain ⟨y, hy⟩ : ∃ y : Nat, nbI x J = (y : Int) := ⟨(nbI x J).toNat, by omega⟩
    rw [hy, tn_nat] at g
    have hyl : y < 384 := by omega
    have he : Ed A β x J y := ⟨hJ, hx, hop, hy, g.2⟩
    have m1 : ij (y : Int) * (2 : Int32) + ij ((J / 2 : Nat) : Int) = ij ((2 * y + J / 2 : Nat) : Int) := by
      rw [show (2 : Int32) = ij 2 from rfl, ij_mul, ij_add]
      congr 1
      omega
    have m2 : ij (y : Int) * (2 : Int32) + (1 : Int32) - ij ((J / 2 : Nat) : Int) = ij ((2 * y + 1 - J / 2 : Nat) : Int) := by
      rw [show (2 : Int32) = ij 2 from rfl, show (1 : Int32) = ij 1 from rfl, ij_mul, ij_add, ij_sub]
      congr 1
      omega
    have i1 : fX7_intAt N τ 128 0 768 (ij ((2 * y + J / 2 : Nat) : Int)) (1000000 : Int32) = some (ij (V (2 * y + J / 2))) := by
      rw [f_intAt (by omega) (by omega) (by omega), tn_nat, gC.2.2.2 _ (by omega)]
    have i2 : fX7_intAt N τ 128 0 768 (ij ((2 * y + 1 - J / 2 : Nat) : Int)) (1000000 : Int32) = some (ij (V (2 * y + 1 - J / 2))) := by
      rw [f_intAt (by omega) (by omega) (by omega), tn_nat, gC.2.2.2 _ (by omega)]
    have v1 := gI_.1.2.1 (2 * y + J / 2) (by omega)
    have v2 := gI_.1.2.1 (2 * y + 1 - J / 2) (by omega)
    have v3 := gI_.1.2.1 (2 * x + J / 2) (by omega)
    have m3 : ij (V (2 * y + 1 - J / 2) : Nat) + (1 : Int32) = ij ((V (2 * y + 1 - J / 2) + 1 : Nat) : Int) := ij_add _ 1
    have m4 : (if ij ((V (2 * y + 1 - J / 2) + 1 : Nat) : Int) < ij (V (2 * y + J / 2) : Nat) then ij ((V (2 * y + 1 - J / 2) + 1 : Nat) : Int) else ij (V (2 * y + J / 2) : Nat)) = ij ((if V (2 * y + 1 - J / 2) + 1 < V (2 * y + J / 2) then V (2 * y + 1 - J / 2) + 1 else V (2 * y + J / 2) : Nat) : Int) := by
      by_cases q : V (2 * y + 1 - J / 2) + 1 < V (2 * y + J / 2)
      · rw [if_pos q, if_pos (by rw [ij_lt (by omega) (by omega) (by omega) (by omega)]; omega)]
      · rw [if_neg q, if_neg (by rw [ij_lt (by omega) (by omega) (by omega) (by omega)]; omega)]
    obtain ⟨r1, r2⟩ := RI_up (V := V) Ed_rg Ed_opp Ed_fun hx gI_ hJ he rfl
    rw [hy, decide_eq_true g.1, tn_nat, g.2, if_neg (by decide), if_neg (by rw [show (0 : Int32) = ij 0 from rfl, ij_lt (by omega) (by omega) (by omega) (by omega)]; omega), if_neg (by rw [show (768 : Int32) = ij 768 from rfl, ij_le (by omega) (by omega) (by omega) (by omega)]; omega), m1, m2, i1, ob_s, i2, ob_s, vl_s, m3, m4, vl_s, ck_in _ (by omega) (by omega) (by omega), ij_natN (by omega), gC.2.2.2 (2 * x + J / 2) (by omega)]
    have vb : (if V (2 * y + 1 - J / 2) + 1 < V (2 * y + J / 2) then V (2 * y + 1 - J / 2) + 1 else V (2 * y + J / 2)) ≤ 1000001 := by split <;> omega
    generalize (if V (2 * y + 1 - J / 2) + 1 < V (2 * y + J / 2) then V (2 * y + 1 - J / 2) + 1 else V (2 * y + J / 2)) = v at r1 r2 vb ⊢
    by_cases k : V (2 * x + J / 2) ≤ v
    · rw [if_pos (by rw [ij_le (by omega) (by omega) (by omega) (by omega)]; omega), vl_s]
      exact ⟨τ, f, rfl, V, gU, gC, r2 k⟩
    · rw [if_neg (by rw [ij_le (by omega) (by omega) (by omega) (by omega)]; omega), ck_in _ (by omega) (by omega) (by omega), vl_s, vl_s]
      refine ⟨sI τ 128 0 (2 * x + J / 2) (ij v), true, rfl, uq V (2 * x + J / 2) v, gU.tr (Un.sI _ _ _ rfl), CV_up gC _ _, ?_⟩
      rw [Bool.or_true]
      exact r1 (by omega)
  · have e2 : (decide (0 ≤ nbI x J) && opn A β (nbI x J).toNat) = false := by
      by_cases k : 0 ≤ nbI x J
      · have : opn A β (nbI x J).toNat = false := by
          rw [← Bool.not_eq_true]
          exact fun q => g ⟨k, q⟩
        rw [this, Bool.and_false]
      · rw [decide_eq_false k, Bool.false_and]
    rw [e2, if_pos (by decide), vl_s]
    refine ⟨τ, f, rfl, V, gU, gC, RI_no gI_ (fun y he => g ⟨by have := he.2.2.2.1; omega, ?_⟩)⟩
    have e := he.2.2.2.1
    rw [e, tn_nat]
    exact he.2.2.2.2
theorem f_improve (hN : 1000 ≤ N) (hx : x < 384) (hop : opn A β x = true) (c0 : Bool) (g : IS A β a b W σ x 0 c0 τ) : ∃ υ f, fX4_improve N τ (ij x) = some (bi f, υ) ∧ IS A β a b W σ (x + 1) 0 (c0 || f) υ := by
  obtain ⟨⟨f, υ⟩, e, h⟩ := lp_st (S := Bool × St) (fun n j s => fX4_improve_L4 (fun v18 _ σ19 => (some ((vp_nar .boolean v18), σ19))) N (ij x) n (bi s.1) (ij j) s.2) (fun j s => IS A β a b W σ x j (c0 || s.1) s.2) (Nat.zero_le 4) (fun n j s _ hj hP => by
    obtain ⟨υ, f', h1, h2⟩ := IS_step (N := N) hx hop c0 (fun v18 σ19 => (some ((vp_nar .boolean v18), σ19))) n hj hP
    exact ⟨(f', υ), h1, h2⟩) N (false, τ) (by omega) (by show IS A β a b W σ x 0 (c0 || false) τ; rw [Bool.or_false]; exact g)
  obtain ⟨V, h1, h2, h3⟩ := h
  refine ⟨υ, f, ?_, V, h1, h2, RI_cell h3⟩
  unfold fX4_improve
  refine Eq.trans e ?_
  have e2 : N - (4 - 0) = (N - 4 - 1) + 1 := by omega
  show fX4_improve_L4 _ N _ (N - (4 - 0)) (bi f) _ υ = _
  rw [e2]
  simp only [fX4_improve_L4]
  rw [if_pos (by decide), bi_nar]
theorem f_round (hN : 1000 ≤ N) (K : Int32 → St → Option (Int32 × St)) (g : CV A β a b τ W) (hW : RV (Ed A β) a W) (gU : Un T128 σ τ) : ∃ υ ch V, fX4_fewestTurnsByRounds_L53 (fun v _ s => K v s) N N (ij 0) (ij 0) τ = K (bi ch) υ ∧ Un T128 σ υ ∧ CV A β a b υ V ∧ RI (Ed A β) a W V 384 0 ch := by
  obtain ⟨⟨ch, υ⟩, e, V, h1, h2, h3⟩ := lp_st (S := Bool × St) (fun n j s => fX4_fewestTurnsByRounds_L53 (fun v _ s => K v s) N n (bi s.1) (ij j) s.2) (fun j s => IS A β a b W σ j 0 s.1 s.2) (Nat.zero_le 384) (fun n j s _ hj hP => by
    obtain ⟨f, τ⟩ := s
    have hP : IS A β a b W σ j 0 f τ := hP
    show ∃ s', fX4_fewestTurnsByRounds_L53 (fun v _ s => K v s) N (n + 1) (bi f) (ij j) τ = _ ∧ _
    have hm : gI τ 127 0 j = bi (opn A β j) := by
      obtain ⟨V, _, h2, _⟩ := hP
      exact h2.1 j hj
    have hj1 : ij (j : Int) + (1 : Int32) = ij ((j + 1 : Nat) : Int) := ij_add _ 1
    simp only [fX4_fewestTurnsByRounds_L53]
    rw [if_neg (by rw [show (384 : Int32) = ij 384 from rfl, ij_le (by omega) (by omega) (by omega) (by omega)]; omega), ck_in _ (by omega) (by omega) (by omega), ij_natN (by omega), hm, hj1]
    cases ho : opn A β j with
    | false =>
      rw [if_pos (by decide), vl_s]
      obtain ⟨V, h1, h2, h3⟩ := hP
      exact ⟨(f, τ), rfl, V, h1, h2, RI_wall h3 (fun d y he => by have := he.2.2.1; rw [ho] at this; cases this)⟩
    | true =>
      obtain ⟨υ, f', e1, g1⟩ := f_improve (N := N) hN hj ho f hP
      rw [if_neg (by decide), e1, o2_s]
      cases f' with
      | false =>
        rw [if_pos (by decide), vl_s]
        rw [Bool.or_false] at g1
        exact ⟨(f, υ), rfl, g1⟩
      | true =>
        rw [if_neg (by decide), vl_s]
        rw [Bool.or_true] at g1
        exact ⟨(true, υ), rfl, g1⟩) N (false, τ) (by omega) ⟨W, gU, g, RI_start hW⟩
  refine ⟨υ, ch, V, ?_, h1, h2, h3⟩
  refine Eq.trans e ?_
  have e2 : N - (384 - 0) = (N - 384 - 1) + 1 := by omega
  show fX4_fewestTurnsByRounds_L53 _ N (N - (384 - 0)) (bi ch) _ υ = _
  rw [e2]
  simp only [fX4_fewestTurnsByRounds_L53]
  rw [if_pos (by decide)]
theorem f_rounds (hN : 1000 ≤ N) (ha : a < 384) (K : St → Option (Int32 × St)) : ∀ m k V τ, 768 - k = m → k ≤ 768 → ∀ ch, Un T128 σ τ → CV A β a b τ V → SR_ (Ed A β) a k V → (ch = false → ∀ s, s < 768 → sd (Ed A β) a V s) → ∀ n, m < n → ∃ υ V', fX4_fewestTurnsByRounds_L38 (fun _ _ s => K s) N n (bi ch) (ij (k : Nat)) τ = K υ ∧ Un T128 σ υ ∧ CV A β a b υ V' ∧ RV (Ed A β) a V' ∧ ∀ s, s < 768 → sd (Ed A β) a V' s := by
  intro m
  induction m with
  | zero =>
    intro k V τ hm hk ch gU gC gS gF n hn
    have e : n = (n - 1) + 1 := by omega
    refine ⟨τ, V, ?_, gU, gC, gS.1, SR_all gS (by omega)⟩
    rw [e]
    simp only [fX4_fewestTurnsByRounds_L38]
    rw [if_pos (by rw [show (768 : Int32) = ij 768 from rfl, ij_le (by omega) (by omega) (by omega) (by omega)]; omega)]
  | succ m ih =>
    intro k V τ hm hk ch gU gC gS gF n hn
    have e : n = (n - 1) + 1 := by omega
    have n7 : ¬ (768 : Int32) ≤ ij (k : Nat) := by
      rw [show (768 : Int32) = ij 768 from rfl, ij_le (by omega) (by omega) (by omega) (by omega)]
      omega
    cases ch with
    | false =>
      refine ⟨τ, V, ?_, gU, gC, gS.1, gF rfl⟩
      rw [e]
      simp only [fX4_fewestTurnsByRounds_L38]
      rw [if_neg n7, if_pos (by decide)]
    | true =>
      obtain ⟨υ, ch', V', e1, u1, c1, r1⟩ := f_round (N := N) hN (fun v15 σ16 => (vl (ij (k : Nat) + (1 : Int32)) fun v17 => (fX4_fewestTurnsByRounds_L38 (fun _ _ s => K s) N (n - 1) v15 v17 σ16))) gC gS.1 gU
      obtain ⟨ω, V2, w1, w2⟩ := ih (k + 1) V' υ (by omega) (by omega) ch' u1 c1 (SR_round Ed_rg Ed_opp ha gS r1) (fun q => by subst q; exact RI_same Ed_rg Ed_opp ha r1) (n - 1) (by omega)
      refine ⟨ω, V2, ?_, w2⟩
      rw [e]
      simp only [fX4_fewestTurnsByRounds_L38]
      rw [if_neg n7, if_neg (by decide)]
      refine Eq.trans e1 ?_
      show vl _ _ = _
      rw [vl_s, show ij (k : Int) + (1 : Int32) = ij ((k + 1 : Nat) : Int) from ij_add _ 1]
      exact w1
theorem f_tae (hb : b < 384) (g : CV A β a b τ V) (hV : ∀ s, s < 768 → V s ≤ 1000000) : fX4_turnsAtEnd N τ = some (ij (mn2 V b)) := by
  have e1 : ij (b : Int) * (2 : Int32) = ij ((2 * b : Nat) : Int) := by
    rw [show (2 : Int32) = ij 2 from rfl, ij_mul]
    congr 1
    omega
  have e2 : ij ((2 * b : Nat) : Int) + (1 : Int32) = ij ((2 * b + 1 : Nat) : Int) := ij_add _ 1
  have v1 := hV (2 * b) (by omega)
  have v2 := hV (2 * b + 1) (by omega)
  unfold fX4_turnsAtEnd
  rw [g.2.2.1, e1, e2, f_intAt (by omega) (by omega) (by omega), ob_s, f_intAt (by omega) (by omega) (by omega), ob_s, tn_nat, tn_nat, g.2.2.2 _ (by omega), g.2.2.2 _ (by omega)]
  unfold mn2
  by_cases k : V (2 * b + 1) < V (2 * b)
  · rw [if_pos k, if_pos (by rw [ij_lt (by omega) (by omega) (by omega) (by omega)]; omega)]
  · rw [if_neg k, if_neg (by rw [ij_lt (by omega) (by omega) (by omega) (by omega)]; omega)]
theorem f_byRounds (hN : 1000 ≤ N) (hm : ∀ x, x < 384 → gI σ 127 0 x = bi (opn A β x)) (ha : a < 384) (hb : b < 384) (g7 : gI σ 6 0 7 = ij (a : Nat)) (g8 : gI σ 6 0 8 = ij (b : Nat)) (hao : opn A β a = true) (hbo : opn A β b = true) : ∃ υ v, fX4_fewestTurnsByRounds N σ = some (ij v, υ) ∧ Un T128 σ υ ∧ ((v = -1 ∧ ∀ c t ax, ¬ Rc (Ed A β) a c t b ax) ∨ ∃ T : Nat, v = (T : Nat) ∧ (∃ c ax, Rc (Ed A β) a c T b ax) ∧ ∀ c t ax, Rc (Ed A β) a c t b ax → T ≤ t) := by
  obtain ⟨τ, e1, u1, v1⟩ := f_startAnew (N := N) (σ := σ) hN ha g7
  have i1 : fX7_isAt N σ 127 0 384 (ij a) = some (bi true) := f_isAt (by omega) (by omega) (by omega) (by rw [tn_nat, hm a ha, hao])
  have i2 : fX7_isAt N σ 127 0 384 (ij b) = some (bi true) := f_isAt (by omega) (by omega) (by omega) (by rw [tn_nat, hm b hb, hbo])
  have cv : CV A β a b τ (V0 a) := ⟨fun x hx => by rw [u1.I 127 0 rfl]; exact hm x hx, by rw [u1.I 6 0 rfl]; exact g7, by rw [u1.I 6 0 rfl]; exact g8, v1⟩
  have rv : RV (Ed A β) a (V0 a) := ⟨V0_snd, fun s hs => by rcases V0_rg (a := a) s with ⟨e, _⟩ | ⟨e, _⟩ <;> omega, V0_a.1, V0_a.2⟩
  obtain ⟨υ, V, e2, u2, c2, r2, s2⟩ := f_rounds (N := N) (σ := σ) (b := b) hN ha (fun σ18 => (ob (fX4_turnsAtEnd N σ18) fun v19 => (if (1000000 : Int32) ≤ v19 then (some (((-1) : Int32), σ18)) else (ob (fX4_turnsAtEnd N σ18) fun v20 => (some (v20, σ18)))))) 768 0 (V0 a) τ rfl (by omega) true u1 cv ⟨rv, Or.inr ⟨fun _ => false, ⟨fun s _ q => absurd q Bool.false_ne_true, Nat.zero_le _⟩⟩⟩ (fun q => by cases q) N (by omega)
  have te := f_tae (N := N) hb c2 r2.2.1
  obtain ⟨f1, f2⟩ := sd_end Ed_rg ha hb r2 s2 (m := mn2 V b) rfl
  have mb : mn2 V b ≤ 1000000 := by
    unfold mn2
    have := r2.2.1 (2 * b) (by omega)
    have := r2.2.1 (2 * b + 1) (by omega)
    split <;> omega
  have E0 : fX4_fewestTurnsByRounds N σ = (ob (fX4_turnsAtEnd N υ) fun v19 => (if (1000000 : Int32) ≤ v19 then (some (((-1) : Int32), υ)) else (ob (fX4_turnsAtEnd N υ) fun v20 => (some (v20, υ))))) := by
    unfold fX4_fewestTurnsByRounds
    rw [g7, i1, ob_s, if_neg (by decide), g8, i2, ob_s, if_neg (by decide), e1, ob_s]
    exact e2
  rw [te, ob_s] at E0
  by_cases k : mn2 V b < 1000000
  · rw [if_neg (by rw [show (1000000 : Int32) = ij 1000000 from rfl, ij_le (by omega) (by omega) (by omega) (by omega)]; omega), ob_s] at E0
    exact ⟨υ, mn2 V b, E0, u2, Or.inr ⟨mn2 V b, rfl, f1 k⟩⟩
  · rw [if_pos (by rw [show (1000000 : Int32) = ij 1000000 from rfl, ij_le (by omega) (by omega) (by omega) (by omega)]; omega)] at E0
    exact ⟨υ, -1, E0.trans rfl, u2, Or.inl ⟨rfl, f2 (by omega)⟩⟩
end T2_
