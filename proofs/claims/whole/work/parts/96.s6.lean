/-! The class's search, from its start. -/
def T128 : Nat → Nat → Bool := fun c q => c == 128 && q == 0
def V0 (a : Nat) : Nat → Nat := fun s => if s = 2 * a ∨ s = 2 * a + 1 then 0 else 1000000
section S6_
variable {A : Ab} {N : Nat} {σ : St} {β : Nat → Nat} {a b : Nat}
theorem f_startAnew (hN : 1000 ≤ N) (ha : a < 384) (g7 : gI σ 6 0 7 = ij (a : Nat)) : ∃ τ, fX4_startAnew N σ = some τ ∧ Un T128 σ τ ∧ ∀ s, s < 768 → gI τ 128 0 s = ij (V0 a s) := by
  obtain ⟨τ, e, hU, hP⟩ := lp_st (fun n j τ => fX4_startAnew_L2 (fun _ σ5 => (if (gI σ5 6 0 7) < 0 then (some σ5) else (if (384 : Int32) ≤ (gI σ5 6 0 7) then (some σ5) else (ck (inb ((gI σ5 6 0 7) * (2 : Int32)) 768) (vl (sI σ5 128 0 (Int32.toNatClampNeg ((gI σ5 6 0 7) * (2 : Int32))) (0 : Int32)) fun σ6 => (ck (inb (((gI σ6 6 0 7) * (2 : Int32)) + (1 : Int32)) 768) (vl (sI σ6 128 0 (Int32.toNatClampNeg (((gI σ6 6 0 7) * (2 : Int32)) + (1 : Int32))) (0 : Int32)) fun σ7 => (some σ7)))))))) N n (ij j) τ) (fun j τ => Un T128 σ τ ∧ ∀ s, s < j → gI τ 128 0 s = ij 1000000) (Nat.zero_le 768) (fun n j τ _ hj hP => by
      obtain ⟨hU, hP⟩ := hP
      refine ⟨sI τ 128 0 j (ij 1000000), ?_, hU.tr (Un.sI _ _ _ rfl), fun s hs => ?_⟩
      · simp only [fX4_startAnew_L2]
        rw [if_neg (by rw [show (768 : Int32) = ij 768 from rfl, ij_le (by omega) (by omega) (by omega) (by omega)]; omega), ck_in _ (by omega) (by omega) (by omega), vl_s, vl_s, ij_natN (by omega), show ij (j : Int) + (1 : Int32) = ij ((j + 1 : Nat) : Int) from ij_add _ 1]
        rfl
      · rw [gI_sI_eq]
        by_cases g : s = j
        · rw [if_pos g]
        · rw [if_neg g]; exact hP s (by omega)) N σ (by omega) ⟨Un.rfl, fun c hc => by omega⟩
  have g7' : gI τ 6 0 7 = ij (a : Nat) := by rw [hU.I 6 0 rfl]; exact g7
  have e1 : ij (a : Int) * (2 : Int32) = ij ((2 * a : Nat) : Int) := by
    rw [show (2 : Int32) = ij 2 from rfl, ij_mul]
    congr 1
    omega
  have e2 : ij ((2 * a : Nat) : Int) + (1 : Int32) = ij ((2 * a + 1 : Nat) : Int) := ij_add _ 1
  refine ⟨sI (sI τ 128 0 (2 * a) (ij 0)) 128 0 (2 * a + 1) (ij 0), ?_, (hU.tr (Un.sI _ _ _ rfl)).tr (Un.sI _ _ _ rfl), fun s hs => ?_⟩
  · unfold fX4_startAnew
    refine Eq.trans e ?_
    have e3 : N - (768 - 0) = (N - 768 - 1) + 1 := by omega
    show fX4_startAnew_L2 _ N (N - (768 - 0)) _ τ = _
    rw [e3]
    simp only [fX4_startAnew_L2]
    rw [if_pos (by decide), g7', if_neg (by rw [show (0 : Int32) = ij 0 from rfl, ij_lt (by omega) (by omega) (by omega) (by omega)]; omega), if_neg (by rw [show (384 : Int32) = ij 384 from rfl, ij_le (by omega) (by omega) (by omega) (by omega)]; omega), e1, ck_in _ (by omega) (by omega) (by omega), vl_s, ij_natN (by omega), gI_sI_ne (by omega), g7', e1, e2, ck_in _ (by omega) (by omega) (by omega), vl_s, ij_natN (by omega)]
    rfl
  · unfold V0
    rw [gI_sI_eq, gI_sI_eq]
    by_cases k1 : s = 2 * a + 1
    · rw [if_pos k1, if_pos (Or.inr k1)]; rfl
    · rw [if_neg k1]
      by_cases k2 : s = 2 * a
      · rw [if_pos k2, if_pos (Or.inl k2)]; rfl
      · rw [if_neg k2, if_neg (by omega)]
        exact hP s hs
theorem V0_a : V0 a (2 * a) = 0 ∧ V0 a (2 * a + 1) = 0 := ⟨if_pos (Or.inl rfl), if_pos (Or.inr rfl)⟩
theorem V0_rg (s : Nat) : V0 a s = 0 ∧ (s = 2 * a ∨ s = 2 * a + 1) ∨ V0 a s = 1000000 ∧ s ≠ 2 * a ∧ s ≠ 2 * a + 1 := by
  unfold V0
  by_cases k : s = 2 * a ∨ s = 2 * a + 1
  · rw [if_pos k]; exact Or.inl ⟨rfl, k⟩
  · rw [if_neg k]; exact Or.inr ⟨rfl, by omega, by omega⟩
theorem V0_snd {E : Nat → Nat → Nat → Prop} : ∀ s, s < 768 → V0 a s < 1000000 → ∃ c, Rc E a c (V0 a s) (s / 2) (s % 2) := by
  intro s hs hv
  rcases V0_rg (a := a) s with ⟨e, q⟩ | ⟨e, _⟩
  · rw [e]
    refine ⟨1, ?_⟩
    rw [show s / 2 = a by omega]
    exact Rc_st E a (by omega)
  · omega
def H0 (a : Nat) : Nat → Nat := fun i => 2 * a + i
theorem SI_zero {E : Nat → Nat → Nat → Prop} (ha : a < 384) : SI E a b 0 0 2 0 (V0 a) (H0 a) (H0 a) := by
  have z := V0_a (a := a)
  refine ⟨⟨V0_snd, fun s hs => ?_, z.1, z.2, fun s hs hv => absurd hv (by omega), Nat.zero_le _, Nat.zero_le _⟩, ⟨fun i hi => ?_, fun i j hi hj q => ?_, fun s hs q => ?_⟩, ⟨fun i hi => by omega, fun i j hi => by omega, fun s hs q => ?_⟩, fun j hj => by omega⟩
  · rcases V0_rg (a := a) s with ⟨e, q⟩ | ⟨e, _⟩ <;> omega
  · unfold H0
    refine ⟨by omega, ?_⟩
    rcases V0_rg (a := a) (2 * a + i) with ⟨e, q⟩ | ⟨e, _⟩ <;> omega
  · unfold H0 at q
    omega
  · rcases V0_rg (a := a) s with ⟨e, q⟩ | ⟨e, _⟩
    · exact ⟨s - 2 * a, by omega, by unfold H0; omega⟩
    · omega
  · rcases V0_rg (a := a) s with ⟨e, q⟩ | ⟨e, _⟩ <;> omega
theorem CSt_push {τ : St} {V H G : Nat → Nat} {h l u : Nat} (g : CSt A β a b τ V H h G l) (hh : h < 768) : fX4_pushHere N τ (ij u) = some (sI (sI τ 131 (gR τ 0) h (ij u)) 6 0 5 (ij (h + 1))) ∧ CSt A β a b (sI (sI τ 131 (gR τ 0) h (ij u)) 6 0 5 (ij (h + 1))) V (uq H h u) (h + 1) G l ∧ Un Ts τ (sI (sI τ 131 (gR τ 0) h (ij u)) 6 0 5 (ij (h + 1))) := by
  obtain ⟨k1, k2, k3, k4, k5, k6, k7, k8, k9⟩ := g
  have r2 : gR τ 0 < 2 ∧ gR τ 1 ≠ gR τ 0 := by rcases k1 with ⟨x, y⟩ | ⟨x, y⟩ <;> rw [x, y] <;> omega
  refine ⟨f_pushHere (r := gR τ 0) rfl r2.1 k6 hh, ⟨k1, fun x hx => ?_, ?_, ?_, fun s hs => ?_, ?_, fun i hi => ?_, ?_, fun i hi => ?_⟩, ?_⟩
  · rw [gI_sI_ne (by omega), gI_sI_ne (by omega)]; exact k2 x hx
  · rw [gI_sI_eq, if_neg (by omega), gI_sI_ne (by omega)]; exact k3
  · rw [gI_sI_eq, if_neg (by omega), gI_sI_ne (by omega)]; exact k4
  · rw [gI_sI_ne (by omega), gI_sI_ne (by omega)]; exact k5 s hs
  · rw [gI_sI_eq, if_pos rfl]; rfl
  · show gI _ 131 (gR τ 0) i = _
    rw [gI_sI_ne (by omega), gI_sI_eq]
    by_cases q : i = h
    · rw [if_pos q, q, uq_eq]
    · rw [if_neg q, uq_ne q]; exact k7 i (by omega)
  · rw [gI_sI_eq, if_neg (by omega), gI_sI_ne (by omega)]; exact k8
  · show gI _ 131 (gR τ 1) i = _
    rw [gI_sI_ne (by omega), gI_sI, if_neg (fun q => r2.2 q.2.1)]
    exact k9 i hi
  · have t1 : Ts 131 (gR τ 0) = true := by rcases k1 with ⟨x, y⟩ | ⟨x, y⟩ <;> rw [x] <;> rfl
    exact (Un.sI _ _ _ t1).tr (Un.sI _ _ _ rfl)
/-- fewestTurns -/
theorem f_fewestTurns (hN : 1000 ≤ N) (hR : RfC σ) (hm : ∀ x, x < 384 → gI σ 127 0 x = bi (opn A β x)) (ha : a < 384) (hb : b < 384) (g7 : gI σ 6 0 7 = ij (a : Nat)) (g8 : gI σ 6 0 8 = ij (b : Nat)) (hao : opn A β a = true) (hbo : opn A β b = true) : ∃ υ v, fX4_fewestTurns N σ = some (ij v, υ) ∧ FTr A β a b σ υ v := by
  obtain ⟨τ, e1, u1, v1⟩ := f_startAnew (N := N) (σ := σ) hN ha g7
  have uTs : ∀ {σ τ : St}, Un T128 σ τ → Un Ts σ τ := fun h => ⟨fun c o e => h.1 c o (by unfold Ts at e; unfold T128; simp at e ⊢; omega), h.2.1, fun _ => h.2.2 rfl⟩
  have hRτ : RfC τ := by
    have := u1.2.2 rfl
    unfold RfC gR
    rw [this]
    exact hR
  have cI : ∀ x, gI τ 6 0 x = gI σ 6 0 x := fun x => by rw [u1.I 6 0 rfl]
  have c127 : ∀ x, gI τ 127 0 x = gI σ 127 0 x := fun x => by rw [u1.I 127 0 rfl]
  have C0 : CSt A β a b (sI (sI τ 6 0 5 (ij 0)) 6 0 6 (ij 0)) (V0 a) (H0 a) 0 (H0 a) 0 := by
    refine ⟨hRτ, fun x hx => ?_, ?_, ?_, fun s hs => ?_, ?_, fun i hi => by omega, ?_, fun i hi => by omega⟩
    · rw [gI_sI_ne (by omega), gI_sI_ne (by omega), c127]; exact hm x hx
    · rw [gI_sI_eq, if_neg (by omega), gI_sI_eq, if_neg (by omega), cI]; exact g7
    · rw [gI_sI_eq, if_neg (by omega), gI_sI_eq, if_neg (by omega), cI]; exact g8
    · rw [gI_sI_ne (by omega), gI_sI_ne (by omega)]; exact v1 s hs
    · rw [gI_sI_eq, if_neg (by omega), gI_sI_eq, if_pos rfl]; rfl
    · rw [gI_sI_eq, if_pos rfl]; rfl
  obtain ⟨p1, p2, p3⟩ := CSt_push (N := N) (u := 2 * a) C0 (by omega)
  obtain ⟨q1, q2, q3⟩ := CSt_push (N := N) (u := 2 * a + 1) p2 (by omega)
  have m1 : ij (a : Int) * (2 : Int32) = ij ((2 * a : Nat) : Int) := by
    rw [show (2 : Int32) = ij 2 from rfl, ij_mul]
    congr 1
    omega
  have m2 : ij ((2 * a : Nat) : Int) + (1 : Int32) = ij ((2 * a + 1 : Nat) : Int) := ij_add _ 1
  have i1 : fX7_isAt N σ 127 0 384 (ij a) = some (bi true) := f_isAt (by omega) (by omega) (by omega) (by rw [tn_nat, hm a ha, hao])
  have i2 : fX7_isAt N σ 127 0 384 (ij b) = some (bi true) := f_isAt (by omega) (by omega) (by omega) (by rw [tn_nat, hm b hb, hbo])
  have S0 := SI_zero (E := Ed A β) (b := b) ha
  have Heq : ∀ i, i < 2 → uq (uq (H0 a) 0 (2 * a)) (0 + 1) (2 * a + 1) i = H0 a i := by
    intro i hi
    have : i = 0 ∨ i = 1 := by omega
    rcases this with rfl | rfl
    · rw [uq_ne (by omega), uq_eq]; rfl
    · exact uq_eq
  have C2 : CSt A β a b _ (V0 a) (H0 a) 2 (H0 a) 0 := ⟨q2.1, q2.2.1, q2.2.2.1, q2.2.2.2.1, q2.2.2.2.2.1, q2.2.2.2.2.2.1, fun i hi => by rw [q2.2.2.2.2.2.2.1 i hi, Heq i hi], q2.2.2.2.2.2.2.2.1, q2.2.2.2.2.2.2.2.2⟩
  obtain ⟨υ, v, w1, w2⟩ := f_levels (N := N) hN ha hb hao 768 0 2 (V0 a) _ rfl (by omega) ⟨H0 a, H0 a, ((uTs u1).tr ((Un.sI _ _ _ rfl).tr (Un.sI _ _ _ rfl))).tr (p3.tr q3), C2, S0⟩ N (by omega)
  refine ⟨υ, v, ?_, w2⟩
  unfold fX4_fewestTurns
  rw [g7, i1, ob_s, if_neg (by decide), g8, i2, ob_s, if_neg (by decide), e1, ob_s, vl_s, vl_s]
  show ob (fX4_pushHere N (sI (sI τ 6 0 5 (ij 0)) 6 0 6 (ij 0)) (gI (sI (sI τ 6 0 5 (ij 0)) 6 0 6 (ij 0)) 6 0 7 * 2)) _ = _
  rw [C0.2.2.1, m1, p1, ob_s, p2.2.2.1, m1, m2, q1, ob_s]
  exact w1
end S6_
