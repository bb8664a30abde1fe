/-! fewestCells, the whole. -/
def C0 (a : Nat) : Nat → Nat := fun s => if s = 2 * a ∨ s = 2 * a + 1 then 1 else 0
section S9_
variable {A : Ab} {N : Nat} {σ τ : St} {β : Nat → Nat} {a b h l T : Nat} {V H G Cn : Nat → Nat}
theorem C0_rg (s : Nat) : C0 a s = 1 ∧ (s = 2 * a ∨ s = 2 * a + 1) ∨ C0 a s = 0 ∧ s ≠ 2 * a ∧ s ≠ 2 * a + 1 := by
  unfold C0
  by_cases k : s = 2 * a ∨ s = 2 * a + 1
  · rw [if_pos k]; exact Or.inl ⟨rfl, k⟩
  · rw [if_neg k]; exact Or.inr ⟨rfl, by omega, by omega⟩
theorem QI_zero {E : Nat → Nat → Nat → Prop} (ha : a < 384) (hV : FV E a b T V) : QI E a b T V 0 2 (C0 a) (H0 a) := by
  have c1 : ∀ j, j < 2 → C0 a (H0 a j) = 1 := fun j hj => if_pos (by unfold H0; omega)
  refine ⟨fun j hj => ?_, fun j k hj hk q => ?_, fun s hs hc => ?_, fun j k hj hk => ?_, fun j hj h0 => ?_, fun j hj => by omega, fun j hj => by omega, if_pos (Or.inl rfl), if_pos (Or.inr rfl)⟩
  · rw [c1 j hj]
    exact ⟨by unfold H0; omega, by omega, by omega⟩
  · unfold H0 at q
    omega
  · rcases C0_rg (a := a) s with ⟨e, q⟩ | ⟨e, _⟩
    · have ev : V s = 0 := by
        rcases q with rfl | rfl
        · exact hV.2.2.2.1
        · exact hV.2.2.2.2.1
      refine ⟨⟨s - 2 * a, by omega, by unfold H0; omega⟩, by omega, ?_⟩
      rw [e, ev, show s / 2 = a by omega]
      exact Rc_st E a (by omega)
    · omega
  · rw [c1 j (by omega), c1 k hk]
    exact Nat.le_refl _
  · rw [c1 j hj]
    omega
theorem CSt_h0 (g : CSt A β a b τ V H h G l) : CSt A β a b (sI τ 6 0 5 (ij 0)) V (H0 a) 0 G l := by
  obtain ⟨k1, k2, k3, k4, k5, k6, k7, k8, k9⟩ := g
  exact ⟨k1, fun x hx => by rw [gI_sI_ne (by omega)]; exact k2 x hx, by rw [gI_sI_eq, if_neg (by omega)]; exact k3, by rw [gI_sI_eq, if_neg (by omega)]; exact k4, fun s hs => by rw [gI_sI_ne (by omega)]; exact k5 s hs, by rw [gI_sI_eq, if_pos rfl]; rfl, fun i hi => by omega, by rw [gI_sI_eq, if_neg (by omega)]; exact k8, fun i hi => by rw [gI_sI_ne (by omega)]; exact k9 i hi⟩
theorem f_zero129 (hN : 1000 ≤ N) (g : CSt A β a b τ V H h G l) (K : St → Option (Int32 × St)) : ∃ υ, fX4_fewestCells_L14 (fun _ s => K s) N N (ij 0) τ = K υ ∧ Un Ts τ υ ∧ CB A β a b υ V H h G l (fun _ => 0) := by
  obtain ⟨υ, e, hU, hC, hP⟩ := lp_st (fun n j τ => fX4_fewestCells_L14 (fun _ s => K s) N n (ij j) τ) (fun j υ => Un Ts τ υ ∧ CSt A β a b υ V H h G l ∧ ∀ s, s < j → gI υ 129 0 s = ij 0) (Nat.zero_le 768) (fun n j υ _ hj hP => by
      obtain ⟨hU, hC, hP⟩ := hP
      refine ⟨sI υ 129 0 j (ij 0), ?_, hU.tr (Un.sI _ _ _ rfl), CSt_129 hC, fun s hs => ?_⟩
      · simp only [fX4_fewestCells_L14]
        rw [if_neg (by rw [show (768 : Int32) = ij 768 from rfl, ij_le (by omega) (by omega) (by omega) (by omega)]; omega), ck_in _ (by omega) (by omega) (by omega), vl_s, vl_s, ij_natN (by omega), show ij (j : Int) + (1 : Int32) = ij ((j + 1 : Nat) : Int) from ij_add _ 1]
        rfl
      · rw [gI_sI_eq]
        by_cases q : s = j
        · rw [if_pos q]
        · rw [if_neg q]; exact hP s (by omega)) N τ (by omega) ⟨Un.rfl, g, fun c hc => by omega⟩
  refine ⟨υ, ?_, hU, hC, fun s hs => hP s hs⟩
  refine Eq.trans e ?_
  have e2 : N - (768 - 0) = (N - 768 - 1) + 1 := by omega
  show fX4_fewestCells_L14 _ N (N - (768 - 0)) _ υ = _
  rw [e2]
  simp only [fX4_fewestCells_L14]
  rw [if_pos (by decide)]
/-- what fewestCells answers -/
def FCr (A : Ab) (β : Nat → Nat) (a b : Nat) (σ υ : St) (v : Int) : Prop := Un Ts σ υ ∧ RfC υ ∧ ((v = -1 ∧ ∀ c t ax, ¬ Rc (Ed A β) a c t b ax) ∨ ∃ T C : Nat, v = (C : Nat) ∧ T < 768 ∧ BestC (Ed A β) a b T C)
theorem f_fewestCells (hN : 1000 ≤ N) (hR : RfC σ) (hm : ∀ x, x < 384 → gI σ 127 0 x = bi (opn A β x)) (ha : a < 384) (hb : b < 384) (g7 : gI σ 6 0 7 = ij (a : Nat)) (g8 : gI σ 6 0 8 = ij (b : Nat)) (hao : opn A β a = true) (hbo : opn A β b = true) : ∃ υ v, fX4_fewestCells N σ = some (ij v, υ) ∧ FCr A β a b σ υ v := by
  obtain ⟨τ, v, e1, u1, r1⟩ := f_fewestTurns (N := N) (A := A) (β := β) hN hR hm ha hb g7 g8 hao hbo
  rcases r1 with ⟨rfl, r2, r3⟩ | ⟨T, V, H, h, G, l, rfl, hT, hC, hV⟩
  · refine ⟨τ, -1, ?_, u1, r2, Or.inl ⟨rfl, r3⟩⟩
    unfold fX4_fewestCells
    rw [e1, o2_s, if_pos (by decide)]
    rfl
  · obtain ⟨υ, e2, u2, c2⟩ := f_zero129 (N := N) hN hC (fun σ7 => (vl (sI σ7 6 0 5 (0 : Int32)) fun σ8 => (ob (fX4_count N σ8 ((gI σ8 6 0 7) * (2 : Int32)) (1 : Int32)) fun σ9 => (ob (fX4_count N σ9 (((gI σ9 6 0 7) * (2 : Int32)) + (1 : Int32)) (1 : Int32)) fun σ10 => (fX4_fewestCells_L65 (fun _ σ21 => (some (((-1) : Int32), σ21))) N (ij (T : Nat)) N (0 : Int32) σ10)))))
    have c3 : CB A β a b (sI υ 6 0 5 (ij 0)) V (H0 a) 0 G l (fun _ => 0) := ⟨CSt_h0 c2.1, fun s hs => by rw [gI_sI_ne (by omega)]; exact c2.2 s hs⟩
    have m1 : ij (a : Int) * (2 : Int32) = ij ((2 * a : Nat) : Int) := by
      rw [show (2 : Int32) = ij 2 from rfl, ij_mul]
      congr 1
      omega
    have m2 : ij ((2 * a : Nat) : Int) + (1 : Int32) = ij ((2 * a + 1 : Nat) : Int) := ij_add _ 1
    obtain ⟨τ1, p1, p2, p3⟩ := f_count1 (N := N) c3 (by omega) (u := 2 * a) (len := 1) (by omega) rfl
    obtain ⟨τ2, q1, q2, q3⟩ := f_count1 (N := N) p3 (by omega) (u := 2 * a + 1) (len := 1) (by omega) (uq_ne (by omega))
    have Heq : ∀ i, i < 2 → uq (uq (H0 a) 0 (2 * a)) (0 + 1) (2 * a + 1) i = H0 a i := by
      intro i hi
      have : i = 0 ∨ i = 1 := by omega
      rcases this with rfl | rfl
      · rw [uq_ne (by omega), uq_eq]; rfl
      · exact uq_eq
    have Ceq : ∀ s, uq (uq (fun _ => 0) (2 * a) 1) (2 * a + 1) 1 s = C0 a s := by
      intro s
      unfold C0
      by_cases k1 : s = 2 * a + 1
      · rw [if_pos (Or.inr k1), k1, uq_eq]
      · rw [uq_ne k1]
        by_cases k2 : s = 2 * a
        · rw [if_pos (Or.inl k2), k2, uq_eq]
        · rw [uq_ne k2, if_neg (by omega)]
    obtain ⟨z1, z2⟩ := q3
    have c4 : CB A β a b τ2 V (H0 a) 2 G l (C0 a) := ⟨⟨z1.1, z1.2.1, z1.2.2.1, z1.2.2.2.1, z1.2.2.2.2.1, z1.2.2.2.2.2.1, fun i hi => by rw [z1.2.2.2.2.2.2.1 i hi, Heq i hi], z1.2.2.2.2.2.2.2.1, z1.2.2.2.2.2.2.2.2⟩, fun s hs => by rw [z2 s hs, Ceq]⟩
    obtain ⟨ω, C, w1, w2, w3, w4⟩ := f_cellsQ (N := N) (σ := σ) hN ha hb hao hT hV 768 0 2 τ2 rfl (by omega) ⟨H0 a, C0 a, (((u1.tr u2).tr (Un.sI _ _ _ rfl)).tr p2).tr q2, c4, QI_zero ha hV⟩ N (by omega)
    refine ⟨ω, (C : Nat), ?_, w2, w3, Or.inr ⟨T, C, rfl, hT, w4⟩⟩
    unfold fX4_fewestCells
    rw [e1, o2_s, if_neg (by rw [show (-1 : Int32) = ij (-1) from rfl, ij_eq (by omega) (by omega) (by omega) (by omega)]; omega)]
    refine Eq.trans e2 ?_
    show ob (fX4_count N (sI υ 6 0 5 (ij 0)) (gI (sI υ 6 0 5 (ij 0)) 6 0 7 * 2) (ij ((1 : Nat) : Int))) _ = _
    rw [c3.1.2.2.1, m1, p1, ob_s, p3.1.2.2.1, m1, m2]
    show ob (fX4_count N τ1 (ij ((2 * a + 1 : Nat) : Int)) (ij ((1 : Nat) : Int))) _ = _
    rw [q1, ob_s]
    exact w1
theorem BestC_T {E : Nat → Nat → Nat → Prop} {T T' C : Nat} (h : BestC E a b T C) (h1 : ∃ c ax, Rc E a c T' b ax) (h2 : ∀ c t ax, Rc E a c t b ax → T' ≤ t) : T' = T := by
  obtain ⟨c, ax, k⟩ := h1
  obtain ⟨ax', k'⟩ := h.2.1
  have := h2 _ _ _ k'
  have := h.2.2 _ _ _ k
  omega
end S9_
