/-! Fewest cells: the class. -/
def CB (A : Ab) (β : Nat → Nat) (a b : Nat) (τ : St) (V H : Nat → Nat) (h : Nat) (G : Nat → Nat) (l : Nat) (Cn : Nat → Nat) : Prop := CSt A β a b τ V H h G l ∧ ∀ s, s < 768 → gI τ 129 0 s = ij (Cn s)
def BestC (E : Nat → Nat → Nat → Prop) (a b T C : Nat) : Prop := C ≤ 768 ∧ (∃ ax, Rc E a C T b ax) ∧ ∀ c t ax, Rc E a c t b ax → T < t ∨ (t = T ∧ C ≤ c)
section S8_
variable {A : Ab} {N : Nat} {σ τ : St} {β : Nat → Nat} {a b h l T i c m J : Nat} {V H G Cn : Nat → Nat}
theorem CSt_129 {u : Nat} {v : Int32} (g : CSt A β a b τ V H h G l) : CSt A β a b (sI τ 129 0 u v) V H h G l := by
  obtain ⟨k1, k2, k3, k4, k5, k6, k7, k8, k9⟩ := g
  exact ⟨k1, fun x hx => by rw [gI_sI_ne (by omega)]; exact k2 x hx, by rw [gI_sI_ne (by omega)]; exact k3, by rw [gI_sI_ne (by omega)]; exact k4, fun s hs => by rw [gI_sI_ne (by omega)]; exact k5 s hs, by rw [gI_sI_ne (by omega)]; exact k6, fun i hi => by rw [gI_sI_ne (by omega)]; exact k7 i hi, by rw [gI_sI_ne (by omega)]; exact k8, fun i hi => by rw [gI_sI_ne (by omega)]; exact k9 i hi⟩
theorem f_count1 (g : CB A β a b τ V H h G l Cn) (hh : h < 768) {u len : Nat} (hu : u < 768) (h0 : Cn u = 0) : ∃ υ, fX4_count N τ (ij u) (ij (len : Nat)) = some υ ∧ Un Ts τ υ ∧ CB A β a b υ V (uq H h u) (h + 1) G l (uq Cn u len) := by
  obtain ⟨p1, p2, p3⟩ := CSt_push (N := N) (u := u) (CSt_129 (u := u) (v := ij (len : Nat)) g.1) hh
  refine ⟨_, ?_, (Un.sI τ u (ij (len : Nat)) (rfl : Ts 129 0 = true)).tr p3, p2, fun s hs => ?_⟩
  · unfold fX4_count
    rw [if_neg (by rw [show (0 : Int32) = ij 0 from rfl, ij_lt (by omega) (by omega) (by omega) (by omega)]; omega), if_neg (by rw [show (768 : Int32) = ij 768 from rfl, ij_le (by omega) (by omega) (by omega) (by omega)]; omega), ck_in _ (by omega) (by omega) (by omega), ij_natN (by omega), if_pos (by rw [g.2 u hu, h0]; rfl), ck_in _ (by omega) (by omega) (by omega), vl_s, p1, ob_s]
  · rw [gI_sI_ne (by omega), gI_sI_ne (by omega), gI_sI_eq]
    by_cases q : s = u
    · rw [if_pos q, q, uq_eq]
    · rw [if_neg q, uq_ne q]; exact g.2 s hs
theorem f_count0 (g : CB A β a b τ V H h G l Cn) {u : Nat} {len : Int32} (hu : u < 768) (h0 : 0 < Cn u) (h1 : Cn u < 1000000) : fX4_count N τ (ij u) len = some τ := by
  unfold fX4_count
  rw [if_neg (by rw [show (0 : Int32) = ij 0 from rfl, ij_lt (by omega) (by omega) (by omega) (by omega)]; omega), if_neg (by rw [show (768 : Int32) = ij 768 from rfl, ij_le (by omega) (by omega) (by omega) (by omega)]; omega), ck_in _ (by omega) (by omega) (by omega), ij_natN (by omega), if_neg (by rw [g.2 u hu, show (0 : Int32) = ij 0 from rfl, ij_eq (by omega) (by omega) (by omega) (by omega)]; omega)]
/-- while the steps of the spot c, at place i, are counted on -/
def GC (A : Ab) (β : Nat → Nat) (a b T : Nat) (V G : Nat → Nat) (l i c m : Nat) (σ : St) (J : Nat) (τ : St) : Prop := ∃ H h Cn, Un Ts σ τ ∧ CB A β a b τ V H h G l Cn ∧ QI (Ed A β) a b T V i h Cn H ∧ i < h ∧ H i = c ∧ Cn c = m ∧ TX (Ed A β) V Cn c J
theorem GC_step (ha : a < 384) (hao : opn A β a = true) (hT : T < 768) (hVb : ∀ s, s < 768 → V s ≤ T + 1 ∨ V s = 1000000) (hc : c < 768) (hm : m ≤ 768) (n : Nat) (hJ : J < 4) {τ : St} (g : GC A β a b T V G l i c m σ J τ) : ∃ υ, fX4_countOn_L24 (fun _ s => some s) N (ij c) (ij (V c)) (ij m) (n + 1) (ij J) τ = fX4_countOn_L24 (fun _ s => some s) N (ij c) (ij (V c)) (ij m) n (ij ((J + 1 : Nat) : Int)) υ ∧ GC A β a b T V G l i c m σ (J + 1) υ := by
  obtain ⟨H, h, Cn, gU, gC, gQ, gi, gH, gm, gX⟩ := g
  have hcn := (gQ.1 i gi)
  rw [gH] at hcn
  have hw := (gQ.2.2.1 c hc hcn.2.1).2
  have hop := (Rc_opn ha hao hw.2).1
  have hvc := hVb c hc
  have hsp := f_spotBeside (N := N) gC.1.2.1 (x := c / 2) (d := J) (by omega) hJ
  have hJ1 : ij (J : Int) + (1 : Int32) = ij ((J + 1 : Nat) : Int) := ij_add _ 1
  have hV1 : ij (V c : Int) + (1 : Int32) = ij ((V c + 1 : Nat) : Int) := ij_add _ 1
  have hm1 : ij (m : Int) + (1 : Int32) = ij ((m + 1 : Nat) : Int) := ij_add _ 1
  have n4 : ¬ (4 : Int32) ≤ ij (J : Int) := by
    rw [show (4 : Int32) = ij 4 from rfl, ij_le (by omega) (by omega) (by omega) (by omega)]
    omega
  have hlen := pgh 768 h H (fun j hj => (gQ.1 j hj).1) gQ.2.1
  simp only [fX4_countOn_L24]
  rw [if_neg n4, ij_half (by omega), hsp, ob_s, ij_odd, hJ1]
  rcases sb_Ed (A := A) (β := β) (x := c / 2) (d := J) (by omega) hJ hop with ⟨e1, e2⟩ | ⟨y, y1, y2, y3⟩
  · refine ⟨τ, ?_, H, h, Cn, gU, gC, gQ, gi, gH, gm, ?_⟩
    · rw [e1]
      have : ¬ (ij (-1) - ij (-1) / (2 : Int32) * (2 : Int32) = ij ((c % 2 : Nat) : Int)) := by
        have : c % 2 = 0 ∨ c % 2 = 1 := by omega
        rcases this with q | q <;> rw [q] <;> decide
      rw [if_neg this, vl_s, f_intAtN (by omega) (by omega) (by omega), ob_s, hV1, if_neg (by rw [show (1000000 : Int32) = ij 1000000 from rfl, ij_eq (by omega) (by omega) (by omega) (by omega)]; omega), vl_s]
    · subst gH
      exact TX_skip gX (fun y' e => absurd e (e2 y'))
  · have hF : ∀ y', Ed A β (c / 2) J y' → y' = y := fun y' e => Ed_fun _ _ _ _ e y3
    have hu : 2 * y + J / 2 < 768 := by omega
    have hia : fX7_intAt N τ 128 0 768 (ij ((2 * y + J / 2 : Nat) : Int)) (1000000 : Int32) = some (ij (V (2 * y + J / 2))) := by
      rw [f_intAt (by omega) (by omega) (by omega), tn_nat, gC.1.2.2.2.2.1 _ hu]
    have hvu := hVb _ hu
    rw [y2, ij_half (by omega), ij_odd, show (2 * y + J / 2) % 2 = J / 2 by omega]
    /- what the count does -/
    have done : V (2 * y + J / 2) = V c + (if J / 2 = c % 2 then 0 else 1) → ∃ υ, fX4_count N τ (ij ((2 * y + J / 2 : Nat) : Int)) (ij ((m + 1 : Nat) : Int)) = some υ ∧ GC A β a b T V G l i c m σ (J + 1) υ := by
      intro hv
      by_cases z : Cn (2 * y + J / 2) = 0
      · subst gH
        obtain ⟨p1, p2, p3, p4, p5⟩ := QI_push gQ gi hT hVb hJ y3 y1 hF gX hv z
        obtain ⟨υ, q1, q2, q3⟩ := f_count1 (N := N) gC p1 (len := m + 1) hu z
        refine ⟨υ, q1, _, _, _, gU.tr q2, q3, ?_, by omega, p3, ?_, ?_⟩
        · rw [← gm]; exact p2
        · rw [← gm]; exact p4
        · rw [← gm]; exact p5
      · have le := QI_le gQ gi hu (by omega)
        rw [gH, gm] at le
        refine ⟨τ, f_count0 gC hu (by omega) (by omega), H, h, Cn, gU, gC, gQ, gi, gH, gm, ?_⟩
        subst gH
        exact TX_skip gX (fun y' e _ => by rw [hF y' e]; exact ⟨by omega, by omega⟩)
    by_cases k2 : J / 2 = c % 2
    · rw [if_pos (by rw [k2]), hia, ob_s]
      by_cases k3 : V (2 * y + J / 2) = V c
      · obtain ⟨υ, d1, d2⟩ := done (by rw [if_pos k2]; exact k3)
        rw [if_pos (by rw [k3]), hm1, d1, ob_s, vl_s]
        exact ⟨υ, rfl, d2⟩
      · rw [if_neg (by rw [ij_eq (by omega) (by omega) (by omega) (by omega)]; omega), vl_s]
        refine ⟨τ, rfl, H, h, Cn, gU, gC, gQ, gi, gH, gm, ?_⟩
        subst gH
        exact TX_skip gX (fun y' e hv => absurd hv (by rw [hF y' e, if_pos k2]; exact k3))
    · rw [if_neg (by rw [ij_eq (by omega) (by omega) (by omega) (by omega)]; omega), vl_s, hia, ob_s, hV1]
      by_cases k3 : V (2 * y + J / 2) = V c + 1
      · obtain ⟨υ, d1, d2⟩ := done (by rw [if_neg k2]; exact k3)
        rw [if_pos (by rw [k3]), hm1, d1, ob_s, vl_s]
        exact ⟨υ, rfl, d2⟩
      · rw [if_neg (by rw [ij_eq (by omega) (by omega) (by omega) (by omega)]; omega), vl_s]
        refine ⟨τ, rfl, H, h, Cn, gU, gC, gQ, gi, gH, gm, ?_⟩
        subst gH
        exact TX_skip gX (fun y' e hv => absurd hv (by rw [hF y' e, if_neg k2]; exact k3))
/-- at the place i of the queue -/
def QS (A : Ab) (β : Nat → Nat) (a b T : Nat) (V G : Nat → Nat) (l i : Nat) (σ τ : St) (h : Nat) : Prop := ∃ H Cn, Un Ts σ τ ∧ CB A β a b τ V H h G l Cn ∧ QI (Ed A β) a b T V i h Cn H
theorem f_countOn (hN : 1000 ≤ N) (ha : a < 384) (hao : opn A β a = true) (hT : T < 768) (hVb : ∀ s, s < 768 → V s ≤ T + 1 ∨ V s = 1000000) (gU : Un Ts σ τ) (gC : CB A β a b τ V H h G l Cn) (gQ : QI (Ed A β) a b T V i h Cn H) (hi : i < h) (hn : ¬ (H i / 2 = b ∧ V (H i) = T)) : ∃ υ h', fX4_countOn N τ (ij (H i)) = some υ ∧ QS A β a b T V G l (i + 1) σ υ h' := by
  have hci := gQ.1 i hi
  have hlen := pgh 768 h H (fun j hj => (gQ.1 j hj).1) gQ.2.1
  have hc := hci.1
  have i1 : fX7_intAt N τ 128 0 768 (ij (H i)) (1000000 : Int32) = some (ij (V (H i))) := by
    rw [f_intAt (by omega) (by omega) (by omega), tn_nat, gC.1.2.2.2.2.1 _ hc]
  have i2 : fX7_intAt N τ 129 0 768 (ij (H i)) (0 : Int32) = some (ij (Cn (H i))) := by
    rw [f_intAt (by omega) (by omega) (by omega), tn_nat, gC.2 _ hc]
  obtain ⟨υ, e, H', h', Cn', q1, q2, q3, q4, q5, q6, q7⟩ := lp_st (fun n j τ => fX4_countOn_L24 (fun _ s => some s) N (ij (H i)) (ij (V (H i))) (ij (Cn (H i))) n (ij j) τ) (fun j υ => GC A β a b T V G l i (H i) (Cn (H i)) σ j υ) (Nat.zero_le 4) (fun n j τ _ hj hP => GC_step ha hao hT hVb hc (by omega) n hj hP) N τ (by omega) ⟨H, h, Cn, gU, gC, gQ, hi, rfl, rfl, fun d y hd => by omega⟩
  refine ⟨υ, h', ?_, H', Cn', q1, q2, QI_next q3 q4 (by rw [q5]; exact q7) (by rw [q5]; exact hn)⟩
  unfold fX4_countOn
  rw [i1, ob_s, i2, ob_s]
  refine Eq.trans e ?_
  have e2 : N - (4 - 0) = (N - 4 - 1) + 1 := by omega
  show fX4_countOn_L24 _ N _ _ _ (N - (4 - 0)) _ υ = _
  rw [e2]
  simp only [fX4_countOn_L24]
  rw [if_pos (by decide)]
theorem f_cellsQ (hN : 1000 ≤ N) (ha : a < 384) (hb : b < 384) (hao : opn A β a = true) (hT : T < 768) (hV : FV (Ed A β) a b T V) : ∀ k i h τ, 768 - i = k → i ≤ 768 → QS A β a b T V G l i σ τ h → ∀ n, k < n → ∃ υ C, fX4_fewestCells_L65 (fun _ σ21 => (some (((-1) : Int32), σ21))) N (ij (T : Nat)) n (ij (i : Nat)) τ = some (ij (C : Nat), υ) ∧ Un Ts σ υ ∧ RfC υ ∧ BestC (Ed A β) a b T C := by
  intro k
  induction k with
  | zero =>
    intro i h τ hk hi g n hn
    obtain ⟨H, Cn, gU, gC, gQ⟩ := g
    have hlen := pgh 768 h H (fun j hj => (gQ.1 j hj).1) gQ.2.1
    exact (QI_some Ed_rg ha hb hV gQ (by omega) hT).elim
  | succ k ih =>
    intro i h τ hk hi g n hn
    have e : n = (n - 1) + 1 := by omega
    obtain ⟨H, Cn, gU, gC, gQ⟩ := g
    have hlen := pgh 768 h H (fun j hj => (gQ.1 j hj).1) gQ.2.1
    by_cases q : h ≤ i
    · exact (QI_some Ed_rg ha hb hV gQ (by omega) hT).elim
    · have hci := gQ.1 i (by omega)
      have hgc : gI τ 131 (gR τ 0) i = ij (H i) := gC.1.2.2.2.2.2.2.1 i (by omega)
      have r2 : decide (gR τ 0 < 2) = true := by rcases gC.1.1 with ⟨x, y⟩ | ⟨x, y⟩ <;> rw [x] <;> rfl
      have n1 : ¬ gI τ 6 0 5 ≤ ij (i : Nat) := by
        rw [gC.1.2.2.2.2.2.1, ij_le (by omega) (by omega) (by omega) (by omega)]
        omega
      have n2 : ¬ (768 : Int32) ≤ ij (i : Nat) := by
        rw [show (768 : Int32) = ij 768 from rfl, ij_le (by omega) (by omega) (by omega) (by omega)]
        omega
      have i1 : fX7_intAt N τ 128 0 768 (ij (H i)) (1000000 : Int32) = some (ij (V (H i))) := by
        rw [f_intAt (by omega) (by omega) (by omega), tn_nat, gC.1.2.2.2.2.1 _ hci.1]
      have i2 : fX7_intAt N τ 129 0 768 (ij (H i)) ((-1) : Int32) = some (ij (Cn (H i))) := by
        rw [f_intAt (by omega) (by omega) (by omega), tn_nat, gC.2 _ hci.1]
      have hvb := hV.2.2.1 _ hci.1
      have go : ¬ (H i / 2 = b ∧ V (H i) = T) → ∃ υ C, (ob (fX4_countOn N τ (ij (H i))) fun σ15 => (vl (ij (i : Nat) + (1 : Int32)) fun v16 => (fX4_fewestCells_L65 (fun _ σ21 => (some (((-1) : Int32), σ21))) N (ij (T : Nat)) (n - 1) v16 σ15))) = some (ij (C : Nat), υ) ∧ Un Ts σ υ ∧ RfC υ ∧ BestC (Ed A β) a b T C := by
        intro hn2
        obtain ⟨υ, h', w1, w2⟩ := f_countOn (N := N) hN ha hao hT hV.2.2.1 gU gC gQ (by omega) hn2
        obtain ⟨ω, C, x1, x2⟩ := ih (i + 1) h' υ (by omega) (by omega) w2 (n - 1) (by omega)
        refine ⟨ω, C, ?_, x2⟩
        rw [w1, ob_s, vl_s, show ij (i : Int) + (1 : Int32) = ij ((i + 1 : Nat) : Int) from ij_add _ 1]
        exact x1
      rw [e]
      simp only [fX4_fewestCells_L65]
      rw [if_neg n1, if_neg n2, r2, ck_tr, ck_in _ (by omega) (by omega) (by omega), vl_s, ij_natN (by omega), hgc, ij_half (by omega), gC.1.2.2.2.1]
      by_cases k1 : H i / 2 = b
      · rw [if_pos (by rw [k1]), i1, ob_s]
        by_cases k2 : V (H i) = T
        · rw [if_pos (by rw [k2]), i2, ob_s]
          exact ⟨τ, Cn (H i), rfl, gU, gC.1.1, QI_found Ed_rg ha hV gQ (by omega) k1 k2⟩
        · rw [if_neg (by rw [ij_eq (by omega) (by omega) (by omega) (by omega)]; omega)]
          exact go (fun q => k2 q.2)
      · rw [if_neg (by rw [ij_eq (by omega) (by omega) (by omega) (by omega)]; omega)]
        exact go (fun q => k1 q.1)
end S8_
