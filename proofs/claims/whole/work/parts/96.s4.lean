/-! The class's search, one spot: goOn. -/
def Ts : Nat → Nat → Bool := fun c q => (c == 131 && (q == 0 || q == 1)) || ((c == 6 || c == 128 || c == 129) && q == 0)
def CSt (A : Ab) (β : Nat → Nat) (a b : Nat) (σ : St) (V H : Nat → Nat) (h : Nat) (G : Nat → Nat) (l : Nat) : Prop :=
  RfC σ ∧ (∀ x, x < 384 → gI σ 127 0 x = bi (opn A β x)) ∧ gI σ 6 0 7 = ij (a : Nat) ∧ gI σ 6 0 8 = ij (b : Nat) ∧ (∀ s, s < 768 → gI σ 128 0 s = ij (V s)) ∧ gI σ 6 0 5 = ij h ∧ (∀ i, i < h → gI σ 131 (gR σ 0) i = ij (H i)) ∧ gI σ 6 0 6 = ij l ∧ ∀ i, i < l → gI σ 131 (gR σ 1) i = ij (G i)
section S4_
variable {A : Ab} {N : Nat} {σ : St} {β : Nat → Nat} {a b h l L i c J : Nat} {V H G : Nat → Nat}
theorem gR_sI (σ : St) (c o j : Nat) (v : Int32) (k : Nat) : gR (sI σ c o j v) k = gR σ k := rfl
theorem RfC_sI (σ : St) (c o j : Nat) (v : Int32) : RfC (sI σ c o j v) = RfC σ := rfl
theorem Rc_opn (ha : a < 384) (hb : opn A β a = true) {c t x ax : Nat} (h : Rc (Ed A β) a c t x ax) : opn A β x = true ∧ x < 384 ∧ ax < 2 := by
  cases c with
  | zero => exact h.elim
  | succ c =>
    rcases h with ⟨_, _, rfl, h⟩ | ⟨_, _, _, _, _, e, rfl, _⟩
    · exact ⟨hb, ha, h⟩
    · exact ⟨e.2.2.2.2, Ed_lt e, by have := e.1; omega⟩
theorem Ed_rg : ∀ x d y, Ed A β x d y → d < 4 ∧ y < 384 := fun _ _ _ e => ⟨e.1, Ed_lt e⟩
theorem CSt_here (g : CSt A β a b σ V H h G l) (hh : h < 768) {u v : Nat} (hu : u < 768) :
    fX4_pushHere N (sI σ 128 0 u (ij v)) (ij u) = some (sI (sI (sI σ 128 0 u (ij v)) 131 (gR σ 0) h (ij u)) 6 0 5 (ij (h + 1))) ∧ CSt A β a b (sI (sI (sI σ 128 0 u (ij v)) 131 (gR σ 0) h (ij u)) 6 0 5 (ij (h + 1))) (uq V u v) (uq H h u) (h + 1) G l ∧ Un Ts σ (sI (sI (sI σ 128 0 u (ij v)) 131 (gR σ 0) h (ij u)) 6 0 5 (ij (h + 1))) := by
  obtain ⟨g1, g2, g3, g4, g5, g6, g7, g8, g9⟩ := g
  have r2 : gR σ 0 < 2 ∧ gR σ 1 ≠ gR σ 0 := by rcases g1 with ⟨x, y⟩ | ⟨x, y⟩ <;> rw [x, y] <;> omega
  refine ⟨?_, ⟨g1, fun x hx => ?_, ?_, ?_, fun s hs => ?_, ?_, fun i hi => ?_, ?_, fun i hi => ?_⟩, ?_⟩
  · have e6 : gI (sI σ 128 0 u (ij v)) 6 0 5 = ij h := by rw [gI_sI_ne (by omega)]; exact g6
    exact f_pushHere (r := gR σ 0) rfl r2.1 e6 hh
  · rw [gI_sI_ne (by omega), gI_sI_ne (by omega), gI_sI_ne (by omega)]; exact g2 x hx
  · rw [gI_sI_eq, if_neg (by omega), gI_sI_ne (by omega), gI_sI_ne (by omega)]; exact g3
  · rw [gI_sI_eq, if_neg (by omega), gI_sI_ne (by omega), gI_sI_ne (by omega)]; exact g4
  · rw [gI_sI_ne (by omega), gI_sI_ne (by omega), gI_sI_eq]
    by_cases q : s = u
    · rw [if_pos q, q, uq_eq]
    · rw [if_neg q, uq_ne q]; exact g5 s hs
  · rw [gI_sI_eq, if_pos rfl]; rfl
  · show gI _ 131 (gR σ 0) i = _
    rw [gI_sI_ne (by omega), gI_sI_eq]
    by_cases q : i = h
    · rw [if_pos q, q, uq_eq]
    · rw [if_neg q, uq_ne q, gI_sI_ne (by omega)]; exact g7 i (by omega)
  · rw [gI_sI_eq, if_neg (by omega), gI_sI_ne (by omega), gI_sI_ne (by omega)]; exact g8
  · show gI _ 131 (gR σ 1) i = _
    rw [gI_sI_ne (by omega), gI_sI, if_neg (fun q => r2.2 q.2.1), gI_sI_ne (by omega)]
    exact g9 i hi
  · have t1 : Ts 131 (gR σ 0) = true := by rcases g1 with ⟨x, y⟩ | ⟨x, y⟩ <;> rw [x] <;> rfl
    exact ((Un.sI _ _ _ rfl).tr (Un.sI _ _ _ t1)).tr (Un.sI _ _ _ rfl)
theorem CSt_later (g : CSt A β a b σ V H h G l) (hh : l < 768) {u v : Nat} (hu : u < 768) :
    fX4_pushLater N (sI σ 128 0 u (ij v)) (ij u) = some (sI (sI (sI σ 128 0 u (ij v)) 131 (gR σ 1) l (ij u)) 6 0 6 (ij (l + 1))) ∧ CSt A β a b (sI (sI (sI σ 128 0 u (ij v)) 131 (gR σ 1) l (ij u)) 6 0 6 (ij (l + 1))) (uq V u v) H h (uq G l u) (l + 1) ∧ Un Ts σ (sI (sI (sI σ 128 0 u (ij v)) 131 (gR σ 1) l (ij u)) 6 0 6 (ij (l + 1))) := by
  obtain ⟨g1, g2, g3, g4, g5, g6, g7, g8, g9⟩ := g
  have r2 : gR σ 1 < 2 ∧ gR σ 0 ≠ gR σ 1 := by rcases g1 with ⟨x, y⟩ | ⟨x, y⟩ <;> rw [x, y] <;> omega
  refine ⟨?_, ⟨g1, fun x hx => ?_, ?_, ?_, fun s hs => ?_, ?_, fun i hi => ?_, ?_, fun i hi => ?_⟩, ?_⟩
  · have e6 : gI (sI σ 128 0 u (ij v)) 6 0 6 = ij l := by rw [gI_sI_ne (by omega)]; exact g8
    exact f_pushLater (r := gR σ 1) rfl r2.1 e6 hh
  · rw [gI_sI_ne (by omega), gI_sI_ne (by omega), gI_sI_ne (by omega)]; exact g2 x hx
  · rw [gI_sI_eq, if_neg (by omega), gI_sI_ne (by omega), gI_sI_ne (by omega)]; exact g3
  · rw [gI_sI_eq, if_neg (by omega), gI_sI_ne (by omega), gI_sI_ne (by omega)]; exact g4
  · rw [gI_sI_ne (by omega), gI_sI_ne (by omega), gI_sI_eq]
    by_cases q : s = u
    · rw [if_pos q, q, uq_eq]
    · rw [if_neg q, uq_ne q]; exact g5 s hs
  · rw [gI_sI_eq, if_neg (by omega), gI_sI_ne (by omega), gI_sI_ne (by omega)]; exact g6
  · show gI _ 131 (gR σ 0) i = _
    rw [gI_sI_ne (by omega), gI_sI, if_neg (fun q => r2.2 q.2.1), gI_sI_ne (by omega)]
    exact g7 i hi
  · rw [gI_sI_eq, if_pos rfl]; rfl
  · show gI _ 131 (gR σ 1) i = _
    rw [gI_sI_ne (by omega), gI_sI_eq]
    by_cases q : i = l
    · rw [if_pos q, q, uq_eq]
    · rw [if_neg q, uq_ne q, gI_sI_ne (by omega)]; exact g9 i (by omega)
  · have t1 : Ts 131 (gR σ 1) = true := by rcases g1 with ⟨x, y⟩ | ⟨x, y⟩ <;> rw [y] <;> rfl
    exact ((Un.sI _ _ _ rfl).tr (Un.sI _ _ _ t1)).tr (Un.sI _ _ _ rfl)
/-- while the steps of the spot c, at place i, are taken -/
def GS (A : Ab) (β : Nat → Nat) (a b L i c : Nat) (σ : St) (J : Nat) (τ : St) : Prop := ∃ V H h G l, Un Ts σ τ ∧ CSt A β a b τ V H h G l ∧ SI (Ed A β) a b L i h l V H G ∧ i < h ∧ H i = c ∧ V c = L ∧ RX (Ed A β) V c J
theorem ij_half {c : Nat} (hc : c < 1000000) : ij (c : Int) / (2 : Int32) = ij ((c / 2 : Nat) : Int) := by
  rw [show (2 : Int32) = ij 2 from rfl, ij_div (by omega) (by omega) (by omega) (by omega)]
  congr 1
theorem ij_odd {c : Nat} : ij (c : Int) - ij ((c / 2 : Nat) : Int) * (2 : Int32) = ij ((c % 2 : Nat) : Int) := by
  rw [show (2 : Int32) = ij 2 from rfl, ij_mul, ij_sub]
  congr 1
  omega
theorem GS_step (ha : a < 384) (hao : opn A β a = true) (hL : L < 768) (hc : c < 768) (K : St → Option St) (n : Nat) (hJ : J < 4) {τ : St} (g : GS A β a b L i c σ J τ) : ∃ υ, fX4_goOn_L17 (fun _ s => K s) N (ij c) (ij L) (n + 1) (ij J) τ = fX4_goOn_L17 (fun _ s => K s) N (ij c) (ij L) n (ij ((J + 1 : Nat) : Int)) υ ∧ GS A β a b L i c σ (J + 1) υ := by
  obtain ⟨V, H, h, G, l, gU, gC, gS, gi, gH, gV, gX⟩ := g
  obtain ⟨k, hk⟩ := gS.1.1 c hc (by omega)
  have hop := (Rc_opn ha hao hk).1
  have hm := gC.2.1
  have hsp := f_spotBeside (N := N) hm (x := c / 2) (d := J) (by omega) hJ
  have hJ1 : ij (J : Int) + (1 : Int32) = ij ((J + 1 : Nat) : Int) := ij_add _ 1
  have n4 : ¬ (4 : Int32) ≤ ij (J : Int) := by
    rw [show (4 : Int32) = ij 4 from rfl, ij_le (by omega) (by omega) (by omega) (by omega)]
    omega
  simp only [fX4_goOn_L17]
  rw [if_neg n4, ij_half (by omega), hsp, ob_s, ij_odd, hJ1]
  rcases sb_Ed (A := A) (β := β) (x := c / 2) (d := J) (by omega) hJ hop with ⟨e1, e2⟩ | ⟨y, y1, y2, y3⟩
  · refine ⟨τ, ?_, V, H, h, G, l, gU, gC, gS, gi, gH, gV, RX_skip gX (fun y' e => absurd e (e2 y'))⟩
    rw [e1]
    have : ¬ (ij (-1) - ij (-1) / (2 : Int32) * (2 : Int32) = ij ((c % 2 : Nat) : Int)) := by
      have : c % 2 = 0 ∨ c % 2 = 1 := by omega
      rcases this with q | q <;> rw [q] <;> decide
    rw [if_neg this, vl_s, if_pos (by decide), vl_s]
  · have hF : ∀ y', Ed A β (c / 2) J y' → y' = y := fun y' e => Ed_fun _ _ _ _ e y3
    have hu : 2 * y + J / 2 < 768 := by omega
    have hgu : gI τ 128 0 (2 * y + J / 2) = ij (V (2 * y + J / 2)) := gC.2.2.2.2.1 _ hu
    have hVb := gS.1.2.1 _ hu
    have l0 : ¬ (ij ((2 * y + J / 2 : Nat) : Int) < (0 : Int32)) := by
      rw [show (0 : Int32) = ij 0 from rfl, ij_lt (by omega) (by omega) (by omega) (by omega)]
      omega
    have l7 : ¬ ((768 : Int32) ≤ ij ((2 * y + J / 2 : Nat) : Int)) := by
      rw [show (768 : Int32) = ij 768 from rfl, ij_le (by omega) (by omega) (by omega) (by omega)]
      omega
    have cn : Int32.toNatClampNeg (ij ((2 * y + J / 2 : Nat) : Int)) = 2 * y + J / 2 := ij_natN (by omega)
    have ci : ∀ (β : Type) (x : Option β), ck (inb (ij ((2 * y + J / 2 : Nat) : Int)) 768) x = x := fun _ x => ck_in x (by omega) (by omega) (by omega)
    rw [y2, ij_half (by omega), ij_odd, show (2 * y + J / 2) % 2 = J / 2 by omega, cn, hgu]
    by_cases k2 : J / 2 = c % 2
    · rw [if_pos (by rw [k2]), if_neg l0, if_neg l7, ci]
      by_cases k3 : V (2 * y + J / 2) ≤ L
      · have : ij (V (2 * y + J / 2) : Nat) ≤ ij (L : Nat) := by
          rw [ij_le (by omega) (by omega) (by omega) (by omega)]
          omega
        rw [if_pos this, vl_s]
        exact ⟨τ, rfl, V, H, h, G, l, gU, gC, gS, gi, gH, gV, RX_skip gX (fun y' e => by rw [hF y' e, gV]; omega)⟩
      · have : ¬ ij (V (2 * y + J / 2) : Nat) ≤ ij (L : Nat) := by
          rw [ij_le (by omega) (by omega) (by omega) (by omega)]
          omega
        rw [if_neg this, ci, vl_s, if_pos trivial]
        obtain ⟨p1, p2, p3, p4, p5⟩ := SI_here gS gi (by rw [gH]; exact gV) hL hJ (by rw [gH]; exact y3) y1 (by rw [gH]; exact hF) (by rw [gH]; exact gX) (by rw [gH]; exact k2) (by omega)
        obtain ⟨q1, q2, q3⟩ := CSt_here (N := N) gC p1 (u := 2 * y + J / 2) (v := L) hu
        rw [gH] at p3 p4 p5
        rw [q1, ob_s, vl_s]
        exact ⟨_, rfl, _, _, _, _, _, gU.tr q3, q2, p2, by omega, p3, p4, p5⟩
    · have hLn : ij (L : Nat) + (1 : Int32) = ij ((L + 1 : Nat) : Int) := ij_add _ 1
      have nk : ¬ (ij ((J / 2 : Nat) : Int) = ij ((c % 2 : Nat) : Int)) := by
        rw [ij_eq (by omega) (by omega) (by omega) (by omega)]
        omega
      rw [if_neg nk, vl_s, if_neg l0, if_neg l7, ci, hLn]
      by_cases k3 : V (2 * y + J / 2) ≤ L + 1
      · have : ij (V (2 * y + J / 2) : Nat) ≤ ij ((L + 1 : Nat) : Int) := by
          rw [ij_le (by omega) (by omega) (by omega) (by omega)]
          omega
        rw [if_pos this, vl_s]
        exact ⟨τ, rfl, V, H, h, G, l, gU, gC, gS, gi, gH, gV, RX_skip gX (fun y' e => by rw [hF y' e, gV, if_neg k2]; exact k3)⟩
      · have : ¬ ij (V (2 * y + J / 2) : Nat) ≤ ij ((L + 1 : Nat) : Int) := by
          rw [ij_le (by omega) (by omega) (by omega) (by omega)]
          omega
        have nl : ¬ (ij ((L + 1 : Nat) : Int) = ij (L : Nat)) := by
          rw [ij_eq (by omega) (by omega) (by omega) (by omega)]
          omega
        rw [if_neg this, ci, vl_s, if_neg nl]
        obtain ⟨p1, p2, p4, p5⟩ := SI_later gS gi (by rw [gH]; exact gV) hL hJ (by rw [gH]; exact y3) y1 (by rw [gH]; exact hF) (by rw [gH]; exact gX) (by rw [gH]; exact k2) (by omega)
        obtain ⟨q1, q2, q3⟩ := CSt_later (N := N) gC p1 (u := 2 * y + J / 2) (v := L + 1) hu
        rw [gH] at p4 p5
        rw [q1, ob_s, vl_s]
        exact ⟨_, rfl, _, _, _, _, _, gU.tr q3, q2, p2, gi, gH, p4, p5⟩
end S4_
