/-! The model's route. -/
/-- there is a way: T changes of the axis at the least, C cells at the least of those -/
def Wy (A : Ab) (β : Nat → Nat) (c T C : Nat) : Prop := ∃ a b : Nat, ca A β c = (a : Nat) ∧ cb A β c = (b : Nat) ∧ a < 384 ∧ b < 384 ∧ opn A β a = true ∧ opn A β b = true ∧ T < 768 ∧ BestC (Ed A β) a b T C
/-- there is none -/
def Nw (A : Ab) (β : Nat → Nat) (c : Nat) : Prop := ∀ a b : Nat, ca A β c = (a : Nat) → cb A β c = (b : Nat) → opn A β a = true → opn A β b = true → ∀ n t ax, ¬ Rc (Ed A β) a n t b ax
def Tw : Nat → Nat → Bool := fun c q => (c == 169 || c == 170 || c == 171 || c == 172) && q == 0
section T5_
variable {A : Ab} {N : Nat} {σ τ : St} {β : Nat → Nat} {a b c : Nat}
theorem Wy_un {T C T' C' : Nat} (h : Wy A β c T C) (g : Wy A β c T' C') : T = T' ∧ C = C' := by
  obtain ⟨a, b, h1, h2, _, _, _, _, _, h3, ⟨ax, h4⟩, h5⟩ := h
  obtain ⟨a', b', g1, g2, _, _, _, _, _, g3, ⟨ax', g4⟩, g5⟩ := g
  have e1 : a = a' := by omega
  have e2 : b = b' := by omega
  subst e1
  subst e2
  have := h5 _ _ _ g4
  have := g5 _ _ _ h4
  omega
theorem Wy_Nw {T C : Nat} (h : Wy A β c T C) (g : Nw A β c) : False := by
  obtain ⟨a, b, h1, h2, _, _, h6, h7, _, _, ⟨ax, h4⟩, _⟩ := h
  exact g a b h1 h2 h6 h7 _ _ _ h4
theorem eC_rg (x y : Int) : eC x y = -1 ∨ (0 ≤ eC x y ∧ eC x y < 384) := by
  unfold eC
  split <;> omega
theorem opz_eC (x y : Int) : opz A β x y = (decide (0 ≤ eC x y) && opn A β (eC x y).toNat) := by
  unfold opz eC
  by_cases g : 0 ≤ x ∧ x ≤ 23 ∧ 0 ≤ y ∧ y ≤ 15
  · rw [if_pos g, decide_eq_true g, decide_eq_true (show 0 ≤ y * 24 + x by omega), show 24 * y + x = y * 24 + x by omega]
  · rw [if_neg g, decide_eq_false g]
    rfl
theorem m_init (hN : 2000 ≤ N) (K : St → Option (Int32 × St)) (hm : ∀ x, x < 384 → gI σ 171 0 x = bi (!opn A β x)) : ∃ τ, fX8_route_L100 (fun _ s => K s) N N (ij 0) σ = K τ ∧ Un Tz σ τ ∧ (∀ x, x < 384 → gI τ 171 0 x = bi (!opn A β x)) ∧ (∀ s, s < 1536 → gI τ 169 0 s = ij 1000000000) ∧ ∀ s, s < 1536 → gI τ 172 0 s = bi false := by
  obtain ⟨τ, e, hU, h1, h2⟩ := lp_st (fun n j τ => fX8_route_L100 (fun _ s => K s) N n (ij j) τ) (fun j τ => Un Tz σ τ ∧ (∀ s, s < j → gI τ 169 0 s = ij 1000000000) ∧ ∀ s, s < j → gI τ 172 0 s = bi false) (Nat.zero_le 1536) (fun n j τ _ hj hP => by
      obtain ⟨hU, h1, h2⟩ := hP
      refine ⟨sI (sI τ 169 0 j (ij 1000000000)) 172 0 j (bi false), ?_, (hU.tr (Un.sI _ _ _ rfl)).tr (Un.sI _ _ _ rfl), fun s hs => ?_, fun s hs => ?_⟩
      · simp only [fX8_route_L100]
        rw [if_neg (by rw [show (1536 : Int32) = ij 1536 from rfl, ij_le (by omega) (by omega) (by omega) (by omega)]; omega), ck_in _ (by omega) (by omega) (by omega), vl_s, ck_in _ (by omega) (by omega) (by omega), vl_s, vl_s, ij_natN (by omega), show ij (j : Int) + (1 : Int32) = ij ((j + 1 : Nat) : Int) from ij_add _ 1]
        rfl
      · rw [gI_sI_ne (by omega), gI_sI_eq]
        by_cases g : s = j
        · rw [if_pos g]
        · rw [if_neg g]; exact h1 s (by omega)
      · rw [gI_sI_eq]
        by_cases g : s = j
        · rw [if_pos g]
        · rw [if_neg g, gI_sI_ne (by omega)]; exact h2 s (by omega)) N σ (by omega) ⟨Un.rfl, fun s hs => by omega, fun s hs => by omega⟩
  refine ⟨τ, ?_, hU, fun x hx => by rw [hU.I 171 0 rfl]; exact hm x hx, h1, h2⟩
  refine Eq.trans e ?_
  have e2 : N - (1536 - 0) = (N - 1536 - 1) + 1 := by omega
  show fX8_route_L100 _ N (N - (1536 - 0)) _ τ = _
  rw [e2]
  simp only [fX8_route_L100]
  rw [if_pos (by decide)]
def D1 (a : Nat) : Nat → Nat := fun s => if s / 4 = a then 1 else 1000000000
def F1 (a : Nat) : Nat → Bool := fun s => s / 4 == a
theorem m_begin (hN : 2000 ≤ N) (K : St → Option (Int32 × St)) {x y : Int} (ha : a < 384) (hxy : 24 * y + x = (a : Int)) (hm : ∀ x, x < 384 → gI σ 171 0 x = bi (!opn A β x)) (h1 : ∀ s, s < 1536 → gI σ 169 0 s = ij 1000000000) (h2 : ∀ s, s < 1536 → gI σ 172 0 s = bi false) : ∃ τ, fX8_route_L142 (fun v _ s => (fX8_route_L195 (fun _ _ s => K s) N N (0 : Int32) v s)) N (ij x) (ij y) N (ij 0) (ij 0) σ = fX8_route_L195 (fun _ _ s => K s) N N (ij ((0 : Nat) : Int)) (ij ((4 : Nat) : Int)) τ ∧ Un Tz σ τ ∧ MSt A β τ (D1 a) (F1 a) 4 (fun k => 4 * a + k) 0 := by
  obtain ⟨τ, e, hU, k1, k2, k3⟩ := lp_st (fun n j τ => fX8_route_L142 (fun v _ s => (fX8_route_L195 (fun _ _ s => K s) N N (0 : Int32) v s)) N (ij x) (ij y) n (ij j) (ij j) τ) (fun j τ => Un Tz σ τ ∧ (∀ s, s < 1536 → gI τ 169 0 s = if 4 * a ≤ s ∧ s < 4 * a + j then ij 1 else ij 1000000000) ∧ (∀ s, s < 1536 → gI τ 172 0 s = bi (decide (4 * a ≤ s ∧ s < 4 * a + j))) ∧ ∀ k, k < j → gI τ 170 0 k = ij ((4 * a + k : Nat) : Int)) (Nat.zero_le 4) (fun n j τ _ hj hP => by
      obtain ⟨hU, k1, k2, k3⟩ := hP
      have ev : (4 : Int32) * ((24 : Int32) * ij y + ij x) + ij (j : Int) = ij ((4 * a + j : Nat) : Int) := by
        rw [show (4 : Int32) = ij 4 from rfl, show (24 : Int32) = ij 24 from rfl, ij_mul, ij_add, ij_mul, ij_add, hxy]
        congr 1
      refine ⟨sI (sI (sI τ 169 0 (4 * a + j) (ij 1)) 170 0 j (ij ((4 * a + j : Nat) : Int))) 172 0 (4 * a + j) (bi true), ?_, ((hU.tr (Un.sI _ _ _ rfl)).tr (Un.sI _ _ _ rfl)).tr (Un.sI _ _ _ rfl), fun s hs => ?_, fun s hs => ?_, fun k hk => ?_⟩
      · simp only [fX8_route_L142]
        rw [if_neg (by rw [show (4 : Int32) = ij 4 from rfl, ij_le (by omega) (by omega) (by omega) (by omega)]; omega), ev, vl_s, ck_in _ (by omega) (by omega) (by omega), vl_s, ck_in _ (by omega) (by omega) (by omega), vl_s, ck_in _ (by omega) (by omega) (by omega), vl_s, vl_s, vl_s, ij_natN (by omega), ij_natN (by omega), show ij (j : Int) + (1 : Int32) = ij ((j + 1 : Nat) : Int) from ij_add _ 1]
        rfl
      · rw [gI_sI_ne (by omega), gI_sI_ne (by omega), gI_sI_eq]
        by_cases g : s = 4 * a + j
        · rw [if_pos g, if_pos (by omega)]
        · rw [if_neg g, k1 s hs]
          by_cases g2 : 4 * a ≤ s ∧ s < 4 * a + j
          · rw [if_pos g2, if_pos (by omega)]
          · rw [if_neg g2, if_neg (by omega)]
      · rw [gI_sI_eq]
        by_cases g : s = 4 * a + j
        · rw [if_pos g, decide_eq_true (by omega)]
        · rw [if_neg g, gI_sI_ne (by omega), gI_sI_ne (by omega), k2 s hs]
          by_cases g2 : 4 * a ≤ s ∧ s < 4 * a + j
          · rw [decide_eq_true g2, decide_eq_true (by omega)]
          · rw [decide_eq_false g2, decide_eq_false (by omega)]
      · rw [gI_sI_ne (by omega), gI_sI_eq]
        by_cases g : k = j
        · rw [if_pos g, g]
        · rw [if_neg g, gI_sI_ne (by omega)]
          exact k3 k (by omega)) N σ (by omega) ⟨Un.rfl, fun s hs => by rw [if_neg (by omega)]; exact h1 s hs, fun s hs => by rw [decide_eq_false (by omega)]; exact h2 s hs, fun k hk => by omega⟩
  refine ⟨τ, ?_, hU, fun x hx => by rw [hU.I 171 0 rfl]; exact hm x hx, fun s hs => ?_, fun s hs => ?_, fun k hk => ?_⟩
  · refine Eq.trans e ?_
    have e2 : N - (4 - 0) = (N - 4 - 1) + 1 := by omega
    show fX8_route_L142 _ N _ _ (N - (4 - 0)) _ _ τ = _
    rw [e2]
    simp only [fX8_route_L142]
    rw [if_pos (by decide)]
    rfl
  · rw [k1 s hs]
    unfold D1
    by_cases g : 4 * a ≤ s ∧ s < 4 * a + 4
    · rw [if_pos g, if_pos (by omega)]; rfl
    · rw [if_neg g, if_neg (by omega)]; rfl
  · rw [k2 s hs]
    unfold F1
    congr 1
    by_cases g : 4 * a ≤ s ∧ s < 4 * a + 4
    · rw [decide_eq_true g, beq_iff_eq.mpr (by omega)]
    · rw [decide_eq_false g]
      exact (beq_eq_false_iff_ne.mpr (by omega)).symm
  · rw [show (0 + k) % 1536 = k by omega]
    exact k3 k hk
theorem MI_one {E : Nat → Nat → Nat → Prop} (ha : a < 384) : MI E a (D1 a) (F1 a) 4 (fun k => 4 * a + k) 1536 := by
  have dv : ∀ s, D1 a s = 1 ∧ s / 4 = a ∨ D1 a s = 1000000000 ∧ s / 4 ≠ a := fun s => by
    unfold D1
    by_cases q : s / 4 = a
    · rw [if_pos q]; exact Or.inl ⟨rfl, q⟩
    · rw [if_neg q]; exact Or.inr ⟨rfl, q⟩
  have fv : ∀ s, F1 a s = true ↔ s / 4 = a := fun s => beq_iff_eq
  refine ⟨fun s hs hd => ?_, fun s hs => ?_, fun k hk => ⟨by show 4 * a + k < 1536; omega, (fv _).2 (by show (4 * a + k) / 4 = a; omega), ?_⟩, fun j k hj hk q => by have q : 4 * a + j = 4 * a + k := q; omega, fun s hs hf => ?_, fun s hs _ hf hd => ?_, fun d hd => ?_⟩
  · rcases dv s with ⟨e, q⟩ | ⟨e, q⟩
    · rw [e, q]
      exact ⟨1, Rm_st E a (by omega)⟩
    · omega
  · rcases dv s with ⟨e, q⟩ | ⟨e, q⟩ <;> omega
  · show D1 a (4 * a + k) < 1000000000
    rcases dv (4 * a + k) with ⟨e, q⟩ | ⟨e, q⟩ <;> omega
  · have := (fv s).1 hf
    exact ⟨s - 4 * a, by omega, by show 4 * a + (s - 4 * a) = s; omega⟩
  · rcases dv s with ⟨e, q⟩ | ⟨e, q⟩
    · have := (fv s).2 q
      rw [this] at hf
      cases hf
    · omega
  · rcases dv (4 * a + d) with ⟨e, q⟩ | ⟨e, q⟩ <;> omega
theorem m_min (hN : 2000 ≤ N) {x y : Int} (hb : b < 384) (hxy : 24 * y + x = (b : Int)) {D : Nat → Nat} (h1 : ∀ s, s < 1536 → gI σ 169 0 s = ij (D s)) (hD : ∀ s, s < 1536 → D s ≤ 1000000000) : fX8_route_L418 (fun v67 _ => (some (v67, σ))) N (ij x) (ij y) σ N (1000000000 : Int32) (0 : Int32) = some (ij (mnD D b 4 : Nat), σ) := by
  refine lp_end (fun n j => fX8_route_L418 (fun v67 _ => (some (v67, σ))) N (ij x) (ij y) σ n (ij (mnD D b j : Nat)) (ij j)) (a := 0) (b := 4) (by omega) (fun n j _ hj => ?_) (fun n => ?_) N (by omega)
  · have ev : (4 : Int32) * ((24 : Int32) * ij y + ij x) + ij (j : Int) = ij ((4 * b + j : Nat) : Int) := by
      rw [show (4 : Int32) = ij 4 from rfl, show (24 : Int32) = ij 24 from rfl, ij_mul, ij_add, ij_mul, ij_add, hxy]
      congr 1
    have d1 := hD (4 * b + j) (by omega)
    have d2 := mnD_rg D b j
    simp only [fX8_route_L418]
    rw [if_neg (by rw [show (4 : Int32) = ij 4 from rfl, ij_le (by omega) (by omega) (by omega) (by omega)]; omega), ev, ck_in _ (by omega) (by omega) (by omega), ij_natN (by omega), h1 _ (by omega), vl_s, vl_s, show ij (j : Int) + (1 : Int32) = ij ((j + 1 : Nat) : Int) from ij_add _ 1]
    congr 1
    simp only [mnD]
    by_cases g : D (4 * b + j) < mnD D b j
    · rw [if_pos g, if_pos (by rw [ij_lt (by omega) (by omega) (by omega) (by omega)]; omega)]
    · rw [if_neg g, if_neg (by rw [ij_lt (by omega) (by omega) (by omega) (by omega)]; omega)]
  · simp only [fX8_route_L418]
    rw [if_pos (by decide)]
theorem Tz_Tw (h : Un Tz σ τ) : Un Tw σ τ := h.mono (fun c o e => by unfold Tw at e; unfold Tz; simp at e ⊢; omega)
theorem m_route (h : WM A β σ) (hN : 10000000000000 ≤ N) (hc : jnd A β c = true) (hD : Nw A β c ∨ ∃ T C, Wy A β c T C) : ∃ τ v, fX8_route N σ (ij c) = some (ij v, τ) ∧ Un Tw σ τ ∧ ((v = 1000000000 ∧ Nw A β c) ∨ ∃ T C : Nat, v = ((1000 * T + C : Nat) : Int) ∧ Wy A β c T C) := by
  have hS := h.2.2.2
  have lc := jnd_lt hc
  have hcc := hS.2.2.2 c lc
  have l8 := hS.2.1
  obtain ⟨σ1, e1, u1, m1⟩ := m_shuts (N := N) h (by omega)
  have h1 := WM_171 h u1
  have u1w : Un Tw σ σ1 := u1.mono (fun c o e => by unfold Tw at e; unfold T171; simp at e ⊢; omega)
  obtain ⟨p1, p2, p3, p4⟩ := h1.1.2.2.2 c (by omega) lc
  have ex1 := m_endColumn (N := N) h1 hcc.1 hcc.2.2.2.1
  have ey1 := m_endRow (N := N) h1 hcc.1 hcc.2.2.2.1
  have ex2 := m_endColumn (N := N) h1 hcc.2.1 hcc.2.2.2.2
  have ey2 := m_endRow (N := N) h1 hcc.2.1 hcc.2.2.2.2
  have hbw : ∀ s, s < 12 → cl β s < 24 ∧ rwv β s < 16 := fun s hs => (m_place h hs).2
  have r1 := ends_rg hS hbw (d := aSd A c) hcc.1
  have r2 := ends_rg hS hbw (d := aSe A c) hcc.2.1
  have io1 := m_isOpen (N := N) (σ := σ1) m1 (x := eX A β (aOne A c) (aSd A c)) (y := eY A β (aOne A c) (aSd A c)) (by constructor <;> omega) (by constructor <;> omega)
  have io2 := m_isOpen (N := N) (σ := σ1) m1 (x := eX A β (aOth A c) (aSe A c)) (y := eY A β (aOth A c) (aSe A c)) (by constructor <;> omega) (by constructor <;> omega)
  have E0 : fX8_route N σ (ij c) = (if bi (opz A β (eX A β (aOne A c) (aSd A c)) (eY A β (aOne A c) (aSd A c))) = 0 then (some ((1000000000 : Int32), σ1)) else (if bi (opz A β (eX A β (aOth A c) (aSe A c)) (eY A β (aOth A c) (aSe A c))) = 0 then (some ((1000000000 : Int32), σ1)) else (fX8_route_L100 (fun _ σ13 => (fX8_route_L142 (fun v23 _ σ24 => (fX8_route_L195 (fun _ _ σ62 => (fX8_route_L418 (fun v67 _ => (some (v67, σ62))) N (ij (eX A β (aOth A c) (aSe A c))) (ij (eY A β (aOth A c) (aSe A c))) σ62 N (1000000000 : Int32) (0 : Int32))) N N (0 : Int32) v23 σ24)) N (ij (eX A β (aOne A c) (aSd A c))) (ij (eY A β (aOne A c) (aSd A c))) N (0 : Int32) (0 : Int32) σ13)) N N (0 : Int32) σ1))) := by
    have ci : ∀ (X : Type) (x : Option X), ck (inb (ij (c : Int)) 8) x = x := fun _ x => ck_in x (by omega) (by omega) (by omega)
    have cn : Int32.toNatClampNeg (ij (c : Int)) = c := ij_natN (by omega)
    unfold fX8_route
    rw [e1, ob_s]
    simp only [ci, cn, p1, p2, p3, p4]
    rw [ex1, ob_s, ey1, ob_s, ex2, ob_s, ey2, ob_s, io1, ob_s, io2, ob_s]
  have o1 := opz_eC (A := A) (β := β) (eX A β (aOne A c) (aSd A c)) (eY A β (aOne A c) (aSd A c))
  have o2 := opz_eC (A := A) (β := β) (eX A β (aOth A c) (aSe A c)) (eY A β (aOth A c) (aSe A c))
  have c1 := eC_rg (eX A β (aOne A c) (aSd A c)) (eY A β (aOne A c) (aSd A c))
  have c2 := eC_rg (eX A β (aOth A c) (aSe A c)) (eY A β (aOth A c) (aSe A c))
  cases z1 : opz A β (eX A β (aOne A c) (aSd A c)) (eY A β (aOne A c) (aSd A c)) with
  | false =>
    rw [z1, if_pos (by decide)] at E0
    rw [z1] at o1
    refine ⟨σ1, 1000000000, E0, u1w, Or.inl ⟨rfl, fun a b ha hb hoa hob n t ax hw => ?_⟩⟩
    unfold ca at ha
    rw [ha, decide_eq_true (by omega), tn_nat, hoa] at o1
    cases o1
  | true =>
    rw [z1, if_neg (by decide)] at E0
    cases z2 : opz A β (eX A β (aOth A c) (aSe A c)) (eY A β (aOth A c) (aSe A c)) with
    | false =>
      rw [z2, if_pos (by decide)] at E0
      rw [z2] at o2
      refine ⟨σ1, 1000000000, E0, u1w, Or.inl ⟨rfl, fun a b ha hb hoa hob n t ax hw => ?_⟩⟩
      unfold cb at hb
      rw [hb, decide_eq_true (by omega), tn_nat, hob] at o2
      cases o2
    | true =>
      rw [z2, if_neg (by decide)] at E0
      rw [z1] at o1
      rw [z2] at o2
      have q1 : 0 ≤ eC (eX A β (aOne A c) (aSd A c)) (eY A β (aOne A c) (aSd A c)) ∧ opn A β (eC (eX A β (aOne A c) (aSd A c)) (eY A β (aOne A c) (aSd A c))).toNat = true := by
        have := o1.symm
        simp only [Bool.and_eq_true, decide_eq_true_eq] at this
        exact this
      have q2 : 0 ≤ eC (eX A β (aOth A c) (aSe A c)) (eY A β (aOth A c) (aSe A c)) ∧ opn A β (eC (eX A β (aOth A c) (aSe A c)) (eY A β (aOth A c) (aSe A c))).toNat = true := by
        have := o2.symm
        simp only [Bool.and_eq_true, decide_eq_true_eq] at this
        exact this
      obtain ⟨a, ha⟩ : ∃ a : Nat, eC (eX A β (aOne A c) (aSd A c)) (eY A β (aOne A c) (aSd A c)) = (a : Int) := ⟨(eC (eX A β (aOne A c) (aSd A c)) (eY A β (aOne A c) (aSd A c))).toNat, by omega⟩
      obtain ⟨b, hb⟩ : ∃ b : Nat, eC (eX A β (aOth A c) (aSe A c)) (eY A β (aOth A c) (aSe A c)) = (b : Int) := ⟨(eC (eX A β (aOth A c) (aSe A c)) (eY A β (aOth A c) (aSe A c))).toNat, by omega⟩
      rw [ha, tn_nat] at q1
      rw [hb, tn_nat] at q2
      have la : a < 384 := by omega
      have lb : b < 384 := by omega
      have xya : 24 * eY A β (aOne A c) (aSd A c) + eX A β (aOne A c) (aSd A c) = (a : Int) := by
        unfold eC at ha
        split at ha <;> omega
      have xyb : 24 * eY A β (aOth A c) (aSe A c) + eX A β (aOth A c) (aSe A c) = (b : Int) := by
        unfold eC at hb
        split at hb <;> omega
      obtain ⟨σ2, e2, u2, m2, f2, g2⟩ := m_init (N := N) (by omega) (fun σ13 => (fX8_route_L142 (fun v23 _ σ24 => (fX8_route_L195 (fun _ _ σ62 => (fX8_route_L418 (fun v67 _ => (some (v67, σ62))) N (ij (eX A β (aOth A c) (aSe A c))) (ij (eY A β (aOth A c) (aSe A c))) σ62 N (1000000000 : Int32) (0 : Int32))) N N (0 : Int32) v23 σ24)) N (ij (eX A β (aOne A c) (aSd A c))) (ij (eY A β (aOne A c) (aSd A c))) N (0 : Int32) (0 : Int32) σ13)) m1
      obtain ⟨σ3, e3, u3, s3⟩ := m_begin (N := N) (by omega) (fun σ62 => (fX8_route_L418 (fun v67 _ => (some (v67, σ62))) N (ij (eX A β (aOth A c) (aSe A c))) (ij (eY A β (aOth A c) (aSe A c))) σ62 N (1000000000 : Int32) (0 : Int32))) la xya m2 f2 g2
      have i3 := MI_one (E := Em A β) la
      have sb3 := sm_bd (D := D1 a) 1536 i3.2.1
      obtain ⟨σ4, D, Fl, L, f, e4, u4, s4, i4⟩ := m_queue (N := N) (σ := σ1) (by omega) la q1.2 (fun σ62 => (fX8_route_L418 (fun v67 _ => (some (v67, σ62))) N (ij (eX A β (aOth A c) (aSe A c))) (ij (eY A β (aOth A c) (aSe A c))) σ62 N (1000000000 : Int32) (0 : Int32))) (2 * (1536 * 1000000000) + 4) 4 0 σ3 (D1 a) (F1 a) _ (by omega) (u2.tr u3) s3 i3 (by omega) N (by omega)
      have e5 := m_min (N := N) (σ := σ4) (by omega) lb xyb s4.2.1 i4.2.1
      refine ⟨σ4, (mnD D b 4 : Nat), ?_, u1w.tr (Tz_Tw u4), ?_⟩
      · rw [E0]
        refine Eq.trans e2 ?_
        refine Eq.trans e3 ?_
        refine Eq.trans e4 ?_
        exact e5
      · have dg : ∀ x d y, Ed A β x d y → d < 4 := fun _ _ _ e => e.1
        have snd : ∀ d, d < 4 → D (4 * b + d) < 1000000000 → ∃ n, Rm (Ed A β) a n (D (4 * b + d)) b (opp d) := fun d hd hlt => by
          obtain ⟨n, hn⟩ := i4.1 (4 * b + d) (by omega) hlt
          rw [show (4 * b + d) / 4 = b by omega, show (4 * b + d) % 4 = d by omega] at hn
          exact ⟨n, (Rm_opp n _ b d hd dg).1 hn⟩
        have rg := mnD_rg D b 4
        rcases hD with hD | ⟨T, C, hW⟩
        · refine Or.inl ⟨?_, hD⟩
          have := mnD_ge (D := D) (b := b) (Nat.le_refl 1000000000) 4 (fun d hd => by
            by_cases q : 1000000000 ≤ D (4 * b + d)
            · exact q
            · obtain ⟨n, hn⟩ := snd d hd (by omega)
              obtain ⟨t, k, hk, _⟩ := Rm_Rc _ _ _ _ hn
              exact absurd hk (hD a b ha hb q1.2 q2.2 _ _ _))
          omega
        · refine Or.inr ⟨T, C, ?_, hW⟩
          obtain ⟨a', b', w1, w2, _, _, _, _, w3, w4, w5, w6⟩ := hW
          have ea : a' = a := by unfold ca at w1; omega
          have eb : b' = b := by unfold cb at w2; omega
          subst ea
          subst eb
          obtain ⟨⟨d, n, k1⟩, k2⟩ := walk_lex Ed_opp Ed_fun w5 w6 (by omega)
          have hd := Rm_dir Ed_opp k1
          have od := opp_ax hd
          have k3 := (Rm_opp n (1000 * T + C) b' (opp d) od.2.2.1 dg).2 (by rw [od.2.2.2]; exact k1)
          have k4 := MI_opt Em_rg la i4 n _ _ _ k3 (by omega)
          have k5 := mnD_le (D := D) (b := b') (m := 1000 * T + C) (d := opp d) k4.2.2 4 od.2.2.1
          have k6 := mnD_ge (D := D) (b := b') (m := 1000 * T + C) (by omega) 4 (fun d hd => by
            by_cases q : 1000000000 ≤ D (4 * b' + d)
            · omega
            · obtain ⟨n, hn⟩ := snd d hd (by omega)
              exact k2 _ _ _ hn)
          omega
end T5_
