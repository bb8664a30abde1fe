/-! The class's search by levels. -/
/-- at the place i in level L -/
def LvS (A : Ab) (β : Nat → Nat) (a b L i : Nat) (σ τ : St) (h l : Nat) (V : Nat → Nat) : Prop := ∃ H G, Un Ts σ τ ∧ CSt A β a b τ V H h G l ∧ SI (Ed A β) a b L i h l V H G
section S5_
variable {A : Ab} {N : Nat} {σ : St} {β : Nat → Nat} {a b : Nat}
theorem f_goOn (hN : 1000 ≤ N) (ha : a < 384) (hao : opn A β a = true) {L i h l : Nat} {V : Nat → Nat} (hL : L < 768) {τ : St} (g : LvS A β a b L i σ τ h l V) (hi : i < h) : ∃ υ h' l' V', fX4_goOn N τ (gI τ 131 (gR τ 0) i) (ij L) = some υ ∧ LvS A β a b L (i + 1) σ υ h' l' V' := by
  obtain ⟨H, G, gU, gC, gS⟩ := g
  have hc := (gS.2.1.1 i hi).1
  have gc : gI τ 131 (gR τ 0) i = ij (H i) := gC.2.2.2.2.2.2.1 i hi
  have i1 : fX7_intAt N τ 128 0 768 (ij (H i)) (1000000 : Int32) = some (ij (V (H i))) := by
    rw [f_intAt (by omega) (by omega) (by omega), tn_nat, gC.2.2.2.2.1 _ hc]
  have hVb := gS.1.2.1 _ hc
  rw [gc]
  unfold fX4_goOn
  rw [i1, ob_s]
  by_cases k : V (H i) = L
  · rw [if_pos (by rw [k])]
    obtain ⟨υ, e, V', H', h', G', l', q1, q2, q3, q4, q5, q6, q7⟩ := lp_st (fun n j τ => fX4_goOn_L17 (fun _ s => some s) N (ij (H i)) (ij L) n (ij j) τ) (fun j υ => GS A β a b L i (H i) σ j υ) (Nat.zero_le 4) (fun n j τ _ hj hP => GS_step ha hao hL hc _ n hj hP) N τ (by omega) ⟨V, H, h, G, l, gU, gC, gS, hi, rfl, k, fun d y hd => by omega⟩
    refine ⟨υ, h', l', V', ?_, H', G', q1, q2, SI_next q3 (fun _ => by rw [q5]; exact q7)⟩
    refine Eq.trans e ?_
    have e2 : N - (4 - 0) = (N - 4 - 1) + 1 := by omega
    show fX4_goOn_L17 _ N _ _ (N - (4 - 0)) _ υ = _
    rw [e2]
    simp only [fX4_goOn_L17]
    rw [if_pos (by decide)]
  · have nk : ¬ ij (V (H i) : Nat) = ij (L : Nat) := by
      rw [ij_eq (by omega) (by omega) (by omega) (by omega)]
      omega
    rw [if_neg nk]
    exact ⟨τ, h, l, V, rfl, H, G, gU, gC, SI_next gS (fun q => absurd q k)⟩
theorem f_level (hN : 1000 ≤ N) (ha : a < 384) (hao : opn A β a = true) {L : Nat} (hL : L < 768) (K : St → Option (Int32 × St)) : ∀ k i h l V τ, 768 - i = k → i ≤ 768 → LvS A β a b L i σ τ h l V → ∀ n, k < n → ∃ υ h' l' V', fX4_fewestTurns_L84 (fun _ s => K s) N (ij L) n (ij (i : Nat)) τ = K υ ∧ LvS A β a b L h' σ υ h' l' V' := by
  intro k
  induction k with
  | zero =>
    intro i h l V τ hk hi g n hn
    obtain ⟨H, G, gU, gC, gS⟩ := g
    have hlen := LI_len gS.2.1
    have e : n = (n - 1) + 1 := by omega
    refine ⟨τ, h, l, V, ?_, H, G, gU, gC, gS.1, gS.2.1, gS.2.2.1, fun j hj => gS.2.2.2 j (by omega)⟩
    rw [e]
    simp only [fX4_fewestTurns_L84]
    rw [if_pos (by rw [gC.2.2.2.2.2.1, ij_le (by omega) (by omega) (by omega) (by omega)]; omega)]
  | succ k ih =>
    intro i h l V τ hk hi g n hn
    have e : n = (n - 1) + 1 := by omega
    by_cases q : h ≤ i
    · obtain ⟨H, G, gU, gC, gS⟩ := g
      refine ⟨τ, h, l, V, ?_, H, G, gU, gC, gS.1, gS.2.1, gS.2.2.1, fun j hj => gS.2.2.2 j (by omega)⟩
      have hlen := LI_len gS.2.1
      rw [e]
      simp only [fX4_fewestTurns_L84]
      rw [if_pos (by rw [gC.2.2.2.2.2.1, ij_le (by omega) (by omega) (by omega) (by omega)]; omega)]
    · obtain ⟨υ, h', l', V', e1, g1⟩ := f_goOn (N := N) hN ha hao hL g (by omega)
      obtain ⟨H, G, gU, gC, gS⟩ := g
      have hlen := LI_len gS.2.1
      have r2 : decide (gR τ 0 < 2) = true := by rcases gC.1 with ⟨x, y⟩ | ⟨x, y⟩ <;> rw [x] <;> rfl
      obtain ⟨ω, h2, l2, V2, e2, g2⟩ := ih (i + 1) h' l' V' υ (by omega) (by omega) g1 (n - 1) (by omega)
      refine ⟨ω, h2, l2, V2, ?_, g2⟩
      rw [e]
      simp only [fX4_fewestTurns_L84]
      rw [if_neg (by rw [gC.2.2.2.2.2.1, ij_le (by omega) (by omega) (by omega) (by omega)]; omega), if_neg (by rw [show (768 : Int32) = ij 768 from rfl, ij_le (by omega) (by omega) (by omega) (by omega)]; omega), r2, ck_tr, ck_in _ (by omega) (by omega) (by omega), ij_natN (by omega), e1, ob_s, vl_s, show ij (i : Int) + (1 : Int32) = ij ((i + 1 : Nat) : Int) from ij_add _ 1]
      exact e2
def mn2 (V : Nat → Nat) (b : Nat) : Nat := if V (2 * b + 1) < V (2 * b) then V (2 * b + 1) else V (2 * b)
theorem f_turnsAtEnd {τ : St} {V H G : Nat → Nat} {h l : Nat} (hb : b < 384) (g : CSt A β a b τ V H h G l) (hV : ∀ s, s < 768 → V s ≤ 1000000) : fX4_turnsAtEnd N τ = some (ij (mn2 V b)) := by
  have e1 : ij (b : Int) * (2 : Int32) = ij ((2 * b : Nat) : Int) := by
    rw [show (2 : Int32) = ij 2 from rfl, ij_mul]
    congr 1
    omega
  have e2 : ij ((2 * b : Nat) : Int) + (1 : Int32) = ij ((2 * b + 1 : Nat) : Int) := ij_add _ 1
  have v1 := hV (2 * b) (by omega)
  have v2 := hV (2 * b + 1) (by omega)
  unfold fX4_turnsAtEnd
  rw [g.2.2.2.1, e1, e2, f_intAt (by omega) (by omega) (by omega), ob_s, f_intAt (by omega) (by omega) (by omega), ob_s, tn_nat, tn_nat, g.2.2.2.2.1 _ (by omega), g.2.2.2.2.1 _ (by omega)]
  unfold mn2
  by_cases k : V (2 * b + 1) < V (2 * b)
  · rw [if_pos k, if_pos (by rw [ij_lt (by omega) (by omega) (by omega) (by omega)]; omega)]
  · rw [if_neg k, if_neg (by rw [ij_lt (by omega) (by omega) (by omega) (by omega)]; omega)]
theorem gR_sR (τ : St) (k v j : Nat) : gR (sR τ k v) j = if j = k then v else gR τ j := by
  unfold gR sR va_up
  by_cases q : j = k
  · simp [q]
  · simp [q]
theorem gI_sR (τ : St) (k v c o j : Nat) : gI (sR τ k v) c o j = gI τ c o j := rfl
theorem Un_sR (τ : St) (k v : Nat) : Un Ts τ (sR τ k v) := ⟨fun _ _ _ => ⟨rfl, rfl⟩, rfl, fun q => by cases q⟩
theorem f_turnPage {τ : St} {V H G : Nat → Nat} {h l : Nat} (g : CSt A β a b τ V H h G l) : ∃ υ, fX4_turnPage N τ = some υ ∧ Un Ts τ υ ∧ CSt A β a b υ V G l H 0 := by
  obtain ⟨g1, g2, g3, g4, g5, g6, g7, g8, g9⟩ := g
  have r2 : decide (gR τ 0 < 2) = true := by rcases g1 with ⟨x, y⟩ | ⟨x, y⟩ <;> rw [x] <;> rfl
  have r3 : decide (gR τ 1 < 2) = true := by rcases g1 with ⟨x, y⟩ | ⟨x, y⟩ <;> rw [y] <;> rfl
  refine ⟨sI (sR (sI (sR τ 0 (gR τ 1)) 6 0 5 (ij l)) 1 (gR τ 0)) 6 0 6 (ij 0), ?_, (((Un_sR _ _ _).tr (Un.sI _ _ _ rfl)).tr (Un_sR _ _ _)).tr (Un.sI _ _ _ rfl), ?_⟩
  · unfold fX4_turnPage
    rw [r2, r3, ck_tr, ck_tr, vl_s, vl_s, vl_s, vl_s, gI_sR, g8]
    rfl
  · have R0 : gR (sI (sR (sI (sR τ 0 (gR τ 1)) 6 0 5 (ij l)) 1 (gR τ 0)) 6 0 6 (ij 0)) 0 = gR τ 1 := by
      rw [gR_sI, gR_sR, if_neg (by omega), gR_sI, gR_sR, if_pos rfl]
    have R1 : gR (sI (sR (sI (sR τ 0 (gR τ 1)) 6 0 5 (ij l)) 1 (gR τ 0)) 6 0 6 (ij 0)) 1 = gR τ 0 := by
      rw [gR_sI, gR_sR, if_pos rfl]
    refine ⟨?_, fun x hx => ?_, ?_, ?_, fun s hs => ?_, ?_, fun i hi => ?_, ?_, fun i hi => by omega⟩
    · unfold RfC
      rw [R0, R1]
      rcases g1 with ⟨x, y⟩ | ⟨x, y⟩
      · exact Or.inr ⟨y, x⟩
      · exact Or.inl ⟨y, x⟩
    · rw [gI_sI_ne (by omega), gI_sR, gI_sI_ne (by omega), gI_sR]; exact g2 x hx
    · rw [gI_sI_eq, if_neg (by omega), gI_sR, gI_sI_eq, if_neg (by omega), gI_sR]; exact g3
    · rw [gI_sI_eq, if_neg (by omega), gI_sR, gI_sI_eq, if_neg (by omega), gI_sR]; exact g4
    · rw [gI_sI_ne (by omega), gI_sR, gI_sI_ne (by omega), gI_sR]; exact g5 s hs
    · rw [gI_sI_eq, if_neg (by omega), gI_sR, gI_sI_eq, if_pos rfl]
    · rw [R0, gI_sI_ne (by omega), gI_sR, gI_sI_ne (by omega), gI_sR]; exact g9 i hi
    · rw [gI_sI_eq, if_pos rfl]; rfl
theorem mn2_eq {V : Nat → Nat} {L : Nat} (h1 : L ≤ V (2 * b)) (h2 : L ≤ V (2 * b + 1)) : mn2 V b = L ↔ V (2 * b) = L ∨ V (2 * b + 1) = L := by
  unfold mn2
  split
  · constructor
    · intro q; exact Or.inr q
    · intro q; omega
  · constructor
    · intro q; exact Or.inl q
    · intro q; omega
/-- what the search answers -/
def FTr (A : Ab) (β : Nat → Nat) (a b : Nat) (σ υ : St) (v : Int) : Prop := Un Ts σ υ ∧ ((v = -1 ∧ RfC υ ∧ ∀ c t ax, ¬ Rc (Ed A β) a c t b ax) ∨ ∃ T V H h G l, v = (T : Nat) ∧ T < 768 ∧ CSt A β a b υ V H h G l ∧ FV (Ed A β) a b T V)
theorem f_levels (hN : 1000 ≤ N) (ha : a < 384) (hb : b < 384) (hao : opn A β a = true) : ∀ k L h V τ, 768 - L = k → L ≤ 768 → LvS A β a b L 0 σ τ h 0 V → ∀ n, k < n → ∃ υ v, fX4_fewestTurns_L68 (fun _ σ19 => (some (((-1) : Int32), σ19))) N n (ij (L : Nat)) τ = some (ij v, υ) ∧ FTr A β a b σ υ v := by
  intro k
  induction k with
  | zero =>
    intro L h V τ hk hL g n hn
    obtain ⟨H, G, gU, gC, gS⟩ := g
    have e : n = (n - 1) + 1 := by omega
    refine ⟨τ, -1, ?_, gU, Or.inl ⟨rfl, gC.1, SI_none Ed_rg ha gS (Or.inr (by omega)) hL⟩⟩
    rw [e]
    simp only [fX4_fewestTurns_L68]
    rw [if_pos (by rw [show (768 : Int32) = ij 768 from rfl, ij_le (by omega) (by omega) (by omega) (by omega)]; omega)]
    rfl
  | succ k ih =>
    intro L h V τ hk hL g n hn
    have e : n = (n - 1) + 1 := by omega
    have n7 : ¬ (768 : Int32) ≤ ij (L : Nat) := by rw [show (768 : Int32) = ij 768 from rfl, ij_le (by omega) (by omega) (by omega) (by omega)]; omega
    by_cases q : h = 0
    · obtain ⟨H, G, gU, gC, gS⟩ := g
      refine ⟨τ, -1, ?_, gU, Or.inl ⟨rfl, gC.1, SI_none Ed_rg ha gS (Or.inl q) hL⟩⟩
      rw [e]
      simp only [fX4_fewestTurns_L68]
      rw [if_neg n7, if_pos (by rw [gC.2.2.2.2.2.1, q]; decide)]
      rfl
    · have n0 : ¬ gI τ 6 0 5 ≤ 0 := by
        obtain ⟨H, G, gU, gC, gS⟩ := g
        have hlen := LI_len gS.2.1
        rw [gC.2.2.2.2.2.1, show (0 : Int32) = ij 0 from rfl, ij_le (by omega) (by omega) (by omega) (by omega)]
        omega
      obtain ⟨υ, h', l', V', e1, g1⟩ := f_level (N := N) (L := L) hN ha hao (by omega) (fun σ15 => (ob (fX4_turnsAtEnd N σ15) fun v16 => (if v16 = ij (L : Nat) then (some (ij (L : Nat), σ15)) else (ob (fX4_turnPage N σ15) fun σ17 => (vl (ij (L : Nat) + (1 : Int32)) fun v18 => (fX4_fewestTurns_L68 (fun _ σ19 => (some (((-1) : Int32), σ19))) N (n - 1) v18 σ17)))))) 768 0 h 0 V τ rfl (by omega) g N (by omega)
      obtain ⟨H, G, gU, gC, gS⟩ := g1
      have hVb : ∀ s, s < 768 → V' s ≤ 1000000 := fun s hs => by have := gS.1.2.1 s hs; omega
      have hte := f_turnsAtEnd (N := N) hb gC hVb
      obtain ⟨b1, b2⟩ := gS.1.2.2.2.2.2
      have m1 := mn2_eq b1 b2
      have mb : mn2 V' b ≤ 1000000 := by
        unfold mn2
        have := hVb (2 * b) (by omega)
        have := hVb (2 * b + 1) (by omega)
        split <;> omega
      by_cases k2 : mn2 V' b = L
      · refine ⟨υ, L, ?_, gU, Or.inr ⟨L, V', H, h', G, l', rfl, by omega, gC, SI_found gS (m1.1 k2)⟩⟩
        rw [e]
        simp only [fX4_fewestTurns_L68]
        rw [if_neg n7, if_neg n0]
        refine Eq.trans e1 ?_
        show ob _ _ = _
        rw [hte, ob_s, if_pos (by rw [k2])]
      · obtain ⟨ω, w1, w2, w3⟩ := f_turnPage (N := N) gC
        have nb : ¬ V' (2 * b) = L ∧ ¬ V' (2 * b + 1) = L := ⟨fun q => k2 (m1.2 (Or.inl q)), fun q => k2 (m1.2 (Or.inr q))⟩
        have w4 := SI_turn gS nb.1 nb.2 (by omega)
        have w5 : SI (Ed A β) a b (L + 1) 0 l' 0 V' G H := ⟨w4.1, w4.2.1, ⟨fun i hi => by omega, fun i j hi => by omega, w4.2.2.1.2.2⟩, fun j hj => by omega⟩
        obtain ⟨χ, v, x1, x2⟩ := ih (L + 1) l' V' ω (by omega) (by omega) ⟨G, H, gU.tr w2, w3, w5⟩ (n - 1) (by omega)
        refine ⟨χ, v, ?_, x2⟩
        rw [e]
        simp only [fX4_fewestTurns_L68]
        rw [if_neg n7, if_neg n0]
        refine Eq.trans e1 ?_
        show ob _ _ = _
        rw [hte, ob_s, if_neg (by rw [ij_eq (by omega) (by omega) (by omega) (by omega)]; omega), w1, ob_s, vl_s, show ij (L : Int) + (1 : Int32) = ij ((L + 1 : Nat) : Int) from ij_add _ 1]
        exact x1
end S5_
