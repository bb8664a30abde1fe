/-! The model's search: its cells. -/
def Tz : Nat → Nat → Bool := fun c q => (c == 169 || c == 170 || c == 172) && q == 0
def so_ (J : Nat) : Int := if J = 0 then 1 else if J = 1 then -1 else 0
def sw_ (J : Nat) : Int := if J = 2 then 1 else if J = 3 then -1 else 0
/-- steps in the directions of the model -/
def Em (A : Ab) (β : Nat → Nat) : Nat → Nat → Nat → Prop := fun x d y => Ed A β x (opp d) y
def MSt (A : Ab) (β : Nat → Nat) (τ : St) (D : Nat → Nat) (Fl : Nat → Bool) (w : Nat) (L : Nat → Nat) (f : Nat) : Prop :=
  (∀ c, c < 384 → gI τ 171 0 c = bi (!opn A β c)) ∧ (∀ s, s < 1536 → gI τ 169 0 s = ij (D s)) ∧ (∀ s, s < 1536 → gI τ 172 0 s = bi (Fl s)) ∧ ∀ k, k < w → gI τ 170 0 ((f + k) % 1536) = ij (L k)
section T4_
variable {A : Ab} {N : Nat} {σ τ : St} {β : Nat → Nat} {a b w c f J M x : Nat} {D L : Nat → Nat} {Fl : Nat → Bool}
theorem m_stepOver (hJ : J < 4) : fX8_stepOver N τ (ij J) = some (ij (so_ J)) := by
  have : J = 0 ∨ J = 1 ∨ J = 2 ∨ J = 3 := by omega
  rcases this with rfl | rfl | rfl | rfl <;> rfl
theorem m_stepDown (hJ : J < 4) : fX8_stepDown N τ (ij J) = some (ij (sw_ J)) := by
  have : J = 0 ∨ J = 1 ∨ J = 2 ∨ J = 3 := by omega
  rcases this with rfl | rfl | rfl | rfl <;> rfl
theorem nb_opp (hJ : J < 4) : nbI x (opp J) = eC ((x % 24 : Nat) + so_ J) ((x / 24 : Nat) + sw_ J) := by
  have : J = 0 ∨ J = 1 ∨ J = 2 ∨ J = 3 := by omega
  rcases this with rfl | rfl | rfl | rfl
  · show eC ((x % 24 : Nat) + 1) (x / 24 : Nat) = eC ((x % 24 : Nat) + 1) ((x / 24 : Nat) + 0)
    rw [Int.add_zero]
  · show eC ((x % 24 : Nat) - 1) (x / 24 : Nat) = eC ((x % 24 : Nat) + -1) ((x / 24 : Nat) + 0)
    rw [Int.add_zero]
    rfl
  · show eC (x % 24 : Nat) ((x / 24 : Nat) + 1) = eC ((x % 24 : Nat) + 0) ((x / 24 : Nat) + 1)
    rw [Int.add_zero]
  · show eC (x % 24 : Nat) ((x / 24 : Nat) - 1) = eC ((x % 24 : Nat) + 0) ((x / 24 : Nat) + -1)
    rw [Int.add_zero]
    rfl
theorem so_rg (J : Nat) : -1 ≤ so_ J ∧ so_ J ≤ 1 := by
  unfold so_
  split
  · omega
  · split <;> omega
theorem sw_rg (J : Nat) : -1 ≤ sw_ J ∧ sw_ J ≤ 1 := by
  unfold sw_
  split
  · omega
  · split <;> omega
theorem m_edge (hx : x < 384) (hJ : J < 4) (ho : opn A β x = true) : (opz A β ((x % 24 : Nat) + so_ J) ((x / 24 : Nat) + sw_ J) = false ∧ ∀ y, ¬ Em A β x J y) ∨ ∃ y : Nat, y < 384 ∧ opz A β ((x % 24 : Nat) + so_ J) ((x / 24 : Nat) + sw_ J) = true ∧ 24 * (((x / 24 : Nat) : Int) + sw_ J) + (((x % 24 : Nat) : Int) + so_ J) = (y : Int) ∧ Em A β x J y := by
  have hn := nb_opp (x := x) hJ
  have od := (opp_ax hJ).2.2.1
  have s1 := so_rg J
  have s2 := sw_rg J
  unfold opz
  unfold eC at hn
  by_cases g : 0 ≤ ((x % 24 : Nat) : Int) + so_ J ∧ ((x % 24 : Nat) : Int) + so_ J ≤ 23 ∧ 0 ≤ ((x / 24 : Nat) : Int) + sw_ J ∧ ((x / 24 : Nat) : Int) + sw_ J ≤ 15
  · rw [if_pos g] at hn
    rw [decide_eq_true g, Bool.true_and]
    obtain ⟨y, hy⟩ : ∃ y : Nat, 24 * (((x / 24 : Nat) : Int) + sw_ J) + (((x % 24 : Nat) : Int) + so_ J) = (y : Int) := ⟨(24 * (((x / 24 : Nat) : Int) + sw_ J) + (((x % 24 : Nat) : Int) + so_ J)).toNat, by omega⟩
    have hny : nbI x (opp J) = (y : Int) := by omega
    rw [hy, tn_nat]
    cases o : opn A β y with
    | false =>
      refine Or.inl ⟨rfl, fun y' e => ?_⟩
      have e1 := e.2.2.2.1
      have e2 := e.2.2.2.2
      rw [hny] at e1
      rw [show y' = y by omega, o] at e2
      cases e2
    | true => exact Or.inr ⟨y, by omega, rfl, rfl, od, hx, ho, hny, o⟩
  · rw [if_neg g] at hn
    rw [decide_eq_false g, Bool.false_and]
    exact Or.inl ⟨rfl, fun y' e => by have := e.2.2.2.1; omega⟩
theorem Em_rg : ∀ x d y, Em A β x d y → d < 4 ∧ y < 384 := by
  intro x d y e
  have h := e.1
  refine ⟨?_, Ed_lt e⟩
  unfold opp at h
  split at h <;> omega
theorem Em_fun : ∀ x d y y', Em A β x d y → Em A β x d y' → y = y' := fun _ _ _ _ e e' => Ed_fun _ _ _ _ e e'
theorem Rm_opn (ha : a < 384) (hb : opn A β a = true) {n w x d : Nat} (h : Rm (Em A β) a n w x d) : opn A β x = true ∧ x < 384 ∧ d < 4 := by
  cases n with
  | zero => exact h.elim
  | succ n =>
    rcases h with ⟨_, _, rfl, h⟩ | ⟨_, _, _, _, e, _⟩
    · exact ⟨hb, ha, h⟩
    · exact ⟨e.2.2.2.2, Ed_lt e, (Em_rg _ _ _ e).1⟩
theorem ij_m1536 {m : Nat} (h : m < 1000000) : ij (m : Int) - ij (m : Int) / (1536 : Int32) * (1536 : Int32) = ij ((m % 1536 : Nat) : Int) := by
  rw [show (1536 : Int32) = ij 1536 from rfl, ij_div (by omega) (by omega) (by omega) (by omega), ij_mul, ij_sub]
  congr 1
  omega
theorem ij_m4 {m : Nat} (h : m < 1000000) : ij (m : Int) - ij (m : Int) / (4 : Int32) * (4 : Int32) = ij ((m % 4 : Nat) : Int) := by
  rw [show (4 : Int32) = ij 4 from rfl, ij_div (by omega) (by omega) (by omega) (by omega), ij_mul, ij_sub]
  congr 1
  omega
theorem ij_m24 {m : Nat} (h : m < 1000000) : ij (m : Int) - ij (m : Int) / (24 : Int32) * (24 : Int32) = ij ((m % 24 : Nat) : Int) := by
  rw [show (24 : Int32) = ij 24 from rfl, ij_div (by omega) (by omega) (by omega) (by omega), ij_mul, ij_sub]
  congr 1
  omega
theorem ij_d4 {m : Nat} (h : m < 1000000) : ij (m : Int) / (4 : Int32) = ij ((m / 4 : Nat) : Int) := by
  rw [show (4 : Int32) = ij 4 from rfl, ij_div (by omega) (by omega) (by omega) (by omega)]
  congr 1
theorem ij_d24 {m : Nat} (h : m < 1000000) : ij (m : Int) / (24 : Int32) = ij ((m / 24 : Nat) : Int) := by
  rw [show (24 : Int32) = ij 24 from rfl, ij_div (by omega) (by omega) (by omega) (by omega)]
  congr 1
/-- while the steps of the state c are taken -/
def LvP (A : Ab) (β : Nat → Nat) (a c f M : Nat) (σ : St) (J w : Nat) (τ : St) : Prop := ∃ D Fl L, Un Tz σ τ ∧ MSt A β τ D Fl w L f ∧ MI (Em A β) a D Fl w L c ∧ RQ (Em A β) D c J ∧ Fl c = false ∧ D c < 1000000000 ∧ 2 * sm D 1536 + w ≤ M
theorem m_tail {X : Type} (G : Int32 → Int32 → St → Option X) (hf : f < 1536) (hc : c < 1536) (hJ : J < 4) {y v : Nat} (e : Em A β (c / 4) J y) (gU : Un Tz σ τ) (gS : MSt A β τ D Fl w L f) (gI_ : MI (Em A β) a D Fl w L c) (gX : RQ (Em A β) D c J) (gF : Fl c = false) (gD : D c < 1000000000) (gM : 2 * sm D 1536 + w ≤ M) (hv : v = D c + 1 + if J = c % 4 then 0 else 1000) :
    ∃ w' υ, (ck (inb (ij ((4 * y + J : Nat) : Int)) 1536) (if ij (v : Nat) < (gI τ 169 0 (Int32.toNatClampNeg (ij ((4 * y + J : Nat) : Int)))) then (ck (inb (ij ((4 * y + J : Nat) : Int)) 1536) (vl (sI τ 169 0 (Int32.toNatClampNeg (ij ((4 * y + J : Nat) : Int))) (ij (v : Nat))) fun σ52 => (ck (inb (ij ((4 * y + J : Nat) : Int)) 1536) (if (gI σ52 172 0 (Int32.toNatClampNeg (ij ((4 * y + J : Nat) : Int)))) = 0 then (ck (inb ((ij (f : Nat) + ij (w : Nat)) - (ij (f : Nat) + ij (w : Nat)) / (1536 : Int32) * (1536 : Int32)) 1536) (vl (sI σ52 170 0 (Int32.toNatClampNeg ((ij (f : Nat) + ij (w : Nat)) - (ij (f : Nat) + ij (w : Nat)) / (1536 : Int32) * (1536 : Int32))) (ij ((4 * y + J : Nat) : Int))) fun σ53 => (ck (inb (ij ((4 * y + J : Nat) : Int)) 1536) (vl (sI σ53 172 0 (Int32.toNatClampNeg (ij ((4 * y + J : Nat) : Int))) (vp_nar .boolean (1 : Int32))) fun σ54 => (vl (ij (w : Nat) + (1 : Int32)) fun v55 => (vl (ij (J : Nat) + (1 : Int32)) fun v56 => (G v55 v56 σ54))))))) else (vl (ij (J : Nat) + (1 : Int32)) fun v57 => (G (ij (w : Nat)) v57 σ52)))))) else (vl (ij (J : Nat) + (1 : Int32)) fun v58 => (G (ij (w : Nat)) v58 τ)))) = G (ij ((w' : Nat) : Int)) (ij ((J + 1 : Nat) : Int)) υ ∧ LvP A β a c f M σ (J + 1) w' υ := by
  have hE := Em_rg _ _ _ e
  have hy := hE.2
  have hu : 4 * y + J < 1536 := by omega
  have hlen := MI_len gI_
  have hJ1 : ij (J : Int) + (1 : Int32) = ij ((J + 1 : Nat) : Int) := ij_add _ 1
  have hw1 : ij (w : Int) + (1 : Int32) = ij ((w + 1 : Nat) : Int) := ij_add _ 1
  have hfw : ij (f : Int) + ij (w : Int) = ij ((f + w : Nat) : Int) := ij_add _ _
  have hDu := gI_.2.1 _ hu
  have hF : ∀ y', Em A β (c / 4) J y' → y' = y := fun y' e' => Em_fun _ _ _ _ e' e
  have vb : v ≤ D c + 1001 := by split at hv <;> omega
  rw [ck_in _ (by omega) (by omega) (by omega), ij_natN (by omega), gS.2.1 _ hu, hJ1]
  by_cases k : v < D (4 * y + J)
  · obtain ⟨r1, r2, r3, r4, r5⟩ := MI_low gI_ hc hJ e hy hF gD gX hv k
    have sd := sm_dn k 1536 hu
    have gS1 : MSt A β (sI τ 169 0 (4 * y + J) (ij (v : Nat))) (uq D (4 * y + J) v) Fl w L f := by
      refine ⟨fun c hc => by rw [gI_sI_ne (by omega)]; exact gS.1 c hc, fun s hs => ?_, fun s hs => by rw [gI_sI_ne (by omega)]; exact gS.2.2.1 s hs, fun k hk => by rw [gI_sI_ne (by omega)]; exact gS.2.2.2 k hk⟩
      rw [gI_sI_eq]
      by_cases q : s = 4 * y + J
      · rw [if_pos q, q, uq_eq]
      · rw [if_neg q, uq_ne q]; exact gS.2.1 s hs
    rw [if_pos (by rw [ij_lt (by omega) (by omega) (by omega) (by omega)]; omega), ck_in _ (by omega) (by omega) (by omega), vl_s, ck_in _ (by omega) (by omega) (by omega), gS1.2.2.1 _ hu]
    cases z : Fl (4 * y + J) with
    | true =>
      rw [if_neg (by decide), vl_s]
      exact ⟨w, _, rfl, _, Fl, L, gU.tr (Un.sI _ _ _ rfl), gS1, r3 z, r1, gF, by rw [r2]; exact gD, by omega⟩
    | false =>
      obtain ⟨p1, p2⟩ := r4 z
      rw [if_pos (by decide), hfw, ij_m1536 (by omega), ck_in _ (by omega) (by omega) (by omega), vl_s, ck_in _ (by omega) (by omega) (by omega), vl_s, hw1, vl_s, vl_s, ij_natN (by omega)]
      refine ⟨w + 1, _, rfl, _, _, _, ((gU.tr (Un.sI _ _ _ rfl)).tr (Un.sI _ _ _ rfl)).tr (Un.sI _ _ _ rfl), ⟨fun c hc => ?_, fun s hs => ?_, fun s hs => ?_, fun k hk => ?_⟩, p2, r1, r5 gF, by rw [r2]; exact gD, by omega⟩
      · rw [gI_sI_ne (by omega), gI_sI_ne (by omega)]; exact gS1.1 c hc
      · rw [gI_sI_ne (by omega), gI_sI_ne (by omega)]; exact gS1.2.1 s hs
      · rw [gI_sI_eq]
        by_cases q : s = 4 * y + J
        · rw [if_pos q, q, uqB_eq]; rfl
        · rw [if_neg q, uqB_ne q, gI_sI_ne (by omega)]; exact gS1.2.2.1 s hs
      · rw [gI_sI_ne (by omega), gI_sI_eq]
        by_cases q : k = w
        · rw [if_pos (by rw [q]), q, uq_eq]
        · rw [if_neg (by omega), uq_ne q]
          exact gS1.2.2.2 k (by omega)
  · rw [if_neg (by rw [ij_lt (by omega) (by omega) (by omega) (by omega)]; omega), vl_s]
    exact ⟨w, τ, rfl, D, Fl, L, gU, gS, gI_, RQ_skip gX (fun y' e' => by rw [hF y' e']; omega), gF, gD, gM⟩
theorem LP_step (ha : a < 384) (hao : opn A β a = true) (hf : f < 1536) (hc : c < 1536) (K : Int32 → St → Option (Int32 × St)) (n : Nat) (hJ : J < 4) (g : LvP A β a c f M σ J w τ) : ∃ w' υ, fX8_route_L253 (fun v _ s => K v s) N (ij c) (ij f) (ij ((c / 4 % 24 : Nat) : Int)) (ij ((c / 4 / 24 : Nat) : Int)) (n + 1) (ij w) (ij J) τ = fX8_route_L253 (fun v _ s => K v s) N (ij c) (ij f) (ij ((c / 4 % 24 : Nat) : Int)) (ij ((c / 4 / 24 : Nat) : Int)) n (ij ((w' : Nat) : Int)) (ij ((J + 1 : Nat) : Int)) υ ∧ LvP A β a c f M σ (J + 1) w' υ := by
  obtain ⟨D, Fl, L, gU, gS, gI_, gX, gF, gD, gM⟩ := g
  obtain ⟨m, hm⟩ := gI_.1 c hc gD
  have hop := (Rm_opn ha hao hm).1
  have s1 := so_rg J
  have s2 := sw_rg J
  have hJ1 : ij (J : Int) + (1 : Int32) = ij ((J + 1 : Nat) : Int) := ij_add _ 1
  have io := m_isOpen (N := N) (σ := τ) gS.1 (x := ((c / 4 % 24 : Nat) : Int) + so_ J) (y := ((c / 4 / 24 : Nat) : Int) + sw_ J) (by constructor <;> omega) (by constructor <;> omega)
  simp only [fX8_route_L253]
  rw [if_neg (by rw [show (4 : Int32) = ij 4 from rfl, ij_le (by omega) (by omega) (by omega) (by omega)]; omega), m_stepOver hJ, ob_s, ij_add, vl_s, m_stepDown hJ, ob_s, ij_add, vl_s, io, ob_s]
  rcases m_edge (A := A) (β := β) (x := c / 4) (J := J) (by omega) hJ hop with ⟨e1, e2⟩ | ⟨y, y1, y2, y3, y4⟩
  · rw [e1, if_pos (by decide), vl_s, hJ1]
    exact ⟨w, τ, rfl, D, Fl, L, gU, gS, gI_, RQ_skip gX (fun y' e' => absurd e' (e2 y')), gF, gD, gM⟩
  · have hu : (4 : Int32) * ((24 : Int32) * ij (((c / 4 / 24 : Nat) : Int) + sw_ J) + ij (((c / 4 % 24 : Nat) : Int) + so_ J)) + ij (J : Int) = ij ((4 * y + J : Nat) : Int) := by
      rw [show (4 : Int32) = ij 4 from rfl, show (24 : Int32) = ij 24 from rfl, ij_mul, ij_add, ij_mul, ij_add]
      congr 1
      omega
    rw [y2, if_neg (by decide), hu, vl_s, ck_in _ (by omega) (by omega) (by omega), ij_m4 (by omega), ij_natN (by omega), gS.2.1 c hc]
    by_cases k : J = c % 4
    · rw [if_pos (by rw [← k]), vl_s]
      have hv : ij (D c : Nat) + (1 : Int32) + (0 : Int32) = ij ((D c + 1 : Nat) : Int) := by
        rw [show (1 : Int32) = ij 1 from rfl, show (0 : Int32) = ij 0 from rfl, ij_add, ij_add]
        congr 1
      rw [hv]
      exact m_tail _ hf hc hJ y4 gU gS gI_ gX gF gD gM (by rw [if_pos k])
    · rw [if_neg (by rw [ij_eq (by omega) (by omega) (by omega) (by omega)]; omega), vl_s]
      have hv : ij (D c : Nat) + (1 : Int32) + (1000 : Int32) = ij ((D c + 1 + 1000 : Nat) : Int) := by
        rw [show (1 : Int32) = ij 1 from rfl, show (1000 : Int32) = ij 1000 from rfl, ij_add, ij_add]
        congr 1
      rw [hv]
      exact m_tail _ hf hc hJ y4 gU gS gI_ gX gF gD gM (by rw [if_neg k])
theorem m_queue (hN : 1000 ≤ N) (ha : a < 384) (hao : opn A β a = true) (K : St → Option (Int32 × St)) : ∀ M w f τ D Fl L, f < 1536 → Un Tz σ τ → MSt A β τ D Fl w L f → MI (Em A β) a D Fl w L 1536 → 2 * sm D 1536 + w ≤ M → ∀ n, M < n → ∃ υ D' Fl' L' f', fX8_route_L195 (fun _ _ s => K s) N n (ij (f : Nat)) (ij (w : Nat)) τ = K υ ∧ Un Tz σ υ ∧ MSt A β υ D' Fl' 0 L' f' ∧ MI (Em A β) a D' Fl' 0 L' 1536 := by
  intro M
  induction M with
  | zero =>
    intro w f τ D Fl L hf gU gS gI_ gM n hn
    have e : n = (n - 1) + 1 := by omega
    have hw : w = 0 := by omega
    subst hw
    refine ⟨τ, D, Fl, L, f, ?_, gU, gS, gI_⟩
    rw [e]
    simp only [fX8_route_L195]
    rw [if_pos (by decide)]
  | succ M ih =>
    intro w f τ D Fl L hf gU gS gI_ gM m_ hn
    have e : m_ = (m_ - 1) + 1 := by omega
    have hlen := MI_len gI_
    by_cases hw : w = 0
    · subst hw
      refine ⟨τ, D, Fl, L, f, ?_, gU, gS, gI_⟩
      rw [e]
      simp only [fX8_route_L195]
      rw [if_pos (by decide)]
    · have h0 := gI_.2.2.1 0 (by omega)
      have q0 : gI τ 170 0 f = ij (L 0) := by
        have := gS.2.2.2 0 (by omega)
        rw [show (f + 0) % 1536 = f by omega] at this
        exact this
      have pop := MI_pop gI_ (by omega)
      have gS1 : MSt A β (sI τ 172 0 (L 0) (bi false)) D (uqB Fl (L 0) false) (w - 1) (fun k => L (k + 1)) ((f + 1) % 1536) := by
        refine ⟨fun c hc => by rw [gI_sI_ne (by omega)]; exact gS.1 c hc, fun s hs => by rw [gI_sI_ne (by omega)]; exact gS.2.1 s hs, fun s hs => ?_, fun k hk => ?_⟩
        · rw [gI_sI_eq]
          by_cases q : s = L 0
          · rw [if_pos q, q, uqB_eq]
          · rw [if_neg q, uqB_ne q]; exact gS.2.2.1 s hs
        · rw [gI_sI_ne (by omega), show ((f + 1) % 1536 + k) % 1536 = (f + (k + 1)) % 1536 by omega]
          exact gS.2.2.2 (k + 1) (by omega)
      obtain ⟨⟨w', υ⟩, e1, hP⟩ := lp_st (S := Nat × St) (fun n j s => fX8_route_L253 (fun v60 _ σ61 => (fX8_route_L195 (fun _ _ s => K s) N (m_ - 1) (ij (((f + 1) % 1536 : Nat) : Int)) v60 σ61)) N (ij (L 0)) (ij (((f + 1) % 1536 : Nat) : Int)) (ij ((L 0 / 4 % 24 : Nat) : Int)) (ij ((L 0 / 4 / 24 : Nat) : Int)) n (ij (s.1 : Nat)) (ij j) s.2) (fun j s => LvP A β a (L 0) ((f + 1) % 1536) M σ j s.1 s.2) (Nat.zero_le 4) (fun n j s _ hj hP => by
        obtain ⟨w2, υ2, h1, h2⟩ := LP_step (N := N) ha hao (by omega) h0.1 (fun v60 σ61 => (fX8_route_L195 (fun _ _ s => K s) N (m_ - 1) (ij (((f + 1) % 1536 : Nat) : Int)) v60 σ61)) n hj hP
        exact ⟨(w2, υ2), h1, h2⟩) N (w - 1, sI τ 172 0 (L 0) (bi false)) (by omega) ⟨D, _, _, gU.tr (Un.sI _ _ _ rfl), gS1, pop, fun d y hd => by omega, uqB_eq, h0.2.2, by omega⟩
      obtain ⟨D2, Fl2, L2, u2, s2, i2, x2, f2, d2, m2⟩ := hP
      obtain ⟨ω, D3, Fl3, L3, f3, w1, w2⟩ := ih w' ((f + 1) % 1536) υ D2 Fl2 L2 (by omega) u2 s2 (MI_back i2 x2) m2 (m_ - 1) (by omega)
      refine ⟨ω, D3, Fl3, L3, f3, ?_, w2⟩
      have ef : ij (f : Int) + (1 : Int32) = ij ((f + 1 : Nat) : Int) := ij_add _ 1
      have ew : ij (w : Int) + (-1 : Int32) = ij ((w - 1 : Nat) : Int) := by
        rw [show (-1 : Int32) = ij (-1) from rfl, ij_add]
        congr 1
        omega
      rw [e]
      simp only [fX8_route_L195]
      rw [if_neg (by rw [show (0 : Int32) = ij 0 from rfl, ij_le (by omega) (by omega) (by omega) (by omega)]; omega), ck_in _ (by omega) (by omega) (by omega), ij_natN (by omega), q0, vl_s, ef, ij_m1536 (by omega), vl_s, ew, vl_s, ck_in _ (by omega) (by omega) (by omega), ij_natN (by omega), vl_s, ij_d4 (by omega), ij_m24 (by omega), vl_s, ij_d24 (by omega), vl_s]
      refine Eq.trans e1 ?_
      have e3 : N - (4 - 0) = (N - 4 - 1) + 1 := by omega
      show fX8_route_L253 _ N _ _ _ _ (N - (4 - 0)) (ij (w' : Nat)) _ υ = _
      rw [e3]
      simp only [fX8_route_L253]
      rw [if_pos (by decide)]
      exact w1
end T4_
