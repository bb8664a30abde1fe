/-! Rounds over all cells: the values settle, one spot a round at the least. -/
def RV (E : Nat → Nat → Nat → Prop) (a : Nat) (V : Nat → Nat) : Prop := (∀ s, s < 768 → V s < 1000000 → ∃ c, Rc E a c (V s) (s / 2) (s % 2)) ∧ (∀ s, s < 768 → V s ≤ 1000000) ∧ V (2 * a) = 0 ∧ V (2 * a + 1) = 0
def sd (E : Nat → Nat → Nat → Prop) (a : Nat) (V : Nat → Nat) (s : Nat) : Prop := ∀ c t, Rc E a c t (s / 2) (s % 2) → V s ≤ t
/-- the steps to x from the cells beside it, in directions before J, have been taken -/
def dn (E : Nat → Nat → Nat → Prop) (W V : Nat → Nat) (x J : Nat) : Prop := ∀ d y ax, d < J → E x d y → ax < 2 → V (2 * x + d / 2) ≤ W (2 * y + ax) + if d / 2 = ax then 0 else 1
def RI (E : Nat → Nat → Nat → Prop) (a : Nat) (W V : Nat → Nat) (x J : Nat) (ch : Bool) : Prop := RV E a V ∧ (∀ s, s < 768 → V s ≤ W s) ∧ (∀ x', x' < x → dn E W V x' 4) ∧ dn E W V x J ∧ (ch = false → ∀ s, s < 768 → V s = W s)
/-- as many settled spots as rounds -/
def SR_ (E : Nat → Nat → Nat → Prop) (a k : Nat) (V : Nat → Nat) : Prop := RV E a V ∧ ((∀ s, s < 768 → sd E a V s) ∨ ∃ p : Nat → Bool, (∀ s, s < 768 → p s = true → sd E a V s) ∧ k ≤ ct p 768)
theorem ct_all {p : Nat → Bool} : ∀ n, n ≤ ct p n → ∀ s, s < n → p s = true := by
  intro n
  induction n with
  | zero => intro _ s hs; omega
  | succ n ih =>
    intro h s hs
    simp only [ct] at h
    have := ct_le p n
    by_cases q : p n = true
    · rw [if_pos q] at h
      by_cases q2 : s = n
      · rw [q2]; exact q
      · exact ih (by omega) s (by omega)
    · rw [if_neg q] at h
      omega
theorem ct_add {p : Nat → Bool} {u : Nat} : ∀ n, u < n → p u = false → ct (fun s => p s || s == u) n = ct p n + 1 := by
  intro n
  induction n with
  | zero => intro h; omega
  | succ n ih =>
    intro h hp
    simp only [ct]
    by_cases q : u = n
    · subst q
      have : ct (fun s => p s || s == u) u = ct p u := ct_congr (fun k hk => by
        have : (k == u) = false := by rw [beq_eq_false_iff_ne]; omega
        show (p k || k == u) = p k
        rw [this, Bool.or_false])
      simp [this, hp]
    · have h1 := ih (by omega) hp
      have : (n == u) = false := by rw [beq_eq_false_iff_ne]; omega
      simp only [this, Bool.or_false]
      omega
theorem lexmin {P : Nat → Nat → Prop} : ∀ t c, P t c → ∃ t c, P t c ∧ ∀ t' c', P t' c' → t < t' ∨ (t = t' ∧ c ≤ c') := by
  intro t
  induction t using Nat.strongRecOn with
  | ind t iht =>
    intro c
    induction c using Nat.strongRecOn with
    | ind c ihc =>
      intro h
      by_cases q : ∃ t' c', P t' c' ∧ (t' < t ∨ (t' = t ∧ c' < c))
      · obtain ⟨t', c', h1, h2⟩ := q
        rcases h2 with h2 | ⟨rfl, h2⟩
        · exact iht t' h2 c' h1
        · exact ihc c' h2 h1
      · refine ⟨t, c, h, fun t' c' h' => ?_⟩
        have : ¬ (t' < t ∨ (t' = t ∧ c' < c)) := fun z => q ⟨t', c', h', z⟩
        omega
section T1_
variable {E : Nat → Nat → Nat → Prop} {a b x J y : Nat} {V W : Nat → Nat} {ch : Bool}
theorem dn_le {V' : Nat → Nat} (h : dn E W V x J) (hx : x < 384) (hE : ∀ x d y, E x d y → d < 4 ∧ y < 384) (hv : ∀ s, s < 768 → V' s ≤ V s) : dn E W V' x J := fun d y ax hd e hax => by
  have := h d y ax hd e hax
  have := hv (2 * x + d / 2) (by have := (hE _ _ _ e).1; omega)
  omega
/-- a step in a round -/
theorem RI_up (hE : ∀ x d y, E x d y → d < 4 ∧ y < 384) (hO : ∀ x d y, E x d y → d < 4 ∧ E y (opp d) x) (hF : ∀ x d y y', E x d y → E x d y' → y = y') (hx : x < 384) (g : RI E a W V x J ch) (hJ : J < 4) (e : E x J y) {v : Nat} (hv : v = if V (2 * y + 1 - J / 2) + 1 < V (2 * y + J / 2) then V (2 * y + 1 - J / 2) + 1 else V (2 * y + J / 2)) :
    (v < V (2 * x + J / 2) → RI E a W (uq V (2 * x + J / 2) v) x (J + 1) true) ∧ (V (2 * x + J / 2) ≤ v → RI E a W V x (J + 1) ch) := by
  obtain ⟨⟨g1, g2, g3, g4⟩, g5, g6, g7, g8⟩ := g
  have hy := (hE _ _ _ e).2
  have hbest : ∀ ax, ax < 2 → v ≤ W (2 * y + ax) + if J / 2 = ax then 0 else 1 := by
    intro ax hax
    by_cases q : J / 2 = ax
    · rw [if_pos q, ← q]
      have := g5 (2 * y + J / 2) (by omega)
      split at hv <;> omega
    · rw [if_neg q]
      have e1 : 2 * y + ax = 2 * y + 1 - J / 2 := by omega
      have := g5 (2 * y + ax) (by omega)
      rw [e1] at this ⊢
      split at hv <;> omega
  constructor
  · intro hlt
    have hle : ∀ s, s < 768 → uq V (2 * x + J / 2) v s ≤ V s := fun s hs => by
      by_cases q : s = 2 * x + J / 2
      · rw [q, uq_eq]; omega
      · rw [uq_ne q]; exact Nat.le_refl _
    refine ⟨⟨fun s hs hu => ?_, fun s hs => Nat.le_trans (hle s hs) (g2 s hs), ?_, ?_⟩, fun s hs => Nat.le_trans (hle s hs) (g5 s hs), fun x' hx' => dn_le (g6 x' hx') (by omega) hE hle, fun d y' ax hd e' hax => ?_, fun q => by cases q⟩
    · by_cases q : s = 2 * x + J / 2
      · rw [q, uq_eq] at hu ⊢
        have eo := hO _ _ _ e
        have oa := (opp_ax hJ).1
        rw [show (2 * x + J / 2) / 2 = x by omega, show (2 * x + J / 2) % 2 = J / 2 by omega]
        by_cases k : V (2 * y + 1 - J / 2) + 1 < V (2 * y + J / 2)
        · rw [if_pos k] at hv
          obtain ⟨c, hc⟩ := g1 (2 * y + 1 - J / 2) (by omega) (by omega)
          have := Rc_go hc (show E ((2 * y + 1 - J / 2) / 2) (opp J) x by rw [show (2 * y + 1 - J / 2) / 2 = y by omega]; exact eo.2)
          rw [oa, if_neg (by omega), ← hv] at this
          exact ⟨_, this⟩
        · rw [if_neg k] at hv
          obtain ⟨c, hc⟩ := g1 (2 * y + J / 2) (by omega) (by omega)
          have := Rc_go hc (show E ((2 * y + J / 2) / 2) (opp J) x by rw [show (2 * y + J / 2) / 2 = y by omega]; exact eo.2)
          rw [oa, if_pos (by omega), Nat.add_zero, ← hv] at this
          exact ⟨_, this⟩
      · rw [uq_ne q] at hu ⊢
        exact g1 s hs hu
    · have := hle (2 * a)
      by_cases q : 2 * a = 2 * x + J / 2
      · rw [← q] at hlt; omega
      · rw [uq_ne q]; exact g3
    · by_cases q : 2 * a + 1 = 2 * x + J / 2
      · rw [← q] at hlt; omega
      · rw [uq_ne q]; exact g4
    · by_cases q : d = J
      · subst q
        rw [uq_eq, hF _ _ _ _ e' e]
        exact hbest ax hax
      · exact dn_le g7 hx hE hle d y' ax (by omega) e' hax
  · intro hge
    refine ⟨⟨g1, g2, g3, g4⟩, g5, g6, fun d y' ax hd e' hax => ?_, g8⟩
    by_cases q : d = J
    · subst q
      rw [hF _ _ _ _ e' e]
      exact Nat.le_trans hge (hbest ax hax)
    · exact g7 d y' ax (by omega) e' hax
theorem RI_no (g : RI E a W V x J ch) (e : ∀ y, ¬ E x J y) : RI E a W V x (J + 1) ch := by
  refine ⟨g.1, g.2.1, g.2.2.1, fun d y' ax hd e' hax => ?_, g.2.2.2.2⟩
  by_cases q : d = J
  · subst q; exact absurd e' (e y')
  · exact g.2.2.2.1 d y' ax (by omega) e' hax
theorem RI_cell (g : RI E a W V x 4 ch) : RI E a W V (x + 1) 0 ch := by
  refine ⟨g.1, g.2.1, fun x' hx' => ?_, fun d y' ax hd => by omega, g.2.2.2.2⟩
  by_cases q : x' = x
  · rw [q]; exact g.2.2.2.1
  · exact g.2.2.1 x' (by omega)
theorem RI_wall (g : RI E a W V x 0 ch) (e : ∀ d y, ¬ E x d y) : RI E a W V (x + 1) 0 ch := by
  refine ⟨g.1, g.2.1, fun x' hx' => ?_, fun d y' ax hd => by omega, g.2.2.2.2⟩
  by_cases q : x' = x
  · rw [q]; exact fun d y' ax hd e' => absurd e' (e d y')
  · exact g.2.2.1 x' (by omega)
theorem RI_start (g : RV E a V) : RI E a V V 0 0 false := ⟨g, fun s _ => Nat.le_refl _, fun x' hx' => by omega, fun d y' ax hd => by omega, fun _ s _ => rfl⟩
theorem Rc_rg (hE : ∀ x d y, E x d y → d < 4 ∧ y < 384) (ha : a < 384) {c t x ax : Nat} (h : Rc E a c t x ax) : ax < 2 ∧ x < 384 := by
  cases c with
  | zero => exact h.elim
  | succ c =>
    rcases h with ⟨_, _, rfl, h⟩ | ⟨_, _, _, _, _, e, rfl, _⟩
    · exact ⟨h, ha⟩
    · exact ⟨by have := (hE _ _ _ e).1; omega, (hE _ _ _ e).2⟩
theorem RI_edge (hE : ∀ x d y, E x d y → d < 4 ∧ y < 384) (hO : ∀ x d y, E x d y → d < 4 ∧ E y (opp d) x) (g : RI E a W V 384 0 ch) {d ax : Nat} (e : E y d x) (hax : ax < 2) : V (2 * x + d / 2) ≤ W (2 * y + ax) + if d / 2 = ax then 0 else 1 := by
  have hd := hE _ _ _ e
  have := g.2.2.1 x (by omega) (opp d) y ax (opp_ax hd.1).2.2.1 (hO _ _ _ e).2 hax
  rw [(opp_ax hd.1).1] at this
  exact this
/-- nothing changed: all is settled -/
theorem RI_same (hE : ∀ x d y, E x d y → d < 4 ∧ y < 384) (hO : ∀ x d y, E x d y → d < 4 ∧ E y (opp d) x) (ha : a < 384) (g : RI E a W V 384 0 false) : ∀ s, s < 768 → sd E a V s := by
  intro s hs c t hw
  have := (opt_le (L := t) hE ha g.1.2.2.1 g.1.2.2.2 (fun s hs _ d y hd e => by
    have r := RI_edge hE hO g e (ax := s % 2) (by omega)
    rw [← g.2.2.2.2 rfl _ (by omega), show 2 * (s / 2) + s % 2 = s by omega] at r
    exact r) c t (s / 2) (s % 2) hw (Nat.le_refl _)).2.2
  rw [show 2 * (s / 2) + s % 2 = s by omega] at this
  exact this
/-- a round settles one spot more -/
theorem SR_round (hE : ∀ x d y, E x d y → d < 4 ∧ y < 384) (hO : ∀ x d y, E x d y → d < 4 ∧ E y (opp d) x) (ha : a < 384) {k : Nat} (h : SR_ E a k W) (g : RI E a W V 384 0 ch) : SR_ E a (k + 1) V := by
  refine ⟨g.1, ?_⟩
  have up : ∀ s, s < 768 → sd E a W s → sd E a V s := fun s hs hw c t h => Nat.le_trans (g.2.1 s hs) (hw c t h)
  rcases h.2 with h | ⟨p, h1, h2⟩
  · exact Or.inl (fun s hs => up s hs (h s hs))
  · by_cases q : ∃ t c s, s < 768 ∧ Rc E a c t (s / 2) (s % 2) ∧ t < W s
    · obtain ⟨t0, c0, q⟩ := q
      obtain ⟨t, c, ⟨s, s1, s2, s3⟩, hm⟩ := lexmin (P := fun t c => ∃ s, s < 768 ∧ Rc E a c t (s / 2) (s % 2) ∧ t < W s) t0 c0 q
      have hV : V s ≤ t := by
        cases c with
        | zero => exact s2.elim
        | succ c =>
          rcases s2 with ⟨_, rfl, ex, _⟩ | ⟨t', x', ax', d, hw, e, eax, et⟩
          · have : s = 2 * a ∨ s = 2 * a + 1 := by omega
            rcases this with rfl | rfl
            · have := g.1.2.2.1; omega
            · have := g.1.2.2.2; omega
          · have rg := Rc_rg hE ha hw
            have hp : W (2 * x' + ax') ≤ t' := by
              by_cases z : W (2 * x' + ax') ≤ t'
              · exact z
              · have := hm t' c ⟨2 * x' + ax', by omega, by rw [show (2 * x' + ax') / 2 = x' by omega, show (2 * x' + ax') % 2 = ax' by omega]; exact hw, by omega⟩
                split at et <;> omega
            have r := RI_edge hE hO g e rg.1
            rw [show 2 * (s / 2) + d / 2 = s by omega] at r
            omega
      refine Or.inr ⟨fun j => p j || j == s, fun j hj hq => ?_, ?_⟩
      · by_cases z : j = s
        · rw [z]
          intro c2 t2 hw2
          by_cases z2 : t2 < t
          · have := hm t2 c2 ⟨s, s1, hw2, by omega⟩
            omega
          · omega
        · have : (j == s) = false := by rw [beq_eq_false_iff_ne]; exact z
          simp only [this, Bool.or_false] at hq
          exact up j hj (h1 j hj hq)
      · have pf : p s = false := by
          cases hp : p s with
          | false => rfl
          | true =>
            have := h1 s s1 hp c t s2
            omega
        rw [ct_add 768 s1 pf]
        omega
    · refine Or.inl (fun s hs => up s hs (fun c t hw => ?_))
      by_cases z : W s ≤ t
      · exact z
      · exact absurd ⟨t, c, s, hs, hw, by omega⟩ q
theorem SR_all {k : Nat} (h : SR_ E a k V) (hk : 768 ≤ k) : ∀ s, s < 768 → sd E a V s := by
  rcases h.2 with h | ⟨p, h1, h2⟩
  · exact h
  · exact fun s hs => h1 s hs (ct_all 768 (by omega) s hs)
/-- all that can be come to has a value -/
theorem sd_reach (hE : ∀ x d y, E x d y → d < 4 ∧ y < 384) (ha : a < 384) (g : RV E a V) (h : ∀ s, s < 768 → sd E a V s) : ∀ c t x ax, Rc E a c t x ax → ax < 2 ∧ x < 384 ∧ V (2 * x + ax) < 1000000 := by
  have hr : ∀ s, s < 768 → V s < 1000000 → RX E V s 4 := by
    intro s hs hv d y hd e
    obtain ⟨c, hc⟩ := g.1 s hs hv
    have hy := hE _ _ _ e
    have := h (2 * y + d / 2) (by omega) _ _ (by rw [show (2 * y + d / 2) / 2 = y by omega, show (2 * y + d / 2) % 2 = d / 2 by omega]; exact Rc_go hc e)
    exact this
  refine opt_all hE ha g.2.2.1 g.2.2.2 (L := 768) (by omega) (fun s hs hv => ⟨?_, hr s hs hv⟩)
  have := level_lt hE ha g.2.2.1 g.2.2.2 (fun s' hs' hv' => hr s' hs' (by omega)) (fun s' hs' hv' => g.1 s' hs' (by omega)) hs rfl
  omega
/-- the value at the end -/
theorem sd_end (hE : ∀ x d y, E x d y → d < 4 ∧ y < 384) (ha : a < 384) (hb : b < 384) (g : RV E a V) (h : ∀ s, s < 768 → sd E a V s) {m : Nat} (hm : m = if V (2 * b + 1) < V (2 * b) then V (2 * b + 1) else V (2 * b)) : (m < 1000000 → (∃ c ax, Rc E a c m b ax) ∧ ∀ c t ax, Rc E a c t b ax → m ≤ t) ∧ (1000000 ≤ m → ∀ c t ax, ¬ Rc E a c t b ax) := by
  have e0 : (2 * b) / 2 = b ∧ (2 * b) % 2 = 0 ∧ (2 * b + 1) / 2 = b ∧ (2 * b + 1) % 2 = 1 := by omega
  have le : ∀ c t ax, Rc E a c t b ax → m ≤ t := by
    intro c t ax hw
    have r := Rc_rg hE ha hw
    have : ax = 0 ∨ ax = 1 := by omega
    rcases this with rfl | rfl
    · have := h (2 * b) (by omega) c t (by rw [e0.1, e0.2.1]; exact hw)
      split at hm <;> omega
    · have := h (2 * b + 1) (by omega) c t (by rw [e0.2.2.1, e0.2.2.2]; exact hw)
      split at hm <;> omega
  refine ⟨fun hlt => ⟨?_, le⟩, fun hge c t ax hw => ?_⟩
  · by_cases k : V (2 * b + 1) < V (2 * b)
    · rw [if_pos k] at hm
      obtain ⟨c, hc⟩ := g.1 (2 * b + 1) (by omega) (by omega)
      rw [e0.2.2.1, e0.2.2.2, ← hm] at hc
      exact ⟨c, 1, hc⟩
    · rw [if_neg k] at hm
      obtain ⟨c, hc⟩ := g.1 (2 * b) (by omega) (by omega)
      rw [e0.1, e0.2.1, ← hm] at hc
      exact ⟨c, 0, hc⟩
  · have r := sd_reach hE ha g h c t b ax hw
    have : ax = 0 ∨ ax = 1 := by omega
    rcases this with rfl | rfl
    · have r3 : V (2 * b) < 1000000 := r.2.2
      split at hm <;> omega
    · split at hm <;> omega
end T1_
