/-! Lists without repeats; the levels of the class's search. -/
def uq (f : Nat → Nat) (k v : Nat) : Nat → Nat := fun j => if j = k then v else f j
theorem uq_eq {f : Nat → Nat} {k v : Nat} : uq f k v k = v := if_pos rfl
theorem uq_ne {f : Nat → Nat} {k v j : Nat} (h : j ≠ k) : uq f k v j = f j := if_neg h
theorem pgh : ∀ n h (H : Nat → Nat), (∀ i, i < h → H i < n) → (∀ i j, i < h → j < h → H i = H j → i = j) → h ≤ n := by
  intro n
  induction n with
  | zero =>
    intro h H h1 _
    by_cases g : h = 0
    · omega
    · have := h1 0 (by omega)
      omega
  | succ n ih =>
    intro h H h1 h2
    by_cases g : ∃ i, i < h ∧ H i = n
    · obtain ⟨i0, a, b⟩ := g
      have := ih (h - 1) (fun j => H (if j < i0 then j else j + 1)) (fun j hj => by
        have c1 : (if j < i0 then j else j + 1) < h := by split <;> omega
        have c2 := h1 _ c1
        have c3 : H (if j < i0 then j else j + 1) ≠ n := fun q => by
          have := h2 _ _ c1 a (q.trans b.symm)
          split at this <;> omega
        show H (if j < i0 then j else j + 1) < n
        omega) (fun j k hj hk q => by
        have c1 : (if j < i0 then j else j + 1) < h := by split <;> omega
        have c2 : (if k < i0 then k else k + 1) < h := by split <;> omega
        have := h2 _ _ c1 c2 q
        split at this <;> split at this <;> omega)
      omega
    · refine Nat.le_succ_of_le (ih h H (fun i hi => ?_) h2)
      have h3 := h1 i hi
      have h4 : H i ≠ n := fun q => g ⟨i, hi, q⟩
      omega
/-- a list without repeats that holds every spot of value L -/
def LI (n L h : Nat) (V H : Nat → Nat) : Prop := (∀ i, i < h → H i < n ∧ V (H i) ≤ L) ∧ (∀ i j, i < h → j < h → H i = H j → i = j) ∧ ∀ s, s < n → V s = L → ∃ i, i < h ∧ H i = s
theorem LI_len {n L h : Nat} {V H : Nat → Nat} (g : LI n L h V H) : h ≤ n := pgh n h H (fun i hi => (g.1 i hi).1) g.2.1
theorem inj_push {h s : Nat} {H : Nat → Nat} (g : ∀ i j, i < h → j < h → H i = H j → i = j) (hs : ∀ i, i < h → H i ≠ s) : ∀ i j, i < h + 1 → j < h + 1 → uq H h s i = uq H h s j → i = j := by
  intro i j hi hj q
  by_cases e1 : i = h
  · by_cases e2 : j = h
    · omega
    · rw [e1, uq_eq, uq_ne e2] at q
      exact absurd q.symm (hs j (by omega))
  · by_cases e2 : j = h
    · rw [e2, uq_eq, uq_ne e1] at q
      exact absurd q (hs i (by omega))
    · rw [uq_ne e1, uq_ne e2] at q
      exact g i j (by omega) (by omega) q
theorem push_lt {n h s : Nat} {H : Nat → Nat} (h1 : ∀ i, i < h → H i < n) (g : ∀ i j, i < h → j < h → H i = H j → i = j) (hs : ∀ i, i < h → H i ≠ s) (hn : s < n) : h < n := by
  have := pgh n (h + 1) (uq H h s) (fun i hi => by
    by_cases e1 : i = h
    · rw [e1, uq_eq]; exact hn
    · rw [uq_ne e1]; exact h1 i (by omega)) (inj_push g hs)
  omega
theorem LI_push {n L h s : Nat} {V H : Nat → Nat} (g : LI n L h V H) (hs : s < n) (hv : L < V s) : h < n ∧ LI n L (h + 1) (uq V s L) (uq H h s) := by
  have hne : ∀ i, i < h → H i ≠ s := fun i hi q => by
    have := (g.1 i hi).2
    rw [q] at this
    omega
  refine ⟨push_lt (fun i hi => (g.1 i hi).1) g.2.1 hne hs, fun i hi => ?_, inj_push g.2.1 hne, fun t ht hq => ?_⟩
  · by_cases e1 : i = h
    · rw [e1, uq_eq, uq_eq]; exact ⟨hs, Nat.le_refl _⟩
    · rw [uq_ne e1, uq_ne (hne i (by omega))]; exact g.1 i (by omega)
  · by_cases e1 : t = s
    · exact ⟨h, by omega, by rw [uq_eq, e1]⟩
    · rw [uq_ne e1] at hq
      obtain ⟨i, hi, q⟩ := g.2.2 t ht hq
      exact ⟨i, by omega, by rw [uq_ne (by omega)]; exact q⟩
theorem LI_keep {n L h s v : Nat} {V H : Nat → Nat} (g : LI n L h V H) (hv : L < V s) (hv2 : L < v) : LI n L h (uq V s v) H := by
  have hne : ∀ i, i < h → H i ≠ s := fun i hi q => by
    have := (g.1 i hi).2
    rw [q] at this
    omega
  refine ⟨fun i hi => ?_, g.2.1, fun t ht hq => ?_⟩
  · rw [uq_ne (hne i hi)]; exact g.1 i hi
  · by_cases e1 : t = s
    · rw [e1, uq_eq] at hq; omega
    · rw [uq_ne e1] at hq; exact g.2.2 t ht hq
theorem LI_low {n L h s v : Nat} {V H : Nat → Nat} (g : LI n L h V H) (hv2 : v < L) : LI n L h (uq V s v) H := by
  refine ⟨fun i hi => ?_, g.2.1, fun t ht hq => ?_⟩
  · by_cases e1 : H i = s
    · rw [e1, uq_eq]; exact ⟨e1 ▸ (g.1 i hi).1, by omega⟩
    · rw [uq_ne e1]; exact g.1 i hi
  · by_cases e1 : t = s
    · rw [e1, uq_eq] at hq; omega
    · rw [uq_ne e1] at hq; exact g.2.2 t ht hq
/-- the steps from s in directions before J can't better V -/
def RX (E : Nat → Nat → Nat → Prop) (V : Nat → Nat) (s J : Nat) : Prop := ∀ d y, d < J → E (s / 2) d y → V (2 * y + d / 2) ≤ V s + if d / 2 = s % 2 then 0 else 1
theorem RX_dn {E : Nat → Nat → Nat → Prop} {V : Nat → Nat} {s u v J : Nat} (h : RX E V s J) (hu : s ≠ u) (hv : v < V u) : RX E (uq V u v) s J := by
  intro d y hd e
  have := h d y hd e
  rw [uq_ne hu]
  by_cases g : 2 * y + d / 2 = u
  · rw [g] at this ⊢
    rw [uq_eq]
    omega
  · rw [uq_ne g]
    exact this
/-- what holds of the values in level L -/
def SB (E : Nat → Nat → Nat → Prop) (a b L : Nat) (V : Nat → Nat) : Prop :=
  (∀ s, s < 768 → V s < 1000000 → ∃ c, Rc E a c (V s) (s / 2) (s % 2)) ∧ (∀ s, s < 768 → V s ≤ L + 1 ∨ V s = 1000000) ∧ V (2 * a) = 0 ∧ V (2 * a + 1) = 0 ∧ (∀ s, s < 768 → V s < L → RX E V s 4) ∧ L ≤ V (2 * b) ∧ L ≤ V (2 * b + 1)
/-- what holds in level L at place i of the list -/
def SI (E : Nat → Nat → Nat → Prop) (a b L i h l : Nat) (V H G : Nat → Nat) : Prop :=
  SB E a b L V ∧ LI 768 L h V H ∧ LI 768 (L + 1) l V G ∧ ∀ j, j < i → V (H j) = L → RX E V (H j) 4
section S3
variable {E : Nat → Nat → Nat → Prop} {a b L i h l J c y : Nat} {V H G : Nat → Nat}
theorem SB_dn {v : Nat} (g : SB E a b L V) (hc : c < 768) (hcL : V c = L) (hL : L < 768) (hJ : J < 4) (e : E (c / 2) J y) (hv : v = L + if J / 2 = c % 2 then 0 else 1) (hlt : v < V (2 * y + J / 2)) : SB E a b L (uq V (2 * y + J / 2) v) := by
  obtain ⟨g1, g2, g3, g4, g5, g6, g7⟩ := g
  have hvL : L ≤ v ∧ v ≤ L + 1 := by split at hv <;> omega
  have n0 : ∀ s, V s ≤ v → s ≠ 2 * y + J / 2 := fun s hs q => by rw [← q] at hlt; omega
  refine ⟨fun s hs hu => ?_, fun s hs => ?_, ?_, ?_, fun s hs hu => ?_, ?_, ?_⟩
  · by_cases q : s = 2 * y + J / 2
    · rw [q, uq_eq, hv]
      obtain ⟨k, hk⟩ := g1 c hc (by omega)
      have := Rc_go hk e
      rw [hcL] at this
      exact ⟨k + 1, by rw [show (2 * y + J / 2) / 2 = y by omega, show (2 * y + J / 2) % 2 = J / 2 by omega]; exact this⟩
    · rw [uq_ne q] at hu ⊢
      exact g1 s hs hu
  · by_cases q : s = 2 * y + J / 2
    · rw [q, uq_eq]; omega
    · rw [uq_ne q]; exact g2 s hs
  · rw [uq_ne (n0 _ (by omega))]; exact g3
  · rw [uq_ne (n0 _ (by omega))]; exact g4
  · by_cases q : s = 2 * y + J / 2
    · rw [q, uq_eq] at hu; omega
    · rw [uq_ne q] at hu
      exact RX_dn (g5 s hs hu) q hlt
  · by_cases q : 2 * b = 2 * y + J / 2
    · rw [q, uq_eq]; omega
    · rw [uq_ne q]; exact g6
  · by_cases q : 2 * b + 1 = 2 * y + J / 2
    · rw [q, uq_eq]; omega
    · rw [uq_ne q]; exact g7
/-- a step that betters its spot, in this level -/
theorem SI_here (g : SI E a b L i h l V H G) (hi : i < h) (hcL : V (H i) = L) (hL : L < 768) (hJ : J < 4) (e : E (H i / 2) J y) (hy : y < 384) (hF : ∀ y', E (H i / 2) J y' → y' = y) (hx : RX E V (H i) J) (hv : J / 2 = H i % 2) (hlt : L < V (2 * y + J / 2)) :
    h < 768 ∧ SI E a b L i (h + 1) l (uq V (2 * y + J / 2) L) (uq H h (2 * y + J / 2)) G ∧ uq H h (2 * y + J / 2) i = H i ∧ uq V (2 * y + J / 2) L (H i) = L ∧ RX E (uq V (2 * y + J / 2) L) (H i) (J + 1) := by
  obtain ⟨g1, g2, g3, g4⟩ := g
  have hci := g2.1 i hi
  obtain ⟨p1, p2⟩ := LI_push g2 (s := 2 * y + J / 2) (by omega) hlt
  have nc : H i ≠ 2 * y + J / 2 := fun q => by rw [← q] at hlt; omega
  refine ⟨p1, ⟨SB_dn g1 hci.1 hcL hL hJ e (by rw [if_pos hv]; omega) hlt, p2, LI_low g3 (by omega), fun j hj hq => ?_⟩, uq_ne (by omega), by rw [uq_ne nc]; exact hcL, fun d y' hd e' => ?_⟩
  · have uj : uq H h (2 * y + J / 2) j = H j := uq_ne (by omega)
    rw [uj] at hq ⊢
    have nj : H j ≠ 2 * y + J / 2 := fun q => by
      have := (g2.1 j (by omega)).2
      rw [← q] at hlt
      omega
    rw [uq_ne nj] at hq
    exact RX_dn (g4 j hj hq) nj hlt
  · by_cases q : d = J
    · subst q
      rw [hF y' e', uq_eq, uq_ne nc, hcL]
      omega
    · exact RX_dn hx nc hlt d y' (by omega) e'
/-- a step that betters its spot, in the next level -/
theorem SI_later (g : SI E a b L i h l V H G) (hi : i < h) (hcL : V (H i) = L) (hL : L < 768) (hJ : J < 4) (e : E (H i / 2) J y) (hy : y < 384) (hF : ∀ y', E (H i / 2) J y' → y' = y) (hx : RX E V (H i) J) (hv : ¬ J / 2 = H i % 2) (hlt : L + 1 < V (2 * y + J / 2)) :
    l < 768 ∧ SI E a b L i h (l + 1) (uq V (2 * y + J / 2) (L + 1)) H (uq G l (2 * y + J / 2)) ∧ uq V (2 * y + J / 2) (L + 1) (H i) = L ∧ RX E (uq V (2 * y + J / 2) (L + 1)) (H i) (J + 1) := by
  obtain ⟨g1, g2, g3, g4⟩ := g
  have hci := g2.1 i hi
  obtain ⟨p1, p2⟩ := LI_push g3 (s := 2 * y + J / 2) (by omega) hlt
  have nc : H i ≠ 2 * y + J / 2 := fun q => by rw [← q] at hlt; omega
  refine ⟨p1, ⟨SB_dn g1 hci.1 hcL hL hJ e (by rw [if_neg hv]) hlt, LI_keep g2 (by omega) (by omega), p2, fun j hj hq => ?_⟩, by rw [uq_ne nc]; exact hcL, fun d y' hd e' => ?_⟩
  · have nj : H j ≠ 2 * y + J / 2 := fun q => by
      have := (g2.1 j (by omega)).2
      rw [← q] at hlt
      omega
    rw [uq_ne nj] at hq
    exact RX_dn (g4 j hj hq) nj hlt
  · by_cases q : d = J
    · subst q
      rw [hF y' e', uq_eq, uq_ne nc, hcL, if_neg hv]
      omega
    · exact RX_dn hx nc hlt d y' (by omega) e'
/-- a step that betters nothing -/
theorem RX_skip (hx : RX E V c J) (hF : ∀ y', E (c / 2) J y' → V (2 * y' + J / 2) ≤ V c + if J / 2 = c % 2 then 0 else 1) : RX E V c (J + 1) := by
  intro d y' hd e'
  by_cases q : d = J
  · subst q
    exact hF y' e'
  · exact hx d y' (by omega) e'
/-- the place is done -/
theorem SI_next (g : SI E a b L i h l V H G) (hx : V (H i) = L → RX E V (H i) 4) : SI E a b L (i + 1) h l V H G := by
  refine ⟨g.1, g.2.1, g.2.2.1, fun j hj hq => ?_⟩
  by_cases q : j = i
  · subst q; exact hx hq
  · exact g.2.2.2 j (by omega) hq
/-- the level is done: all values up to L have their steps taken -/
theorem SI_done (g : SI E a b L h h l V H G) : ∀ s, s < 768 → V s ≤ L → RX E V s 4 := by
  intro s hs hv
  by_cases q : V s = L
  · obtain ⟨i, hi, e⟩ := g.2.1.2.2 s hs q
    have := g.2.2.2 i hi (by rw [e]; exact q)
    rwa [e] at this
  · exact g.1.2.2.2.2.1 s hs (by omega)
/-- the page is turned -/
theorem SI_turn (g : SI E a b L h h l V H G) (h1 : V (2 * b) ≠ L) (h2 : V (2 * b + 1) ≠ L) (hL : L < 768) : SI E a b (L + 1) 0 l 0 V G H := by
  obtain ⟨g1, g2, g3, g4, g5, g6, g7⟩ := g.1
  refine ⟨⟨g1, fun s hs => ?_, g3, g4, fun s hs hv => SI_done g s hs (by omega), by omega, by omega⟩, g.2.2.1, ⟨fun i hi => by omega, fun i j hi => by omega, fun s hs hv => ?_⟩, fun j hj => by omega⟩
  · have := g2 s hs
    omega
  · have := g2 s hs
    omega
/-- values are the least where all steps of lower values are taken -/
theorem opt_le (hE : ∀ x d y, E x d y → d < 4 ∧ y < 384) (ha : a < 384) (h0 : V (2 * a) = 0) (h1 : V (2 * a + 1) = 0) (hr : ∀ s, s < 768 → V s ≤ L → RX E V s 4) : ∀ c t x ax, Rc E a c t x ax → t ≤ L → ax < 2 ∧ x < 384 ∧ V (2 * x + ax) ≤ t := by
  intro c
  induction c with
  | zero => intro t x ax h; exact h.elim
  | succ c ih =>
    intro t x ax h ht
    rcases h with ⟨_, rfl, rfl, h⟩ | ⟨t', x', ax', d, h, e, rfl, rfl⟩
    · refine ⟨h, ha, ?_⟩
      have : ax = 0 ∨ ax = 1 := by omega
      rcases this with rfl | rfl
      · show V (2 * x) ≤ 0
        omega
      · omega
    · have hd := hE _ _ _ e
      have i1 := ih _ _ _ h (by split at ht <;> omega)
      have r := hr (2 * x' + ax') (by omega) (by split at ht <;> omega) d x (by omega) (by rw [show (2 * x' + ax') / 2 = x' by omega]; exact e)
      rw [show (2 * x' + ax') % 2 = ax' by omega] at r
      exact ⟨by omega, hd.2, by omega⟩
/-- where all steps are taken, all that can be come to has a value -/
theorem opt_all (hE : ∀ x d y, E x d y → d < 4 ∧ y < 384) (ha : a < 384) (h0 : V (2 * a) = 0) (h1 : V (2 * a + 1) = 0) (hL : L < 999999) (hr : ∀ s, s < 768 → V s < 1000000 → V s ≤ L ∧ RX E V s 4) : ∀ c t x ax, Rc E a c t x ax → ax < 2 ∧ x < 384 ∧ V (2 * x + ax) < 1000000 := by
  intro c
  induction c with
  | zero => intro t x ax h; exact h.elim
  | succ c ih =>
    intro t x ax h
    rcases h with ⟨_, rfl, rfl, h⟩ | ⟨t', x', ax', d, h, e, rfl, rfl⟩
    · refine ⟨h, ha, ?_⟩
      have : ax = 0 ∨ ax = 1 := by omega
      rcases this with rfl | rfl
      · show V (2 * x) < 1000000
        omega
      · omega
    · have hd := hE _ _ _ e
      have i1 := ih _ _ _ h
      obtain ⟨r1, r⟩ := hr (2 * x' + ax') (by omega) (by omega)
      have r := r d x (by omega) (by rw [show (2 * x' + ax') / 2 = x' by omega]; exact e)
      exact ⟨by omega, hd.2, by split at r <;> omega⟩
/-- below a value that is the least stands each lower one -/
theorem chain {M : Nat} (hE : ∀ x d y, E x d y → d < 4 ∧ y < 384) (ha : a < 384) (h0 : V (2 * a) = 0) (h1 : V (2 * a + 1) = 0) (hr : ∀ s, s < 768 → V s ≤ M → RX E V s 4) : ∀ c x ax, Rc E a c (M + 1) x ax → M + 1 ≤ V (2 * x + ax) → ∃ s, s < 768 ∧ V s = M := by
  have wf : ∀ c t x ax, Rc E a c t x ax → ax < 2 ∧ x < 384 := by
    intro c t x ax h
    cases c with
    | zero => exact h.elim
    | succ c =>
      rcases h with ⟨_, _, rfl, h⟩ | ⟨_, _, _, _, _, e, rfl, _⟩
      · exact ⟨h, ha⟩
      · exact ⟨by have := (hE _ _ _ e).1; omega, (hE _ _ _ e).2⟩
  intro c
  induction c with
  | zero => intro x ax h; exact h.elim
  | succ c ih =>
    intro x ax h hv
    rcases h with ⟨_, h, _, _⟩ | ⟨t', x', ax', d, h, e, rfl, ht⟩
    · omega
    · obtain ⟨p1, p2⟩ := wf _ _ _ _ h
      have r := fun q => hr (2 * x' + ax') (by omega) q d x (hE _ _ _ e).1 (by rw [show (2 * x' + ax') / 2 = x' by omega]; exact e)
      rw [show (2 * x' + ax') % 2 = ax' by omega] at r
      by_cases k2 : d / 2 = ax'
      · rw [if_pos k2] at r ht
        refine ih x' ax' (by rw [show M + 1 = t' by omega]; exact h) ?_
        by_cases k3 : V (2 * x' + ax') ≤ M
        · have := r k3
          omega
        · omega
      · rw [if_neg k2] at r ht
        have := (opt_le hE ha h0 h1 hr _ _ _ _ h (by omega)).2.2
        have := r (by omega)
        exact ⟨2 * x' + ax', by omega, by omega⟩
theorem level_lt {K s : Nat} (hE : ∀ x d y, E x d y → d < 4 ∧ y < 384) (ha : a < 384) (h0 : V (2 * a) = 0) (h1 : V (2 * a + 1) = 0) (hr : ∀ s, s < 768 → V s < K → RX E V s 4) (hs : ∀ s, s < 768 → V s ≤ K → ∃ c, Rc E a c (V s) (s / 2) (s % 2)) (hsl : s < 768) (hv : V s = K) : K < 768 := by
  have key : ∀ k, k ≤ K → ∃ s, s < 768 ∧ V s = K - k := by
    intro k
    induction k with
    | zero => intro _; exact ⟨s, hsl, hv⟩
    | succ k ih =>
      intro hk
      obtain ⟨s', q1, q2⟩ := ih (by omega)
      obtain ⟨c, hc⟩ := hs s' q1 (by omega)
      rw [q2, show K - k = (K - (k + 1)) + 1 by omega] at hc
      exact chain hE ha h0 h1 (fun s hs hq => hr s hs (by omega)) c (s' / 2) (s' % 2) hc (by rw [show 2 * (s' / 2) + s' % 2 = s' by omega]; omega)
  have := levels_n (n := 768) V (k := K + 1) (fun L hL => by
    obtain ⟨s', q1, q2⟩ := key (K - L) (by omega)
    exact ⟨s', q1, by omega⟩)
  omega
/-- what the search finds: T, the least changes of the axis -/
def FV (E : Nat → Nat → Nat → Prop) (a b T : Nat) (V : Nat → Nat) : Prop := (∀ s, s < 768 → V s ≤ T → RX E V s 4) ∧ (∀ s, s < 768 → V s < 1000000 → ∃ c, Rc E a c (V s) (s / 2) (s % 2)) ∧ (∀ s, s < 768 → V s ≤ T + 1 ∨ V s = 1000000) ∧ V (2 * a) = 0 ∧ V (2 * a + 1) = 0 ∧ T ≤ V (2 * b) ∧ T ≤ V (2 * b + 1) ∧ (V (2 * b) = T ∨ V (2 * b + 1) = T)
theorem SI_found (g : SI E a b L h h l V H G) (hb : V (2 * b) = L ∨ V (2 * b + 1) = L) : FV E a b L V :=
  ⟨SI_done g, g.1.1, g.1.2.1, g.1.2.2.1, g.1.2.2.2.1, g.1.2.2.2.2.2.1, g.1.2.2.2.2.2.2, hb⟩
theorem FV_min (hE : ∀ x d y, E x d y → d < 4 ∧ y < 384) (ha : a < 384) {T : Nat} (g : FV E a b T V) {c t ax : Nat} (h : Rc E a c t b ax) : T ≤ t := by
  obtain ⟨g1, g2, g3, g4, g5, g6, g7, g8⟩ := g
  by_cases k : t < T
  · obtain ⟨p1, p2, p3⟩ := opt_le hE ha g4 g5 g1 c t b ax h (by omega)
    have : ax = 0 ∨ ax = 1 := by omega
    rcases this with rfl | rfl
    · have q3 : V (2 * b) ≤ t := p3
      omega
    · omega
  · omega
/-- an empty level, or one level too many: there is no way -/
theorem SI_none (hE : ∀ x d y, E x d y → d < 4 ∧ y < 384) (ha : a < 384) (g : SI E a b L 0 h 0 V H G) (hq : h = 0 ∨ L = 768) (hL : L ≤ 768) : ∀ c t ax, ¬ Rc E a c t b ax := by
  obtain ⟨g1, g2, g3, g4, g5, g6, g7⟩ := g.1
  have hne : ∀ s, s < 768 → V s ≠ L := by
    intro s hs q
    rcases hq with rfl | rfl
    · obtain ⟨i, hi, _⟩ := g.2.1.2.2 s hs q
      omega
    · have := level_lt hE ha g3 g4 g5 (fun s hs hv => g1 s hs (by omega)) hs q
      omega
  intro c t ax hw
  have hn2 : ∀ s, s < 768 → V s < 1000000 → V s < L := by
    intro s hs hv
    have e1 := g2 s hs
    have e2 := hne s hs
    have e3 : V s ≠ L + 1 := fun q => by
      obtain ⟨i, hi, _⟩ := g.2.2.1.2.2 s hs q
      omega
    omega
  obtain ⟨p1, p2, p3⟩ := opt_all hE ha g3 g4 (L := L) (by omega) (fun s hs hv => ⟨by have := hn2 s hs hv; omega, g5 s hs (hn2 s hs hv)⟩) c t b ax hw
  have p4 := hn2 _ (by omega) p3
  have : ax = 0 ∨ ax = 1 := by omega
  rcases this with rfl | rfl
  · have q3 : V (2 * b) < L := p4
    omega
  · omega
end S3
