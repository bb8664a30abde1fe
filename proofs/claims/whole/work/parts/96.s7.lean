/-! Fewest cells: a queue over the steps that waste no change of the axis. -/
/-- the steps from s before J that waste nothing have been counted on -/
def TX (E : Nat → Nat → Nat → Prop) (V Cn : Nat → Nat) (s J : Nat) : Prop := ∀ d y, d < J → E (s / 2) d y → V (2 * y + d / 2) = V s + (if d / 2 = s % 2 then 0 else 1) → 0 < Cn (2 * y + d / 2) ∧ Cn (2 * y + d / 2) ≤ Cn s + 1
def QI (E : Nat → Nat → Nat → Prop) (a b T : Nat) (V : Nat → Nat) (i h : Nat) (Cn H : Nat → Nat) : Prop :=
  (∀ j, j < h → H j < 768 ∧ 0 < Cn (H j) ∧ Cn (H j) ≤ j + 1) ∧ (∀ j k, j < h → k < h → H j = H k → j = k) ∧
  (∀ s, s < 768 → 0 < Cn s → (∃ j, j < h ∧ H j = s) ∧ V s < 1000000 ∧ Rc E a (Cn s) (V s) (s / 2) (s % 2)) ∧
  (∀ j k, j ≤ k → k < h → Cn (H j) ≤ Cn (H k)) ∧ (∀ j, j < h → i < h → Cn (H j) ≤ Cn (H i) + 1) ∧
  (∀ j, j < i → j < h → TX E V Cn (H j) 4) ∧ (∀ j, j < i → j < h → ¬ (H j / 2 = b ∧ V (H j) = T)) ∧ Cn (2 * a) = 1 ∧ Cn (2 * a + 1) = 1
section S7_
variable {E : Nat → Nat → Nat → Prop} {a b T i h J y : Nat} {V Cn H : Nat → Nat}
theorem QI_push (g : QI E a b T V i h Cn H) (hi : i < h) (hT : T < 768) (hVb : ∀ s, s < 768 → V s ≤ T + 1 ∨ V s = 1000000) (hJ : J < 4) (e : E (H i / 2) J y) (hy : y < 384) (hF : ∀ y', E (H i / 2) J y' → y' = y) (hx : TX E V Cn (H i) J) (hv : V (2 * y + J / 2) = V (H i) + (if J / 2 = H i % 2 then 0 else 1)) (h0 : Cn (2 * y + J / 2) = 0) :
    h < 768 ∧ QI E a b T V i (h + 1) (uq Cn (2 * y + J / 2) (Cn (H i) + 1)) (uq H h (2 * y + J / 2)) ∧ uq H h (2 * y + J / 2) i = H i ∧ uq Cn (2 * y + J / 2) (Cn (H i) + 1) (H i) = Cn (H i) ∧ TX E V (uq Cn (2 * y + J / 2) (Cn (H i) + 1)) (H i) (J + 1) := by
  obtain ⟨g1, g2, g3, g4, g5, g6, g7, g8, g9⟩ := g
  have hci := g1 i hi
  have hne : ∀ j, j < h → H j ≠ 2 * y + J / 2 := fun j hj q => by
    have := (g1 j hj).2.1
    rw [q] at this
    omega
  have nc := hne i hi
  have hw := (g3 _ hci.1 hci.2.1).2
  have tx : ∀ s K, s ≠ 2 * y + J / 2 → TX E V Cn s K → TX E V (uq Cn (2 * y + J / 2) (Cn (H i) + 1)) s K := by
    intro s K ns tx d y' hd e' hq
    have := tx d y' hd e' hq
    have nu : 2 * y' + d / 2 ≠ 2 * y + J / 2 := fun q => by rw [q] at this; omega
    rw [uq_ne nu, uq_ne ns]
    exact this
  have lt := push_lt (n := 768) (fun j hj => (g1 j hj).1) g2 hne (s := 2 * y + J / 2) (by omega)
  refine ⟨lt, ⟨fun j hj => ?_, inj_push g2 hne, fun s hs hc => ?_, fun j k hjk hk => ?_, fun j hj _ => ?_, fun j hj _ => ?_, fun j hj _ => ?_, ?_, ?_⟩, uq_ne (by omega), uq_ne nc, fun d y' hd e' hq => ?_⟩
  · by_cases q : j = h
    · rw [q, uq_eq, uq_eq]; exact ⟨by omega, by omega, by omega⟩
    · rw [uq_ne q, uq_ne (hne j (by omega))]; exact g1 j (by omega)
  · by_cases q : s = 2 * y + J / 2
    · rw [q, uq_eq]
      refine ⟨⟨h, by omega, uq_eq⟩, ?_, ?_⟩
      · have := hVb _ hci.1
        rw [hv]
        split <;> omega
      · have := Rc_go hw.2 e
        rw [hv, show (2 * y + J / 2) / 2 = y by omega, show (2 * y + J / 2) % 2 = J / 2 by omega]
        exact this
    · rw [uq_ne q] at hc ⊢
      obtain ⟨⟨j, k1, k2⟩, k3⟩ := g3 s hs hc
      exact ⟨⟨j, by omega, by rw [uq_ne (by omega)]; exact k2⟩, k3⟩
  · by_cases q : k = h
    · rw [q, uq_eq (k := h), uq_eq]
      by_cases q2 : j = h
      · rw [q2, uq_eq, uq_eq]
        exact Nat.le_refl _
      · rw [uq_ne q2, uq_ne (hne j (by omega))]
        exact g5 j (by omega) hi
    · have e1 : uq H h (2 * y + J / 2) j = H j := uq_ne (by omega)
      have e2 : uq H h (2 * y + J / 2) k = H k := uq_ne q
      rw [e1, e2, uq_ne (hne k (by omega)), uq_ne (hne j (by omega))]
      exact g4 j k hjk (by omega)
  · have e1 : uq H h (2 * y + J / 2) i = H i := uq_ne (by omega)
    rw [e1, uq_ne nc]
    by_cases q : j = h
    · rw [q, uq_eq, uq_eq]; exact Nat.le_refl _
    · rw [uq_ne q, uq_ne (hne j (by omega))]; exact g5 j (by omega) hi
  · have e1 : uq H h (2 * y + J / 2) j = H j := uq_ne (by omega)
    rw [e1]
    exact tx _ _ (hne j (by omega)) (g6 j hj (by omega))
  · have e1 : uq H h (2 * y + J / 2) j = H j := uq_ne (by omega)
    rw [e1]
    exact g7 j hj (by omega)
  · rw [uq_ne (fun q => by rw [← q] at h0; omega)]; exact g8
  · rw [uq_ne (fun q => by rw [← q] at h0; omega)]; exact g9
  · by_cases q : d = J
    · subst q
      rw [hF y' e', uq_eq, uq_ne nc]
      exact ⟨by omega, Nat.le_refl _⟩
    · exact tx _ _ nc hx d y' (by omega) e' hq
theorem TX_skip (hx : TX E V Cn (H i) J) (hF : ∀ y', E (H i / 2) J y' → V (2 * y' + J / 2) = V (H i) + (if J / 2 = H i % 2 then 0 else 1) → 0 < Cn (2 * y' + J / 2) ∧ Cn (2 * y' + J / 2) ≤ Cn (H i) + 1) : TX E V Cn (H i) (J + 1) := by
  intro d y' hd e' hq
  by_cases q : d = J
  · subst q
    exact hF y' e' hq
  · exact hx d y' (by omega) e' hq
/-- what has a count already has one that is not too great -/
theorem QI_le (g : QI E a b T V i h Cn H) (hi : i < h) {s : Nat} (hs : s < 768) (hc : 0 < Cn s) : Cn s ≤ Cn (H i) + 1 := by
  obtain ⟨⟨j, k1, k2⟩, _⟩ := g.2.2.1 s hs hc
  rw [← k2]
  exact g.2.2.2.2.1 j k1 hi
theorem QI_next (g : QI E a b T V i h Cn H) (hi : i < h) (hx : TX E V Cn (H i) 4) (hn : ¬ (H i / 2 = b ∧ V (H i) = T)) : QI E a b T V (i + 1) h Cn H := by
  obtain ⟨g1, g2, g3, g4, g5, g6, g7, g8, g9⟩ := g
  refine ⟨g1, g2, g3, g4, fun j hj hi1 => ?_, fun j hj hh => ?_, fun j hj hh => ?_, g8, g9⟩
  · have := g5 j hj hi
    have := g4 i (i + 1) (by omega) hi1
    omega
  · by_cases q : j = i
    · rw [q]; exact hx
    · exact g6 j (by omega) hh
  · by_cases q : j = i
    · rw [q]; exact hn
    · exact g7 j (by omega) hh
theorem QI_key (hE : ∀ x d y, E x d y → d < 4 ∧ y < 384) (ha : a < 384) (hV : FV E a b T V) (g : QI E a b T V i h Cn H) {m : Nat} (hq : ∀ j, j < h → Cn (H j) ≤ m → j < i) : ∀ c t x ax, Rc E a c t x ax → t ≤ T → V (2 * x + ax) = t → c ≤ m → ∃ j, j < i ∧ j < h ∧ H j = 2 * x + ax ∧ Cn (H j) ≤ c := by
  obtain ⟨g1, g2, g3, g4, g5, g6, g7, g8, g9⟩ := g
  intro c
  induction c with
  | zero => intro t x ax h; exact h.elim
  | succ c ih =>
    intro t x ax hw ht hv hc
    rcases hw with ⟨_, rfl, rfl, hax⟩ | ⟨t', x', ax', d, hw, e, rfl, rfl⟩
    · have hc1 : Cn (2 * x + ax) = 1 := by
        have : ax = 0 ∨ ax = 1 := by omega
        rcases this with rfl | rfl
        · exact g8
        · exact g9
      obtain ⟨⟨j, k1, k2⟩, _⟩ := g3 (2 * x + ax) (by omega) (by omega)
      have k3 : Cn (H j) = 1 := by rw [k2]; exact hc1
      exact ⟨j, hq j k1 (by omega), k1, k2, by omega⟩
    · obtain ⟨p1, p2, p3⟩ := opt_le hE ha hV.2.2.2.1 hV.2.2.2.2.1 hV.1 c t' x' ax' hw (by split at ht <;> omega)
      have hd := hE _ _ _ e
      have r := hV.1 (2 * x' + ax') (by omega) (by split at ht <;> omega) d x hd.1 (by rw [show (2 * x' + ax') / 2 = x' by omega]; exact e)
      rw [show (2 * x' + ax') % 2 = ax' by omega, hv] at r
      have ev : V (2 * x' + ax') = t' := by omega
      obtain ⟨j, j1, j2, j3, j4⟩ := ih t' x' ax' hw (by split at ht <;> omega) ev (by omega)
      have t1 := g6 j j1 j2 d x hd.1 (by rw [j3, show (2 * x' + ax') / 2 = x' by omega]; exact e) (by rw [j3, show (2 * x' + ax') % 2 = ax' by omega, hv, ev])
      obtain ⟨⟨k, k1, k2⟩, _⟩ := g3 (2 * x + d / 2) (by omega) t1.1
      have k3 : Cn (H k) ≤ c + 1 := by rw [k2]; omega
      exact ⟨k, hq k k1 (by omega), k1, k2, k3⟩
/-- the first spot of the end that comes up with T has the least count -/
theorem QI_found (hE : ∀ x d y, E x d y → d < 4 ∧ y < 384) (ha : a < 384) (hV : FV E a b T V) (g : QI E a b T V i h Cn H) (hi : i < h) (h1 : H i / 2 = b) (h2 : V (H i) = T) : Cn (H i) ≤ 768 ∧ (∃ ax, Rc E a (Cn (H i)) T b ax) ∧ ∀ c t ax, Rc E a c t b ax → T < t ∨ (t = T ∧ Cn (H i) ≤ c) := by
  have hci := g.1 i hi
  have hw := (g.2.2.1 _ hci.1 hci.2.1).2.2
  have hlen := pgh 768 h H (fun j hj => (g.1 j hj).1) g.2.1
  refine ⟨by omega, ⟨H i % 2, by rw [← h1, ← h2]; exact hw⟩, fun c t ax hw2 => ?_⟩
  have hm := FV_min hE ha hV hw2
  by_cases k : T < t
  · exact Or.inl k
  · refine Or.inr ⟨by omega, ?_⟩
    by_cases k2 : Cn (H i) ≤ c
    · exact k2
    · have et : t = T := by omega
      rw [et] at hw2
      have o := (opt_le hE ha hV.2.2.2.1 hV.2.2.2.2.1 hV.1 _ _ _ _ hw2 (Nat.le_refl _))
      have ev : V (2 * b + ax) = T := by
        have : ax = 0 ∨ ax = 1 := by omega
        have := hV.2.2.2.2.2.1
        have := hV.2.2.2.2.2.2.1
        have o3 := o.2.2
        rcases ‹ax = 0 ∨ ax = 1› with rfl | rfl
        · have o3 : V (2 * b) ≤ T := o3
          show V (2 * b) = T
          omega
        · omega
      obtain ⟨j, j1, j2, j3, _⟩ := QI_key hE ha hV g (m := c) (fun j hj hc => by
        by_cases q : j < i
        · exact q
        · have := g.2.2.2.1 i j (by omega) hj
          omega) c T b ax hw2 (Nat.le_refl _) ev (Nat.le_refl _)
      exact absurd ⟨by rw [j3]; omega, by rw [j3]; exact ev⟩ (g.2.2.2.2.2.2.1 j j1 j2)
/-- it comes up -/
theorem QI_some (hE : ∀ x d y, E x d y → d < 4 ∧ y < 384) (ha : a < 384) (hb : b < 384) (hV : FV E a b T V) (g : QI E a b T V i h Cn H) (hi : h ≤ i) (hT : T < 768) : False := by
  have key : ∀ ax, ax < 2 → V (2 * b + ax) = T → False := by
    intro ax hax ev
    obtain ⟨c, hw⟩ := hV.2.1 (2 * b + ax) (by omega) (by omega)
    rw [ev, show (2 * b + ax) / 2 = b by omega, show (2 * b + ax) % 2 = ax by omega] at hw
    obtain ⟨j, j1, j2, j3, _⟩ := QI_key hE ha hV g (m := c) (fun j hj _ => by omega) c T b ax hw (Nat.le_refl _) ev (Nat.le_refl _)
    exact g.2.2.2.2.2.2.1 j j1 j2 ⟨by rw [j3]; omega, by rw [j3]; exact ev⟩
  rcases hV.2.2.2.2.2.2.2 with q | q
  · exact key 0 (by omega) q
  · exact key 1 (by omega) q
end S7_
