/-! The class draws its map. -/
def Td : Nat → Nat → Bool := fun c q => (c == 127 || c == 6) && q == 0
section R8
variable {A : Ab} {N : Nat} {σ : St} {β : Nat → Nat} {o : Nat}
/-- the cells where a connector starts and ends -/
def ca (A : Ab) (β : Nat → Nat) (c : Nat) : Int := eC (eX A β (aOne A c) (aSd A c)) (eY A β (aOne A c) (aSd A c))
def cb (A : Ab) (β : Nat → Nat) (c : Nat) : Int := eC (eX A β (aOth A c) (aSe A c)) (eY A β (aOth A c) (aSe A c))
theorem VW_d {τ : St} (h : VW A β o σ) (hU : Un Td σ τ) : VW A β o τ := by
  have h120 : gF τ 120 o = gF σ 120 o := hU.F 120 o (by unfold Td; simp)
  exact ⟨PtC_cg h.1 (fun c hc => hU.I c 0 (by unfold Td; simp; omega)), fun f hf => by rw [h120]; exact h.2.1 f hf, h.2.2⟩
theorem f_draw (h : VW A β o σ) (hN : 1000 ≤ N) {c : Nat} (hc : jnd A β c = true) : ∃ τ, fX4_draw N σ o (ij c) = some τ ∧ Un Td σ τ ∧ τ.2.2.1 = σ.2.2.1 ∧ (∀ x, x < 384 → gI τ 127 0 x = bi (opn A β x)) ∧ gI τ 6 0 7 = ij (ca A β c) ∧ gI τ 6 0 8 = ij (cb A β c) := by
  have nd : ∀ {σ τ : St}, Un T127 σ τ → Un Td σ τ := fun h => ⟨fun c o e => h.1 c o (by unfold Td at e; unfold T127; simp at e ⊢; omega), h.2.1, fun _ => h.2.2 rfl⟩
  obtain ⟨τ1, a1, a2, a3⟩ := f_drawAll (N := N) (σ := σ) hN (fun σ5 => (fX4_draw_L24 (fun _ σ14 => (ob (fX6_endOf N σ14 o (ij c) (1 : Int32)) fun v15 => (vl (sI σ14 6 0 7 v15) fun σ16 => (ob (fX6_endOf N σ16 o (ij c) (0 : Int32)) fun v17 => (vl (sI σ16 6 0 8 v17) fun σ18 => (some σ18)))))) N o N (0 : Int32) σ5))
  obtain ⟨τ2, b1, b2, b3⟩ := f_drawShapes (N := N) (VW_127 h a2) hN a3 (fun σ14 => (ob (fX6_endOf N σ14 o (ij c) (1 : Int32)) fun v15 => (vl (sI σ14 6 0 7 v15) fun σ16 => (ob (fX6_endOf N σ16 o (ij c) (0 : Int32)) fun v17 => (vl (sI σ16 6 0 8 v17) fun σ18 => (some σ18))))))
  have u2 : Un T127 σ τ2 := a2.tr b2
  have hV2 := VW_127 h u2
  have u3 : Un Td τ2 (sI τ2 6 0 7 (ij (ca A β c))) := Un.sI _ _ _ rfl
  have hV3 := VW_d hV2 u3
  have e1 := (f_conEnds (N := N) hV2 hc).1
  have e2 := (f_conEnds (N := N) hV3 hc).2
  refine ⟨sI (sI τ2 6 0 7 (ij (ca A β c))) 6 0 8 (ij (cb A β c)), ?_, ((nd u2).tr u3).tr (Un.sI _ _ _ rfl), u2.2.2 rfl, fun x hx => ?_, ?_, ?_⟩
  · unfold fX4_draw
    refine Eq.trans a1 ?_
    refine Eq.trans b1 ?_
    show ob _ _ = _
    rw [e1, ob_s, vl_s]
    show ob (fX6_endOf N (sI τ2 6 0 7 (ij (ca A β c))) o (ij c) 0) _ = _
    rw [e2, ob_s, vl_s]
    rfl
  · rw [gI_sI_ne (by omega), gI_sI_ne (by omega)]
    exact b3 x hx
  · rw [gI_sI_eq, if_neg (by omega), gI_sI_eq, if_pos rfl]
  · rw [gI_sI_eq, if_pos rfl]
end R8
