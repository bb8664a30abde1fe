/-! Bends and lengths: both sides. -/
def Trt : Nat → Nat → Bool := fun c q => (c == 131 && (q == 0 || q == 1)) || ((c == 6 || c == 127 || c == 128 || c == 129) && q == 0)
section T6_
variable {A : Ab} {N : Nat} {σ τ : St} {β : Nat → Nat} {a b c : Nat}
theorem CR_rt (hC : CR A σ) (hU : Un Trt σ τ) (hR : RfC τ) : CR A τ := by
  obtain ⟨h1, h2, h3, h4, h5⟩ := hC
  exact ⟨PtC_cg h1 (fun c hc => hU.I c 0 (by unfold Trt; simp; omega)), LgC_cg h2 (fun c hc => ⟨hU.I c 0 (by unfold Trt; simp; omega), hU.F c 0 (by unfold Trt; simp; omega)⟩), TmC_cg h3 (hU.I 105 0 rfl), fun v hv => ⟨UsC_cg (h4 v hv).1 (hU.I 4 v (by unfold Trt; simp)) (hU.I 123 v (by unfold Trt; simp)), BdC_cg (h4 v hv).2 (hU.F 120 v (by unfold Trt; simp)) (hU.I 121 v (by unfold Trt; simp)) (hU.I 122 v (by unfold Trt; simp))⟩, hR⟩
theorem Trt_Tc (h : Un Trt σ τ) : Un Tc σ τ := h.mono (fun c o e => by unfold Tc at e; unfold Trt; simp at e ⊢; omega)
theorem Td_Trt (h : Un Td σ τ) : Un Trt σ τ := ⟨fun c o e => h.1 c o (by unfold Trt at e; unfold Td; simp at e ⊢; omega), h.2.1, fun e => by cases e⟩
theorem Ts_Trt (h : Un Ts σ τ) : Un Trt σ τ := h.mono (fun c o e => by unfold Trt at e; unfold Ts; simp at e ⊢; omega)
theorem T128_Trt (h : Un T128 σ τ) : Un Trt σ τ := ⟨fun c o e => h.1 c o (by unfold Trt at e; unfold T128; simp at e ⊢; omega), h.2.1, fun e => by cases e⟩
theorem MR_tw (hM : MR A σ) (hU : Un Tw σ τ) : MR A τ := by
  obtain ⟨m1, m2, m3⟩ := hM
  have h8 : gI τ 8 0 = gI σ 8 0 := hU.I 8 0 rfl
  exact ⟨PtM_cg m1 (by rw [h8]) (by rw [h8]) (fun c h1 h2 => hU.I c 0 (by unfold Tw; simp; omega)), LgM_cg m2 (by rw [h8]) (fun c q hc => hU.I c q (by unfold Tw; simp; omega)), by rw [h8]; exact m3⟩
theorem MB_tw {u : Nat} (hM : MB A u σ) (hU : Un Tw σ τ) : MB A u τ := ⟨MR_tw hM.1 hU, BdM_cg hM.2 (fun c h1 h2 => hU.I c 0 (by unfold Tw; simp; omega))⟩
theorem Tw_Tm (h : Un Tw σ τ) : Un Tm σ τ := h.mono (fun c o e => by unfold Tm at e; unfold Tw; simp at e ⊢; omega)
/-- the drawn map and the ends -/
def Mp (A : Ab) (β : Nat → Nat) (c : Nat) (σ : St) : Prop := RfC σ ∧ (∀ x, x < 384 → gI σ 127 0 x = bi (opn A β x)) ∧ gI σ 6 0 7 = ij (ca A β c) ∧ gI σ 6 0 8 = ij (cb A β c)
theorem ca_rg : ca A β c = -1 ∨ (0 ≤ ca A β c ∧ ca A β c < 384) := eC_rg _ _
theorem cb_rg : cb A β c = -1 ∨ (0 ≤ cb A β c ∧ cb A β c < 384) := eC_rg _ _
/-- either an end is shut, or both are open cells -/
theorem Mp_ends (g : Mp A β c σ) : (Nw A β c ∧ ((decide (0 ≤ ca A β c) && opn A β (ca A β c).toNat) = false ∨ (decide (0 ≤ cb A β c) && opn A β (cb A β c).toNat) = false)) ∨ ∃ a b : Nat, ca A β c = (a : Nat) ∧ cb A β c = (b : Nat) ∧ a < 384 ∧ b < 384 ∧ opn A β a = true ∧ opn A β b = true := by
  have r1 := ca_rg (A := A) (β := β) (c := c)
  have r2 := cb_rg (A := A) (β := β) (c := c)
  cases z1 : (decide (0 ≤ ca A β c) && opn A β (ca A β c).toNat) with
  | false =>
    refine Or.inl ⟨fun a b ha hb hoa hob n t ax hw => ?_, Or.inl rfl⟩
    rw [ha, decide_eq_true (by omega), tn_nat, hoa] at z1
    cases z1
  | true =>
    cases z2 : (decide (0 ≤ cb A β c) && opn A β (cb A β c).toNat) with
    | false =>
      refine Or.inl ⟨fun a b ha hb hoa hob n t ax hw => ?_, Or.inr rfl⟩
      rw [hb, decide_eq_true (by omega), tn_nat, hob] at z2
      cases z2
    | true =>
      simp only [Bool.and_eq_true, decide_eq_true_eq] at z1 z2
      exact Or.inr ⟨(ca A β c).toNat, (cb A β c).toNat, by omega, by omega, by omega, by omega, z1.2, z2.2⟩
def Ans (A : Ab) (β : Nat → Nat) (c : Nat) (σ υ : St) (g : Nat → Nat → Nat) (v : Int) : Prop := Un Trt σ υ ∧ RfC υ ∧ ((v = -1 ∧ Nw A β c) ∨ ∃ T C : Nat, v = (g T C : Nat) ∧ Wy A β c T C)
theorem a_cells (hN : 1000 ≤ N) (g : Mp A β c σ) : ∃ υ v, fX4_fewestCells N σ = some (ij v, υ) ∧ Ans A β c σ υ (fun _ C => C) v := by
  have r1 := ca_rg (A := A) (β := β) (c := c)
  have r2 := cb_rg (A := A) (β := β) (c := c)
  have i1 := f_isAt127 (N := N) g.2.1 r1
  have i2 := f_isAt127 (N := N) g.2.1 r2
  rcases Mp_ends g with ⟨h1, h2⟩ | ⟨a, b, ha, hb, la, lb, oa, ob'⟩
  · refine ⟨σ, -1, ?_, Un.rfl, g.1, Or.inl ⟨rfl, h1⟩⟩
    unfold fX4_fewestCells fX4_fewestTurns
    rw [g.2.2.1, i1, ob_s, g.2.2.2, i2, ob_s]
    rcases h2 with h2 | h2
    · rw [h2, if_pos (by decide), o2_s, if_pos (by decide)]
      rfl
    · rw [h2]
      cases (decide (0 ≤ ca A β c) && opn A β (ca A β c).toNat) with
      | false => rw [if_pos (by decide), o2_s, if_pos (by decide)]; rfl
      | true => rw [if_neg (by decide), if_pos (by decide), o2_s, if_pos (by decide)]; rfl
  · obtain ⟨υ, v, e, h1, h2, h3⟩ := f_fewestCells (N := N) hN g.1 g.2.1 la lb (by rw [g.2.2.1, ha]) (by rw [g.2.2.2, hb]) oa ob'
    refine ⟨υ, v, e, Ts_Trt h1, h2, ?_⟩
    rcases h3 with ⟨q, h3⟩ | ⟨T, C, q, hT, h3⟩
    · refine Or.inl ⟨q, fun a' b' ha' hb' _ _ n t ax hw => ?_⟩
      rw [show a' = a by omega, show b' = b by omega] at hw
      exact h3 _ _ _ hw
    · exact Or.inr ⟨T, C, q, a, b, ha, hb, la, lb, oa, ob', hT, h3⟩
theorem a_dich (g : Mp A β c σ) : Nw A β c ∨ ∃ T C, Wy A β c T C := by
  obtain ⟨_, _, _, _, _, h⟩ := a_cells (N := 1000) (Nat.le_refl _) g
  rcases h with ⟨_, h⟩ | ⟨T, C, _, h⟩
  · exact Or.inl h
  · exact Or.inr ⟨T, C, h⟩
theorem a_turns (hN : 1000 ≤ N) (g : Mp A β c σ) : ∃ υ v, fX4_fewestTurns N σ = some (ij v, υ) ∧ Ans A β c σ υ (fun T _ => T) v := by
  have r1 := ca_rg (A := A) (β := β) (c := c)
  have r2 := cb_rg (A := A) (β := β) (c := c)
  have i1 := f_isAt127 (N := N) g.2.1 r1
  have i2 := f_isAt127 (N := N) g.2.1 r2
  rcases Mp_ends g with ⟨h1, h2⟩ | ⟨a, b, ha, hb, la, lb, oa, ob'⟩
  · refine ⟨σ, -1, ?_, Un.rfl, g.1, Or.inl ⟨rfl, h1⟩⟩
    unfold fX4_fewestTurns
    rw [g.2.2.1, i1, ob_s, g.2.2.2, i2, ob_s]
    rcases h2 with h2 | h2
    · rw [h2, if_pos (by decide)]
      rfl
    · rw [h2]
      cases (decide (0 ≤ ca A β c) && opn A β (ca A β c).toNat) with
      | false => rw [if_pos (by decide)]; rfl
      | true => rw [if_neg (by decide), if_pos (by decide)]; rfl
  · obtain ⟨υ, v, e, h1, h3⟩ := f_fewestTurns (N := N) hN g.1 g.2.1 la lb (by rw [g.2.2.1, ha]) (by rw [g.2.2.2, hb]) oa ob'
    rcases h3 with ⟨q, hR, h3⟩ | ⟨T, V, H, h, G, l, q, hT, hC, hV⟩
    · refine ⟨υ, v, e, Ts_Trt h1, hR, Or.inl ⟨q, fun a' b' ha' hb' _ _ n t ax hw => ?_⟩⟩
      rw [show a' = a by omega, show b' = b by omega] at hw
      exact h3 _ _ _ hw
    · refine ⟨υ, v, e, Ts_Trt h1, hC.1, Or.inr ?_⟩
      have hw : ∃ k ax, Rc (Ed A β) a k T b ax := by
        rcases hV.2.2.2.2.2.2.2 with z | z
        · obtain ⟨k, hk⟩ := hV.2.1 (2 * b) (by omega) (by omega)
          rw [z, show 2 * b / 2 = b by omega] at hk
          exact ⟨k, _, hk⟩
        · obtain ⟨k, hk⟩ := hV.2.1 (2 * b + 1) (by omega) (by omega)
          rw [z, show (2 * b + 1) / 2 = b by omega] at hk
          exact ⟨k, _, hk⟩
      rcases a_dich g with hn | ⟨T', C, hW⟩
      · obtain ⟨k, ax, hw⟩ := hw
        exact absurd hw (hn a b ha hb oa ob' _ _ _)
      · have hW2 := hW
        obtain ⟨a', b', w1, w2, _, _, _, _, _, w3⟩ := hW2
        have ea : a' = a := by omega
        have eb : b' = b := by omega
        subst ea
        subst eb
        have := BestC_T w3 hw (fun c t ax hw => FV_min Ed_rg la hV hw)
        exact ⟨T', C, by rw [q, this], hW⟩
theorem a_rounds (hN : 1000 ≤ N) (g : Mp A β c σ) : ∃ υ v, fX4_fewestTurnsByRounds N σ = some (ij v, υ) ∧ Ans A β c σ υ (fun T _ => T) v := by
  have r1 := ca_rg (A := A) (β := β) (c := c)
  have r2 := cb_rg (A := A) (β := β) (c := c)
  have i1 := f_isAt127 (N := N) g.2.1 r1
  have i2 := f_isAt127 (N := N) g.2.1 r2
  rcases Mp_ends g with ⟨h1, h2⟩ | ⟨a, b, ha, hb, la, lb, oa, ob'⟩
  · refine ⟨σ, -1, ?_, Un.rfl, g.1, Or.inl ⟨rfl, h1⟩⟩
    unfold fX4_fewestTurnsByRounds
    rw [g.2.2.1, i1, ob_s, g.2.2.2, i2, ob_s]
    rcases h2 with h2 | h2
    · rw [h2, if_pos (by decide)]
      rfl
    · rw [h2]
      cases (decide (0 ≤ ca A β c) && opn A β (ca A β c).toNat) with
      | false => rw [if_pos (by decide)]; rfl
      | true => rw [if_neg (by decide), if_pos (by decide)]; rfl
  · obtain ⟨υ, v, e, h1, h3⟩ := f_byRounds (N := N) hN g.2.1 la lb (by rw [g.2.2.1, ha]) (by rw [g.2.2.2, hb]) oa ob'
    have hR : RfC υ := RfC_cg g.1 (h1.2.2 rfl)
    refine ⟨υ, v, e, T128_Trt h1, hR, ?_⟩
    rcases h3 with ⟨q, h3⟩ | ⟨T, q, hw, hmin⟩
    · refine Or.inl ⟨q, fun a' b' ha' hb' _ _ n t ax hw => ?_⟩
      rw [show a' = a by omega, show b' = b by omega] at hw
      exact h3 _ _ _ hw
    · rcases a_dich g with hn | ⟨T', C, hW⟩
      · obtain ⟨k, ax, hw⟩ := hw
        exact absurd hw (hn a b ha hb oa ob' _ _ _)
      · have hW2 := hW
        obtain ⟨a', b', w1, w2, _, _, _, _, _, w3⟩ := hW2
        have ea : a' = a := by omega
        have eb : b' = b := by omega
        subst ea
        subst eb
        have := BestC_T w3 hw hmin
        exact Or.inr ⟨T', C, by rw [q, this], hW⟩
/-- the class draws the map of a seen connector -/
theorem a_draw (hI : Inv0 A) (hC : CR A σ) (hN : 1000 ≤ N) {u : Nat} (hu : u < 3) (hc : jnd A (bv A (kn A u)) c = true) : ∃ τ, fX4_draw N σ u (ij c) = some τ ∧ Un Trt σ τ ∧ Mp A (bv A (kn A u)) c τ := by
  obtain ⟨τ, e, h1, h2, h3, h4, h5⟩ := f_draw (N := N) (CR_VW hI hu hC) hN hc
  exact ⟨τ, e, Td_Trt h1, RfC_cg hC.2.2.2.2 h2, h3, h4, h5⟩
theorem q_route (h : Inv A σ) (hN : 10000000000000 ≤ N) (x y : Int32) {H : Hd} (k : H1 H ∧ H2 H ∧ ∀ σ, H EU σ = some (3, σ)) (F : St → Option (Int32 × St)) (G : Int32 → Int32) (g : Nat → Nat → Nat)
    (hF : ∀ {β : Nat → Nat} {c : Nat} {σ : St}, Mp A β c σ → ∃ υ v, F σ = some (ij v, υ) ∧ Ans A β c σ υ g v)
    (hG : ∀ T C : Nat, T < 768 → C ≤ 768 → G (ij ((1000 * T + C : Nat) : Int)) = ij (g T C : Nat) ∧ g T C < 1000000) :
    PairI (ox (ox (fX7_needMap N σ x y) (fun E τ => some (.inr E, τ)) fun _ σ1 => o2 (F σ1) fun v3 σ2 => ox (fX7_needWay N σ2 v3) (fun E τ => some (.inr E, τ)) fun v4 σ5 => some (.inl v4, σ5)) H fun v1 σ2 => vl (sJ σ2 0 (Int32.toInt64 v1)) fun σ6 => some (0, σ6)) (fun τ => o2 (fX8_asked N τ x y) fun v2 σ1 => some (G v2, σ1)) := by
  obtain ⟨hI, hC, hM⟩ := h
  obtain ⟨x, rfl, hx⟩ := rg_ex x
  obtain ⟨y, rfl, hy⟩ := rg_ex y
  unfold fX7_needMap
  rw [c_user hx]
  cases e : usz x with
  | false =>
    simp only [Bool.false_eq_true, if_false, ox_r]
    refine mkI hI hC (c := 1) (k.1 σ) (by omega) ?_
    rcases m_nobody hI hM (by omega : 1000 ≤ N) hx with ⟨_, τ, t1, t2, t3, t4⟩ | ⟨u, rfl, hu, _⟩
    · exact ⟨_, τ, by unfold fX8_asked; rw [t1]; rfl, t2, t3, t4, fun q => by omega⟩
    · rw [usz_ij hu] at e; cases e
  | true =>
    obtain ⟨u, rfl, hu⟩ := usz_nat e
    simp only [if_true, tn_nat, ox_l]
    rw [c_seenC hI hC hu hy]
    cases ej : jndz A (bv A (kn A u)) y with
    | false =>
      simp only [Bool.false_eq_true, if_false, ox_r]
      refine mkI hI hC (c := 2) (k.2.1 σ) (by omega) ?_
      rcases m_nobody hI hM (by omega : 1000 ≤ N) hx with ⟨q, _⟩ | ⟨u', e', hu', τ, t1, t2, t3, t4⟩
      · rw [usz_ij hu] at q; cases q
      · have : u = u' := by omega
        subst this
        have hj := m_isJoined (N := N) (MB_WM hI t2) hy.1 hy.2
        rw [ej] at hj
        refine ⟨G (ij 0), sI τ 8 0 0 (ij 2), ?_, MR_thr t2.1 _, t3.tr (Un_thr τ _), thr_thr _ _, fun q => by omega⟩
        unfold fX8_asked fX8_fails
        rw [t1, o2_s, if_pos (by decide), hj, ob_s, if_pos (by decide)]
        rfl
    | true =>
      obtain ⟨c, rfl, hc⟩ := jndz_ex ej
      obtain ⟨σ1, d1, d2, d3⟩ := a_draw (N := N) hI hC (by omega) hu hc
      obtain ⟨σ2, v, f1, f2, f3, f4⟩ := hF d3
      simp only [if_true, ox_l]
      rw [d1, ob_s, ox_l, f1, o2_s]
      have u2 := d2.tr f2
      have hC2 := CR_rt hC u2 f3
      have hM2 := MR_un hM (Trt_Tc u2)
      have hj : ∀ {τ : St}, MB A u τ → fX8_isJoined N τ (ij c) = some (bi true) := fun t2 => by
        have := m_isJoined (N := N) (MB_WM hI t2) hy.1 hy.2
        rw [ej] at this
        exact this
      rcases f4 with ⟨rfl, f4⟩ | ⟨T, C, rfl, f4⟩
      · have nw : fX7_needWay N σ2 (ij (-1)) = some (.inr EU, σ2) := by
          unfold fX7_needWay
          rw [if_pos (by decide)]
        rw [nw, ox_r, ox_r]
        refine mkI hI hC2 (c := 3) (k.2.2 σ2) (by omega) ?_
        rcases m_nobody hI hM2 (by omega : 1000 ≤ N) hx with ⟨q, _⟩ | ⟨u', e', hu', τ, t1, t2, t3, t4⟩
        · rw [usz_ij hu] at q; cases q
        · have : u = u' := by omega
          subst this
          obtain ⟨υ, w, m1, m2, m3⟩ := m_route (N := N) (MB_WM hI t2) hN hc (Or.inl f4)
          rcases m3 with ⟨rfl, _⟩ | ⟨T, C, _, hW⟩
          · refine ⟨G (ij 0), sI υ 8 0 0 (ij 3), ?_, MR_thr (MB_tw t2 m2).1 _, (t3.tr (Tw_Tm m2)).tr (Un_thr υ _), thr_thr _ _, fun q => by omega⟩
            unfold fX8_asked fX8_fails
            rw [t1, o2_s, if_pos (by decide), hj t2, ob_s, if_neg (by decide), m1, o2_s, if_pos (by decide)]
            rfl
          · exact (Wy_Nw hW f4).elim
      · obtain ⟨g1, g2⟩ := hG T C (by obtain ⟨_, _, _, _, _, _, _, _, q, _⟩ := f4; exact q) (by obtain ⟨_, _, _, _, _, _, _, _, _, q⟩ := f4; exact q.1)
        have nw : fX7_needWay N σ2 (ij (g T C : Nat)) = some (.inl (ij (g T C : Nat)), σ2) := by
          unfold fX7_needWay
          rw [if_neg (by rw [show (-1 : Int32) = ij (-1) from rfl, ij_eq (by omega) (by omega) (by omega) (by omega)]; omega)]
        rw [nw, ox_l, ox_l, vl_s]
        refine mkI hI (CR_J hC2) (c := 0) rfl (by omega) ?_
        rcases m_nobody (σ := sJ σ2 0 (Int32.toInt64 (ij (g T C : Nat)))) hI (MR_J hM2) (by omega : 1000 ≤ N) hx with ⟨q, _⟩ | ⟨u', e', hu', τ, t1, t2, t3, t4⟩
        · rw [usz_ij hu] at q; cases q
        · have : u = u' := by omega
          subst this
          obtain ⟨υ, w, m1, m2, m3⟩ := m_route (N := N) (MB_WM hI t2) hN hc (Or.inr ⟨T, C, f4⟩)
          rcases m3 with ⟨_, hW⟩ | ⟨T', C', rfl, hW⟩
          · exact (Wy_Nw f4 hW).elim
          · obtain ⟨eT, eC'⟩ := Wy_un f4 hW
            subst eT
            subst eC'
            have hb : T < 768 ∧ C ≤ 768 := by obtain ⟨_, _, _, _, _, _, _, _, q, q2⟩ := f4; exact ⟨q, q2.1⟩
            have u8 : gI υ 8 0 = gI τ 8 0 := m2.I 8 0 rfl
            refine ⟨ij (g T C : Nat), υ, ?_, (MB_tw t2 m2).1, t3.tr (Tw_Tm m2), by rw [u8]; exact t4, fun _ => gJ_sJ _ _⟩
            unfold fX8_asked
            rw [t1, o2_s, if_pos (by decide), hj t2, ob_s, if_neg (by decide), m1, o2_s, if_neg (by rw [show (1000000000 : Int32) = ij 1000000000 from rfl, ij_eq (by omega) (by omega) (by omega) (by omega)]; omega), o2_s, g1]
theorem g_T {T C : Nat} (hT : T < 768) (hC : C ≤ 768) : ij ((1000 * T + C : Nat) : Int) / (1000 : Int32) = ij (T : Nat) := by
  rw [show (1000 : Int32) = ij 1000 from rfl, ij_div (by omega) (by omega) (by omega) (by omega)]
  congr 1
  omega
theorem g_C {T C : Nat} (hT : T < 768) (hC : C ≤ 768) : ij ((1000 * T + C : Nat) : Int) - ij ((1000 * T + C : Nat) : Int) / (1000 : Int32) * (1000 : Int32) = ij (C : Nat) := by
  rw [g_T hT hC, show (1000 : Int32) = ij 1000 from rfl, ij_mul, ij_sub]
  congr 1
  omega
theorem p_bends (h : Inv A σ) (hN : 10000000000000 ≤ N) (x y : Int32) : PairI (fL_bends N σ x y) (fun τ => fX8_bends N τ x y) :=
  q_route h hN x y (h123a rfl) (fun σ1 => fX4_fewestTurns N σ1) (fun v => v / (1000 : Int32)) (fun T _ => T) (fun g => a_turns (by omega) g) (fun T C hT hC => ⟨g_T hT hC, by omega⟩)
theorem p_bendsByRounds (h : Inv A σ) (hN : 10000000000000 ≤ N) (x y : Int32) : PairI (fL_bendsByRounds N σ x y) (fun τ => fX8_bendsByRounds N τ x y) := by
  have e : (fun τ => fX8_bendsByRounds N τ x y) = fun τ => o2 (fX8_asked N τ x y) fun v2 σ1 => some (v2 / (1000 : Int32), σ1) := by
    funext τ
    unfold fX8_bendsByRounds fX8_bends
    cases fX8_asked N τ x y <;> rfl
  rw [e]
  exact q_route h hN x y (h123a rfl) (fun σ1 => fX4_fewestTurnsByRounds N σ1) (fun v => v / (1000 : Int32)) (fun T _ => T) (fun g => a_rounds (by omega) g) (fun T C hT hC => ⟨g_T hT hC, by omega⟩)
theorem p_routeLength (h : Inv A σ) (hN : 10000000000000 ≤ N) (x y : Int32) : PairI (fL_routeLength N σ x y) (fun τ => fX8_routeLength N τ x y) :=
  q_route h hN x y (h123a rfl) (fun σ1 => fX4_fewestCells N σ1) (fun v => v - v / (1000 : Int32) * (1000 : Int32)) (fun _ C => C) (fun g => a_cells (by omega) g) (fun T C hT hC => ⟨g_C hT hC, by omega⟩)
end T6_
