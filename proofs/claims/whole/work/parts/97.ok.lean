/-! Each kind of the law: the two answers agree and the states agree again. -/
def InR (L : Nat) (i : Int32) : Prop := inb (i + (1 : Int32)) L = true ∧ inb (i + (2 : Int32)) L = true ∧ inb (i + (3 : Int32)) L = true ∧ inb (i + (4 : Int32)) L = true ∧ inb (i + (5 : Int32)) L = true ∧ inb (i + (6 : Int32)) L = true
section OK_
variable {A : Ab} {N : Nat} {σ : St}
theorem ok_0 (h : Inv A σ) (hN : 10000000000000 ≤ N) (xs : Nat → Int32) (L : Nat) (i : Int32) (hL : InR L i) : Nxt (g_0 N xs L σ i) := by
  obtain ⟨h1, h2, h3, h4, h5, h6⟩ := hL
  unfold g_0
  simp only [h1, h2, h3, h4, h5, h6, ck_tr]
  by_cases e : xs (Int32.toNatClampNeg (i + (6 : Int32))) = 0
  · simp only [e, if_true]
    exact fin_I (p_addShape h (by omega) _ _ _ _ _ false)
  · simp only [e, if_false]
    exact fin_I (p_addShape h (by omega) _ _ _ _ _ true)
theorem ok_1 (h : Inv A σ) (hN : 10000000000000 ≤ N) (xs : Nat → Int32) (L : Nat) (i : Int32) (hL : InR L i) : Nxt (g_1 N xs L σ i) := by
  obtain ⟨h1, h2, h3, h4, h5, h6⟩ := hL
  unfold g_1
  simp only [h1, h2, h3, h4, h5, h6, ck_tr]
  exact fin_I (p_move h (by omega) _ _ _ _)
theorem ok_2 (h : Inv A σ) (hN : 10000000000000 ≤ N) (xs : Nat → Int32) (L : Nat) (i : Int32) (hL : InR L i) : Nxt (g_2 N xs L σ i) := by
  obtain ⟨h1, h2, h3, h4, h5, h6⟩ := hL
  unfold g_2
  simp only [h1, h2, h3, h4, h5, h6, ck_tr]
  exact fin_I (p_raise h (by omega) _ _)
theorem ok_3 (h : Inv A σ) (hN : 10000000000000 ≤ N) (xs : Nat → Int32) (L : Nat) (i : Int32) (hL : InR L i) : Nxt (g_3 N xs L σ i) := by
  obtain ⟨h1, h2, h3, h4, h5, h6⟩ := hL
  unfold g_3
  simp only [h1, h2, h3, h4, h5, h6, ck_tr]
  exact fin_I (p_lower h (by omega) _ _)
theorem ok_4 (h : Inv A σ) (hN : 10000000000000 ≤ N) (xs : Nat → Int32) (L : Nat) (i : Int32) (hL : InR L i) : Nxt (g_4 N xs L σ i) := by
  obtain ⟨h1, h2, h3, h4, h5, h6⟩ := hL
  unfold g_4
  simp only [h1, h2, h3, h4, h5, h6, ck_tr]
  exact fin_I (p_putAbove h (by omega) _ _ _)
theorem ok_5 (h : Inv A σ) (hN : 10000000000000 ≤ N) (xs : Nat → Int32) (L : Nat) (i : Int32) (hL : InR L i) : Nxt (g_5 N xs L σ i) := by
  obtain ⟨h1, h2, h3, h4, h5, h6⟩ := hL
  unfold g_5
  simp only [h1, h2, h3, h4, h5, h6, ck_tr]
  exact fin_I (p_remove h (by omega) _ _)
theorem ok_6 (h : Inv A σ) (hN : 10000000000000 ≤ N) (xs : Nat → Int32) (L : Nat) (i : Int32) (hL : InR L i) : Nxt (g_6 N xs L σ i) := by
  obtain ⟨h1, h2, h3, h4, h5, h6⟩ := hL
  unfold g_6
  simp only [h1, h2, h3, h4, h5, h6, ck_tr]
  exact fin_I (p_lock h (by omega) _ _)
theorem ok_7 (h : Inv A σ) (hN : 10000000000000 ≤ N) (xs : Nat → Int32) (L : Nat) (i : Int32) (hL : InR L i) : Nxt (g_7 N xs L σ i) := by
  obtain ⟨h1, h2, h3, h4, h5, h6⟩ := hL
  unfold g_7
  simp only [h1, h2, h3, h4, h5, h6, ck_tr]
  exact fin_I (p_unlock h (by omega) _ _)
theorem ok_8 (h : Inv A σ) (hN : 10000000000000 ≤ N) (xs : Nat → Int32) (L : Nat) (i : Int32) (hL : InR L i) : Nxt (g_8 N xs L σ i) := by
  obtain ⟨h1, h2, h3, h4, h5, h6⟩ := hL
  unfold g_8
  simp only [h1, h2, h3, h4, h5, h6, ck_tr]
  exact fin_I (p_connect h (by omega) _ _ _ _ _)
theorem ok_9 (h : Inv A σ) (hN : 10000000000000 ≤ N) (xs : Nat → Int32) (L : Nat) (i : Int32) (hL : InR L i) : Nxt (g_9 N xs L σ i) := by
  obtain ⟨h1, h2, h3, h4, h5, h6⟩ := hL
  unfold g_9
  simp only [h1, h2, h3, h4, h5, h6, ck_tr]
  exact fin_I (p_disconnect h (by omega) _ _)
theorem ok_10 (h : Inv A σ) (hN : 10000000000000 ≤ N) (xs : Nat → Int32) (L : Nat) (i : Int32) (hL : InR L i) : Nxt (g_10 N xs L σ i) := by
  obtain ⟨h1, h2, h3, h4, h5, h6⟩ := hL
  unfold g_10
  simp only [h1, h2, h3, h4, h5, h6, ck_tr]
  exact fin_I (p_vote h (by omega) _ _ _)
theorem ok_11 (h : Inv A σ) (hN : 10000000000000 ≤ N) (xs : Nat → Int32) (L : Nat) (i : Int32) (hL : InR L i) : Nxt (g_11 N xs L σ i) := by
  obtain ⟨h1, h2, h3, h4, h5, h6⟩ := hL
  unfold g_11
  simp only [h1, h2, h3, h4, h5, h6, ck_tr]
  by_cases e : xs (Int32.toNatClampNeg (i + (2 : Int32))) = 0
  · simp only [e, if_true]
    exact fin_B (p_show h (by omega) _ false)
  · simp only [e, if_false]
    exact fin_B (p_show h (by omega) _ true)
theorem ok_12 (h : Inv A σ) (hN : 10000000000000 ≤ N) (xs : Nat → Int32) (L : Nat) (i : Int32) (hL : InR L i) : Nxt (g_12 N xs L σ i) := by
  obtain ⟨h1, h2, h3, h4, h5, h6⟩ := hL
  unfold g_12
  simp only [h1, h2, h3, h4, h5, h6, ck_tr]
  exact fin_I (p_takeBack h (by omega) _)
theorem ok_13 (h : Inv A σ) (hN : 10000000000000 ≤ N) (xs : Nat → Int32) (L : Nat) (i : Int32) (hL : InR L i) : Nxt (g_13 N xs L σ i) := by
  obtain ⟨h1, h2, h3, h4, h5, h6⟩ := hL
  unfold g_13
  simp only [h1, h2, h3, h4, h5, h6, ck_tr]
  exact fin_I (p_deliver h (by omega) _ _)
theorem ok_14 (h : Inv A σ) (hN : 10000000000000 ≤ N) (xs : Nat → Int32) (L : Nat) (i : Int32) (hL : InR L i) : Nxt (g_14 N xs L σ i) := by
  obtain ⟨h1, h2, h3, h4, h5, h6⟩ := hL
  unfold g_14
  simp only [h1, h2, h3, h4, h5, h6, ck_tr]
  exact fin_I (p_sync h (by omega) _ _)
theorem ok_16 (h : Inv A σ) (hN : 10000000000000 ≤ N) (xs : Nat → Int32) (L : Nat) (i : Int32) (hL : InR L i) : Nxt (g_16 N xs L σ i) := by
  obtain ⟨h1, h2, h3, h4, h5, h6⟩ := hL
  unfold g_16
  simp only [h1, h2, h3, h4, h5, h6, ck_tr]
  exact fin_I (p_userOf h (by omega) _)
theorem ok_17 (h : Inv A σ) (hN : 10000000000000 ≤ N) (xs : Nat → Int32) (L : Nat) (i : Int32) (hL : InR L i) : Nxt (g_17 N xs L σ i) := by
  obtain ⟨h1, h2, h3, h4, h5, h6⟩ := hL
  unfold g_17
  simp only [h1, h2, h3, h4, h5, h6, ck_tr]
  exact fin_I (p_clockOf h (by omega) _)
theorem ok_18 (h : Inv A σ) (hN : 10000000000000 ≤ N) (xs : Nat → Int32) (L : Nat) (i : Int32) (hL : InR L i) : Nxt (g_18 N xs L σ i) := by
  obtain ⟨h1, h2, h3, h4, h5, h6⟩ := hL
  unfold g_18
  simp only [h1, h2, h3, h4, h5, h6, ck_tr]
  exact fin_B (p_knows h (by omega) _ _)
theorem ok_19 (h : Inv A σ) (hN : 10000000000000 ≤ N) (xs : Nat → Int32) (L : Nat) (i : Int32) (hL : InR L i) : Nxt (g_19 N xs L σ i) := by
  obtain ⟨h1, h2, h3, h4, h5, h6⟩ := hL
  unfold g_19
  simp only [h1, h2, h3, h4, h5, h6, ck_tr]
  exact fin_I (p_shapes h (by omega) _)
theorem ok_20 (h : Inv A σ) (hN : 10000000000000 ≤ N) (xs : Nat → Int32) (L : Nat) (i : Int32) (hL : InR L i) : Nxt (g_20 N xs L σ i) := by
  obtain ⟨h1, h2, h3, h4, h5, h6⟩ := hL
  unfold g_20
  simp only [h1, h2, h3, h4, h5, h6, ck_tr]
  exact fin_B (p_sees h (by omega) _ _)
theorem ok_21 (h : Inv A σ) (hN : 10000000000000 ≤ N) (xs : Nat → Int32) (L : Nat) (i : Int32) (hL : InR L i) : Nxt (g_21 N xs L σ i) := by
  obtain ⟨h1, h2, h3, h4, h5, h6⟩ := hL
  unfold g_21
  simp only [h1, h2, h3, h4, h5, h6, ck_tr]
  exact fin_I (p_columnOf h (by omega) _ _)
theorem ok_22 (h : Inv A σ) (hN : 10000000000000 ≤ N) (xs : Nat → Int32) (L : Nat) (i : Int32) (hL : InR L i) : Nxt (g_22 N xs L σ i) := by
  obtain ⟨h1, h2, h3, h4, h5, h6⟩ := hL
  unfold g_22
  simp only [h1, h2, h3, h4, h5, h6, ck_tr]
  exact fin_I (p_rowOf h (by omega) _ _)
theorem ok_23 (h : Inv A σ) (hN : 10000000000000 ≤ N) (xs : Nat → Int32) (L : Nat) (i : Int32) (hL : InR L i) : Nxt (g_23 N xs L σ i) := by
  obtain ⟨h1, h2, h3, h4, h5, h6⟩ := hL
  unfold g_23
  simp only [h1, h2, h3, h4, h5, h6, ck_tr]
  exact fin_I (p_rankOf h (by omega) _ _)
theorem ok_24 (h : Inv A σ) (hN : 10000000000000 ≤ N) (xs : Nat → Int32) (L : Nat) (i : Int32) (hL : InR L i) : Nxt (g_24 N xs L σ i) := by
  obtain ⟨h1, h2, h3, h4, h5, h6⟩ := hL
  unfold g_24
  simp only [h1, h2, h3, h4, h5, h6, ck_tr]
  exact fin_I (p_shapeAt h (by omega) _ _)
theorem ok_25 (h : Inv A σ) (hN : 10000000000000 ≤ N) (xs : Nat → Int32) (L : Nat) (i : Int32) (hL : InR L i) : Nxt (g_25 N xs L σ i) := by
  obtain ⟨h1, h2, h3, h4, h5, h6⟩ := hL
  unfold g_25
  simp only [h1, h2, h3, h4, h5, h6, ck_tr]
  exact fin_F (p_keyOf h (by omega) _ _)
theorem ok_26 (h : Inv A σ) (hN : 10000000000000 ≤ N) (xs : Nat → Int32) (L : Nat) (i : Int32) (hL : InR L i) : Nxt (g_26 N xs L σ i) := by
  obtain ⟨h1, h2, h3, h4, h5, h6⟩ := hL
  unfold g_26
  simp only [h1, h2, h3, h4, h5, h6, ck_tr]
  exact fin_I (p_keyBits h (by omega) _ _)
theorem ok_27 (h : Inv A σ) (hN : 10000000000000 ≤ N) (xs : Nat → Int32) (L : Nat) (i : Int32) (hL : InR L i) : Nxt (g_27 N xs L σ i) := by
  obtain ⟨h1, h2, h3, h4, h5, h6⟩ := hL
  unfold g_27
  simp only [h1, h2, h3, h4, h5, h6, ck_tr]
  exact fin_I (p_keyCut h (by omega) _ _)
theorem ok_28 (h : Inv A σ) (hN : 10000000000000 ≤ N) (xs : Nat → Int32) (L : Nat) (i : Int32) (hL : InR L i) : Nxt (g_28 N xs L σ i) := by
  obtain ⟨h1, h2, h3, h4, h5, h6⟩ := hL
  unfold g_28
  simp only [h1, h2, h3, h4, h5, h6, ck_tr]
  exact fin_I (p_topAt h (by omega) _ _ _)
theorem ok_29 (h : Inv A σ) (hN : 10000000000000 ≤ N) (xs : Nat → Int32) (L : Nat) (i : Int32) (hL : InR L i) : Nxt (g_29 N xs L σ i) := by
  obtain ⟨h1, h2, h3, h4, h5, h6⟩ := hL
  unfold g_29
  simp only [h1, h2, h3, h4, h5, h6, ck_tr]
  exact fin_I (p_lockedBy h (by omega) _ _)
theorem ok_30 (h : Inv A σ) (hN : 10000000000000 ≤ N) (xs : Nat → Int32) (L : Nat) (i : Int32) (hL : InR L i) : Nxt (g_30 N xs L σ i) := by
  obtain ⟨h1, h2, h3, h4, h5, h6⟩ := hL
  unfold g_30
  simp only [h1, h2, h3, h4, h5, h6, ck_tr]
  exact fin_I (p_inside h (by omega) _ _)
theorem ok_31 (h : Inv A σ) (hN : 10000000000000 ≤ N) (xs : Nat → Int32) (L : Nat) (i : Int32) (hL : InR L i) : Nxt (g_31 N xs L σ i) := by
  obtain ⟨h1, h2, h3, h4, h5, h6⟩ := hL
  unfold g_31
  simp only [h1, h2, h3, h4, h5, h6, ck_tr]
  exact fin_I (p_connectors h (by omega) _)
theorem ok_32 (h : Inv A σ) (hN : 10000000000000 ≤ N) (xs : Nat → Int32) (L : Nat) (i : Int32) (hL : InR L i) : Nxt (g_32 N xs L σ i) := by
  obtain ⟨h1, h2, h3, h4, h5, h6⟩ := hL
  unfold g_32
  simp only [h1, h2, h3, h4, h5, h6, ck_tr]
  exact fin_I (p_bends h hN _ _)
theorem ok_33 (h : Inv A σ) (hN : 10000000000000 ≤ N) (xs : Nat → Int32) (L : Nat) (i : Int32) (hL : InR L i) : Nxt (g_33 N xs L σ i) := by
  obtain ⟨h1, h2, h3, h4, h5, h6⟩ := hL
  unfold g_33
  simp only [h1, h2, h3, h4, h5, h6, ck_tr]
  exact fin_I (p_bendsByRounds h hN _ _)
theorem ok_34 (h : Inv A σ) (hN : 10000000000000 ≤ N) (xs : Nat → Int32) (L : Nat) (i : Int32) (hL : InR L i) : Nxt (g_34 N xs L σ i) := by
  obtain ⟨h1, h2, h3, h4, h5, h6⟩ := hL
  unfold g_34
  simp only [h1, h2, h3, h4, h5, h6, ck_tr]
  exact fin_I (p_routeLength h hN _ _)
theorem ok_35 (h : Inv A σ) (hN : 10000000000000 ≤ N) (xs : Nat → Int32) (L : Nat) (i : Int32) (hL : InR L i) : Nxt (g_35 N xs L σ i) := by
  obtain ⟨h1, h2, h3, h4, h5, h6⟩ := hL
  unfold g_35
  simp only [h1, h2, h3, h4, h5, h6, ck_tr]
  exact fin_I (p_ownVotes h (by omega) _ _)
theorem ok_36 (h : Inv A σ) (hN : 10000000000000 ≤ N) (xs : Nat → Int32) (L : Nat) (i : Int32) (hL : InR L i) : Nxt (g_36 N xs L σ i) := by
  obtain ⟨h1, h2, h3, h4, h5, h6⟩ := hL
  unfold g_36
  simp only [h1, h2, h3, h4, h5, h6, ck_tr]
  exact fin_I (p_votesFor h (by omega) _ _)
theorem ok_37 (h : Inv A σ) (hN : 10000000000000 ≤ N) (xs : Nat → Int32) (L : Nat) (i : Int32) (hL : InR L i) : Nxt (g_37 N xs L σ i) := by
  obtain ⟨h1, h2, h3, h4, h5, h6⟩ := hL
  unfold g_37
  simp only [h1, h2, h3, h4, h5, h6, ck_tr]
  exact fin_I (p_winner h (by omega) _)
theorem ok_38 (h : Inv A σ) (hN : 10000000000000 ≤ N) (xs : Nat → Int32) (L : Nat) (i : Int32) (hL : InR L i) : Nxt (g_38 N xs L σ i) := by
  obtain ⟨h1, h2, h3, h4, h5, h6⟩ := hL
  unfold g_38
  simp only [h1, h2, h3, h4, h5, h6, ck_tr]
  exact fin_I (p_outcome h (by omega) _)
theorem ok_39 (h : Inv A σ) (hN : 10000000000000 ≤ N) (xs : Nat → Int32) (L : Nat) (i : Int32) (hL : InR L i) : Nxt (g_39 N xs L σ i) := by
  obtain ⟨h1, h2, h3, h4, h5, h6⟩ := hL
  unfold g_39
  simp only [h1, h2, h3, h4, h5, h6, ck_tr]
  exact fin_I (p_outcomeAnew h (by omega) _)
theorem ok_40 (h : Inv A σ) (hN : 10000000000000 ≤ N) (xs : Nat → Int32) (L : Nat) (i : Int32) (hL : InR L i) : Nxt (g_40 N xs L σ i) := by
  obtain ⟨h1, h2, h3, h4, h5, h6⟩ := hL
  unfold g_40
  simp only [h1, h2, h3, h4, h5, h6, ck_tr]
  exact fin_I (p_outcomes h (by omega) _ _)
theorem ok_41 (h : Inv A σ) (hN : 10000000000000 ≤ N) (xs : Nat → Int32) (L : Nat) (i : Int32) (hL : InR L i) : Nxt (g_41 N xs L σ i) := by
  obtain ⟨h1, h2, h3, h4, h5, h6⟩ := hL
  unfold g_41
  simp only [h1, h2, h3, h4, h5, h6, ck_tr]
  exact fin_B (p_areAlike h (by omega) _ _)
theorem ok_42 (h : Inv A σ) (hN : 10000000000000 ≤ N) (xs : Nat → Int32) (L : Nat) (i : Int32) (hL : InR L i) : Nxt (g_42 N xs L σ i) := by
  obtain ⟨h1, h2, h3, h4, h5, h6⟩ := hL
  unfold g_42
  simp only [h1, h2, h3, h4, h5, h6, ck_tr]
  exact fin_F (p_frameShare h (by omega) _)
theorem ok_43 (h : Inv A σ) (hN : 10000000000000 ≤ N) (xs : Nat → Int32) (L : Nat) (i : Int32) (hL : InR L i) : Nxt (g_43 N xs L σ i) := by
  obtain ⟨h1, h2, h3, h4, h5, h6⟩ := hL
  unfold g_43
  simp only [h1, h2, h3, h4, h5, h6, ck_tr]
  exact fin_D (p_meanRoute h hN _) (fun v σ3 => _)
theorem ok_44 (h : Inv A σ) (hN : 10000000000000 ≤ N) (xs : Nat → Int32) (L : Nat) (i : Int32) (hL : InR L i) : Nxt (g_44 N xs L σ i) := by
  obtain ⟨h1, h2, h3, h4, h5, h6⟩ := hL
  unfold g_44
  simp only [h1, h2, h3, h4, h5, h6, ck_tr]
  exact fin_J (p_area h (by omega) _)
end OK_
