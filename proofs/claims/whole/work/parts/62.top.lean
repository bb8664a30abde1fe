/-! The latest of the known operations that write a field. -/
theorem rwx_spec (A : Ab) (o f : Nat) : ∀ m, rwx A o f m ≠ 0 → rwx A o f m ≤ m ∧ aFd A o (rwx A o f m - 1) = f := by
  intro m
  induction m with
  | zero => intro h; exact absurd rfl h
  | succ m ih =>
    intro h
    simp only [rwx] at h ⊢
    by_cases e : aFd A o m = f
    · rw [if_pos e]; exact ⟨Nat.le_refl _, e⟩
    · rw [if_neg e] at h ⊢
      exact ⟨Nat.le_succ_of_le (ih h).1, (ih h).2⟩
theorem rwx_zero (A : Ab) (o f : Nat) : ∀ m, rwx A o f m = 0 → ∀ k, k < m → aFd A o k ≠ f := by
  intro m
  induction m with
  | zero => intro _ k hk; omega
  | succ m ih =>
    intro h k hk
    simp only [rwx] at h
    by_cases e : aFd A o m = f
    · rw [if_pos e] at h; omega
    · rw [if_neg e] at h
      by_cases ek : k = m
      · rw [ek]; exact e
      · exact ih h k (by omega)
theorem rwx_congr {A A' : Ab} {o f : Nat} : ∀ m, (∀ k, k < m → aFd A' o k = aFd A o k) → rwx A' o f m = rwx A o f m := by
  intro m
  induction m with
  | zero => intro _; rfl
  | succ m ih => intro h; simp only [rwx]; rw [h m (by omega), ih (fun k hk => h k (by omega))]
theorem rw_le (A : Ab) (o f : Nat) : rw_ A o f ≤ aLen A o := by
  by_cases h : rw_ A o f = 0
  · omega
  · exact (rwx_spec A o f _ h).1
theorem rw_at {A : Ab} (hO : OpsOK A) {o k : Nat} (ho : o < aN A) (hk : k < aLen A o) : rw_ A o (aFd A o k) = k + 1 := by
  have hd := (hO.2.1 o ho).2.2.2.2
  by_cases h : rw_ A o (aFd A o k) = 0
  · exact absurd rfl (rwx_zero A o _ _ h k hk)
  · obtain ⟨h1, h2⟩ := rwx_spec A o _ _ h
    have e : rwx A o (aFd A o k) (aLen A o) = rw_ A o (aFd A o k) := rfl
    rw [e] at h1 h2
    have h3 : rw_ A o (aFd A o k) - 1 = k := by
      rcases Nat.lt_trichotomy (rw_ A o (aFd A o k) - 1) k with q | q | q
      · exact absurd h2 ((hd k hk).2.2.2.2.2 _ q)
      · exact q
      · exact absurd h2.symm ((hd _ (by omega)).2.2.2.2.2 _ q)
    omega
theorem lat_iff (A : Ab) (o p : Nat) : lat A o p = true ↔ aCk A p < aCk A o ∨ (aCk A o = aCk A p ∧ aUs A p < aUs A o) := by
  unfold lat; simp
theorem lat_asym {A : Ab} {o p : Nat} (h : lat A o p = true) (g : lat A p o = true) : False := by
  rw [lat_iff] at h g; omega
theorem lat_irr {A : Ab} {o : Nat} (h : lat A o o = true) : False := lat_asym h h
theorem lat_tr {A : Ab} {o p q : Nat} (h : lat A o p = true) (g : lat A p q = true) : lat A o q = true := by
  rw [lat_iff] at h g ⊢; omega
theorem lat_tot {A : Ab} (hO : OpsOK A) {o p : Nat} (ho : o < aN A) (hp : p < aN A) (hne : o ≠ p) : lat A o p = true ∨ lat A p o = true := by
  have h := hO.2.2 o p ho hp hne
  rw [lat_iff, lat_iff]
  by_cases e : aUs A o = aUs A p
  · have := h e; omega
  · omega
theorem Top_uniq {A : Ab} {K : Nat → Bool} {f w w' : Nat} (h : Top A K f w) (g : Top A K f w') : w = w' := by
  rcases h with ⟨rfl, h⟩ | ⟨o, rfl, h1, h2, h3, h4⟩
  · rcases g with ⟨rfl, _⟩ | ⟨p, rfl, g1, g2, g3, _⟩
    · rfl
    · exact absurd (h p g1 g2) g3
  · rcases g with ⟨rfl, g⟩ | ⟨p, rfl, g1, g2, g3, g4⟩
    · exact absurd (g o h1 h2) h3
    · rcases h4 p g1 g2 g3 with e | e
      · rw [e]
      · rcases g4 o h1 h2 h3 with e' | e'
        · rw [e']
        · exact (lat_asym e e').elim
theorem bw_eq {A : Ab} {K : Nat → Bool} {f w : Nat} (h : Top A K f w) : bw A K f = w := Top_uniq (Classical.epsilon_spec ⟨w, h⟩) h
theorem Top_le {A : Ab} {K : Nat → Bool} {f w : Nat} (h : Top A K f w) : w ≤ aN A := by
  rcases h with ⟨rfl, _⟩ | ⟨o, rfl, h1, _⟩
  · exact Nat.zero_le _
  · exact h1
theorem Top_rw {A : Ab} {K : Nat → Bool} {f w : Nat} (h : Top A K f w) (hw : w ≠ 0) : w - 1 < aN A ∧ K (w - 1) = true ∧ rw_ A (w - 1) f ≠ 0 := by
  rcases h with ⟨rfl, _⟩ | ⟨o, rfl, h1, h2, h3, _⟩
  · exact absurd rfl hw
  · exact ⟨h1, h2, h3⟩
theorem Top_K {A : Ab} {K K' : Nat → Bool} {f w : Nat} (hK : ∀ o, o < aN A → K' o = K o) (h : Top A K f w) : Top A K' f w := by
  rcases h with ⟨e, h⟩ | ⟨o, e, h1, h2, h3, h4⟩
  · exact Or.inl ⟨e, fun o ho hk => h o ho (by rw [← hK o ho]; exact hk)⟩
  · exact Or.inr ⟨o, e, h1, by rw [hK o h1]; exact h2, h3, fun p hp hk hr => h4 p hp (by rw [← hK p hp]; exact hk) hr⟩
def nw (A : Ab) (o w f : Nat) : Nat := if rw_ A o f ≠ 0 ∧ (w = 0 ∨ lat A o (w - 1) = true) then o + 1 else w
def KU (K : Nat → Bool) (o : Nat) : Nat → Bool := fun x => K x || x == o
theorem Top_add {A : Ab} (hO : OpsOK A) {K : Nat → Bool} {f w o : Nat} (ho : o < aN A) (h : Top A K f w) : Top A (KU K o) f (nw A o w f) := by
  have hKU : ∀ x, KU K o x = true → K x = true ∨ x = o := fun x hx => by
    unfold KU at hx
    rw [Bool.or_eq_true, beq_iff_eq] at hx
    exact hx
  have hKl : ∀ x, K x = true → KU K o x = true := fun x hx => by unfold KU; rw [hx]; rfl
  have hKo : KU K o o = true := by unfold KU; simp
  unfold nw
  by_cases hr : rw_ A o f = 0
  · rw [if_neg (fun q => q.1 hr)]
    rcases h with ⟨e, h⟩ | ⟨p, e, h1, h2, h3, h4⟩
    · refine Or.inl ⟨e, fun x hx hk => ?_⟩
      rcases hKU x hk with q | q
      · exact h x hx q
      · rw [q]; exact hr
    · refine Or.inr ⟨p, e, h1, hKl p h2, h3, fun x hx hk hrx => ?_⟩
      rcases hKU x hk with q | q
      · exact h4 x hx q hrx
      · rw [q] at hrx; exact absurd hr hrx
  · rcases h with ⟨rfl, h⟩ | ⟨p, rfl, h1, h2, h3, h4⟩
    · rw [if_pos ⟨hr, Or.inl rfl⟩]
      refine Or.inr ⟨o, rfl, ho, hKo, hr, fun x hx hk hrx => ?_⟩
      rcases hKU x hk with q | q
      · exact absurd (h x hx q) hrx
      · exact Or.inl q
    · by_cases hl : lat A o p = true
      · rw [if_pos ⟨hr, Or.inr hl⟩]
        refine Or.inr ⟨o, rfl, ho, hKo, hr, fun x hx hk hrx => ?_⟩
        rcases hKU x hk with q | q
        · rcases h4 x hx q hrx with e | e
          · rw [e]; exact Or.inr hl
          · exact Or.inr (lat_tr hl e)
        · exact Or.inl q
      · rw [if_neg (fun q => q.2.elim (fun z => by omega) hl)]
        refine Or.inr ⟨p, rfl, h1, hKl p h2, h3, fun x hx hk hrx => ?_⟩
        rcases hKU x hk with q | q
        · exact h4 x hx q hrx
        · rw [q]
          by_cases e : o = p
          · exact Or.inl e
          · exact Or.inr ((lat_tot hO ho h1 e).resolve_left hl)
theorem Top_nil (A : Ab) (f : Nat) : Top A (fun _ => false) f 0 := Or.inl ⟨rfl, fun _ _ h => by cases h⟩
/-- operations ahead of n are the same -/
def Ag (A A' : Ab) : Prop := aN A ≤ aN A' ∧ ∀ o, o < aN A → aUs A' o = aUs A o ∧ aCk A' o = aCk A o ∧ aLen A' o = aLen A o ∧ ∀ k, k < aLen A o → aFd A' o k = aFd A o k ∧ aVl A' o k = aVl A o k ∧ aSm A' o k = aSm A o k ∧ aOv A' o k = aOv A o k ∧ aOs A' o k = aOs A o k
theorem Ag_rw {A A' : Ab} (h : Ag A A') {o : Nat} (ho : o < aN A) (f : Nat) : rw_ A' o f = rw_ A o f := by
  obtain ⟨-, -, h3, h4⟩ := h.2 o ho
  unfold rw_
  rw [h3]
  exact rwx_congr _ (fun k hk => (h4 k hk).1)
theorem Ag_lat {A A' : Ab} (h : Ag A A') {o p : Nat} (ho : o < aN A) (hp : p < aN A) : lat A' o p = lat A o p := by
  unfold lat
  rw [(h.2 o ho).1, (h.2 o ho).2.1, (h.2 p hp).1, (h.2 p hp).2.1]
theorem Ag_top {A A' : Ab} (h : Ag A A') {K : Nat → Bool} (hK : ∀ o, aN A ≤ o → K o = false) {f w : Nat} (g : Top A K f w) : Top A' K f w := by
  have hlt : ∀ o, K o = true → o < aN A := fun o ho => Nat.lt_of_not_le (fun q => by rw [hK o q] at ho; cases ho)
  rcases g with ⟨e, g⟩ | ⟨o, e, h1, h2, h3, h4⟩
  · exact Or.inl ⟨e, fun o _ hk => by rw [Ag_rw h (hlt o hk)]; exact g o (hlt o hk) hk⟩
  · refine Or.inr ⟨o, e, Nat.lt_of_lt_of_le h1 h.1, h2, by rw [Ag_rw h h1]; exact h3, fun p _ hk hr => ?_⟩
    rw [Ag_rw h (hlt p hk)] at hr
    rw [Ag_lat h h1 (hlt p hk)]
    exact h4 p (hlt p hk) hk hr
theorem Ag_tvl {A A' : Ab} (h : Ag A A') {w f : Nat} (hw : w ≤ aN A) (hr : w ≠ 0 → rw_ A (w - 1) f ≠ 0) : tvl A' w f = tvl A w f ∧ tsm A' w f = tsm A w f := by
  unfold tvl tsm
  by_cases e : w = 0
  · rw [if_pos e, if_pos e, if_pos e, if_pos e]; exact ⟨rfl, rfl⟩
  · rw [if_neg e, if_neg e, if_neg e, if_neg e, Ag_rw h (by omega)]
    have h5 := rw_le A (w - 1) f
    have h6 := hr e
    have h7 := (h.2 (w - 1) (by omega)).2.2.2 (rw_ A (w - 1) f - 1) (by omega)
    exact ⟨h7.2.1, h7.2.2.1⟩
theorem Ag_bw {A A' : Ab} (h : Ag A A') {K : Nat → Bool} (hK : ∀ o, aN A ≤ o → K o = false) {f : Nat} (g : Top A K f (bw A K f)) : bw A' K f = bw A K f ∧ bv A' K f = bv A K f ∧ bs A' K f = bs A K f := by
  have e := bw_eq (Ag_top h hK g)
  have q := Ag_tvl h (Top_le g) (fun hw => (Top_rw g hw).2.2)
  unfold bv bs
  rw [e]
  exact ⟨rfl, q.1, q.2⟩
theorem Ag_BdC {A A' : Ab} (h : Ag A A') {K : Nat → Bool} (hK : ∀ o, aN A ≤ o → K o = false) {b : Nat} {σ : St} (g : BdC A K b σ) : BdC A' K b σ := by
  intro f hf
  obtain ⟨g1, g2, g3, g4⟩ := g f hf
  obtain ⟨e1, e2, e3⟩ := Ag_bw h hK g1
  rw [e1, e2, e3]
  exact ⟨Ag_top h hK g1, g2, g3, g4⟩
theorem Ag_BdM {A A' : Ab} (h : Ag A A') {K : Nat → Bool} (hK : ∀ o, aN A ≤ o → K o = false) {σ : St} (g : BdM A K σ) : BdM A' K σ := by
  intro f hf
  obtain ⟨g1, g2, g3, g4⟩ := g f hf
  obtain ⟨e1, e2, e3⟩ := Ag_bw h hK g1
  rw [e1, e2, e3]
  exact ⟨Ag_top h hK g1, g2, g3, g4⟩
theorem bw_K {A : Ab} {K K' : Nat → Bool} (hK : ∀ o, o < aN A → K' o = K o) {f : Nat} (g : Top A K f (bw A K f)) : bw A K' f = bw A K f := bw_eq (Top_K hK g)
theorem BdC_K {A : Ab} {K K' : Nat → Bool} (hK : ∀ o, o < aN A → K' o = K o) {b : Nat} {σ : St} (g : BdC A K b σ) : BdC A K' b σ := by
  intro f hf
  obtain ⟨g1, g2, g3, g4⟩ := g f hf
  have e := bw_K hK g1
  unfold bv bs
  rw [e]
  exact ⟨Top_K hK g1, g2, g3, g4⟩
theorem BdM_K {A : Ab} {K K' : Nat → Bool} (hK : ∀ o, o < aN A → K' o = K o) {σ : St} (g : BdM A K σ) : BdM A K' σ := by
  intro f hf
  obtain ⟨g1, g2, g3, g4⟩ := g f hf
  have e := bw_K hK g1
  unfold bv bs
  rw [e]
  exact ⟨Top_K hK g1, g2, g3, g4⟩
/-- values on a board are such as the field may have -/
def BOK (A : Ab) (β : Nat → Nat) : Prop := ∀ f, f < 93 → vok A f (β f)
theorem vok_zero {A : Ab} (hS : ShOK A) (f : Nat) : vok A f 0 := by
  have h := hS.2.2.1 (f - 12)
  unfold vok vokn kyOK
  refine ⟨fun _ => by omega, fun _ _ => ⟨by omega, by omega, by omega, Or.inr rfl⟩, fun _ _ => ⟨by omega, kz_0 _⟩, fun _ _ => by omega, fun _ _ => by omega, fun _ _ => by omega, fun _ => by omega⟩
theorem BOK_bv {A : Ab} (hO : OpsOK A) (hS : ShOK A) {K : Nat → Bool} (g : ∀ f, f < 93 → Top A K f (bw A K f)) : BOK A (bv A K) := by
  intro f hf
  unfold bv tvl
  by_cases e : bw A K f = 0
  · rw [if_pos e]; exact vok_zero hS f
  · rw [if_neg e]
    obtain ⟨h1, h2, h3⟩ := Top_rw (g f hf) e
    have h4 := rw_le A (bw A K f - 1) f
    have h5 := (hO.2.1 _ h1).2.2.2.2 (rw_ A (bw A K f - 1) f - 1) (by omega)
    have h6 : aFd A (bw A K f - 1) (rw_ A (bw A K f - 1) f - 1) = f := (rwx_spec A _ f _ h3).2
    rw [h6] at h5
    exact h5.2.1
theorem bs_le {A : Ab} (hO : OpsOK A) {K : Nat → Bool} {f : Nat} (g : Top A K f (bw A K f)) : bs A K f ≤ 250 := by
  unfold bs tsm
  by_cases e : bw A K f = 0
  · rw [if_pos e]; omega
  · rw [if_neg e]
    obtain ⟨h1, h2, h3⟩ := Top_rw g e
    have h4 := rw_le A (bw A K f - 1) f
    exact ((hO.2.1 _ h1).2.2.2.2 (rw_ A (bw A K f - 1) f - 1) (by omega)).2.2.2.1
/-- the first j rows of an operation taken -/
def nwj (A : Ab) (o w f j : Nat) : Nat := if rw_ A o f ≠ 0 ∧ rw_ A o f ≤ j ∧ (w = 0 ∨ lat A o (w - 1) = true) then o + 1 else w
theorem nwj_0 (A : Ab) (o w f : Nat) : nwj A o w f 0 = w := by unfold nwj; rw [if_neg (by omega)]
theorem nwj_len (A : Ab) (o w f : Nat) : nwj A o w f (aLen A o) = nw A o w f := by
  have h := rw_le A o f
  unfold nwj nw
  by_cases e : rw_ A o f ≠ 0 ∧ (w = 0 ∨ lat A o (w - 1) = true)
  · rw [if_pos e, if_pos ⟨e.1, h, e.2⟩]
  · rw [if_neg e, if_neg (fun q => e ⟨q.1, q.2.2⟩)]
theorem nwj_at {A : Ab} (hO : OpsOK A) {o k w : Nat} (ho : o < aN A) (hk : k < aLen A o) : nwj A o w (aFd A o k) k = w := by
  unfold nwj; rw [rw_at hO ho hk, if_neg (by omega)]
theorem nwj_ne {A : Ab} {o k w f : Nat} (hk : k < aLen A o) (hf : f ≠ aFd A o k) : nwj A o w f (k + 1) = nwj A o w f k := by
  unfold nwj
  have h : ¬ rw_ A o f = k + 1 := fun e => by
    have := (rwx_spec A o f (aLen A o) (by show rw_ A o f ≠ 0; omega)).2
    rw [show rwx A o f (aLen A o) = k + 1 from e] at this
    exact hf this.symm
  by_cases e : rw_ A o f ≠ 0 ∧ rw_ A o f ≤ k ∧ (w = 0 ∨ lat A o (w - 1) = true)
  · rw [if_pos e, if_pos ⟨e.1, by omega, e.2.2⟩]
  · rw [if_neg e, if_neg (fun q => e ⟨q.1, by have := q.2.1; omega, q.2.2⟩)]
theorem nwj_hit {A : Ab} (hO : OpsOK A) {o k w : Nat} (ho : o < aN A) (hk : k < aLen A o) : nwj A o w (aFd A o k) (k + 1) = if w = 0 ∨ lat A o (w - 1) = true then o + 1 else w := by
  unfold nwj
  rw [rw_at hO ho hk]
  by_cases e : w = 0 ∨ lat A o (w - 1) = true
  · rw [if_pos ⟨by omega, Nat.le_refl _, e⟩, if_pos e]
  · rw [if_neg (fun q => e q.2.2), if_neg e]
