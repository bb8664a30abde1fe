/-! A new operation in the class's log. -/
abbrev Rw : Type := Nat × Nat × Nat × Nat × Nat
def rz : Rw := (0, 0, 0, 0, 0)
def opL (A : Ab) (u c st : Nat) (L : List Rw) : Ab := fun i j k =>
  if i = 0 ∧ j = 0 then aN A + 1
  else if 1 ≤ i ∧ i ≤ 9 ∧ j = aN A then
    (if i = 1 then u else if i = 2 then c else if i = 3 then st else if i = 4 then L.length
     else if i = 5 then (L.getD k rz).1 else if i = 6 then (L.getD k rz).2.1 else if i = 7 then (L.getD k rz).2.2.1 else if i = 8 then (L.getD k rz).2.2.2.1 else (L.getD k rz).2.2.2.2)
  else A i j k
def lrn (A : Ab) (u o : Nat) : Ab := fun i j k => if i = 10 ∧ j = u ∧ k = o then 1 else A i j k
def clA (A : Ab) (o : Nat) : Ab := fun i j k => if i = 3 ∧ j = o then 0 else A i j k
def shA (A : Ab) (w h fr : Nat) : Ab := fun i j k => if i = 0 ∧ j = 1 then aSh A + 1 else if i = 11 ∧ j = aSh A then w else if i = 12 ∧ j = aSh A then h else if i = 13 ∧ j = aSh A then fr else A i j k
def cnA (A : Ab) (a b sd se : Nat) : Ab := fun i j k => if i = 0 ∧ j = 2 then aCn A + 1 else if i = 14 ∧ j = aCn A then a else if i = 15 ∧ j = aCn A then b else if i = 16 ∧ j = aCn A then sd else if i = 17 ∧ j = aCn A then se else A i j k
section OL
variable (A : Ab) (u c st : Nat) (L : List Rw)
theorem opL_N : aN (opL A u c st L) = aN A + 1 := rfl
theorem opL_Sh : aSh (opL A u c st L) = aSh A := rfl
theorem opL_Cn : aCn (opL A u c st L) = aCn A := rfl
theorem opL_W : aW (opL A u c st L) = aW A := rfl
theorem opL_H : aH (opL A u c st L) = aH A := rfl
theorem opL_Fr : aFr (opL A u c st L) = aFr A := rfl
theorem opL_kn : kn (opL A u c st L) = kn A := rfl
theorem opL_Us (o : Nat) : aUs (opL A u c st L) o = if o = aN A then u else aUs A o := by simp [aUs, opL]
theorem opL_Ck (o : Nat) : aCk (opL A u c st L) o = if o = aN A then c else aCk A o := by simp [aCk, opL]
theorem opL_St (o : Nat) : aSt (opL A u c st L) o = if o = aN A then st else aSt A o := by simp [aSt, opL]
theorem opL_Len (o : Nat) : aLen (opL A u c st L) o = if o = aN A then L.length else aLen A o := by simp [aLen, opL]
theorem opL_Fd (o k : Nat) : aFd (opL A u c st L) o k = if o = aN A then (L.getD k rz).1 else aFd A o k := by simp [aFd, opL]
theorem opL_Vl (o k : Nat) : aVl (opL A u c st L) o k = if o = aN A then (L.getD k rz).2.1 else aVl A o k := by simp [aVl, opL]
theorem opL_Sm (o k : Nat) : aSm (opL A u c st L) o k = if o = aN A then (L.getD k rz).2.2.1 else aSm A o k := by simp [aSm, opL]
theorem opL_Ov (o k : Nat) : aOv (opL A u c st L) o k = if o = aN A then (L.getD k rz).2.2.2.1 else aOv A o k := by simp [aOv, opL]
theorem opL_Os (o k : Nat) : aOs (opL A u c st L) o k = if o = aN A then (L.getD k rz).2.2.2.2 else aOs A o k := by simp [aOs, opL]
theorem opL_off : ∀ m, m ≤ aN A → off (opL A u c st L) m = off A m := by
  intro m
  induction m with
  | zero => intro _; rfl
  | succ m ih => intro h; simp only [off]; rw [ih (by omega), opL_Len, if_neg (by omega)]
theorem opL_off1 : off (opL A u c st L) (aN A + 1) = off A (aN A) + L.length := by
  simp only [off]; rw [opL_off A u c st L _ (Nat.le_refl _), opL_Len, if_pos rfl]
theorem opL_Ag : Ag A (opL A u c st L) := by
  refine ⟨Nat.le_succ _, fun o ho => ?_⟩
  have e : ¬ o = aN A := by omega
  rw [opL_Us, opL_Ck, opL_Len, if_neg e, if_neg e, if_neg e]
  refine ⟨rfl, rfl, rfl, fun k _ => ?_⟩
  rw [opL_Fd, opL_Vl, opL_Sm, opL_Ov, opL_Os, if_neg e, if_neg e, if_neg e, if_neg e, if_neg e]
  exact ⟨rfl, rfl, rfl, rfl, rfl⟩
end OL
theorem off_mono (A : Ab) {o : Nat} : ∀ m, o < m → off A o + aLen A o ≤ off A m := by
  intro m
  induction m with
  | zero => intro h; omega
  | succ m ih =>
    intro h
    simp only [off]
    by_cases e : o = m
    · rw [e]; omega
    · have := ih (by omega); omega
theorem getD_app {L : List Rw} {x : Rw} {k : Nat} : (L ++ [x]).getD k rz = if k = L.length then x else L.getD k rz := by
  by_cases e : k = L.length
  · rw [if_pos e, e]; simp
  · rw [if_neg e]
    by_cases g : k < L.length
    · simp [List.getElem?_append_left g]
    · have g2 : L.length + 1 ≤ k := by omega
      simp [List.getElem?_eq_none (show L.length ≤ k by omega), List.getElem?_eq_none (show (L ++ [x]).length ≤ k by simp; omega)]
theorem ij_nar {b : Nat} (h : b ≤ 1) : vp_nar .boolean (ij b) = ij b := by
  have h2 : b = 0 ∨ b = 1 := by omega
  rcases h2 with rfl | rfl <;> rfl
def Tl : Nat → Nat → Bool := fun c q => (c == 1 || (decide (100 ≤ c) && decide (c ≤ 110))) && q == 0
def To : Nat → Nat → Bool := fun c q => (c == 1 || (decide (100 ≤ c) && decide (c ≤ 108))) && q == 0
theorem To_Tl {σ τ : St} (h : Un To σ τ) : Un Tl σ τ := h.mono (fun c o e => by unfold Tl at e; unfold To; simp at e ⊢; omega)
section OP
variable {A : Ab} {N : Nat} {σ : St}
theorem f_isLaterE {x y : Int} (x0 : 0 ≤ x) (x1 : x < 250) (y0 : 0 ≤ y) (y1 : y < 250) : ∃ b, fX1_isLater N σ (ij x) (ij y) = some (bi b) := by
  unfold fX1_isLater
  simp (disch := omega) only [ij_l0, ij_l1, ij_l2, ij_l3, ij_l4, ij_l5, ij_l6, ij_l8, ij_l12, ij_l16, ij_l19, ij_l23, ij_l24, ij_l31, ij_l32, ij_l36, ij_l47, ij_l48, ij_l56, ij_l92, ij_l93, ij_l98, ij_l108, ij_l114, ij_l116, ij_l127, ij_l128, ij_l149, ij_l250, ij_l384, ij_l768, ij_l1000, ij_l1536, ij_l3000, ij_l1000000, ij_l1000003, ij_l1000000000, ij_neg, ij_add, ij_sub, ij_mul, ij_lt, ij_le, ij_eq, ij_nat, tn_nat, tn_12, tn_24, tn_36, tn_48, ck_in, ob_s, o2_s, vl_s, ox_l, ox_r, ck_tr, if_pos, if_neg]
  split
  · exact ⟨true, rfl⟩
  · split
    · split
      · exact ⟨false, rfl⟩
      · exact ⟨true, rfl⟩
    · exact ⟨false, rfl⟩
/-- the places ahead of and behind d hold operations, each one somewhere -/
def FT (n d : Nat) (τ : St) : Prop := d ≤ n ∧ ∃ p : Nat → Nat, (∀ x, x ≤ n → x ≠ d → gI τ 105 0 x = ij (p x) ∧ p x < n) ∧ ∀ o, o < n → ∃ x, x ≤ n ∧ x ≠ d ∧ p x = o
def T5 : Nat → Nat → Bool := fun c q => c == 105 && q == 0
theorem f_file_loop {n : Nat} (hn : n < 250) (K : Int32 → Int32 → St → Option St) : ∀ d m τ, d < m → FT n d τ → ∃ d' τ' v, FT n d' τ' ∧ Un T5 τ τ' ∧ fX1_fileByTime_L14 K N (ij n) m (ij d) (ij ((d : Int) - 1)) τ = K (ij d') v τ' := by
  intro d
  induction d with
  | zero =>
    intro m τ hm hF
    obtain ⟨m, rfl⟩ : ∃ k, m = k + 1 := ⟨m - 1, by omega⟩
    refine ⟨0, τ, ij (-1), hF, Un.rfl, ?_⟩
    simp only [fX1_fileByTime_L14]
    simp (disch := omega) only [ij_l0, ij_l1, ij_l2, ij_l3, ij_l4, ij_l5, ij_l6, ij_l8, ij_l12, ij_l16, ij_l19, ij_l23, ij_l24, ij_l31, ij_l32, ij_l36, ij_l47, ij_l48, ij_l56, ij_l92, ij_l93, ij_l98, ij_l108, ij_l114, ij_l116, ij_l127, ij_l128, ij_l149, ij_l250, ij_l384, ij_l768, ij_l1000, ij_l1536, ij_l3000, ij_l1000000, ij_l1000003, ij_l1000000000, ij_neg, ij_add, ij_sub, ij_mul, ij_lt, ij_le, ij_eq, ij_nat, tn_nat, tn_12, tn_24, tn_36, tn_48, ck_in, ob_s, o2_s, vl_s, ox_l, ox_r, ck_tr, if_pos, if_neg]
    simp
  | succ d ih =>
    intro m τ hm hF
    obtain ⟨m, rfl⟩ : ∃ k, m = k + 1 := ⟨m - 1, by omega⟩
    obtain ⟨hd, p, h1, h2⟩ := hF
    have hp := h1 d (by omega) (by omega)
    obtain ⟨b, hb⟩ := f_isLaterE (N := N) (σ := τ) (x := p d) (y := n) (by omega) (by omega) (by omega) (by omega)
    have e1 : ((d + 1 : Nat) : Int) - 1 = d := by omega
    rw [e1]
    simp only [fX1_fileByTime_L14]
    simp (disch := omega) only [ij_l0, ij_l1, ij_l2, ij_l3, ij_l4, ij_l5, ij_l6, ij_l8, ij_l12, ij_l16, ij_l19, ij_l23, ij_l24, ij_l31, ij_l32, ij_l36, ij_l47, ij_l48, ij_l56, ij_l92, ij_l93, ij_l98, ij_l108, ij_l114, ij_l116, ij_l127, ij_l128, ij_l149, ij_l250, ij_l384, ij_l768, ij_l1000, ij_l1536, ij_l3000, ij_l1000000, ij_l1000003, ij_l1000000000, ij_neg, ij_add, ij_sub, ij_mul, ij_lt, ij_le, ij_eq, ij_nat, tn_nat, tn_12, tn_24, tn_36, tn_48, ck_in, ob_s, o2_s, vl_s, ox_l, ox_r, ck_tr, if_pos, if_neg, hp.1, hb, bi_z]
    cases b with
    | false =>
      refine ⟨d + 1, τ, ij d, ⟨hd, p, h1, h2⟩, Un.rfl, ?_⟩
      simp
    | true =>
      generalize hτ : sI τ 105 0 ((d : Int) + 1).toNat (ij ↑(p d)) = τ1
      have et : ((d : Int) + 1).toNat = d + 1 := by omega
      rw [et] at hτ
      have hU : Un T5 τ τ1 := by rw [← hτ]; exact Un.sI _ _ _ rfl
      have hF1 : FT n d τ1 := by
        refine ⟨by omega, fun x => if x = d + 1 then p d else p x, fun x hx hne => ?_, fun o ho => ?_⟩
        · rw [← hτ, gI_sI]
          by_cases ex : x = d + 1
          · simp [ex, hp.2]
          · simp [ex]
            exact h1 x hx ex
        · obtain ⟨x, q1, q2, q3⟩ := h2 o ho
          by_cases ex : x = d
          · exact ⟨d + 1, hd, by omega, by simp; rw [← ex]; exact q3⟩
          · exact ⟨x, q1, ex, by simp [q2, q3]⟩
      obtain ⟨d', τ', v, g1, g2, g3⟩ := ih m τ1 (by omega) hF1
      refine ⟨d', τ', v, g1, hU.tr g2, ?_⟩
      simp
      exact g3
theorem f_fileByTime {n : Nat} (hn : n < 250) (hN : 1000 ≤ N) (hc : gI σ 1 0 11 = ij ((n : Int) + 1)) (hF : FT n n σ) : ∃ τ, fX1_fileByTime N σ (ij n) = some τ ∧ Un T5 σ τ ∧ ∃ p : Nat → Nat, (∀ x, x < n + 1 → gI τ 105 0 x = ij (p x) ∧ p x < n + 1) ∧ ∀ o, o < n + 1 → ∃ x, x < n + 1 ∧ p x = o := by
  unfold fX1_fileByTime
  rw [hc]
  simp only [vl_s, ij_l0, ij_l1, ij_l2, ij_l3, ij_l4, ij_l5, ij_l6, ij_l8, ij_l12, ij_l16, ij_l19, ij_l23, ij_l24, ij_l31, ij_l32, ij_l36, ij_l47, ij_l48, ij_l56, ij_l92, ij_l93, ij_l98, ij_l108, ij_l114, ij_l116, ij_l127, ij_l128, ij_l149, ij_l250, ij_l384, ij_l768, ij_l1000, ij_l1536, ij_l3000, ij_l1000000, ij_l1000003, ij_l1000000000, ij_neg, ij_add, ij_sub, ij_mul]
  obtain ⟨d', τ', v, g1, g2, g3⟩ := f_file_loop (N := N) hn (fun v9 _ σ10 => (if v9 < ij 0 then (some σ10) else (if ij 250 ≤ v9 then (some σ10) else (ck (inb v9 250) (some (sI σ10 105 0 (Int32.toNatClampNeg v9) (ij n))))))) n N σ (by omega) hF
  rw [show (n : Int) + 1 - 1 = n by omega, show (n : Int) + 1 - 2 = (n : Int) - 1 by omega, g3]
  obtain ⟨hd, p, h1, h2⟩ := g1
  simp (disch := omega) only [ij_l0, ij_l1, ij_l2, ij_l3, ij_l4, ij_l5, ij_l6, ij_l8, ij_l12, ij_l16, ij_l19, ij_l23, ij_l24, ij_l31, ij_l32, ij_l36, ij_l47, ij_l48, ij_l56, ij_l92, ij_l93, ij_l98, ij_l108, ij_l114, ij_l116, ij_l127, ij_l128, ij_l149, ij_l250, ij_l384, ij_l768, ij_l1000, ij_l1536, ij_l3000, ij_l1000000, ij_l1000003, ij_l1000000000, ij_neg, ij_add, ij_sub, ij_mul, ij_lt, ij_le, ij_eq, ij_nat, tn_nat, tn_12, tn_24, tn_36, tn_48, ck_in, ob_s, o2_s, vl_s, ox_l, ox_r, ck_tr, if_pos, if_neg]
  refine ⟨_, rfl, g2.tr (Un.sI _ _ _ rfl), fun x => if x = d' then n else p x, fun x hx => ?_, fun o ho => ?_⟩
  · rw [gI_sI]
    by_cases e : x = d'
    · simp [e]
    · have := h1 x (by omega) e
      simp [e]
      exact ⟨this.1, by omega⟩
  · by_cases e : o = n
    · exact ⟨d', by omega, by simp [e]⟩
    · obtain ⟨x, q1, q2, q3⟩ := h2 o (by omega)
      exact ⟨x, by omega, by simp [q2, q3]⟩
theorem f_open (hL : LgC A σ) (hT : TmC A σ) (hn : aN A < 250) (hN : 1000 ≤ N) {u c st : Nat} (hst : st ≤ 1) : ∃ τ, fX1_open N σ (ij u) (ij c) (ij st) = some (ij (aN A), τ) ∧ LgC (opL A u c st []) τ ∧ TmC (opL A u c st []) τ ∧ Un To σ τ := by
  obtain ⟨l1, l2, l3⟩ := hL
  have key : ∀ σ7, gI σ7 1 0 11 = ij ((aN A : Int) + 1) → gI σ7 1 0 12 = ij (off A (aN A)) → (∀ x, gI σ7 100 0 x = if x = aN A then ij u else gI σ 100 0 x) → (∀ x, gI σ7 101 0 x = if x = aN A then ij c else gI σ 101 0 x) → (∀ x, gI σ7 102 0 x = if x = aN A then ij st else gI σ 102 0 x) → (∀ x, gI σ7 103 0 x = if x = aN A then ij (off A (aN A)) else gI σ 103 0 x) → (∀ x, gI σ7 104 0 x = if x = aN A then ij (off A (aN A)) else gI σ 104 0 x) →
      Un To σ σ7 → (∀ k, 105 ≤ k → (∀ x, gI σ7 k 0 x = gI σ k 0 x) ∧ ∀ x, gF σ7 k 0 x = gF σ k 0 x) →
      ∃ τ, ob (fX1_fileByTime N σ7 (ij (aN A))) (fun σ8 => some (ij (aN A), σ8)) = some (ij (aN A), τ) ∧ LgC (opL A u c st []) τ ∧ TmC (opL A u c st []) τ ∧ Un To σ τ := by
    intro σ7 c1 c2 c100 c101 c102 c103 c104 hU ck
    have hF : FT (aN A) (aN A) σ7 := by
      obtain ⟨p, p1, p2⟩ := hT
      refine ⟨Nat.le_refl _, p, fun x hx hne => ?_, fun o ho => ?_⟩
      · rw [(ck 105 (by omega)).1]; exact p1 x (by omega)
      · obtain ⟨i, i1, i2⟩ := p2 o ho
        exact ⟨i, by omega, by omega, i2⟩
    obtain ⟨τ, t1, t2, p, t3, t4⟩ := f_fileByTime hn hN c1 hF
    refine ⟨τ, by rw [t1]; rfl, ?_, ⟨p, t3, t4⟩, hU.tr (t2.mono (fun c o h => by unfold To at h; unfold T5; simp at h ⊢; omega))⟩
    have hI : ∀ k, k ≠ 105 → gI τ k 0 = gI σ7 k 0 := fun k hk => t2.I k 0 (by unfold T5; simp [hk])
    have hG : ∀ k, k ≠ 105 → gF τ k 0 = gF σ7 k 0 := fun k hk => t2.F k 0 (by unfold T5; simp [hk])
    unfold LgC
    rw [hI 1 (by omega), hI 100 (by omega), hI 101 (by omega), hI 102 (by omega), hI 103 (by omega), hI 104 (by omega), hI 106 (by omega), hG 107 (by omega), hI 108 (by omega), hG 109 (by omega), hI 110 (by omega)]
    refine ⟨by rw [c1, opL_N]; rfl, by rw [c2, opL_N, opL_off1]; simp, fun o ho => ?_⟩
    rw [c100, c101, c102, c103, c104, opL_Us, opL_Ck, opL_St, opL_Len]
    by_cases e : o = aN A
    · subst e
      simp only [if_true]
      rw [opL_off _ _ _ _ _ _ (Nat.le_refl _)]
      refine ⟨trivial, trivial, trivial, rfl, rfl, fun k hk => ?_⟩
      simp at hk
    · have ho2 : o < aN A := by rw [opL_N] at ho; omega
      have a := l3 o ho2
      simp only [if_neg e]
      rw [opL_off _ _ _ _ _ _ (Nat.le_of_lt ho2)]
      refine ⟨a.1, a.2.1, a.2.2.1, a.2.2.2.1, a.2.2.2.2.1, fun k hk => ?_⟩
      rw [(ck 106 (by omega)).1, (ck 107 (by omega)).2, (ck 108 (by omega)).1, (ck 109 (by omega)).2, (ck 110 (by omega)).1, opL_Fd, opL_Vl, opL_Sm, opL_Ov, opL_Os]
      simp only [if_neg e]
      exact a.2.2.2.2.2 k hk
  unfold fX1_open
  rw [l1]
  simp (disch := omega) only [ij_l0, ij_l1, ij_l2, ij_l3, ij_l4, ij_l5, ij_l6, ij_l8, ij_l12, ij_l16, ij_l19, ij_l23, ij_l24, ij_l31, ij_l32, ij_l36, ij_l47, ij_l48, ij_l56, ij_l92, ij_l93, ij_l98, ij_l108, ij_l114, ij_l116, ij_l127, ij_l128, ij_l149, ij_l250, ij_l384, ij_l768, ij_l1000, ij_l1536, ij_l3000, ij_l1000000, ij_l1000003, ij_l1000000000, ij_neg, ij_add, ij_sub, ij_mul, ij_lt, ij_le, ij_eq, ij_nat, tn_nat, tn_12, tn_24, tn_36, tn_48, ck_in, ob_s, o2_s, vl_s, ox_l, ox_r, ck_tr, if_pos, if_neg, ij_nar, gI_sI_ne, l1, l2]
  refine key _ ?_ ?_ ?_ ?_ ?_ ?_ ?_ ?_ ?_
  · simp (disch := omega) only [gI_sI_ne, gI_sI_eq, if_true]
  · simp (disch := omega) only [gI_sI_ne, gI_sI_eq, l2]
    simp
  · intro x; simp (disch := omega) only [gI_sI_ne, gI_sI_eq]
  · intro x; simp (disch := omega) only [gI_sI_ne, gI_sI_eq]
  · intro x; simp (disch := omega) only [gI_sI_ne, gI_sI_eq]
  · intro x; simp (disch := omega) only [gI_sI_ne, gI_sI_eq]
  · intro x; simp (disch := omega) only [gI_sI_ne, gI_sI_eq]
  · exact (((((Un.sI _ _ _ rfl).tr (Un.sI _ _ _ rfl)).tr (Un.sI _ _ _ rfl)).tr (Un.sI _ _ _ rfl)).tr (Un.sI _ _ _ rfl)).tr (Un.sI _ _ _ rfl)
  · intro k hk
    exact ⟨fun x => by simp (disch := omega) only [gI_sI_ne], fun x => by simp only [gF_sI]⟩
end OP
