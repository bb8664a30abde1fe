/-! Ints as whole numbers; steps of the pure functions. -/
def ij (z : Int) : Int32 := Int32.ofInt z
def bi (b : Bool) : Int32 := if b then 1 else 0
theorem ij_eta (x : Int32) : ij x.toInt = x := Int32.ofInt_toInt x
theorem ij_toInt {z : Int} (h1 : -2147483648 ≤ z) (h2 : z < 2147483648) : (ij z).toInt = z := Int32.toInt_ofInt_of_le (by omega) (by omega)
theorem ij_nat {z : Int} (h1 : -2147483648 ≤ z) (h2 : z < 2147483648) : (ij z).toNatClampNeg = z.toNat := Int32.toNatClampNeg_ofInt_of_le (by omega) (by omega)
theorem ij_natN {k : Nat} (h2 : k < 2147483648) : (ij (k : Int)).toNatClampNeg = k := by rw [ij_nat (by omega) (by omega)]; rfl
theorem ij_add (a b : Int) : ij a + ij b = ij (a + b) := (Int32.ofInt_add a b).symm
theorem ij_sub (a b : Int) : ij a - ij b = ij (a - b) := (Int32.ofInt_sub a b).symm
theorem ij_mul (a b : Int) : ij a * ij b = ij (a * b) := (Int32.ofInt_mul a b).symm
theorem ij_neg (a : Int) : -ij a = ij (-a) := by rw [ij, ij, Int32.neg_ofInt]
theorem ij_lt {a b : Int} (h1 : -2147483648 ≤ a) (h2 : a < 2147483648) (h3 : -2147483648 ≤ b) (h4 : b < 2147483648) : (ij a < ij b) = (a < b) := by
  rw [eq_iff_iff, Int32.lt_iff_toInt_lt, ij_toInt h1 h2, ij_toInt h3 h4]
theorem ij_le {a b : Int} (h1 : -2147483648 ≤ a) (h2 : a < 2147483648) (h3 : -2147483648 ≤ b) (h4 : b < 2147483648) : (ij a ≤ ij b) = (a ≤ b) := by
  rw [eq_iff_iff, Int32.le_iff_toInt_le, ij_toInt h1 h2, ij_toInt h3 h4]
theorem ij_eq {a b : Int} (h1 : -2147483648 ≤ a) (h2 : a < 2147483648) (h3 : -2147483648 ≤ b) (h4 : b < 2147483648) : (ij a = ij b) = (a = b) := by
  rw [eq_iff_iff]
  constructor
  · intro h
    have h := congrArg Int32.toInt h
    rwa [ij_toInt h1 h2, ij_toInt h3 h4] at h
  · exact fun h => congrArg ij h
theorem ij_div {a b : Int} (h1 : 0 ≤ a) (h2 : a < 2147483648) (h3 : 0 < b) (h4 : b < 2147483648) : ij a / ij b = ij (a / b) := by
  have e : (ij a / ij b).toInt = a / b := by
    rw [Int32.toInt_div_of_ne_right _ _ (fun h => by
      have h := congrArg Int32.toInt h
      rw [ij_toInt (by omega) h4] at h
      have : (-1 : Int32).toInt = -1 := by decide
      omega), ij_toInt (by omega) h2, ij_toInt (by omega) h4]
    exact Int.tdiv_eq_ediv_of_nonneg h1
  have hd : a / b ≤ a := Int.ediv_le_self b h1
  have hd0 : 0 ≤ a / b := Int.ediv_nonneg h1 (by omega)
  rw [← Int32.toInt_inj, e, ij_toInt (by omega) (by omega)]
theorem ij_l0 : (0 : Int32) = ij 0 := (rfl)
theorem ij_ofn (n : Nat) : Int32.ofNat n = ij n := (Int32.ofInt_eq_ofNat).symm
theorem ij_l1 : (1 : Int32) = ij 1 := (rfl)
theorem ij_l2 : (2 : Int32) = ij 2 := (rfl)
theorem ij_l3 : (3 : Int32) = ij 3 := (rfl)
theorem ij_l4 : (4 : Int32) = ij 4 := (rfl)
theorem ij_l5 : (5 : Int32) = ij 5 := (rfl)
theorem ij_l6 : (6 : Int32) = ij 6 := (rfl)
theorem ij_l8 : (8 : Int32) = ij 8 := (rfl)
theorem ij_l12 : (12 : Int32) = ij 12 := (rfl)
theorem ij_l16 : (16 : Int32) = ij 16 := (rfl)
theorem ij_l19 : (19 : Int32) = ij 19 := (rfl)
theorem ij_l23 : (23 : Int32) = ij 23 := (rfl)
theorem ij_l24 : (24 : Int32) = ij 24 := (rfl)
theorem ij_l31 : (31 : Int32) = ij 31 := (rfl)
theorem ij_l32 : (32 : Int32) = ij 32 := (rfl)
theorem ij_l36 : (36 : Int32) = ij 36 := (rfl)
theorem ij_l47 : (47 : Int32) = ij 47 := (rfl)
theorem ij_l48 : (48 : Int32) = ij 48 := (rfl)
theorem ij_l56 : (56 : Int32) = ij 56 := (rfl)
theorem ij_l92 : (92 : Int32) = ij 92 := (rfl)
theorem ij_l93 : (93 : Int32) = ij 93 := (rfl)
theorem ij_l98 : (98 : Int32) = ij 98 := (rfl)
theorem ij_l108 : (108 : Int32) = ij 108 := (rfl)
theorem ij_l114 : (114 : Int32) = ij 114 := (rfl)
theorem ij_l116 : (116 : Int32) = ij 116 := (rfl)
theorem ij_l127 : (127 : Int32) = ij 127 := (rfl)
theorem ij_l128 : (128 : Int32) = ij 128 := (rfl)
theorem ij_l149 : (149 : Int32) = ij 149 := (rfl)
theorem ij_l250 : (250 : Int32) = ij 250 := (rfl)
theorem ij_l384 : (384 : Int32) = ij 384 := (rfl)
theorem ij_l768 : (768 : Int32) = ij 768 := (rfl)
theorem ij_l1000 : (1000 : Int32) = ij 1000 := (rfl)
theorem ij_l1536 : (1536 : Int32) = ij 1536 := (rfl)
theorem ij_l3000 : (3000 : Int32) = ij 3000 := (rfl)
theorem ij_l1000000 : (1000000 : Int32) = ij 1000000 := (rfl)
theorem ij_l1000003 : (1000003 : Int32) = ij 1000003 := (rfl)
theorem ij_l1000000000 : (1000000000 : Int32) = ij 1000000000 := (rfl)
theorem ij_l2143289344 : (2143289344 : Int32) = ij 2143289344 := (rfl)
theorem ij_m1 : (-1 : Int32) = ij (-1) := (rfl)
theorem ij_m126 : (-126 : Int32) = ij (-126) := (rfl)
theorem bi_z (b : Bool) : (bi b = ij 0) = (b = false) := by
  show (bi b = 0) = _
  cases b <;> simp [bi]
theorem bi_o (b : Bool) : (bi b = ij 1) = (b = true) := by
  show (bi b = 1) = _
  cases b <;> simp [bi]
theorem bi_e (a b : Bool) : (bi a = bi b) = (a = b) := by cases a <;> cases b <;> simp [bi]
theorem bi_nar (b : Bool) : vp_nar .boolean (bi b) = bi b := by cases b <;> rfl
theorem bi_t : bi true = ij 1 := (rfl)
theorem bi_f : bi false = ij 0 := (rfl)
theorem bi_ij (b : Bool) : bi b = ij (if b then 1 else 0) := by cases b <;> rfl
theorem bi_ite {c : Prop} [Decidable c] : (if c then (1 : Int32) else 0) = bi (decide c) := by by_cases h : c <;> simp [bi, h]
theorem bi_ite0 {c : Prop} [Decidable c] : (if c then (0 : Int32) else 1) = bi (decide (¬ c)) := by by_cases h : c <;> simp [bi, h]
theorem ob_s {α β : Type} (v : α) (k : α → Option β) : ob (some v) k = k v := (rfl)
theorem o2_s {α β : Type} (v : α) (τ : St) (k : α → St → Option β) : o2 (some (v, τ)) k = k v τ := (rfl)
theorem ox_l {α β : Type} (v : α) (τ : St) (h : String → St → Option β) (k : α → St → Option β) : ox (some (.inl v, τ)) h k = k v τ := (rfl)
theorem ox_r {α β : Type} (E : String) (τ : St) (h : String → St → Option β) (k : α → St → Option β) : ox (some ((.inr E : α ⊕ String), τ)) h k = h E τ := (rfl)
theorem vl_s {α β : Type} (x : α) (k : α → β) : vl x k = k x := (rfl)
theorem inb_ij {a : Int} {n : Nat} (h0 : 0 ≤ a) (h1 : a < n) (h2 : n < 2147483648) : inb (ij a) n = true := by
  unfold inb
  simp (disch := omega) only [ij_l0, ij_nat, ij_lt, Bool.and_eq_true, Bool.not_eq_true', decide_eq_false_iff_not, decide_eq_true_eq]
  omega
theorem ck_in {β : Type} {a : Int} {n : Nat} (x : Option β) (h0 : 0 ≤ a) (h1 : a < n) (h2 : n < 2147483648) : ck (inb (ij a) n) x = x := by rw [inb_ij h0 h1 h2]; rfl
theorem ck_tr {β : Type} (x : Option β) : ck true x = x := (rfl)
theorem tn_nat (k : Nat) : ((k : Int)).toNat = k := (rfl)
theorem tn_12 (k : Nat) : ((12 : Int) + k).toNat = 12 + k := by omega
theorem tn_24 (k : Nat) : ((24 : Int) + k).toNat = 24 + k := by omega
theorem tn_36 (k : Nat) : ((36 : Int) + k).toNat = 36 + k := by omega
theorem tn_48 (k : Nat) : ((48 : Int) + k).toNat = 48 + k := by omega
/-- a loop: from a to b, a step each -/
theorem lp_to {β : Type} (g : Nat → Nat → β) {a b : Nat} (hab : a ≤ b) (h : ∀ n j, a ≤ j → j < b → g (n + 1) j = g n (j + 1)) : ∀ n, b - a ≤ n → g n a = g (n - (b - a)) b := by
  intro n hn
  have key : ∀ d n, d ≤ b - a → d ≤ n → g n a = g (n - d) (a + d) := by
    intro d
    induction d with
    | zero => intro n _ _; rfl
    | succ d ih =>
      intro n h1 h2
      rw [ih n (by omega) (by omega)]
      have e : n - d = (n - (d + 1)) + 1 := by omega
      rw [e, h _ _ (by omega) (by omega)]
      rfl
  have := key (b - a) n (Nat.le_refl _) hn
  rwa [show a + (b - a) = b by omega] at this
/-- the same, to an end that is reached with fuel left -/
theorem lp_end {β : Type} (g : Nat → Nat → β) {a b : Nat} {R : β} (hab : a ≤ b) (h : ∀ n j, a ≤ j → j < b → g (n + 1) j = g n (j + 1)) (he : ∀ n, g (n + 1) b = R) : ∀ n, b - a < n → g n a = R := by
  intro n hn
  rw [lp_to g hab h n (by omega)]
  have e : n - (b - a) = (n - (b - a) - 1) + 1 := by omega
  rw [e, he]
/-- a loop downwards -/
theorem lp_dn {β : Type} (g : Nat → Nat → β) {a b : Nat} {R : β} (hab : b ≤ a) (h : ∀ n j, b < j → j ≤ a → g (n + 1) j = g n (j - 1)) (he : ∀ n, g (n + 1) b = R) : ∀ n, a - b < n → g n a = R := by
  have key : ∀ d n, a - b = d → d < n → b ≤ a → (∀ n j, b < j → j ≤ a → g (n + 1) j = g n (j - 1)) → g n a = R := by
    intro d
    induction d generalizing a with
    | zero =>
      intro n h1 h2 h3 _
      have e : a = b := by omega
      have e2 : n = (n - 1) + 1 := by omega
      rw [e, e2, he]
    | succ d ih =>
      intro n h1 h2 h3 hs
      have e2 : n = (n - 1) + 1 := by omega
      rw [e2, hs _ _ (by omega) (Nat.le_refl _)]
      exact ih (by omega) (fun n j h1 h2 => h n j h1 (by omega)) _ (by omega) (by omega) (by omega) (fun n j h1 h2 => hs n j h1 (by omega))
  exact fun n hn => key (a - b) n rfl hn hab h
/-- a loop that changes the state: P holds at each head -/
theorem lp_st {β S : Type} (g : Nat → Nat → S → β) (P : Nat → S → Prop) {a b : Nat} (hab : a ≤ b) (h : ∀ n j σ, a ≤ j → j < b → P j σ → ∃ τ, g (n + 1) j σ = g n (j + 1) τ ∧ P (j + 1) τ) :
    ∀ n σ, b - a ≤ n → P a σ → ∃ τ, g n a σ = g (n - (b - a)) b τ ∧ P b τ := by
  intro n σ hn h0
  have key : ∀ d n, d ≤ b - a → d ≤ n → ∃ τ, g n a σ = g (n - d) (a + d) τ ∧ P (a + d) τ := by
    intro d
    induction d with
    | zero => intro n _ _; exact ⟨σ, rfl, h0⟩
    | succ d ih =>
      intro n h1 h2
      obtain ⟨τ, e, hp⟩ := ih n (by omega) (by omega)
      have e2 : n - d = (n - (d + 1)) + 1 := by omega
      obtain ⟨τ', e3, hp'⟩ := h (n - (d + 1)) _ τ (by omega) (by omega) hp
      exact ⟨τ', by rw [e, e2, e3]; rfl, hp'⟩
  obtain ⟨τ, e, hp⟩ := key (b - a) n (Nat.le_refl _) hn
  rw [show a + (b - a) = b by omega] at e hp
  exact ⟨τ, e, hp⟩
/-- how many of the first n numbers p holds of -/
def ct (p : Nat → Bool) : Nat → Nat
  | 0 => 0
  | n + 1 => ct p n + (if p n then 1 else 0)
theorem ct_le (p : Nat → Bool) (n : Nat) : ct p n ≤ n := by
  induction n with
  | zero => exact Nat.le_refl _
  | succ n ih => simp only [ct]; split <;> omega
theorem ct_congr {p q : Nat → Bool} {n : Nat} (h : ∀ k, k < n → p k = q k) : ct p n = ct q n := by
  induction n with
  | zero => rfl
  | succ n ih => simp only [ct]; rw [ih (fun k hk => h k (by omega)), h n (by omega)]
theorem ct_cut {p : Nat → Bool} {m n : Nat} (hmn : m ≤ n) (h : ∀ k, m ≤ k → k < n → p k = false) : ct p n = ct p m := by
  induction n with
  | zero => rw [show m = 0 by omega]
  | succ n ih =>
    by_cases e : m = n + 1
    · rw [e]
    · simp only [ct]
      rw [ih (by omega) (fun k h1 h2 => h k h1 (by omega)), h n (by omega) (by omega)]
      simp
theorem ct_mono {p q : Nat → Bool} (h : ∀ t, p t = true → q t = true) (n : Nat) : ct p n ≤ ct q n := by
  induction n with
  | zero => exact Nat.le_refl _
  | succ n ih =>
    simp only [ct]
    cases e : p n
    · cases q n <;> simp <;> omega
    · rw [h n e]; simp; omega
theorem bi_z_eq : (bi false = 0) = True := by simp [bi]
theorem bi_z_ne : (bi true = 0) = False := by simp [bi]
