/-! The abstract state of a run: operations with their rows, who knows them, shapes and connectors. -/
abbrev Ab : Type := Nat → Nat → Nat → Nat
def aN (A : Ab) : Nat := A 0 0 0
def aSh (A : Ab) : Nat := A 0 1 0
def aCn (A : Ab) : Nat := A 0 2 0
def aUs (A : Ab) (o : Nat) : Nat := A 1 o 0
def aCk (A : Ab) (o : Nat) : Nat := A 2 o 0
def aSt (A : Ab) (o : Nat) : Nat := A 3 o 0
def aLen (A : Ab) (o : Nat) : Nat := A 4 o 0
def aFd (A : Ab) (o k : Nat) : Nat := A 5 o k
def aVl (A : Ab) (o k : Nat) : Nat := A 6 o k
def aSm (A : Ab) (o k : Nat) : Nat := A 7 o k
def aOv (A : Ab) (o k : Nat) : Nat := A 8 o k
def aOs (A : Ab) (o k : Nat) : Nat := A 9 o k
def aKn (A : Ab) (u o : Nat) : Nat := A 10 u o
def aW (A : Ab) (s : Nat) : Nat := A 11 s 0
def aH (A : Ab) (s : Nat) : Nat := A 12 s 0
def aFr (A : Ab) (s : Nat) : Nat := A 13 s 0
def aOne (A : Ab) (c : Nat) : Nat := A 14 c 0
def aOth (A : Ab) (c : Nat) : Nat := A 15 c 0
def aSd (A : Ab) (c : Nat) : Nat := A 16 c 0
def aSe (A : Ab) (c : Nat) : Nat := A 17 c 0
/-- the place of the row with which an operation writes a field, from 1; 0 if it does not -/
def rwx (A : Ab) (o f : Nat) : Nat → Nat
  | 0 => 0
  | m + 1 => if aFd A o m = f then m + 1 else rwx A o f m
def rw_ (A : Ab) (o f : Nat) : Nat := rwx A o f (aLen A o)
def lat (A : Ab) (o p : Nat) : Bool := decide (aCk A p < aCk A o) || (aCk A o == aCk A p && decide (aUs A p < aUs A o))
/-- w is the latest operation, plus 1, of those in K that write f; 0 if there is none -/
def Top (A : Ab) (K : Nat → Bool) (f w : Nat) : Prop :=
  (w = 0 ∧ ∀ o, o < aN A → K o = true → rw_ A o f = 0) ∨
  (∃ o, w = o + 1 ∧ o < aN A ∧ K o = true ∧ rw_ A o f ≠ 0 ∧ ∀ p, p < aN A → K p = true → rw_ A p f ≠ 0 → p = o ∨ lat A o p = true)
noncomputable def bw (A : Ab) (K : Nat → Bool) (f : Nat) : Nat := Classical.epsilon (Top A K f)
def tvl (A : Ab) (w f : Nat) : Nat := if w = 0 then 0 else aVl A (w - 1) (rw_ A (w - 1) f - 1)
def tsm (A : Ab) (w f : Nat) : Nat := if w = 0 then 0 else aSm A (w - 1) (rw_ A (w - 1) f - 1)
noncomputable def bv (A : Ab) (K : Nat → Bool) (f : Nat) : Nat := tvl A (bw A K f) f
noncomputable def bs (A : Ab) (K : Nat → Bool) (f : Nat) : Nat := tsm A (bw A K f) f
def kn (A : Ab) (u : Nat) : Nat → Bool := fun o => aKn A u o == 1
/-- how the class and the model hold a value of a field -/
def isKey (f : Nat) : Bool := decide (24 ≤ f) && decide (f < 36)
def cvF (f v : Nat) : UInt32 := if isKey f then UInt32.ofNat v else FP.i2f (ij v)
def mvI (f v : Nat) : Int32 := if isKey f then (UInt32.ofNat v).toInt32 else if 12 ≤ f ∧ f < 24 then ij ((32 * (v % 24) + v / 24 : Nat) : Int) else if 36 ≤ f ∧ f < 48 then ij ((v : Int) - 1) else ij v
/-- values that a field may have -/
def kyOK (v : Nat) : Prop := v < 4294967296 ∧ v % 2147483648 ≤ 1266679808
/-- a key of at most m, one way or the other -/
def kz (m : Nat) (a : UInt32) : Prop := FP.Core.val32 a ≠ .nan ∧ FP.Core.zval FP.Core.b32 (FP.Core.val32 a) ≤ (m : Int) * (FP.Core.one32 : Int) ∧ -((m : Int) * (FP.Core.one32 : Int)) ≤ FP.Core.zval FP.Core.b32 (FP.Core.val32 a)
def vokn (A : Ab) (m f v : Nat) : Prop :=
  (f < 12 → v ≤ 1) ∧ (12 ≤ f → f < 24 → v < 384 ∧ v % 24 + aW A (f - 12) ≤ 24 ∧ v / 24 + aH A (f - 12) ≤ 16 ∧ (f - 12 < aSh A ∨ v = 0)) ∧ (24 ≤ f → f < 36 → kyOK v ∧ kz m (UInt32.ofNat v)) ∧ (36 ≤ f → f < 48 → v ≤ 3) ∧ (48 ≤ f → f < 56 → v ≤ 1) ∧ (56 ≤ f → f < 92 → v ≤ 3) ∧ (92 ≤ f → v ≤ 1)
def vok (A : Ab) (f v : Nat) : Prop := vokn A (aN A) f v
theorem kz_mono {m n : Nat} (h : m ≤ n) {a : UInt32} (k : kz m a) : kz n a := by
  have h1 : (m : Int) * (FP.Core.one32 : Int) ≤ (n : Int) * (FP.Core.one32 : Int) := Int.mul_le_mul_of_nonneg_right (by omega) (by omega)
  exact ⟨k.1, by have := k.2.1; omega, by have := k.2.2; omega⟩
theorem vokn_mono {A : Ab} {m n f v : Nat} (h : m ≤ n) (k : vokn A m f v) : vokn A n f v := ⟨k.1, k.2.1, fun h1 h2 => ⟨(k.2.2.1 h1 h2).1, kz_mono h (k.2.2.1 h1 h2).2⟩, k.2.2.2⟩
theorem kz_0 (m : Nat) : kz m 0 := by
  have h : 0 ≤ (m : Int) * (FP.Core.one32 : Int) := Int.mul_nonneg (by omega) (by omega)
  refine ⟨(FP.Core.ne_nan32 0).mpr (by decide), ?_, ?_⟩ <;> · rw [FP.Core.zval32_zero]; omega
/-- operations and rows are in order -/
def OpsOK (A : Ab) : Prop :=
  aN A ≤ 250 ∧ (∀ o, o < aN A → aUs A o < 3 ∧ aCk A o ≤ o + 1 ∧ aSt A o ≤ 1 ∧ aLen A o ≤ 12 ∧
    (∀ k, k < aLen A o → aFd A o k < 93 ∧ vok A (aFd A o k) (aVl A o k) ∧ vok A (aFd A o k) (aOv A o k) ∧ aSm A o k ≤ 250 ∧ aOs A o k ≤ 250 ∧ ∀ j, j < k → aFd A o j ≠ aFd A o k)) ∧
  (∀ o p, o < aN A → p < aN A → o ≠ p → aUs A o = aUs A p → aCk A o ≠ aCk A p)
def ShOK (A : Ab) : Prop :=
  aSh A ≤ 12 ∧ aCn A ≤ 8 ∧ (∀ s, (s < aSh A → 1 ≤ aW A s ∧ 1 ≤ aH A s) ∧ aW A s ≤ 8 ∧ aH A s ≤ 8 ∧ aFr A s ≤ 1) ∧
  (∀ c, c < aCn A → aOne A c < aSh A ∧ aOth A c < aSh A ∧ aOne A c ≠ aOth A c ∧ (aSd A c = 116 ∨ aSd A c = 98 ∨ aSd A c = 108 ∨ aSd A c = 114) ∧ (aSe A c = 116 ∨ aSe A c = 98 ∨ aSe A c = 108 ∨ aSe A c = 114))
/-- where the rows of an operation begin in the class's list -/
def off (A : Ab) : Nat → Nat
  | 0 => 0
  | o + 1 => off A o + aLen A o
/-! The class's cells. -/
def PtC (A : Ab) (σ : St) : Prop :=
  gI σ 2 0 7 = ij (aSh A) ∧ gI σ 2 0 8 = ij (aCn A) ∧
  (∀ s, s < 12 → (s < aSh A → gI σ 111 0 s = ij (aW A s) ∧ gI σ 112 0 s = ij (aH A s) ∧ gI σ 113 0 s = ij (aFr A s))) ∧
  (∀ c, c < 8 → (c < aCn A → gI σ 114 0 c = ij (aOne A c) ∧ gI σ 115 0 c = ij (aOth A c) ∧ gI σ 116 0 c = ij (aSd A c) ∧ gI σ 117 0 c = ij (aSe A c)))
def LgC (A : Ab) (σ : St) : Prop :=
  gI σ 1 0 11 = ij (aN A) ∧ gI σ 1 0 12 = ij (off A (aN A)) ∧
  (∀ o, o < aN A → gI σ 100 0 o = ij (aUs A o) ∧ gI σ 101 0 o = ij (aCk A o) ∧ gI σ 102 0 o = ij (aSt A o) ∧ gI σ 103 0 o = ij (off A o) ∧ gI σ 104 0 o = ij (off A o + aLen A o : Nat) ∧
    (∀ k, k < aLen A o → gI σ 106 0 (off A o + k) = ij (aFd A o k) ∧ gF σ 107 0 (off A o + k) = cvF (aFd A o k) (aVl A o k) ∧ gI σ 108 0 (off A o + k) = ij ((aSm A o k : Int) - 1) ∧
      (aSt A o = 1 → gF σ 109 0 (off A o + k) = cvF (aFd A o k) (aOv A o k) ∧ gI σ 110 0 (off A o + k) = ij ((aOs A o k : Int) - 1))))
def TmC (A : Ab) (σ : St) : Prop := ∃ p : Nat → Nat, (∀ i, i < aN A → gI σ 105 0 i = ij (p i) ∧ p i < aN A) ∧ ∀ o, o < aN A → ∃ i, i < aN A ∧ p i = o
def mxk (A : Ab) (u : Nat) : Nat → Nat
  | 0 => 0
  | m + 1 => if kn A u m then max (mxk A u m) (aCk A m) else mxk A u m
def UsC (A : Ab) (u : Nat) (σ : St) : Prop :=
  gI σ 4 u 5 = ij (ct (kn A u) (aN A)) ∧ gI σ 4 u 6 = ij (mxk A u (aN A)) ∧ ∀ o, o < 250 → gI σ 123 u o = bi (kn A u o)
def BdC (A : Ab) (K : Nat → Bool) (b : Nat) (σ : St) : Prop :=
  ∀ f, f < 93 → Top A K f (bw A K f) ∧ gI σ 122 b f = ij ((bw A K f : Int) - 1) ∧ gF σ 120 b f = cvF f (bv A K f) ∧ gI σ 121 b f = ij ((bs A K f : Int) - 1)
def RfC (σ : St) : Prop := (gR σ 0 = 0 ∧ gR σ 1 = 1) ∨ (gR σ 0 = 1 ∧ gR σ 1 = 0)
def KnOK (A : Ab) : Prop := ∀ u, u < 3 → (∀ o, aN A ≤ o → kn A u o = false) ∧ ∀ o, o < aN A → aUs A o = u → kn A u o = true
def CR (A : Ab) (σ : St) : Prop := PtC A σ ∧ LgC A σ ∧ TmC A σ ∧ (∀ u, u < 3 → UsC A u σ ∧ BdC A (kn A u) u σ) ∧ RfC σ
/-! The model's cells. -/
def PtM (A : Ab) (σ : St) : Prop :=
  gI σ 8 0 8 = ij (aSh A) ∧ gI σ 8 0 9 = ij (aCn A) ∧
  (∀ s, s < 12 → (s < aSh A → gI σ 140 0 s = ij (aW A s) ∧ gI σ 141 0 s = ij (aH A s) ∧ gI σ 144 0 s = ij (aFr A s))) ∧
  (∀ c, c < 8 → (c < aCn A → gI σ 142 0 c = ij (aOne A c) ∧ gI σ 143 0 c = ij (aOth A c) ∧ gI σ 145 0 c = ij (aSd A c) ∧ gI σ 146 0 c = ij (aSe A c)))
def LgM (A : Ab) (σ : St) : Prop :=
  gI σ 8 0 20 = ij (aN A) ∧
  (∀ o, o < aN A → gI σ 147 0 o = ij (aUs A o) ∧ gI σ 148 0 o = ij (aCk A o) ∧ gI σ 149 0 o = ij (aLen A o) ∧ gI σ 155 0 o = ij (aSt A o) ∧
    (∀ k, k < aLen A o → gI σ 160 o k = ij (aFd A o k) ∧ gI σ 161 o k = mvI (aFd A o k) (aVl A o k) ∧ gI σ 162 o k = mvI (aFd A o k) (aOv A o k) ∧ gI σ 163 o k = ij ((aSm A o k : Int) - 1) ∧ gI σ 164 o k = ij ((aOs A o k : Int) - 1))) ∧
  (∀ u o, u < 3 → o < 250 → gI σ 165 u o = bi (kn A u o))
def BdM (A : Ab) (K : Nat → Bool) (σ : St) : Prop :=
  ∀ f, f < 93 → Top A K f (bw A K f) ∧ gI σ 158 0 f = ij ((bw A K f : Int) - 1) ∧ gI σ 157 0 f = mvI f (bv A K f) ∧ gI σ 159 0 f = ij ((bs A K f : Int) - 1)
def MR (A : Ab) (σ : St) : Prop := PtM A σ ∧ LgM A σ ∧ gI σ 8 0 27 = ij 0
/-! What a step leaves as it was. -/
def Un (T : Nat → Nat → Bool) (σ τ : St) : Prop := (∀ c o, T c o = false → τ.1 c o = σ.1 c o ∧ τ.2.1 c o = σ.2.1 c o) ∧ τ.2.2.2 = σ.2.2.2 ∧ (T 6 0 = false → τ.2.2.1 = σ.2.2.1)
theorem Un.rfl {T : Nat → Nat → Bool} {σ : St} : Un T σ σ := ⟨fun _ _ _ => ⟨.refl _, .refl _⟩, .refl _, fun _ => .refl _⟩
theorem Un.tr {T : Nat → Nat → Bool} {σ τ υ : St} (h : Un T σ τ) (g : Un T τ υ) : Un T σ υ :=
  ⟨fun c o e => ⟨(g.1 c o e).1.trans (h.1 c o e).1, (g.1 c o e).2.trans (h.1 c o e).2⟩, g.2.1.trans h.2.1, fun e => (g.2.2 e).trans (h.2.2 e)⟩
theorem Un.mono {T U : Nat → Nat → Bool} {σ τ : St} (h : Un T σ τ) (hTU : ∀ c o, U c o = false → T c o = false) : Un U σ τ :=
  ⟨fun c o e => h.1 c o (hTU c o e), h.2.1, fun e => h.2.2 (hTU _ _ e)⟩
theorem Un.I {T : Nat → Nat → Bool} {σ τ : St} (h : Un T σ τ) (c o : Nat) (e : T c o = false) : gI τ c o = gI σ c o := (h.1 c o e).1
theorem Un.F {T : Nat → Nat → Bool} {σ τ : St} (h : Un T σ τ) (c o : Nat) (e : T c o = false) : gF τ c o = gF σ c o := (h.1 c o e).2
theorem Un.sI {T : Nat → Nat → Bool} (σ : St) {c o : Nat} (j : Nat) (v : Int32) (e : T c o = true) : Un T σ (sI σ c o j v) :=
  ⟨fun c' o' e' => ⟨if_neg (fun h => by rw [h.1, h.2, e] at e'; cases e'), .refl _⟩, .refl _, fun _ => .refl _⟩
theorem Un.sF {T : Nat → Nat → Bool} (σ : St) {c o : Nat} (j : Nat) (v : UInt32) (e : T c o = true) : Un T σ (sF σ c o j v) :=
  ⟨fun c' o' e' => ⟨.refl _, if_neg (fun h => by rw [h.1, h.2, e] at e'; cases e')⟩, .refl _, fun _ => .refl _⟩
theorem gI_sI (σ : St) (c o j : Nat) (v : Int32) (c' o' j' : Nat) : gI (sI σ c o j v) c' o' j' = if c' = c ∧ o' = o ∧ j' = j then v else gI σ c' o' j' := by
  unfold gI sI upd
  by_cases h : c' = c ∧ o' = o
  · obtain ⟨rfl, rfl⟩ := h
    by_cases h2 : j' = j <;> simp [h2]
  · have h2 : ¬ (c' = c ∧ o' = o ∧ j' = j) := fun q => h ⟨q.1, q.2.1⟩
    simp only [if_neg h, if_neg h2]
theorem gF_sF (σ : St) (c o j : Nat) (v : UInt32) (c' o' j' : Nat) : gF (sF σ c o j v) c' o' j' = if c' = c ∧ o' = o ∧ j' = j then v else gF σ c' o' j' := by
  unfold gF sF vf_upd
  by_cases h : c' = c ∧ o' = o
  · obtain ⟨rfl, rfl⟩ := h
    by_cases h2 : j' = j <;> simp [h2]
  · have h2 : ¬ (c' = c ∧ o' = o ∧ j' = j) := fun q => h ⟨q.1, q.2.1⟩
    simp only [if_neg h, if_neg h2]
theorem gI_sF (σ : St) (c o j : Nat) (v : UInt32) (c' o' j' : Nat) : gI (sF σ c o j v) c' o' j' = gI σ c' o' j' := rfl
theorem gF_sI (σ : St) (c o j : Nat) (v : Int32) (c' o' j' : Nat) : gF (sI σ c o j v) c' o' j' = gF σ c' o' j' := rfl
theorem gI_sI_ne {σ : St} {c o j : Nat} {v : Int32} {c' o' j' : Nat} (h : c' ≠ c) : gI (sI σ c o j v) c' o' j' = gI σ c' o' j' := by rw [gI_sI, if_neg (fun q => h q.1)]
theorem gF_sF_ne {σ : St} {c o j : Nat} {v : UInt32} {c' o' j' : Nat} (h : c' ≠ c) : gF (sF σ c o j v) c' o' j' = gF σ c' o' j' := by rw [gF_sF, if_neg (fun q => h q.1)]
theorem gI_sI_eq {σ : St} {c o j : Nat} {v : Int32} {j' : Nat} : gI (sI σ c o j v) c o j' = if j' = j then v else gI σ c o j' := by rw [gI_sI]; simp
theorem gF_sF_eq {σ : St} {c o j : Nat} {v : UInt32} {j' : Nat} : gF (sF σ c o j v) c o j' = if j' = j then v else gF σ c o j' := by rw [gF_sF]; simp
