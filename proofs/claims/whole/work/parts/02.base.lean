/-! The state of both sides as one value, its cells at addresses that are variables, and the rows over it. -/
abbrev St : Type := (Nat → Nat → Nat → Int32) × (Nat → Nat → Nat → UInt32) × (Nat → Nat) × (Nat → Int64) × (Nat → UInt64)
def gI (σ : St) (c o : Nat) : Nat → Int32 := σ.1 c o
def gF (σ : St) (c o : Nat) : Nat → UInt32 := σ.2.1 c o
def gR (σ : St) (k : Nat) : Nat := σ.2.2.1 k
def gJ (σ : St) : Nat → Int64 := σ.2.2.2.1
def gD (σ : St) : Nat → UInt64 := σ.2.2.2.2
def sI (σ : St) (c o j : Nat) (v : Int32) : St := (fun c' o' => if c' = c ∧ o' = o then upd (σ.1 c o) j v else σ.1 c' o', σ.2)
def sF (σ : St) (c o j : Nat) (v : UInt32) : St := (σ.1, fun c' o' => if c' = c ∧ o' = o then vf_upd (σ.2.1 c o) j v else σ.2.1 c' o', σ.2.2)
def sR (σ : St) (k v : Nat) : St := (σ.1, σ.2.1, va_up σ.2.2.1 k v, σ.2.2.2)
def sJ (σ : St) (j : Nat) (v : Int64) : St := (σ.1, σ.2.1, σ.2.2.1, vp_updL σ.2.2.2.1 j v, σ.2.2.2.2)
def sD (σ : St) (j : Nat) (v : UInt64) : St := (σ.1, σ.2.1, σ.2.2.1, σ.2.2.2.1, fun k => if k = j then v else σ.2.2.2.2 k)
/-- the places of the cells: address of (kind, number); its inverse; the list of them; the tables' numbers; the array kinds' numbers; 1 where the array of kind 173 is there -/
abbrev Gm : Type := (Nat → Nat → Nat) × (Nat → Nat × Nat) × List Nat × va_G × (Nat → ClassId) × Nat
def ga (Γ : Gm) (c o : Nat) : Nat := Γ.1 c o
def gx (Γ : Gm) (a : Nat) : Nat × Nat := Γ.2.1 a
def gL (Γ : Gm) : List Nat := Γ.2.2.1
def gG (Γ : Gm) : va_G := Γ.2.2.2.1
def gc (Γ : Gm) (k : Nat) : ClassId := Γ.2.2.2.2.1 k
def gn (Γ : Gm) : Nat := Γ.2.2.2.2.2
/-- how many of a kind there are -/
def cnt (n c : Nat) : Nat := match c with
  | 3 => 5 | 4 => 3 | 7 => 4 | 120 => 5 | 121 => 5 | 122 => 5 | 123 => 3 | 131 => 2
  | 160 => 250 | 161 => 250 | 162 => 250 | 163 => 250 | 164 => 250 | 165 => 3
  | 173 => n
  | 0 => 1 | 1 => 1 | 2 => 1 | 5 => 1 | 6 => 1 | 8 => 1
  | 100 => 1 | 101 => 1 | 102 => 1 | 103 => 1 | 104 => 1 | 105 => 1 | 106 => 1 | 107 => 1 | 108 => 1 | 109 => 1 | 110 => 1
  | 111 => 1 | 112 => 1 | 113 => 1 | 114 => 1 | 115 => 1 | 116 => 1 | 117 => 1
  | 124 => 1 | 125 => 1 | 126 => 1 | 127 => 1 | 128 => 1 | 129 => 1 | 130 => 1
  | 140 => 1 | 141 => 1 | 142 => 1 | 143 => 1 | 144 => 1 | 145 => 1 | 146 => 1 | 147 => 1 | 148 => 1 | 149 => 1
  | 150 => 1 | 151 => 1 | 152 => 1 | 153 => 1 | 154 => 1 | 155 => 1 | 156 => 1 | 157 => 1 | 158 => 1 | 159 => 1
  | 166 => 1 | 167 => 1 | 168 => 1 | 169 => 1 | 170 => 1 | 171 => 1 | 172 => 1
  | 180 => 1 | 181 => 1
  | _ => 0
def aI (Γ : Gm) (n : Nat) (f : Nat → Int32) : va_E := .inl (gc Γ 0, n, .inl f)
def aZ (Γ : Gm) (n : Nat) (f : Nat → Int32) : va_E := .inl (gc Γ 1, n, .inl f)
def aC (Γ : Gm) (n : Nat) (f : Nat → Int32) : va_E := .inl (gc Γ 2, n, .inl f)
def aF (Γ : Gm) (n : Nat) (g : Nat → UInt32) : va_E := .inl (gc Γ 3, n, .inr (.inr (.inl g)))
def aR (Γ : Gm) (k n : Nat) (c : Nat) : va_E := .inl (gc Γ k, n, .inr (.inr (.inr (.inr (fun j => some (ga Γ c j))))))
/-- what the cell (c, o) holds: f its ints, g its floats, ρ the rest -/
def cell1 (Γ : Gm) (c o : Nat) (f : Nat → Int32) (g : Nat → UInt32) (ρ : (Nat → Nat) × (Nat → Int64) × (Nat → UInt64)) : va_E := match c with
  | 0 => .inr (9, [.ref (ga Γ 1 0), .ref (ga Γ 2 0), .ref (ga Γ 130 0), .ref (ga Γ 5 0), .ref (ga Γ 6 0)])
  | 1 => .inr (3, [.ref (ga Γ 100 0), .ref (ga Γ 101 0), .ref (ga Γ 102 0), .ref (ga Γ 103 0), .ref (ga Γ 104 0), .ref (ga Γ 105 0), .ref (ga Γ 106 0), .ref (ga Γ 107 0), .ref (ga Γ 108 0), .ref (ga Γ 109 0), .ref (ga Γ 110 0), .int (f 11), .int (f 12)])
  | 2 => .inr (4, [.ref (ga Γ 111 0), .ref (ga Γ 112 0), .ref (ga Γ 113 0), .ref (ga Γ 114 0), .ref (ga Γ 115 0), .ref (ga Γ 116 0), .ref (ga Γ 117 0), .int (f 7), .int (f 8)])
  | 3 => .inr (2, [.ref (ga Γ 1 0), .ref (ga Γ 120 o), .ref (ga Γ 121 o), .ref (ga Γ 122 o)])
  | 4 => .inr (7, [.int (nI o), .ref (ga Γ 1 0), .ref (ga Γ 3 o), .ref (ga Γ 7 o), .ref (ga Γ 123 o), .int (f 5), .int (f 6), .int (f 7)])
  | 5 => .inr (5, [.ref (ga Γ 1 0), .ref (ga Γ 3 4), .ref (ga Γ 3 3), .ref (ga Γ 7 3), .ref (ga Γ 124 0), .ref (ga Γ 125 0), .ref (ga Γ 126 0), .int (f 7)])
  | 6 => .inr (6, [.ref (ga Γ 127 0), .ref (ga Γ 128 0), .ref (ga Γ 129 0), .ref (ga Γ 131 (ρ.1 0)), .ref (ga Γ 131 (ρ.1 1)), .int (f 5), .int (f 6), .int (f 7), .int (f 8)])
  | 7 => .inr (8, [.ref (ga Γ 3 o), .ref (ga Γ 2 0)])
  | 8 => .inr (10, [.int (f 0), .ref (ga Γ 140 0), .ref (ga Γ 141 0), .ref (ga Γ 142 0), .ref (ga Γ 143 0), .ref (ga Γ 144 0), .ref (ga Γ 145 0), .ref (ga Γ 146 0), .int (f 8), .int (f 9), .ref (ga Γ 147 0), .ref (ga Γ 148 0), .ref (ga Γ 149 0), .ref (ga Γ 150 0), .ref (ga Γ 151 0), .ref (ga Γ 152 0), .ref (ga Γ 153 0), .ref (ga Γ 154 0), .ref (ga Γ 155 0), .ref (ga Γ 156 0), .int (f 20), .ref (ga Γ 157 0), .ref (ga Γ 158 0), .ref (ga Γ 159 0), .ref (ga Γ 166 0), .ref (ga Γ 167 0), .ref (ga Γ 168 0), .int (f 27), .ref (ga Γ 169 0), .ref (ga Γ 170 0), .ref (ga Γ 171 0), .ref (ga Γ 172 0)])
  | 100 => aI Γ 250 f | 101 => aI Γ 250 f | 102 => aZ Γ 250 f | 103 => aI Γ 250 f | 104 => aI Γ 250 f | 105 => aI Γ 250 f
  | 106 => aI Γ 3000 f | 107 => aF Γ 3000 g | 108 => aI Γ 3000 f | 109 => aF Γ 3000 g | 110 => aI Γ 3000 f
  | 111 => aI Γ 12 f | 112 => aI Γ 12 f | 113 => aZ Γ 12 f | 114 => aI Γ 8 f | 115 => aI Γ 8 f | 116 => aC Γ 8 f | 117 => aC Γ 8 f
  | 120 => aF Γ 93 g | 121 => aI Γ 93 f | 122 => aI Γ 93 f | 123 => aZ Γ 250 f
  | 124 => aI Γ 250 f | 125 => aI Γ 4 f | 126 => aI Γ 24 f
  | 127 => aZ Γ 384 f | 128 => aI Γ 768 f | 129 => aI Γ 768 f | 130 => aR Γ 4 3 4 | 131 => aI Γ 768 f
  | 140 => aI Γ 12 f | 141 => aI Γ 12 f | 142 => aI Γ 8 f | 143 => aI Γ 8 f | 144 => aZ Γ 12 f | 145 => aC Γ 8 f | 146 => aC Γ 8 f
  | 147 => aI Γ 250 f | 148 => aI Γ 250 f | 149 => aI Γ 250 f
  | 150 => aR Γ 5 250 160 | 151 => aR Γ 5 250 161 | 152 => aR Γ 5 250 162 | 153 => aR Γ 5 250 163 | 154 => aR Γ 5 250 164
  | 155 => aZ Γ 250 f | 156 => aR Γ 6 3 165 | 157 => aI Γ 93 f | 158 => aI Γ 93 f | 159 => aI Γ 93 f
  | 160 => aI Γ 13 f | 161 => aI Γ 13 f | 162 => aI Γ 13 f | 163 => aI Γ 13 f | 164 => aI Γ 13 f | 165 => aZ Γ 250 f
  | 166 => aI Γ 13 f | 167 => aI Γ 13 f | 168 => aI Γ 13 f
  | 169 => aI Γ 1536 f | 170 => aI Γ 1536 f | 171 => aZ Γ 384 f | 172 => aZ Γ 1536 f | 173 => aI Γ 93 f
  | 180 => .inl (gc Γ 7, 1, .inr (.inl ρ.2.1))
  | 181 => .inl (gc Γ 8, 1, .inr (.inr (.inr (.inl ρ.2.2))))
  | _ => aI Γ 0 f
def cel (Γ : Gm) (σ : St) (c o : Nat) : va_E := cell1 Γ c o (σ.1 c o) (σ.2.1 c o) σ.2.2
def wsl (Γ : Gm) (σ : St) : va_W := va_pl (gL Γ) (fun a => cel Γ σ (gx Γ a).1 (gx Γ a).2)
def tysl (Γ : Gm) : List (ClassId × FieldType) := [(gc Γ 0, .int), (gc Γ 1, .boolean), (gc Γ 2, .char), (gc Γ 3, .float), (gc Γ 4, .object "Plugboard$User"), (gc Γ 5, .array .int), (gc Γ 6, .array .boolean), (gc Γ 7, .long), (gc Γ 8, .double)]
def GOK (Γ : Gm) : Prop := (∀ c o, o < cnt (gn Γ) c → ga Γ c o ∈ gL Γ ∧ gx Γ (ga Γ c o) = (c, o)) ∧ (∀ a ∈ gL Γ, ga Γ (gx Γ a).1 (gx Γ a).2 = a ∧ (gx Γ a).2 < cnt (gn Γ) (gx Γ a).1) ∧ (gL Γ).Nodup
theorem wsl_get {Γ : Gm} (hG : GOK Γ) (σ : St) {c o : Nat} (ho : o < cnt (gn Γ) c) : ∃ k : Nat, (wsl Γ σ)[k]? = some (ga Γ c o, cel Γ σ c o) := by
  obtain ⟨h1, h2⟩ := hG.1 c o ho
  obtain ⟨k, hk⟩ := va_pl_get (X := []) (f := fun a => cel Γ σ (gx Γ a).1 (gx Γ a).2) h1
  refine ⟨k, ?_⟩
  rw [h2] at hk
  exact hk
theorem wsl_set {Γ : Gm} (hG : GOK Γ) {σ τ : St} {c o k : Nat} (hk : (wsl Γ σ)[k]? = some (ga Γ c o, cel Γ σ c o)) (ho : o < cnt (gn Γ) c)
    (hne : ∀ c' o', o' < cnt (gn Γ) c' → ¬ (c' = c ∧ o' = o) → cel Γ τ c' o' = cel Γ σ c' o') : (wsl Γ σ).set k (ga Γ c o, cel Γ τ c o) = wsl Γ τ := by
  obtain ⟨h1, h2⟩ := hG.1 c o ho
  unfold wsl va_pl at hk ⊢
  rw [List.getElem?_map] at hk
  obtain ⟨a, ha, hae⟩ := Option.map_eq_some_iff.mp hk
  have hae1 : a = ga Γ c o := congrArg Prod.fst hae
  subst hae1
  apply List.ext_getElem?
  intro i
  rw [List.getElem?_set, List.getElem?_map, List.getElem?_map]
  by_cases hik : k = i
  · subst hik
    have hl : k < ((gL Γ).map (fun a => (a, cel Γ σ (gx Γ a).1 (gx Γ a).2))).length := by
      rw [List.length_map]; exact (List.getElem?_eq_some_iff.mp ha).1
    rw [if_pos rfl, if_pos hl, ha]
    show _ = some (ga Γ c o, cel Γ τ (gx Γ (ga Γ c o)).1 (gx Γ (ga Γ c o)).2)
    rw [h2]
  · rw [if_neg hik]
    cases hi : (gL Γ)[i]? with
    | none => rfl
    | some b =>
      show some (b, cel Γ σ (gx Γ b).1 (gx Γ b).2) = some (b, cel Γ τ (gx Γ b).1 (gx Γ b).2)
      rw [hne _ _ (hG.2.1 b (List.mem_of_getElem? hi)).2]
      rintro ⟨e1, e2⟩
      have hb := (hG.2.1 b (List.mem_of_getElem? hi)).1
      rw [e1, e2] at hb
      refine hik ?_
      have hl : k < (gL Γ).length := (List.getElem?_eq_some_iff.mp ha).1
      exact (List.getElem?_inj hl hG.2.2).mp (by rw [ha, hi, hb])
theorem wsl_nd {Γ : Gm} (hG : GOK Γ) {σ : St} {A : Nat → Prop} (hA : ∀ a ∈ gL Γ, A a) : va_D A (wsl Γ σ) := by
  refine ⟨fun i j p q hi hj e => ?_, fun k q hk => ?_⟩
  · unfold wsl va_pl at hi hj
    rw [List.getElem?_map] at hi hj
    obtain ⟨a, ha, rfl⟩ := Option.map_eq_some_iff.mp hi
    obtain ⟨b, hb, rfl⟩ := Option.map_eq_some_iff.mp hj
    have e : a = b := e
    subst e
    exact (List.getElem?_inj (List.getElem?_eq_some_iff.mp ha).1 hG.2.2).mp (by rw [ha, hb])
  · unfold wsl va_pl at hk
    rw [List.getElem?_map] at hk
    obtain ⟨a, ha, rfl⟩ := Option.map_eq_some_iff.mp hk
    exact hA a (List.mem_of_getElem? ha)
theorem cel_congr {Γ : Gm} {σ τ : St} {c o : Nat} (h1 : τ.1 c o = σ.1 c o) (h2 : τ.2.1 c o = σ.2.1 c o) (h3 : τ.2.2 = σ.2.2) : cel Γ τ c o = cel Γ σ c o := by
  unfold cel
  rw [h1, h2, h3]
theorem cel_sI {Γ : Gm} {σ : St} {c o j : Nat} {v : Int32} (c' o' : Nat) (h : ¬ (c' = c ∧ o' = o)) : cel Γ (sI σ c o j v) c' o' = cel Γ σ c' o' := cel_congr (by unfold sI; exact if_neg h) rfl rfl
theorem cel_sF {Γ : Gm} {σ : St} {c o j : Nat} {v : UInt32} (c' o' : Nat) (h : ¬ (c' = c ∧ o' = o)) : cel Γ (sF σ c o j v) c' o' = cel Γ σ c' o' := cel_congr rfl (by unfold sF; exact if_neg h) rfl
