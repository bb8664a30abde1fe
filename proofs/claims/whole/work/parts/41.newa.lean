/-! The model's areAlike makes an array of its own: the places with one cell more. -/
def gx1 (Γ : Gm) (a : Nat) : Gm := (fun c o => if c = 173 ∧ o = 0 then a else ga Γ c o, fun b => if b = a then (173, 0) else gx Γ b, gL Γ ++ [a], gG Γ, gc Γ, 1)
def sN (σ : St) : St := (fun c o => if c = 173 ∧ o = 0 then fun _ => 0 else σ.1 c o, σ.2)
/-- a is a new address -/
def NX1 (Γ : Gm) (sz a : Nat) : Prop := a ∉ gL Γ ∧ sz ≤ a ∧ gn Γ = 0
theorem cnt_ne {n m c : Nat} (h : c ≠ 173) : cnt n c = cnt m c := by
  unfold cnt
  split <;> first | rfl | exact absurd rfl h
theorem ga_new {Γ : Gm} {a : Nat} : ga (gx1 Γ a) 173 0 = a := by
  show (if 173 = 173 ∧ 0 = 0 then a else ga Γ 173 0) = a
  exact if_pos ⟨rfl, rfl⟩
theorem gx_old {Γ : Gm} {a b : Nat} (h : b ≠ a) : gx (gx1 Γ a) b = gx Γ b := by
  show (if b = a then (173, 0) else gx Γ b) = gx Γ b
  exact if_neg h
theorem gx_new {Γ : Gm} {a : Nat} : gx (gx1 Γ a) a = (173, 0) := by
  show (if a = a then (173, 0) else gx Γ a) = (173, 0)
  exact if_pos rfl
theorem ne_in {L : List Nat} {a b : Nat} (h : a ∉ L) (hb : b ∈ L) : b ≠ a := fun q => h (by rw [← q]; exact hb)
theorem ga_ext {Γ : Gm} {a k o : Nat} (h : k ≠ 173) : ga (gx1 Γ a) k o = ga Γ k o := if_neg (fun q => h q.1)
theorem cell1_ext {Γ : Gm} {a c o : Nat} {f : Nat → Int32} {g : Nat → UInt32} {ρ : (Nat → Nat) × (Nat → Int64) × (Nat → UInt64)} : cell1 (gx1 Γ a) c o f g ρ = cell1 Γ c o f g ρ := by
  unfold cell1
  split <;> rfl
theorem AA_ext {Γ : Gm} {sz a : Nat} (h : sz ≤ a) : AA (gx1 Γ a) sz = AA Γ sz := by
  funext q
  apply propext
  constructor
  · rintro (h1 | h1)
    · rcases List.mem_append.mp h1 with h2 | h2
      · exact Or.inl h2
      · rw [List.mem_singleton.mp h2]; exact Or.inr h
    · exact Or.inr h1
  · rintro (h1 | h1)
    · exact Or.inl (List.mem_append_left _ h1)
    · exact Or.inr h1
theorem gok_ext {Γ : Gm} {sz a : Nat} (hG : GOK Γ) (h : NX1 Γ sz a) : GOK (gx1 Γ a) := by
  obtain ⟨h1, h2, h3⟩ := h
  refine ⟨fun c o ho => ?_, fun b hb => ?_, ?_⟩
  · by_cases hc : c = 173
    · subst hc
      have h0 : o < 1 := ho
      have h0 : o = 0 := by omega
      subst h0
      rw [ga_new]
      exact ⟨List.mem_append_right _ (List.mem_singleton.mpr rfl), gx_new⟩
    · rw [ga_ext hc]
      have ho : o < cnt (gn Γ) c := by rw [cnt_ne (m := gn (gx1 Γ a)) hc]; exact ho
      obtain ⟨g1, g2⟩ := hG.1 c o ho
      refine ⟨List.mem_append_left _ g1, ?_⟩
      rw [gx_old (ne_in h1 g1)]
      exact g2
  · rcases List.mem_append.mp hb with hb | hb
    · have e : gx (gx1 Γ a) b = gx Γ b := gx_old (ne_in h1 hb)
      obtain ⟨g1, g2⟩ := hG.2.1 b hb
      rw [e]
      have hc : (gx Γ b).1 ≠ 173 := fun q => by rw [q, h3] at g2; exact absurd g2 (Nat.not_lt_zero _)
      exact ⟨by rw [ga_ext hc]; exact g1, by rw [cnt_ne (m := gn Γ) hc]; exact g2⟩
    · rw [List.mem_singleton.mp hb]
      rw [gx_new]
      exact ⟨ga_new, Nat.le_refl 1⟩
  · show (gL Γ ++ [a]).Nodup
    rw [List.nodup_append]
    refine ⟨hG.2.2, List.nodup_cons.mpr ⟨List.not_mem_nil, List.nodup_nil⟩, fun x hx y hy => ?_⟩
    rw [List.mem_singleton.mp hy]
    exact ne_in h1 hx
theorem wsl_ext {Γ : Gm} {sz a : Nat} (hG : GOK Γ) (h : NX1 Γ sz a) (τ : St) : wsl (gx1 Γ a) τ = wsl Γ τ ++ [(a, aI Γ 93 (τ.1 173 0))] := by
  have e1 : ∀ b ∈ gL Γ, (b, cel (gx1 Γ a) τ (gx (gx1 Γ a) b).1 (gx (gx1 Γ a) b).2) = (b, cel Γ τ (gx Γ b).1 (gx Γ b).2) := by
    intro b hb
    have e : gx (gx1 Γ a) b = gx Γ b := gx_old (ne_in h.1 hb)
    rw [e]
    unfold cel
    rw [cell1_ext]
  have e2 : gx (gx1 Γ a) a = (173, 0) := gx_new
  show (gL Γ ++ [a]).map _ = _
  rw [List.map_append, List.map_congr_left e1]
  show _ ++ [(a, cel (gx1 Γ a) τ (gx (gx1 Γ a) a).1 (gx (gx1 Γ a) a).2)] = _
  rw [e2]
  rfl
theorem wsl_sN {Γ : Gm} (hG : GOK Γ) (h : gn Γ = 0) (σ : St) : wsl Γ (sN σ) = wsl Γ σ := by
  unfold wsl va_pl
  refine List.map_congr_left (fun b hb => ?_)
  obtain ⟨g1, g2⟩ := hG.2.1 b hb
  have hc : (gx Γ b).1 ≠ 173 := fun q => by rw [q, h] at g2; exact absurd g2 (Nat.not_lt_zero _)
  exact congrArg (fun z => (b, z)) (cel_congr (σ := σ) (τ := sN σ) (if_neg (fun q => hc q.1)) rfl rfl)
theorem sit_back {Γ : Gm} {a : Nat} {τ : St} {s : State} {H : Heap} {locs : List Loc} (hG : GOK Γ) (h : NX1 Γ s.heap.size a) (hw : Sit (gx1 Γ a) τ s H locs) : Sit Γ τ s H locs := by
  obtain ⟨h1, h2⟩ := hw
  rw [wsl_ext hG h] at h1
  rw [AA_ext h.2.1] at h2
  exact ⟨fun k q hk => h1 k q (by rw [List.getElem?_append_left (List.getElem?_eq_some_iff.mp hk).1]; exact hk), h2⟩
section QN
variable {p : Program} {l : Launch} {e : Env} {R : Room} {s : State} {m : MethodId} {args : Array Value} {below : List Frame} {meth : Method} {c : Code} {H : Heap} {locs : List Loc} {cells slots : Nat} {Q : State → Prop}
variable {cc : ByteArray} {pc : Nat} {ls : Array Slot} {rest st0 : List Value} {Γ : Gm} {S : List (String × Nat × String)} {σ τ : St} {β : Type} {r : β}
theorem q_newA (hx : p.tables.exec = Jvm.exec) (hb : c.code = cc) (hg0 : gn Γ = 0) (hK : KK Γ S s.heap.size s) (hw : Sit Γ σ s H locs) {K : St → Option β} (hf : vl (sN σ) K = some r) (hd : decode cc pc = .ok (.newarray .int, 2)) (hcells : cells + 1 ≤ R.cells) (hslots : slots + 93 ≤ R.slots)
    (kk : ∀ (a : Nat) (τ : St) (H : Heap) (locs : List Loc), NX1 Γ s.heap.size a → KK (gx1 Γ a) S s.heap.size s → K τ = some r → Sit (gx1 Γ a) τ s H locs → W p l e R s m args below meth c H locs (cells + 1) (slots + 93) Q (F0 m (pc + 2) ls (.ref (ga (gx1 Γ a) 173 0) :: rest))) : W p l e R s m args below meth c H locs cells slots Q (F0 m pc ls (.int 93 :: rest)) := by
  refine va_newa (atype := .int) (ty := .int) (N' := 93) (a0 := (93, .inl (fun _ => 0))) hx hb (kw_at hK.2.2.2.2.1 146 (by decide +kernel) rfl) rfl hK.1 hw.1 (wsl_nd hK.2.1 (fun a h => Or.inl h)) hw.2 (fun q h => Or.inr h) (fun cA => rfl) (by decide) rfl (Nat.le_of_ble_eq_true rfl) hcells hslots hd ?_
  intro a cA H1 hK1 hP1 hD1 hS1
  have hlen : (wsl Γ σ).length = (gL Γ).length := by unfold wsl va_pl; rw [List.length_map]
  have hlast : (wsl Γ σ ++ [(a, (.inl (cA, (93, .inl (fun _ => 0))) : va_E))])[(wsl Γ σ).length]? = some (a, .inl (cA, (93, .inl (fun _ => 0)))) := by
    rw [List.getElem?_append_right (Nat.le_refl _), Nat.sub_self]; rfl
  have hnot : a ∉ gL Γ := by
    intro hin
    obtain ⟨i, hi⟩ := List.mem_iff_getElem?.mp hin
    have hi2 : (wsl Γ σ)[i]? = some (a, cel Γ σ (gx Γ a).1 (gx Γ a).2) := by
      unfold wsl va_pl
      rw [List.getElem?_map, hi]
      rfl
    have hil := (List.getElem?_eq_some_iff.mp hi2).1
    have hi3 : (wsl Γ σ ++ [(a, (.inl (cA, (93, .inl (fun _ => 0))) : va_E))])[i]? = some (a, cel Γ σ (gx Γ a).1 (gx Γ a).2) := by
      rw [List.getElem?_append_left hil]; exact hi2
    have h9 := hD1.1 i (wsl Γ σ).length _ _ hi3 hlast rfl
    omega
  have hsz : s.heap.size ≤ a := (hD1.2 _ _ hlast).elim (fun h => absurd h hnot) id
  have hN : NX1 Γ s.heap.size a := ⟨hnot, hsz, hg0⟩
  have hcA : cA = gc Γ 0 := by
    have h1 := (hK1.2 (tysl Γ).length (cA, .int) (by rw [List.getElem?_append_right (Nat.le_refl _), Nat.sub_self]; rfl)).2
    have h2 := (hK1.2 0 (gc Γ 0, .int) rfl).2
    exact Option.some.inj (h1.symm.trans h2)
  subst hcA
  refine kk a (sN σ) H1 locs hN ⟨hK.1, gok_ext hK.2.1 hN, ?_, ?_, hK.2.2.2.2.1, hK.2.2.2.2.2⟩ hf ⟨?_, ?_⟩
  · rw [AA_ext hsz]; exact hK.2.2.1
  · rw [AA_ext hsz]; exact hK.2.2.2.1
  · rw [wsl_ext hK.2.1 hN, wsl_sN hK.2.1 hg0]
    exact hP1
  · rw [AA_ext hsz]; exact hS1
end QN
