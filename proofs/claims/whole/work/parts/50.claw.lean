/-! The law's loop: its script, its cases. -/
theorem rmC {cc a : Nat} (hC : cc + 16 ≤ 603072) (ha : a ≤ 16) : cc + a ≤ room_1.cells := by
  show cc + a ≤ 603072
  omega
theorem rmS {ss a : Nat} (hS : ss + 256 ≤ 7223402) (ha : a ≤ 256) : ss + a ≤ room_1.slots := by
  show ss + a ≤ 7223402
  omega
/-- what stands fast in the law's walk -/
def LX (Γ : Gm) (s : State) (b L : Nat) (xs : Nat → Int32) : Prop := va_X b L xs s s.heap ∧ b < s.heap.size ∧ (∀ a ∈ gL Γ, s.heap.size ≤ a) ∧ gn Γ = 0
theorem lx_b {Γ : Gm} {s : State} {b L : Nat} {xs : Nat → Int32} (h : LX Γ s b L xs) : ¬ AA Γ s.heap.size b := by
  rintro (h1 | h1)
  · exact absurd (h.2.2.1 b h1) (Nat.not_le.mpr h.2.1)
  · exact absurd h1 (Nat.not_le.mpr h.2.1)
section QK
variable {p : Program} {l : Launch} {e : Env} {R : Room} {s : State} {m : MethodId} {args : Array Value} {below : List Frame} {meth : Method} {c : Code} {H : Heap} {locs : List Loc} {cells slots : Nat} {Q : State → Prop}
variable {cc : ByteArray} {pc : Nat} {ls : Array Slot} {rest st0 : List Value} {Γ : Gm} {σ τ : St} {γ : Type} {r : γ} {b L : Nat} {xs : Nat → Int32}
theorem q_sld (hx : p.tables.exec = Jvm.exec) (hb : c.code = cc) (hL : LX Γ s b L xs) (hw : Sit Γ σ s H locs) {i : Int32} {X : Option γ} (hf : ck (inb i L) X = some r) (hd : decode cc pc = .ok (.iaload, 1)) (kk : X = some r → W p l e R s m args below meth c H locs cells slots Q (F0 m (pc + 1) ls (.int (xs i.toNatClampNeg) :: rest))) : W p l e R s m args below meth c H locs cells slots Q (F0 m pc ls (.int i :: .ref b :: rest)) :=
  va_sld hx hb hL.1 hL.2.1 (lx_b hL) hw.2 (inb_t (ck_t hf).1) hd (kk (ck_t hf).2)
theorem q_slen (hx : p.tables.exec = Jvm.exec) (hb : c.code = cc) (hL : LX Γ s b L xs) (hw : Sit Γ σ s H locs) (hd : decode cc pc = .ok (.arraylength, 1)) (kk : W p l e R s m args below meth c H locs cells slots Q (F0 m (pc + 1) ls (.int (Int32.ofNat L) :: rest))) : W p l e R s m args below meth c H locs cells slots Q (F0 m pc ls (.ref b :: rest)) :=
  va_slen hx hb hL.1 hL.2.1 (lx_b hL) hw.2 hd kk
theorem q_swk {x k : Int32} {A B : Option γ} {G : Prop} (hf : (if x = k then A else B) = some r) (h1 : x = k → A = some r → G) (h2 : B = some r → G) : G := by
  by_cases h : x = k
  · rw [if_pos h] at hf; exact h1 h hf
  · rw [if_neg h] at hf; exact h2 hf
theorem q_lalo0 (hx : p.tables.exec = Jvm.exec) (hb : c.code = cc) {S : List (String × Nat × String)} (hK : KK Γ S s.heap.size s) (hw : Sit Γ σ s H locs) (hd : decode cc pc = .ok (.laload, 1)) (kk : W p l e R s m args below meth c H locs cells slots Q (F0 m (pc + 1) ls (.long (gJ σ 0) :: rest))) : W p l e R s m args below meth c H locs cells slots Q (F0 m pc ls (.int 0 :: .ref (ga Γ 180 0) :: rest)) := by
  have ho : 0 < cnt (gn Γ) 180 := Nat.le_refl 1
  obtain ⟨q0, hq0⟩ := wsl_get hK.2.1 σ ho
  exact va_lald hx hb hK.1 hw.1 q0 7 hq0 rfl (inb_t (i := 0) (n := 1) (by decide)) hd kk
theorem q_dalo0 (hx : p.tables.exec = Jvm.exec) (hb : c.code = cc) {S : List (String × Nat × String)} (hK : KK Γ S s.heap.size s) (hw : Sit Γ σ s H locs) (hd : decode cc pc = .ok (.daload, 1)) (kk : W p l e R s m args below meth c H locs cells slots Q (F0 m (pc + 1) ls (.double (gD σ 0) :: rest))) : W p l e R s m args below meth c H locs cells slots Q (F0 m pc ls (.int 0 :: .ref (ga Γ 181 0) :: rest)) := by
  have ho : 0 < cnt (gn Γ) 181 := Nat.le_refl 1
  obtain ⟨q0, hq0⟩ := wsl_get hK.2.1 σ ho
  exact va_dald hx hb hK.1 hw.1 q0 8 hq0 rfl (inb_t (i := 0) (n := 1) (by decide)) hd kk
end QK
