/-! At the start nothing has been done yet. -/
def A0 : Ab := fun _ _ _ => 0
theorem Top0 {K : Nat → Bool} {f w : Nat} (h : Top A0 K f w) : w = 0 := by
  rcases h with ⟨h, _⟩ | ⟨o, _, h, _⟩
  · exact h
  · exact absurd h (Nat.not_lt_zero o)
theorem Top0_bw (K : Nat → Bool) (f : Nat) : Top A0 K f (bw A0 K f) := Classical.epsilon_spec (p := Top A0 K f) ⟨0, Or.inl ⟨rfl, fun o h => absurd h (Nat.not_lt_zero o)⟩⟩
theorem bw0 (K : Nat → Bool) (f : Nat) : bw A0 K f = 0 := Top0 (Top0_bw K f)
theorem cvF0 (f : Nat) : cvF f 0 = 0 := by
  unfold cvF
  split
  · rfl
  · show FP.i2f 0 = 0
    decide +kernel
theorem z0_fM {f : Nat} (hf : f < 93) : fM 93 f = ij ((0 : Nat) - 1) := by
  unfold fM
  rw [if_pos hf]
  rfl
theorem Inv_z0 : Inv A0 z0 := by
  refine ⟨⟨⟨Nat.zero_le _, fun o h => absurd h (Nat.not_lt_zero o), fun o p h => absurd h (Nat.not_lt_zero o)⟩, ⟨Nat.zero_le _, Nat.zero_le _, fun s => ⟨fun h => absurd h (Nat.not_lt_zero s), Nat.zero_le _, Nat.zero_le _, Nat.zero_le _⟩, fun c h => absurd h (Nat.not_lt_zero c)⟩, fun u hu => ⟨fun o _ => rfl, fun o h => absurd h (Nat.not_lt_zero o)⟩⟩, ⟨⟨rfl, rfl, fun s _ h => absurd h (Nat.not_lt_zero s), fun c _ h => absurd h (Nat.not_lt_zero c)⟩, ⟨rfl, rfl, fun o h => absurd h (Nat.not_lt_zero o)⟩, ⟨fun _ => 0, fun i h => absurd h (Nat.not_lt_zero i), fun o h => absurd h (Nat.not_lt_zero o)⟩, fun u hu => ⟨⟨rfl, rfl, fun o _ => rfl⟩, fun f hf => ?_⟩, Or.inl ⟨rfl, rfl⟩⟩, ⟨⟨rfl, rfl, fun s _ h => absurd h (Nat.not_lt_zero s), fun c _ h => absurd h (Nat.not_lt_zero c)⟩, ⟨rfl, fun o h => absurd h (Nat.not_lt_zero o), fun u o _ _ => rfl⟩, rfl⟩⟩
  refine ⟨Top0_bw _ f, ?_, ?_, ?_⟩
  · rw [bw0]
    exact z0_fM hf
  · unfold bv
    rw [bw0]
    exact (cvF0 f).symm
  · unfold bs
    rw [bw0]
    exact z0_fM hf
