/-! Rows: each step of the machine with the same step of the pure side. -/
def ob {α β : Type} (x : Option α) (k : α → Option β) : Option β := x.bind k
def o2 {α β : Type} (x : Option (α × St)) (k : α → St → Option β) : Option β := x.bind (fun q => k q.1 q.2)
def ox {α β : Type} (x : Option ((α ⊕ String) × St)) (h : String → St → Option β) (k : α → St → Option β) : Option β := x.bind (fun q => match q.1 with | .inl v => k v q.2 | .inr E => h E q.2)
def vl {α β : Type} (x : α) (k : α → β) : β := k x
def ck {β : Type} (b : Bool) (x : Option β) : Option β := match b with | true => x | false => none
def inb (i : Int32) (n : Nat) : Bool := !decide (i < 0) && decide (i.toNatClampNeg < n)
def nn32 (z : UInt32) : Bool := decide (z &&& 0x7fffffff ≤ 0x7f800000)
def nn64 (z : UInt64) : Bool := decide (z &&& 0x7fffffffffffffff ≤ 0x7ff0000000000000)
theorem ob_t {α β : Type} {x : Option α} {k : α → Option β} {r : β} (h : ob x k = some r) : ∃ v, x = some v ∧ k v = some r := Option.bind_eq_some_iff.mp h
theorem o2_t {α β : Type} {x : Option (α × St)} {k : α → St → Option β} {r : β} (h : o2 x k = some r) : ∃ v τ, x = some (v, τ) ∧ k v τ = some r := by
  obtain ⟨q, h1, h2⟩ := Option.bind_eq_some_iff.mp h
  exact ⟨q.1, q.2, h1, h2⟩
theorem ox_t {α β : Type} {x : Option ((α ⊕ String) × St)} {h : String → St → Option β} {k : α → St → Option β} {r : β} (e : ox x h k = some r) : (∃ v τ, x = some (.inl v, τ) ∧ k v τ = some r) ∨ ∃ E τ, x = some (.inr E, τ) ∧ h E τ = some r := by
  obtain ⟨⟨q1, q2⟩, h1, h2⟩ := Option.bind_eq_some_iff.mp e
  cases q1 with
  | inl v => exact Or.inl ⟨v, q2, h1, h2⟩
  | inr E => exact Or.inr ⟨E, q2, h1, h2⟩
theorem ck_t {β : Type} {b : Bool} {x : Option β} {r : β} (h : ck b x = some r) : b = true ∧ x = some r := by
  cases b with
  | true => exact ⟨rfl, h⟩
  | false => exact nomatch h
theorem inb_t {i : Int32} {n : Nat} (h : inb i n = true) : vp_in i n := by
  unfold inb at h
  simp only [Bool.and_eq_true, Bool.not_eq_true', decide_eq_false_iff_not, decide_eq_true_eq] at h
  exact fun q => q.elim h.1 (fun q => absurd h.2 (Nat.not_lt.mpr q))
theorem nn32_t {z : UInt32} (h : nn32 z = true) : vf_n32 z := by unfold nn32 at h; unfold vf_n32; exact of_decide_eq_true h
theorem nn64_t {z : UInt64} (h : nn64 z = true) : vf_n64 z := by unfold nn64 at h; unfold vf_n64; exact of_decide_eq_true h
theorem sI_at (σ : St) (c o j : Nat) (v : Int32) : (sI σ c o j v).1 c o = upd (σ.1 c o) j v := by unfold sI; exact if_pos ⟨rfl, rfl⟩
theorem sF_at (σ : St) (c o j : Nat) (v : UInt32) : (sF σ c o j v).2.1 c o = vf_upd (σ.2.1 c o) j v := by unfold sF; exact if_pos ⟨rfl, rfl⟩
section QR
variable {p : Program} {l : Launch} {e : Env} {R : Room} {s : State} {m : MethodId} {args : Array Value} {below : List Frame} {meth : Method} {c : Code} {H : Heap} {locs : List Loc} {cells slots : Nat} {Q : State → Prop}
variable {cc : ByteArray} {pc : Nat} {ls : Array Slot} {rest : List Value} {Γ : Gm} {S : List (String × Nat × String)} {σ : St} {β : Type} {r : β}
theorem q_if_eq (hx : p.tables.exec = Jvm.exec) (hb : c.code = cc) {x : Int32} {off : Int} {tgt : Nat} {X Y : Option β} (hf : (if x = 0 then X else Y) = some r) (hd : decode cc pc = .ok (.ifCond .eq off, 3)) (ht : (pc : Int) + off = (tgt : Int)) (kt : X = some r → W p l e R s m args below meth c H locs cells slots Q (F0 m tgt ls rest)) (kf : Y = some r → W p l e R s m args below meth c H locs cells slots Q (F0 m (pc + 3) ls rest)) : W p l e R s m args below meth c H locs cells slots Q (F0 m pc ls (.int x :: rest)) :=
  lv_if_eq hx hb hd ht (fun h => kt ((if_pos h).symm.trans hf)) (fun h => kf ((if_neg h).symm.trans hf))
theorem q_ic_eq (hx : p.tables.exec = Jvm.exec) (hb : c.code = cc) {x y : Int32} {off : Int} {tgt : Nat} {X Y : Option β} (hf : (if x = y then X else Y) = some r) (hd : decode cc pc = .ok (.if_icmp .eq off, 3)) (ht : (pc : Int) + off = (tgt : Int)) (kt : X = some r → W p l e R s m args below meth c H locs cells slots Q (F0 m tgt ls rest)) (kf : Y = some r → W p l e R s m args below meth c H locs cells slots Q (F0 m (pc + 3) ls rest)) : W p l e R s m args below meth c H locs cells slots Q (F0 m pc ls (.int y :: .int x :: rest)) :=
  lv_icmp_eq hx hb hd ht (fun h => kt ((if_pos h).symm.trans hf)) (fun h => kf ((if_neg h).symm.trans hf))
theorem q_if_ne (hx : p.tables.exec = Jvm.exec) (hb : c.code = cc) {x : Int32} {off : Int} {tgt : Nat} {X Y : Option β} (hf : (if x = 0 then X else Y) = some r) (hd : decode cc pc = .ok (.ifCond .ne off, 3)) (ht : (pc : Int) + off = (tgt : Int)) (kt : Y = some r → W p l e R s m args below meth c H locs cells slots Q (F0 m tgt ls rest)) (kf : X = some r → W p l e R s m args below meth c H locs cells slots Q (F0 m (pc + 3) ls rest)) : W p l e R s m args below meth c H locs cells slots Q (F0 m pc ls (.int x :: rest)) :=
  lv_if_ne hx hb hd ht (fun h => kt ((if_neg h).symm.trans hf)) (fun h => kf ((if_pos h).symm.trans hf))
theorem q_ic_ne (hx : p.tables.exec = Jvm.exec) (hb : c.code = cc) {x y : Int32} {off : Int} {tgt : Nat} {X Y : Option β} (hf : (if x = y then X else Y) = some r) (hd : decode cc pc = .ok (.if_icmp .ne off, 3)) (ht : (pc : Int) + off = (tgt : Int)) (kt : Y = some r → W p l e R s m args below meth c H locs cells slots Q (F0 m tgt ls rest)) (kf : X = some r → W p l e R s m args below meth c H locs cells slots Q (F0 m (pc + 3) ls rest)) : W p l e R s m args below meth c H locs cells slots Q (F0 m pc ls (.int y :: .int x :: rest)) :=
  lv_icmp_ne hx hb hd ht (fun h => kt ((if_neg h).symm.trans hf)) (fun h => kf ((if_pos h).symm.trans hf))
theorem q_if_lt (hx : p.tables.exec = Jvm.exec) (hb : c.code = cc) {x : Int32} {off : Int} {tgt : Nat} {X Y : Option β} (hf : (if x < 0 then X else Y) = some r) (hd : decode cc pc = .ok (.ifCond .lt off, 3)) (ht : (pc : Int) + off = (tgt : Int)) (kt : X = some r → W p l e R s m args below meth c H locs cells slots Q (F0 m tgt ls rest)) (kf : Y = some r → W p l e R s m args below meth c H locs cells slots Q (F0 m (pc + 3) ls rest)) : W p l e R s m args below meth c H locs cells slots Q (F0 m pc ls (.int x :: rest)) :=
  lv_if_lt hx hb hd ht (fun h => kt ((if_pos h).symm.trans hf)) (fun h => kf ((if_neg h).symm.trans hf))
theorem q_ic_lt (hx : p.tables.exec = Jvm.exec) (hb : c.code = cc) {x y : Int32} {off : Int} {tgt : Nat} {X Y : Option β} (hf : (if x < y then X else Y) = some r) (hd : decode cc pc = .ok (.if_icmp .lt off, 3)) (ht : (pc : Int) + off = (tgt : Int)) (kt : X = some r → W p l e R s m args below meth c H locs cells slots Q (F0 m tgt ls rest)) (kf : Y = some r → W p l e R s m args below meth c H locs cells slots Q (F0 m (pc + 3) ls rest)) : W p l e R s m args below meth c H locs cells slots Q (F0 m pc ls (.int y :: .int x :: rest)) :=
  lv_icmp_lt hx hb hd ht (fun h => kt ((if_pos h).symm.trans hf)) (fun h => kf ((if_neg h).symm.trans hf))
theorem q_if_ge (hx : p.tables.exec = Jvm.exec) (hb : c.code = cc) {x : Int32} {off : Int} {tgt : Nat} {X Y : Option β} (hf : (if 0 ≤ x then X else Y) = some r) (hd : decode cc pc = .ok (.ifCond .ge off, 3)) (ht : (pc : Int) + off = (tgt : Int)) (kt : X = some r → W p l e R s m args below meth c H locs cells slots Q (F0 m tgt ls rest)) (kf : Y = some r → W p l e R s m args below meth c H locs cells slots Q (F0 m (pc + 3) ls rest)) : W p l e R s m args below meth c H locs cells slots Q (F0 m pc ls (.int x :: rest)) :=
  lv_if_ge hx hb hd ht (fun h => kt ((if_pos h).symm.trans hf)) (fun h => kf ((if_neg h).symm.trans hf))
theorem q_ic_ge (hx : p.tables.exec = Jvm.exec) (hb : c.code = cc) {x y : Int32} {off : Int} {tgt : Nat} {X Y : Option β} (hf : (if y ≤ x then X else Y) = some r) (hd : decode cc pc = .ok (.if_icmp .ge off, 3)) (ht : (pc : Int) + off = (tgt : Int)) (kt : X = some r → W p l e R s m args below meth c H locs cells slots Q (F0 m tgt ls rest)) (kf : Y = some r → W p l e R s m args below meth c H locs cells slots Q (F0 m (pc + 3) ls rest)) : W p l e R s m args below meth c H locs cells slots Q (F0 m pc ls (.int y :: .int x :: rest)) :=
  lv_icmp_ge hx hb hd ht (fun h => kt ((if_pos h).symm.trans hf)) (fun h => kf ((if_neg h).symm.trans hf))
theorem q_if_gt (hx : p.tables.exec = Jvm.exec) (hb : c.code = cc) {x : Int32} {off : Int} {tgt : Nat} {X Y : Option β} (hf : (if 0 < x then X else Y) = some r) (hd : decode cc pc = .ok (.ifCond .gt off, 3)) (ht : (pc : Int) + off = (tgt : Int)) (kt : X = some r → W p l e R s m args below meth c H locs cells slots Q (F0 m tgt ls rest)) (kf : Y = some r → W p l e R s m args below meth c H locs cells slots Q (F0 m (pc + 3) ls rest)) : W p l e R s m args below meth c H locs cells slots Q (F0 m pc ls (.int x :: rest)) :=
  lv_if_gt hx hb hd ht (fun h => kt ((if_pos h).symm.trans hf)) (fun h => kf ((if_neg h).symm.trans hf))
theorem q_ic_gt (hx : p.tables.exec = Jvm.exec) (hb : c.code = cc) {x y : Int32} {off : Int} {tgt : Nat} {X Y : Option β} (hf : (if y < x then X else Y) = some r) (hd : decode cc pc = .ok (.if_icmp .gt off, 3)) (ht : (pc : Int) + off = (tgt : Int)) (kt : X = some r → W p l e R s m args below meth c H locs cells slots Q (F0 m tgt ls rest)) (kf : Y = some r → W p l e R s m args below meth c H locs cells slots Q (F0 m (pc + 3) ls rest)) : W p l e R s m args below meth c H locs cells slots Q (F0 m pc ls (.int y :: .int x :: rest)) :=
  lv_icmp_gt hx hb hd ht (fun h => kt ((if_pos h).symm.trans hf)) (fun h => kf ((if_neg h).symm.trans hf))
theorem q_if_le (hx : p.tables.exec = Jvm.exec) (hb : c.code = cc) {x : Int32} {off : Int} {tgt : Nat} {X Y : Option β} (hf : (if x ≤ 0 then X else Y) = some r) (hd : decode cc pc = .ok (.ifCond .le off, 3)) (ht : (pc : Int) + off = (tgt : Int)) (kt : X = some r → W p l e R s m args below meth c H locs cells slots Q (F0 m tgt ls rest)) (kf : Y = some r → W p l e R s m args below meth c H locs cells slots Q (F0 m (pc + 3) ls rest)) : W p l e R s m args below meth c H locs cells slots Q (F0 m pc ls (.int x :: rest)) :=
  lv_if_le hx hb hd ht (fun h => kt ((if_pos h).symm.trans hf)) (fun h => kf ((if_neg h).symm.trans hf))
theorem q_ic_le (hx : p.tables.exec = Jvm.exec) (hb : c.code = cc) {x y : Int32} {off : Int} {tgt : Nat} {X Y : Option β} (hf : (if x ≤ y then X else Y) = some r) (hd : decode cc pc = .ok (.if_icmp .le off, 3)) (ht : (pc : Int) + off = (tgt : Int)) (kt : X = some r → W p l e R s m args below meth c H locs cells slots Q (F0 m tgt ls rest)) (kf : Y = some r → W p l e R s m args below meth c H locs cells slots Q (F0 m (pc + 3) ls rest)) : W p l e R s m args below meth c H locs cells slots Q (F0 m pc ls (.int y :: .int x :: rest)) :=
  lv_icmp_le hx hb hd ht (fun h => kt ((if_pos h).symm.trans hf)) (fun h => kf ((if_neg h).symm.trans hf))
theorem q_fadd (hx : p.tables.exec = Jvm.exec) (hb : c.code = cc) {x y : UInt32} {X : Option β} (hf : ck (nn32 (FP.fadd x y)) X = some r) (hd : decode cc pc = .ok (.fadd, 1)) (kk : X = some r → W p l e R s m args below meth c H locs cells slots Q (F0 m (pc + 1) ls (.float (FP.fadd x y) :: rest))) : W p l e R s m args below meth c H locs cells slots Q (F0 m pc ls (.float y :: .float x :: rest)) :=
  lv_fadd hx hb hd (nn32_t (ck_t hf).1) (kk (ck_t hf).2)
theorem q_fsub (hx : p.tables.exec = Jvm.exec) (hb : c.code = cc) {x y : UInt32} {X : Option β} (hf : ck (nn32 (FP.fsub x y)) X = some r) (hd : decode cc pc = .ok (.fsub, 1)) (kk : X = some r → W p l e R s m args below meth c H locs cells slots Q (F0 m (pc + 1) ls (.float (FP.fsub x y) :: rest))) : W p l e R s m args below meth c H locs cells slots Q (F0 m pc ls (.float y :: .float x :: rest)) :=
  lv_fsub hx hb hd (nn32_t (ck_t hf).1) (kk (ck_t hf).2)
theorem q_fmul (hx : p.tables.exec = Jvm.exec) (hb : c.code = cc) {x y : UInt32} {X : Option β} (hf : ck (nn32 (FP.fmul x y)) X = some r) (hd : decode cc pc = .ok (.fmul, 1)) (kk : X = some r → W p l e R s m args below meth c H locs cells slots Q (F0 m (pc + 1) ls (.float (FP.fmul x y) :: rest))) : W p l e R s m args below meth c H locs cells slots Q (F0 m pc ls (.float y :: .float x :: rest)) :=
  lv_fmul hx hb hd (nn32_t (ck_t hf).1) (kk (ck_t hf).2)
theorem q_fdiv (hx : p.tables.exec = Jvm.exec) (hb : c.code = cc) {x y : UInt32} {X : Option β} (hf : ck (nn32 (FP.fdiv x y)) X = some r) (hd : decode cc pc = .ok (.fdiv, 1)) (kk : X = some r → W p l e R s m args below meth c H locs cells slots Q (F0 m (pc + 1) ls (.float (FP.fdiv x y) :: rest))) : W p l e R s m args below meth c H locs cells slots Q (F0 m pc ls (.float y :: .float x :: rest)) :=
  lv_fdiv hx hb hd (nn32_t (ck_t hf).1) (kk (ck_t hf).2)
theorem q_dmul (hx : p.tables.exec = Jvm.exec) (hb : c.code = cc) {x y : UInt64} {X : Option β} (hf : ck (nn64 (FP.dmul x y)) X = some r) (hd : decode cc pc = .ok (.dmul, 1)) (kk : X = some r → W p l e R s m args below meth c H locs cells slots Q (F0 m (pc + 1) ls (.double (FP.dmul x y) :: rest))) : W p l e R s m args below meth c H locs cells slots Q (F0 m pc ls (.double y :: .double x :: rest)) :=
  lv_dmul hx hb hd (nn64_t (ck_t hf).1) (kk (ck_t hf).2)
theorem q_ddiv (hx : p.tables.exec = Jvm.exec) (hb : c.code = cc) {x y : UInt64} {X : Option β} (hf : ck (nn64 (FP.ddiv x y)) X = some r) (hd : decode cc pc = .ok (.ddiv, 1)) (kk : X = some r → W p l e R s m args below meth c H locs cells slots Q (F0 m (pc + 1) ls (.double (FP.ddiv x y) :: rest))) : W p l e R s m args below meth c H locs cells slots Q (F0 m pc ls (.double y :: .double x :: rest)) :=
  lv_ddiv hx hb hd (nn64_t (ck_t hf).1) (kk (ck_t hf).2)
theorem q_dsub (hx : p.tables.exec = Jvm.exec) (hb : c.code = cc) {x y : UInt64} {X : Option β} (hf : ck (nn64 (FP.dsub x y)) X = some r) (hd : decode cc pc = .ok (.dsub, 1)) (kk : X = some r → W p l e R s m args below meth c H locs cells slots Q (F0 m (pc + 1) ls (.double (FP.dsub x y) :: rest))) : W p l e R s m args below meth c H locs cells slots Q (F0 m pc ls (.double y :: .double x :: rest)) :=
  lv_dsub hx hb hd (nn64_t (ck_t hf).1) (kk (ck_t hf).2)
theorem q_f2d (hx : p.tables.exec = Jvm.exec) (hb : c.code = cc) {x : UInt32} {X : Option β} (hf : ck (nn64 (FP.f2d x)) X = some r) (hd : decode cc pc = .ok (.f2d, 1)) (kk : X = some r → W p l e R s m args below meth c H locs cells slots Q (F0 m (pc + 1) ls (.double (FP.f2d x) :: rest))) : W p l e R s m args below meth c H locs cells slots Q (F0 m pc ls (.float x :: rest)) :=
  lv_f2d hx hb hd (nn64_t (ck_t hf).1) (kk (ck_t hf).2)
theorem q_idiv (hx : p.tables.exec = Jvm.exec) (hb : c.code = cc) {x y : Int32} {X : Option β} (hf : ck (decide (¬ y = 0)) X = some r) (hd : decode cc pc = .ok (.idiv, 1)) (kk : X = some r → W p l e R s m args below meth c H locs cells slots Q (F0 m (pc + 1) ls (.int (x / y) :: rest))) : W p l e R s m args below meth c H locs cells slots Q (F0 m pc ls (.int y :: .int x :: rest)) :=
  lv_idiv hx hb hd (of_decide_eq_true (ck_t hf).1) (kk (ck_t hf).2)
theorem q_irem (hx : p.tables.exec = Jvm.exec) (hb : c.code = cc) {x y : Int32} {X : Option β} (hf : ck (decide (¬ y = 0)) X = some r) (hd : decode cc pc = .ok (.irem, 1)) (kk : X = some r → W p l e R s m args below meth c H locs cells slots Q (F0 m (pc + 1) ls (.int (x - x / y * y) :: rest))) : W p l e R s m args below meth c H locs cells slots Q (F0 m pc ls (.int y :: .int x :: rest)) :=
  lv_irem hx hb hd (of_decide_eq_true (ck_t hf).1) (kk (ck_t hf).2)
theorem q_iald (hx : p.tables.exec = Jvm.exec) (hb : c.code = cc) (hK : KK Γ S s.heap.size s) (hw : Sit Γ σ s H locs) {k o n : Nat} (hc : ∀ f g ρ, cell1 Γ k o f g ρ = aI Γ n f) (ho : o < cnt (gn Γ) k) {i : Int32} {X : Option β} (hf : ck (inb i n) X = some r) (hd : decode cc pc = .ok (.iaload, 1)) (kk : X = some r → W p l e R s m args below meth c H locs cells slots Q (F0 m (pc + 1) ls (.int (gI σ k o i.toNatClampNeg) :: rest))) : W p l e R s m args below meth c H locs cells slots Q (F0 m pc ls (.int i :: .ref (ga Γ k o) :: rest)) := by
  obtain ⟨q0, hq⟩ := wsl_get hK.2.1 σ ho
  have hq : (wsl Γ σ)[q0]? = some (ga Γ k o, aI Γ n (gI σ k o)) := by rw [hq]; exact congrArg (fun z => some (ga Γ k o, z)) (hc _ _ _)
  exact va_iald hx hb hK.1 hw.1 q0 0 hq rfl (inb_t (ck_t hf).1) hd (kk (ck_t hf).2)
theorem q_zald (hx : p.tables.exec = Jvm.exec) (hb : c.code = cc) (hK : KK Γ S s.heap.size s) (hw : Sit Γ σ s H locs) {k o n : Nat} (hc : ∀ f g ρ, cell1 Γ k o f g ρ = aZ Γ n f) (ho : o < cnt (gn Γ) k) {i : Int32} {X : Option β} (hf : ck (inb i n) X = some r) (hd : decode cc pc = .ok (.baload, 1)) (kk : X = some r → W p l e R s m args below meth c H locs cells slots Q (F0 m (pc + 1) ls (.int (gI σ k o i.toNatClampNeg) :: rest))) : W p l e R s m args below meth c H locs cells slots Q (F0 m pc ls (.int i :: .ref (ga Γ k o) :: rest)) := by
  obtain ⟨q0, hq⟩ := wsl_get hK.2.1 σ ho
  have hq : (wsl Γ σ)[q0]? = some (ga Γ k o, aZ Γ n (gI σ k o)) := by rw [hq]; exact congrArg (fun z => some (ga Γ k o, z)) (hc _ _ _)
  exact va_zald hx hb hK.1 hw.1 q0 1 hq rfl (inb_t (ck_t hf).1) hd (kk (ck_t hf).2)
theorem q_cald (hx : p.tables.exec = Jvm.exec) (hb : c.code = cc) (hK : KK Γ S s.heap.size s) (hw : Sit Γ σ s H locs) {k o n : Nat} (hc : ∀ f g ρ, cell1 Γ k o f g ρ = aC Γ n f) (ho : o < cnt (gn Γ) k) {i : Int32} {X : Option β} (hf : ck (inb i n) X = some r) (hd : decode cc pc = .ok (.caload, 1)) (kk : X = some r → W p l e R s m args below meth c H locs cells slots Q (F0 m (pc + 1) ls (.int (gI σ k o i.toNatClampNeg) :: rest))) : W p l e R s m args below meth c H locs cells slots Q (F0 m pc ls (.int i :: .ref (ga Γ k o) :: rest)) := by
  obtain ⟨q0, hq⟩ := wsl_get hK.2.1 σ ho
  have hq : (wsl Γ σ)[q0]? = some (ga Γ k o, aC Γ n (gI σ k o)) := by rw [hq]; exact congrArg (fun z => some (ga Γ k o, z)) (hc _ _ _)
  exact va_cald hx hb hK.1 hw.1 q0 2 hq rfl (inb_t (ck_t hf).1) hd (kk (ck_t hf).2)
theorem q_fald (hx : p.tables.exec = Jvm.exec) (hb : c.code = cc) (hK : KK Γ S s.heap.size s) (hw : Sit Γ σ s H locs) {k o n : Nat} (hc : ∀ f g ρ, cell1 Γ k o f g ρ = aF Γ n g) (ho : o < cnt (gn Γ) k) {i : Int32} {X : Option β} (hf : ck (inb i n) X = some r) (hd : decode cc pc = .ok (.faload, 1)) (kk : X = some r → W p l e R s m args below meth c H locs cells slots Q (F0 m (pc + 1) ls (.float (gF σ k o i.toNatClampNeg) :: rest))) : W p l e R s m args below meth c H locs cells slots Q (F0 m pc ls (.int i :: .ref (ga Γ k o) :: rest)) := by
  obtain ⟨q0, hq⟩ := wsl_get hK.2.1 σ ho
  have hq : (wsl Γ σ)[q0]? = some (ga Γ k o, aF Γ n (gF σ k o)) := by rw [hq]; exact congrArg (fun z => some (ga Γ k o, z)) (hc _ _ _)
  exact va_fald hx hb hK.1 hw.1 q0 3 hq rfl (inb_t (ck_t hf).1) hd (kk (ck_t hf).2)
theorem q_aald (hx : p.tables.exec = Jvm.exec) (hb : c.code = cc) (hK : KK Γ S s.heap.size s) (hw : Sit Γ σ s H locs) {k o n k2 : Nat} (hc : ∀ f g ρ, cell1 Γ k o f g ρ = aR Γ 4 n k2) (ho : o < cnt (gn Γ) k) {i : Int32} {X : Option β} (hf : ck (inb i n) X = some r) (hd : decode cc pc = .ok (.aaload, 1)) (kk : X = some r → W p l e R s m args below meth c H locs cells slots Q (F0 m (pc + 1) ls (.ref (ga Γ k2 i.toNatClampNeg) :: rest))) : W p l e R s m args below meth c H locs cells slots Q (F0 m pc ls (.int i :: .ref (ga Γ k o) :: rest)) := by
  obtain ⟨q0, hq⟩ := wsl_get hK.2.1 σ ho
  have hq : (wsl Γ σ)[q0]? = some (ga Γ k o, aR Γ 4 n k2) := by rw [hq]; exact congrArg (fun z => some (ga Γ k o, z)) (hc _ _ _)
  exact va_aldq hx hb hK.1 hw.1 q0 4 hq rfl (inb_t (ck_t hf).1) hd (kk (ck_t hf).2)
theorem q_iast (hx : p.tables.exec = Jvm.exec) (hb : c.code = cc) (hK : KK Γ S s.heap.size s) (hw : Sit Γ σ s H locs) {k o n : Nat} (hc : ∀ f g ρ, cell1 Γ k o f g ρ = aI Γ n f) (ho : o < cnt (gn Γ) k) {i : Int32} {v : Int32} {K : St → Option β} (hf : ck (inb i n) (vl (sI σ k o i.toNatClampNeg v) K) = some r) (hd : decode cc pc = .ok (.iastore, 1)) (kk : ∀ (τ : St) (H : Heap) (locs : List Loc), K τ = some r → Sit Γ τ s H locs → W p l e R s m args below meth c H locs cells slots Q (F0 m (pc + 1) ls rest)) : W p l e R s m args below meth c H locs cells slots Q (F0 m pc ls (.int v :: .int i :: .ref (ga Γ k o) :: rest)) := by
  obtain ⟨q0, hq0⟩ := wsl_get hK.2.1 σ ho
  have hq : (wsl Γ σ)[q0]? = some (ga Γ k o, aI Γ n (gI σ k o)) := by rw [hq0]; exact congrArg (fun z => some (ga Γ k o, z)) (hc _ _ _)
  refine va_iast hx hb hK.1 hw.1 (wsl_nd hK.2.1 (fun a h => Or.inl h)) hw.2 q0 0 hq rfl (inb_t (ck_t hf).1) hd (fun H1 locs1 hP _ hS => kk _ H1 locs1 (ck_t hf).2 ⟨?_, hS⟩)
  have he : cel Γ (sI σ k o i.toNatClampNeg v) k o = aI Γ n (upd (gI σ k o) i.toNatClampNeg v) := by
    unfold cel
    rw [hc, sI_at]
    rfl
  have hs := wsl_set (τ := sI σ k o i.toNatClampNeg v) hK.2.1 hq0 ho (fun c1 o1 _ h => cel_sI c1 o1 h)
  rw [he] at hs
  rw [← hs]
  exact hP
theorem q_zast (hx : p.tables.exec = Jvm.exec) (hb : c.code = cc) (hK : KK Γ S s.heap.size s) (hw : Sit Γ σ s H locs) {k o n : Nat} (hc : ∀ f g ρ, cell1 Γ k o f g ρ = aZ Γ n f) (ho : o < cnt (gn Γ) k) {i : Int32} {v : Int32} {K : St → Option β} (hf : ck (inb i n) (vl (sI σ k o i.toNatClampNeg (vp_nar .boolean v)) K) = some r) (hd : decode cc pc = .ok (.bastore, 1)) (kk : ∀ (τ : St) (H : Heap) (locs : List Loc), K τ = some r → Sit Γ τ s H locs → W p l e R s m args below meth c H locs cells slots Q (F0 m (pc + 1) ls rest)) : W p l e R s m args below meth c H locs cells slots Q (F0 m pc ls (.int v :: .int i :: .ref (ga Γ k o) :: rest)) := by
  obtain ⟨q0, hq0⟩ := wsl_get hK.2.1 σ ho
  have hq : (wsl Γ σ)[q0]? = some (ga Γ k o, aZ Γ n (gI σ k o)) := by rw [hq0]; exact congrArg (fun z => some (ga Γ k o, z)) (hc _ _ _)
  refine va_zast hx hb hK.1 hw.1 (wsl_nd hK.2.1 (fun a h => Or.inl h)) hw.2 q0 1 hq rfl (inb_t (ck_t hf).1) hd (fun H1 locs1 hP _ hS => kk _ H1 locs1 (ck_t hf).2 ⟨?_, hS⟩)
  have he : cel Γ (sI σ k o i.toNatClampNeg (vp_nar .boolean v)) k o = aZ Γ n (upd (gI σ k o) i.toNatClampNeg (vp_nar .boolean v)) := by
    unfold cel
    rw [hc, sI_at]
    rfl
  have hs := wsl_set (τ := sI σ k o i.toNatClampNeg (vp_nar .boolean v)) hK.2.1 hq0 ho (fun c1 o1 _ h => cel_sI c1 o1 h)
  rw [he] at hs
  rw [← hs]
  exact hP
theorem q_cast (hx : p.tables.exec = Jvm.exec) (hb : c.code = cc) (hK : KK Γ S s.heap.size s) (hw : Sit Γ σ s H locs) {k o n : Nat} (hc : ∀ f g ρ, cell1 Γ k o f g ρ = aC Γ n f) (ho : o < cnt (gn Γ) k) {i : Int32} {v : Int32} {K : St → Option β} (hf : ck (inb i n) (vl (sI σ k o i.toNatClampNeg (vp_nar .char v)) K) = some r) (hd : decode cc pc = .ok (.castore, 1)) (kk : ∀ (τ : St) (H : Heap) (locs : List Loc), K τ = some r → Sit Γ τ s H locs → W p l e R s m args below meth c H locs cells slots Q (F0 m (pc + 1) ls rest)) : W p l e R s m args below meth c H locs cells slots Q (F0 m pc ls (.int v :: .int i :: .ref (ga Γ k o) :: rest)) := by
  obtain ⟨q0, hq0⟩ := wsl_get hK.2.1 σ ho
  have hq : (wsl Γ σ)[q0]? = some (ga Γ k o, aC Γ n (gI σ k o)) := by rw [hq0]; exact congrArg (fun z => some (ga Γ k o, z)) (hc _ _ _)
  refine va_cast hx hb hK.1 hw.1 (wsl_nd hK.2.1 (fun a h => Or.inl h)) hw.2 q0 2 hq rfl (inb_t (ck_t hf).1) hd (fun H1 locs1 hP _ hS => kk _ H1 locs1 (ck_t hf).2 ⟨?_, hS⟩)
  have he : cel Γ (sI σ k o i.toNatClampNeg (vp_nar .char v)) k o = aC Γ n (upd (gI σ k o) i.toNatClampNeg (vp_nar .char v)) := by
    unfold cel
    rw [hc, sI_at]
    rfl
  have hs := wsl_set (τ := sI σ k o i.toNatClampNeg (vp_nar .char v)) hK.2.1 hq0 ho (fun c1 o1 _ h => cel_sI c1 o1 h)
  rw [he] at hs
  rw [← hs]
  exact hP
theorem q_fast (hx : p.tables.exec = Jvm.exec) (hb : c.code = cc) (hK : KK Γ S s.heap.size s) (hw : Sit Γ σ s H locs) {k o n : Nat} (hc : ∀ f g ρ, cell1 Γ k o f g ρ = aF Γ n g) (ho : o < cnt (gn Γ) k) {i : Int32} {v : UInt32} {K : St → Option β} (hf : ck (inb i n) (vl (sF σ k o i.toNatClampNeg v) K) = some r) (hd : decode cc pc = .ok (.fastore, 1)) (kk : ∀ (τ : St) (H : Heap) (locs : List Loc), K τ = some r → Sit Γ τ s H locs → W p l e R s m args below meth c H locs cells slots Q (F0 m (pc + 1) ls rest)) : W p l e R s m args below meth c H locs cells slots Q (F0 m pc ls (.float v :: .int i :: .ref (ga Γ k o) :: rest)) := by
  obtain ⟨q0, hq0⟩ := wsl_get hK.2.1 σ ho
  have hq : (wsl Γ σ)[q0]? = some (ga Γ k o, aF Γ n (gF σ k o)) := by rw [hq0]; exact congrArg (fun z => some (ga Γ k o, z)) (hc _ _ _)
  refine va_fast hx hb hK.1 hw.1 (wsl_nd hK.2.1 (fun a h => Or.inl h)) hw.2 q0 3 hq rfl (inb_t (ck_t hf).1) hd (fun H1 locs1 hP _ hS => kk _ H1 locs1 (ck_t hf).2 ⟨?_, hS⟩)
  have he : cel Γ (sF σ k o i.toNatClampNeg v) k o = aF Γ n (vf_upd (gF σ k o) i.toNatClampNeg v) := by
    unfold cel
    rw [hc, sF_at]
    rfl
  have hs := wsl_set (τ := sF σ k o i.toNatClampNeg v) hK.2.1 hq0 ho (fun c1 o1 _ h => cel_sF c1 o1 h)
  rw [he] at hs
  rw [← hs]
  exact hP
theorem q_get (hx : p.tables.exec = Jvm.exec) (hb : c.code = cc) (hK : KK Γ S s.heap.size s) (hw : Sit Γ σ s H locs) {own ref C : String} {T : u_T} {N ci index k o : Nat} (hown : s.vm.findClass own = some m.cls) (hin : ∀ w ∈ u_ws C T N, w ∈ lw_tbl) (hins : (u_ws C T N).all pw_st = true) (hci : vwCl[ci]? = some (C, T, N)) {fs : List Value} (he : cel Γ σ k o = .inr (ci, fs)) (ho : o < cnt (gn Γ) k) (j : Nat) (hj : j < N) (i : Nat) (hi : lw_tbl[i]? = some (Cond.fieldLink own index ref (T j).2.1 (T j).2.2.1)) (hsame : ref = (T j).1) {v : Value} (hv : fs[j]? = some v) (hd : decode cc pc = .ok (.getfield index, 3)) (kk : W p l e R s m args below meth c H locs cells slots Q (F0 m (pc + 3) ls (v :: rest))) : W p l e R s m args below meth c H locs cells slots Q (F0 m pc ls (.ref (ga Γ k o) :: rest)) := by
  obtain ⟨q0, hq⟩ := wsl_get hK.2.1 σ ho
  rw [he] at hq
  exact va_get hx hb (kw_in hK.2.2.2.2.1 hin hins) (fun _ h => h) hown hK.1 hw.1 q0 hq hci j hj (kw_at hK.2.2.2.2.1 i hi rfl) (fun x h => by rw [hsame]; exact h) hv hd kk
theorem q_puti (hx : p.tables.exec = Jvm.exec) (hb : c.code = cc) (hK : KK Γ S s.heap.size s) (hw : Sit Γ σ s H locs) {own ref C : String} {T : u_T} {N ci index k o : Nat} (hown : s.vm.findClass own = some m.cls) (hin : ∀ w ∈ u_ws C T N, w ∈ lw_tbl) (hins : (u_ws C T N).all pw_st = true) (ty0 : Nat → FieldType) (hty : ∀ k, k < N → parseFieldDescriptor (T k).2.2.1 = some (ty0 k)) (hnm : ∀ a, a < N → ∀ b, b < N → a ≠ b → (T a).2.1 ≠ (T b).2.1) (hci : vwCl[ci]? = some (C, T, N)) {fs : (Nat → Int32) → (Nat → UInt32) → ((Nat → Nat) × (Nat → Int64) × (Nat → UInt64)) → List Value} (hc : ∀ f g ρ, cell1 Γ k o f g ρ = .inr (ci, fs f g ρ)) (ho : o < cnt (gn Γ) k) (j : Nat) (hj : j < N) (i : Nat) (hi : lw_tbl[i]? = some (Cond.fieldLink own index ref (T j).2.1 (T j).2.2.1)) (hsame : ref = (T j).1) (hfin : (T j).2.2.2 = false) (htj : parseFieldDescriptor (T j).2.2.1 = some .int) {v : Int32} (hlen : ∀ f g ρ, j < (fs f g ρ).length) (hset : ∀ f g ρ, fs (upd f j v) g ρ = (fs f g ρ).set j (.int v)) {K : St → Option β} (hf : vl (sI σ k o j v) K = some r) (hd : decode cc pc = .ok (.putfield index, 3)) (kk : ∀ (τ : St) (H : Heap) (locs : List Loc), K τ = some r → Sit Γ τ s H locs → W p l e R s m args below meth c H locs cells slots Q (F0 m (pc + 3) ls rest)) : W p l e R s m args below meth c H locs cells slots Q (F0 m pc ls (.int v :: .ref (ga Γ k o) :: rest)) := by
  obtain ⟨q0, hq0⟩ := wsl_get hK.2.1 σ ho
  have hq : (wsl Γ σ)[q0]? = some (ga Γ k o, .inr (ci, fs (σ.1 k o) (σ.2.1 k o) σ.2.2)) := by rw [hq0]; exact congrArg (fun z => some (ga Γ k o, z)) (hc _ _ _)
  refine va_put hx hb (kw_in hK.2.2.2.2.1 hin hins) (fun _ h => h) ty0 hty hnm hown hK.1 hw.1 (wsl_nd hK.2.1 (fun a h => Or.inl h)) hw.2 q0 hq hci j hj (kw_at hK.2.2.2.2.1 i hi rfl) (fun x h => by rw [hsame]; exact h) hfin htj rfl rfl (hlen _ _ _) hd (fun H1 locs1 hP _ hS => kk _ H1 locs1 hf ⟨?_, hS⟩)
  have he : cel Γ (sI σ k o j v) k o = .inr (ci, (fs (σ.1 k o) (σ.2.1 k o) σ.2.2).set j (.int v)) := by
    unfold cel
    rw [hc, sI_at, hset]
    rfl
  have hs := wsl_set (τ := sI σ k o j v) hK.2.1 hq0 ho (fun c1 o1 _ h => cel_sI c1 o1 h)
  rw [he] at hs
  rw [← hs]
  exact hP
theorem q_istore_n (hx : p.tables.exec = Jvm.exec) (hb : c.code = cc) {k : Fin 4} {i nL : Nat} {x : Int32} {lv lv1 : List (Nat × Value)} {K : Int32 → Option β} (hf : vl x K = some r) (hd : decode cc pc = .ok (.istore_n k, 1)) (hi : (k : Nat) = i) (hl : lv_has ls nL lv) (hn : i < nL) (hv : lv.filter (fun q => !(q.1 == i) && !(q.1 + 1 == i && q.2.category == 2)) = lv1) (kk : ∀ (v : Int32) (ls : Array Slot), K v = some r → lv_has ls nL ((i, .int v) :: lv1) → W p l e R s m args below meth c H locs cells slots Q (F0 m (pc + 1) ls rest)) : W p l e R s m args below meth c H locs cells slots Q (F0 m pc ls (.int x :: rest)) :=
  lv_istore_n hx hb hd hi hl hn (congrArg (fun z => (i, Value.int x) :: z) hv) (fun ls1 h1 => kk x ls1 hf h1)
theorem q_istore (hx : p.tables.exec = Jvm.exec) (hb : c.code = cc)  {i nL : Nat} {x : Int32} {lv lv1 : List (Nat × Value)} {K : Int32 → Option β} (hf : vl x K = some r) (hd : decode cc pc = .ok (.istore i, 2)) (hl : lv_has ls nL lv) (hn : i < nL) (hv : lv.filter (fun q => !(q.1 == i) && !(q.1 + 1 == i && q.2.category == 2)) = lv1) (kk : ∀ (v : Int32) (ls : Array Slot), K v = some r → lv_has ls nL ((i, .int v) :: lv1) → W p l e R s m args below meth c H locs cells slots Q (F0 m (pc + 2) ls rest)) : W p l e R s m args below meth c H locs cells slots Q (F0 m pc ls (.int x :: rest)) :=
  lv_istore hx hb hd hl hn (congrArg (fun z => (i, Value.int x) :: z) hv) (fun ls1 h1 => kk x ls1 hf h1)
theorem q_fstore_n (hx : p.tables.exec = Jvm.exec) (hb : c.code = cc) {k : Fin 4} {i nL : Nat} {x : UInt32} {lv lv1 : List (Nat × Value)} {K : UInt32 → Option β} (hf : vl x K = some r) (hd : decode cc pc = .ok (.fstore_n k, 1)) (hi : (k : Nat) = i) (hl : lv_has ls nL lv) (hn : i < nL) (hv : lv.filter (fun q => !(q.1 == i) && !(q.1 + 1 == i && q.2.category == 2)) = lv1) (kk : ∀ (v : UInt32) (ls : Array Slot), K v = some r → lv_has ls nL ((i, .float v) :: lv1) → W p l e R s m args below meth c H locs cells slots Q (F0 m (pc + 1) ls rest)) : W p l e R s m args below meth c H locs cells slots Q (F0 m pc ls (.float x :: rest)) :=
  lv_fstore_n hx hb hd hi hl hn (congrArg (fun z => (i, Value.float x) :: z) hv) (fun ls1 h1 => kk x ls1 hf h1)
theorem q_fstore (hx : p.tables.exec = Jvm.exec) (hb : c.code = cc)  {i nL : Nat} {x : UInt32} {lv lv1 : List (Nat × Value)} {K : UInt32 → Option β} (hf : vl x K = some r) (hd : decode cc pc = .ok (.fstore i, 2)) (hl : lv_has ls nL lv) (hn : i < nL) (hv : lv.filter (fun q => !(q.1 == i) && !(q.1 + 1 == i && q.2.category == 2)) = lv1) (kk : ∀ (v : UInt32) (ls : Array Slot), K v = some r → lv_has ls nL ((i, .float v) :: lv1) → W p l e R s m args below meth c H locs cells slots Q (F0 m (pc + 2) ls rest)) : W p l e R s m args below meth c H locs cells slots Q (F0 m pc ls (.float x :: rest)) :=
  lv_fstore hx hb hd hl hn (congrArg (fun z => (i, Value.float x) :: z) hv) (fun ls1 h1 => kk x ls1 hf h1)
theorem q_lstore_n (hx : p.tables.exec = Jvm.exec) (hb : c.code = cc) {k : Fin 4} {i nL : Nat} {x : Int64} {lv lv1 : List (Nat × Value)} {K : Int64 → Option β} (hf : vl x K = some r) (hd : decode cc pc = .ok (.lstore_n k, 1)) (hi : (k : Nat) = i) (hl : lv_has ls nL lv) (hn : i + 1 < nL) (hv : lv.filter (fun q => !(q.1 == i) && (!(q.1 == i + 1) && !(q.1 + 1 == i && q.2.category == 2))) = lv1) (kk : ∀ (v : Int64) (ls : Array Slot), K v = some r → lv_has ls nL ((i, .long v) :: lv1) → W p l e R s m args below meth c H locs cells slots Q (F0 m (pc + 1) ls rest)) : W p l e R s m args below meth c H locs cells slots Q (F0 m pc ls (.long x :: rest)) :=
  lv_lstore_n hx hb hd hi hl hn (congrArg (fun z => (i, Value.long x) :: z) hv) (fun ls1 h1 => kk x ls1 hf h1)
theorem q_lstore (hx : p.tables.exec = Jvm.exec) (hb : c.code = cc)  {i nL : Nat} {x : Int64} {lv lv1 : List (Nat × Value)} {K : Int64 → Option β} (hf : vl x K = some r) (hd : decode cc pc = .ok (.lstore i, 2)) (hl : lv_has ls nL lv) (hn : i + 1 < nL) (hv : lv.filter (fun q => !(q.1 == i) && (!(q.1 == i + 1) && !(q.1 + 1 == i && q.2.category == 2))) = lv1) (kk : ∀ (v : Int64) (ls : Array Slot), K v = some r → lv_has ls nL ((i, .long v) :: lv1) → W p l e R s m args below meth c H locs cells slots Q (F0 m (pc + 2) ls rest)) : W p l e R s m args below meth c H locs cells slots Q (F0 m pc ls (.long x :: rest)) :=
  lv_lstore hx hb hd hl hn (congrArg (fun z => (i, Value.long x) :: z) hv) (fun ls1 h1 => kk x ls1 hf h1)
theorem q_dstore_n (hx : p.tables.exec = Jvm.exec) (hb : c.code = cc) {k : Fin 4} {i nL : Nat} {x : UInt64} {lv lv1 : List (Nat × Value)} {K : UInt64 → Option β} (hf : vl x K = some r) (hd : decode cc pc = .ok (.dstore_n k, 1)) (hi : (k : Nat) = i) (hl : lv_has ls nL lv) (hn : i + 1 < nL) (hv : lv.filter (fun q => !(q.1 == i) && (!(q.1 == i + 1) && !(q.1 + 1 == i && q.2.category == 2))) = lv1) (kk : ∀ (v : UInt64) (ls : Array Slot), K v = some r → lv_has ls nL ((i, .double v) :: lv1) → W p l e R s m args below meth c H locs cells slots Q (F0 m (pc + 1) ls rest)) : W p l e R s m args below meth c H locs cells slots Q (F0 m pc ls (.double x :: rest)) :=
  lv_dstore_n hx hb hd hi hl hn (congrArg (fun z => (i, Value.double x) :: z) hv) (fun ls1 h1 => kk x ls1 hf h1)
theorem q_dstore (hx : p.tables.exec = Jvm.exec) (hb : c.code = cc)  {i nL : Nat} {x : UInt64} {lv lv1 : List (Nat × Value)} {K : UInt64 → Option β} (hf : vl x K = some r) (hd : decode cc pc = .ok (.dstore i, 2)) (hl : lv_has ls nL lv) (hn : i + 1 < nL) (hv : lv.filter (fun q => !(q.1 == i) && (!(q.1 == i + 1) && !(q.1 + 1 == i && q.2.category == 2))) = lv1) (kk : ∀ (v : UInt64) (ls : Array Slot), K v = some r → lv_has ls nL ((i, .double v) :: lv1) → W p l e R s m args below meth c H locs cells slots Q (F0 m (pc + 2) ls rest)) : W p l e R s m args below meth c H locs cells slots Q (F0 m pc ls (.double x :: rest)) :=
  lv_dstore hx hb hd hl hn (congrArg (fun z => (i, Value.double x) :: z) hv) (fun ls1 h1 => kk x ls1 hf h1)
theorem q_iinc (hx : p.tables.exec = Jvm.exec) (hb : c.code = cc) {i nL k : Nat} {n : Int} {x d : Int32} {lv lv1 : List (Nat × Value)} {K : Int32 → Option β} (hf : vl (x + d) K = some r) (hd : decode cc pc = .ok (.iinc i n, 3)) (hl : lv_has ls nL lv) (hk : lv[k]? = some (i, .int x)) (hdn : Int32.ofInt n = d) (hn : i < nL) (hv : lv.filter (fun q => !(q.1 == i) && !(q.1 + 1 == i && q.2.category == 2)) = lv1) (kk : ∀ (v : Int32) (ls : Array Slot), K v = some r → lv_has ls nL ((i, .int v) :: lv1) → W p l e R s m args below meth c H locs cells slots Q (F0 m (pc + 3) ls rest)) : W p l e R s m args below meth c H locs cells slots Q (F0 m pc ls rest) :=
  lv_iinc hx hb hd hl hk (by rw [hdn]) hn (congrArg (fun z => (i, Value.int (x + d)) :: z) hv) (fun ls1 h1 => kk _ ls1 hf h1)
end QR
