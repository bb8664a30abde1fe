/-! The law's own methods: calls whose throws they take, and their two out arrays. -/
def CW (Γ : Gm) (S : List (String × Nat × String)) (l : Launch) (y : MethodName) (b : ByteArray) (maxL : Nat) (ret : Option FieldType) (hh : List (Nat × Nat × Nat × Nat)) (fr lo mc ms : Nat) (As : List Value) (vo : Option Value) (σ τ : St) : Prop :=
  ∀ sz : Nat, Met l y [Cond.codeWith y b maxL ret hh] { frames := fr, cells := mc, slots := ms, locals := lo } (va_Pc As (PW Γ S σ sz)) (Qg Γ vo τ (AA Γ sz)) mc ms (AA Γ sz)
def MW (y : MethodName) (b : ByteArray) (maxL : Nat) (ret : Option FieldType) (hh : List (Nat × Nat × Nat × Nat)) (n : Nat) : Prop :=
  (Cond.static y ∈ lw_tbl ∧ Cond.codeWith y b maxL ret hh ∈ lw_tbl ∧ Cond.initialized y.cls ∈ lw_tbl) ∧ y.cls ≠ "java/lang/invoke/MethodHandle" ∧ y.cls ≠ "java/lang/invoke/VarHandle" ∧ (parseMethodDescriptor y.desc).map (fun d => d.parameters.length) = some n
theorem cel_sJ {Γ : Gm} {σ : St} {j : Nat} {v : Int64} (c' o' : Nat) (h : ¬ c' = 180) : cel Γ (sJ σ j v) c' o' = cel Γ σ c' o' := by
  unfold cel cell1
  split <;> first | rfl | exact absurd rfl h
theorem cel_sD {Γ : Gm} {σ : St} {j : Nat} {v : UInt64} (c' o' : Nat) (h : ¬ c' = 181) : cel Γ (sD σ j v) c' o' = cel Γ σ c' o' := by
  unfold cel cell1
  split <;> first | rfl | exact absurd rfl h
theorem cw_body {Γ : Gm} {S : List (String × Nat × String)} {l : Launch} {y : MethodName} {b : ByteArray} {maxL : Nat} {ret : Option FieldType} {hh : List (Nat × Nat × Nat × Nat)} {fr lo mc ms : Nat} {As : List Value} {vo : Option Value} {σ τ : St} {lv : List (Nat × Value)} (hy : plainName y.cls = true) (hlv : lv_args 0 As = lv) (hle : (lg_sl As).length ≤ maxL)
    (body : ∀ (p : Program) (e : Env) (s : State) (m : MethodId) (below : List Frame) (meth : Method) (c : Code) (ls : Array Slot), Fx p c b maxL s m y.cls → meth.sig.returnType = ret → meth.locks = false → KK Γ S s.heap.size s → Sit Γ σ s s.heap [] → lv_has ls maxL lv → c.exceptionTable.toList = tableOf hh →
      W p l e { frames := fr, cells := mc, slots := ms, locals := lo } s m As.toArray below meth c s.heap [] 0 0 (MQ below (Qg Γ vo τ (AA Γ s.heap.size)) As.toArray s mc ms (AA Γ s.heap.size)) (F0 m 0 ls [])) : CW Γ S l y b maxL ret hh fr lo mc ms As vo σ τ := by
  intro sz
  refine va_MetW (cc := b) (maxL := maxL) (ret := ret) (hh := hh) hy rfl ?_
  intro p e s m args below meth c s₁ B hml hv
  obtain ⟨rfl, rfl, hP, hK⟩ := hv
  have ht := vx_table (x := y) B (atoms_spec (ws := [Cond.codeWith y b maxL ret hh]) B.pre _ List.mem_cons_self)
  have hl := lv_entry As hle
  rw [lg_entry_eq]
  rw [hlv] at hl
  exact body p e s m below meth c _ ⟨B.exec, B.bytes, hml, findClass_of_methodNamed B.named⟩ B.returns B.notSynchronized hK ⟨hP, va_S.rf⟩ hl ht
section QW
variable {p : Program} {l : Launch} {e : Env} {R : Room} {s : State} {m : MethodId} {args : Array Value} {below : List Frame} {meth : Method} {c : Code} {H : Heap} {locs : List Loc} {cells slots : Nat} {Q : State → Prop}
variable {cc : ByteArray} {pc : Nat} {ls : Array Slot} {rest st0 : List Value} {Γ : Gm} {S : List (String × Nat × String)} {σ τ : St} {β γ : Type} {r : γ} {vo : Option Value}
variable {own : String} {index nL maxL fr lo mc ms n : Nat} {y : MethodName} {b : ByteArray} {ret : Option FieldType} {hh : List (Nat × Nat × Nat × Nat)} {As : List Value}
theorem q_rW (X : Fx p c cc nL s m own) (hK : KK Γ S s.heap.size s) (hw : Sit Γ σ s H locs) (hM : CW Γ S l y b maxL ret hh fr lo mc ms As vo σ τ) (hv : MW y b maxL ret hh n) (hl : Cond.methodLink own index y ∈ lw_tbl) (hR : fr + 1 ≤ R.frames ∧ 8 + (maxL + 11) + lo ≤ R.locals)
    (hn : As.length = n) (hsz : ls.size = nL) (hst : st0 = As.reverse ++ rest) (hW : (rest.map fun v => v.category).sum ≤ 8) (hd : decode cc pc = .ok (.invokestatic index, 3)) (hf : cells + mc ≤ R.cells ∧ slots + ms ≤ R.slots) :
    va_Run p l e R s m args below meth c H locs cells slots mc ms (F0 m pc ls st0) rest (Qg Γ vo τ (AA Γ H.size) As.toArray) (AA Γ H.size) := by
  refine vx_runSW (fx_cf X) (hM H.size) ⟨⟨rfl, rfl, hR.1, hR.2, fun w hw a' U hW => ?_, List.mem_cons_self⟩, kw_m hK.2.2.2.2.1 hv.1.2.1 rfl, kw_m hK.2.2.2.2.1 hv.1.2.2 rfl, ⟨hv.2.1, hv.2.2.1⟩, fun sig h => ?_, kw_m hK.2.2.2.2.1 hl rfl, kw_m hK.2.2.2.2.1 hv.1.1 rfl⟩ ⟨pw_blind, fun U hU hW => ⟨rfl, pw_at hK hw hU hW⟩⟩ rfl hn hsz hst (lv_room (rest := st0) (ls := ls) (pc := pc) (m := m) hW) hd hf
  · rw [List.mem_singleton.mp hw]
    exact pw_warm rfl hW (kw_m (A := #[]) hK.2.2.2.2.1 hv.1.2.1 rfl)
  · have h2 := hv.2.2.2
    rw [h] at h2
    exact (Option.some.inj h2).symm
theorem q_last0 (hx : p.tables.exec = Jvm.exec) (hb : c.code = cc) (hK : KK Γ S s.heap.size s) (hw : Sit Γ σ s H locs) {x : Int64} {K : St → Option γ} (hf : vl (sJ σ 0 x) K = some r) (hd : decode cc pc = .ok (.lastore, 1)) (kk : ∀ (τ : St) (H : Heap) (locs : List Loc), K τ = some r → Sit Γ τ s H locs → W p l e R s m args below meth c H locs cells slots Q (F0 m (pc + 1) ls rest)) : W p l e R s m args below meth c H locs cells slots Q (F0 m pc ls (.long x :: .int 0 :: .ref (ga Γ 180 0) :: rest)) := by
  have ho : 0 < cnt (gn Γ) 180 := Nat.le_refl 1
  obtain ⟨q0, hq0⟩ := wsl_get hK.2.1 σ ho
  refine va_last hx hb hK.1 hw.1 (wsl_nd hK.2.1 (fun a h => Or.inl h)) hw.2 q0 7 hq0 rfl (inb_t (i := 0) (n := 1) (by decide)) hd (fun H1 locs1 hP _ hS => kk (sJ σ 0 x) H1 locs1 hf ⟨?_, hS⟩)
  have hs := wsl_set (τ := sJ σ 0 x) hK.2.1 hq0 ho (fun c1 o1 h1 h => cel_sJ c1 o1 (fun q => by subst q; have h2 : o1 < 1 := h1; exact h ⟨rfl, by omega⟩))
  rw [← hs]
  exact hP
theorem q_dast0 (hx : p.tables.exec = Jvm.exec) (hb : c.code = cc) (hK : KK Γ S s.heap.size s) (hw : Sit Γ σ s H locs) {x : UInt64} {K : St → Option γ} (hf : vl (sD σ 0 x) K = some r) (hd : decode cc pc = .ok (.dastore, 1)) (kk : ∀ (τ : St) (H : Heap) (locs : List Loc), K τ = some r → Sit Γ τ s H locs → W p l e R s m args below meth c H locs cells slots Q (F0 m (pc + 1) ls rest)) : W p l e R s m args below meth c H locs cells slots Q (F0 m pc ls (.double x :: .int 0 :: .ref (ga Γ 181 0) :: rest)) := by
  have ho : 0 < cnt (gn Γ) 181 := Nat.le_refl 1
  obtain ⟨q0, hq0⟩ := wsl_get hK.2.1 σ ho
  refine va_dast hx hb hK.1 hw.1 (wsl_nd hK.2.1 (fun a h => Or.inl h)) hw.2 q0 8 hq0 rfl (inb_t (i := 0) (n := 1) (by decide)) hd (fun H1 locs1 hP _ hS => kk (sD σ 0 x) H1 locs1 hf ⟨?_, hS⟩)
  have hs := wsl_set (τ := sD σ 0 x) hK.2.1 hq0 ho (fun c1 o1 h1 h => cel_sD c1 o1 (fun q => by subst q; have h2 : o1 < 1 := h1; exact h ⟨rfl, by omega⟩))
  rw [← hs]
  exact hP
theorem q_lald0 (hx : p.tables.exec = Jvm.exec) (hb : c.code = cc) (hK : KK Γ S s.heap.size s) (hw : Sit Γ σ s H locs) (hd : decode cc pc = .ok (.laload, 1)) (kk : W p l e R s m args below meth c H locs cells slots Q (F0 m (pc + 1) ls (.long (gJ σ 0) :: rest))) : W p l e R s m args below meth c H locs cells slots Q (F0 m pc ls (.int 0 :: .ref (ga Γ 180 0) :: rest)) := by
  have ho : 0 < cnt (gn Γ) 180 := Nat.le_refl 1
  obtain ⟨q0, hq0⟩ := wsl_get hK.2.1 σ ho
  exact va_lald hx hb hK.1 hw.1 q0 7 hq0 rfl (inb_t (i := 0) (n := 1) (by decide)) hd kk
theorem q_dald0 (hx : p.tables.exec = Jvm.exec) (hb : c.code = cc) (hK : KK Γ S s.heap.size s) (hw : Sit Γ σ s H locs) (hd : decode cc pc = .ok (.daload, 1)) (kk : W p l e R s m args below meth c H locs cells slots Q (F0 m (pc + 1) ls (.double (gD σ 0) :: rest))) : W p l e R s m args below meth c H locs cells slots Q (F0 m pc ls (.int 0 :: .ref (ga Γ 181 0) :: rest)) := by
  have ho : 0 < cnt (gn Γ) 181 := Nat.le_refl 1
  obtain ⟨q0, hq0⟩ := wsl_get hK.2.1 σ ho
  exact va_dald hx hb hK.1 hw.1 q0 8 hq0 rfl (inb_t (i := 0) (n := 1) (by decide)) hd kk
/-- a call that may throw, in a method that takes the throw -/
theorem q_hg {rs1 : ((β ⊕ String) × St) → Rs} {f : β → Option Value} (h1 : ∀ v τ, rs1 (.inl v, τ) = (.inl (f v), τ)) (h1x : ∀ E τ, rs1 (.inr E, τ) = (.inr E, τ)) {x : Option ((β ⊕ String) × St)} {hd : String → St → Option γ} {K : β → St → Option γ} (hf : ox x hd K = some r) (hw : Sit Γ σ s H locs) {a : ((β ⊕ String) × St) → Array Value}
    (hr : ∀ u, x = some u → vx_Run p l e R s m args below meth c H locs cells slots mc ms (F0 m pc ls st0) rest (Qx Γ (rs1 u) (AA Γ H.size) (a u)) (Xx Γ (rs1 u) (AA Γ H.size)) (AA Γ H.size))
    (kx : ∀ (E : String) (τ : St) (ce : Cell) (q9 : Addr) (H : Heap) (locs : List Loc), hd E τ = some r → Sit Γ τ s H locs → H[q9]? = some ce → ce.vm = .none → s.vm.findClass E = some ce.cls → vx_W p l e R s m args below meth c H locs (cells + mc) (slots + ms) Q (F0 m pc ls rest) q9)
    (kk : ∀ (v : β) (τ : St) (H : Heap) (locs : List Loc), K v τ = some r → Sit Γ τ s H locs → W p l e R s m args below meth c H locs (cells + mc) (slots + ms) Q (F0 m (pc + 3) ls ((f v).toList ++ rest))) : W p l e R s m args below meth c H locs cells slots Q (F0 m pc ls st0) := by
  rcases ox_t hf with ⟨v, τ, e1, e2⟩ | ⟨E, τ, e1, e2⟩
  · refine q_gox (hr _ e1) hw.2 (fun E ce q9 H1 locs1 hu => ?_) (fun vo H1 locs1 hu hw1 => ?_)
    · rw [h1] at hu; cases hu
    · rw [h1] at hu hw1
      cases hu
      exact kk v τ H1 locs1 e2 hw1
  · refine q_gox (hr _ e1) hw.2 (fun E2 ce q9 H1 locs1 hu hw1 g1 g2 g3 => ?_) (fun vo H1 locs1 hu hw1 => ?_)
    · rw [h1x] at hu hw1
      cases hu
      exact kx E τ ce q9 H1 locs1 e2 hw1 g1 g2 g3
    · rw [h1x] at hu; cases hu
theorem q_ch {E E1 : String} {A B : Option γ} {G : Prop} (hf : (if E = E1 then A else B) = some r) (k1 : E = E1 → A = some r → G) (k2 : B = some r → G) : G := by
  by_cases h : E = E1
  · rw [if_pos h] at hf; exact k1 h hf
  · rw [if_neg h] at hf; exact k2 hf
theorem ps_nil {P : ExceptionTableEntry → Prop} : ∀ z ∈ ([] : List ExceptionTableEntry), P z := fun _ h => nomatch h
theorem ps_cons {E nm : String} {z : ExceptionTableEntry} {L : List ExceptionTableEntry} (hK : KK Γ S s.heap.size s) (h0 : z.catchType ≠ 0) (hl : Cond.classLink own z.catchType nm ∈ lw_tbl) (hn : (E, nm) ∈ NCL)
    (h : ∀ z ∈ L, covers z pc = false ∨ (z.catchType ≠ 0 ∧ ∃ nm : String, (Cond.classLink own z.catchType nm).before args s = true ∧ va_Nc E nm s)) : ∀ z' ∈ z :: L, covers z' pc = false ∨ (z'.catchType ≠ 0 ∧ ∃ nm : String, (Cond.classLink own z'.catchType nm).before args s = true ∧ va_Nc E nm s) := by
  intro z' h'
  rcases List.mem_cons.mp h' with rfl | h'
  · exact Or.inr ⟨h0, nm, kw_m hK.2.2.2.2.1 hl rfl, hK.2.2.2.2.2.2 _ hn⟩
  · exact h z' h'
theorem q_catch {E : String} {ce : Cell} {q9 : Addr} (X : Fx p c cc nL s m own) (hK : KK Γ S s.heap.size s) (pre : List ExceptionTableEntry) (x : ExceptionTableEntry) (suf : List ExceptionTableEntry) (hsplit : c.exceptionTable.toList = pre ++ x :: suf)
    (hpass : ∀ z ∈ pre, covers z pc = false ∨ (z.catchType ≠ 0 ∧ ∃ nm : String, (Cond.classLink own z.catchType nm).before args s = true ∧ va_Nc E nm s)) (hcv : covers x pc = true) (h0 : x.catchType ≠ 0) (hl : Cond.classLink own x.catchType E ∈ lw_tbl) (hct : Cond.castable E E ∈ lw_tbl)
    (g1 : H[q9]? = some ce) (g2 : ce.vm = .none) (g3 : s.vm.findClass E = some ce.cls) {tgt : Nat} (ht : x.handlerPc = tgt) (kk : W p l e R s m args below meth c H locs cells slots Q (F0 m tgt ls [.ref q9])) : vx_W p l e R s m args below meth c H locs cells slots Q (F0 m pc ls rest) q9 := by
  subst ht
  exact vx_catch X.2.2.2 pre x suf hsplit hpass hcv h0 (kw_m hK.2.2.2.2.1 hl rfl) (kw_m hK.2.2.2.2.1 hct rfl) g1 g2 g3 kk
end QW
