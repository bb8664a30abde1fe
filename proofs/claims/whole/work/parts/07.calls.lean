/-! Calls and ends. -/
section QD
variable {p : Program} {l : Launch} {e : Env} {R : Room} {s : State} {m : MethodId} {args : Array Value} {below : List Frame} {meth : Method} {c : Code} {H : Heap} {locs : List Loc} {cells slots : Nat} {Q : State → Prop}
variable {cc : ByteArray} {pc : Nat} {ls : Array Slot} {rest st0 : List Value} {Γ : Gm} {S : List (String × Nat × String)} {σ τ : St} {β : Type} {r : β} {vo : Option Value}
variable {own : String} {index nL maxL fr lo mc ms n : Nat} {y : MethodName} {b : ByteArray} {ret : Option FieldType} {As : List Value}
/-- what stands fast in a walk: the machine, the code, its class -/
abbrev Fx (p : Program) (c : Code) (cc : ByteArray) (nL : Nat) (s : State) (m : MethodId) (own : String) : Prop := p.tables.exec = Jvm.exec ∧ c.code = cc ∧ c.maxLocals = nL ∧ s.vm.findClass own = some m.cls
theorem fx_cf (X : Fx p c cc nL s m own) : CallFix p m c cc nL s args [] own := ⟨X.1, X.2.1, X.2.2.1, X.2.2.2, fun _ h => nomatch h⟩
theorem mk_recv (hK : KK Γ S s.heap.size s) (hw : Sit Γ σ s H locs) {k o ci : Nat} {fs : List Value} {q : vw_C} (he : cel Γ σ k o = .inr (ci, fs)) (ho : o < cnt (gn Γ) k) (hci : vwCl[ci]? = some q) : ∃ cell : Cell, H[ga Γ k o]? = some cell ∧ cell.vm.isStatics = false ∧ s.vm.findClass q.1 = some cell.cls := by
  obtain ⟨q0, hq⟩ := wsl_get hK.2.1 σ ho
  rw [he] at hq
  exact va_recv hK.1 hw.1 hci hq
theorem q_rV (X : Fx p c cc nL s m own) (hK : KK Γ S s.heap.size s) (hw : Sit Γ σ s H locs) {k o ci : Nat} {fs : List Value} {q : vw_C} (he : cel Γ σ k o = .inr (ci, fs)) (ho : o < cnt (gn Γ) k) (hci : vwCl[ci]? = some q) (hM : CT Γ S l y b maxL ret fr lo mc ms (.ref (ga Γ k o) :: As) vo σ τ) (hv : MV q.1 y b maxL ret n) (hl : Cond.methodLink own index y ∈ lw_tbl) (hR : fr + 1 ≤ R.frames ∧ 8 + (maxL + 11) + lo ≤ R.locals)
    (hn : As.length = n) (hsz : ls.size = nL) (hst : st0 = As.reverse ++ .ref (ga Γ k o) :: rest) (hW : (rest.map fun v => v.category).sum ≤ 8) (hd : decode cc pc = .ok (.invokevirtual index, 3)) (hf : cells + mc ≤ R.cells ∧ slots + ms ≤ R.slots) :
    va_Run p l e R s m args below meth c H locs cells slots mc ms (F0 m pc ls st0) rest (Qg Γ vo τ (AA Γ H.size) (Value.ref (ga Γ k o) :: As).toArray) (AA Γ H.size) :=
  va_runV (fx_cf X) (hM H.size) ⟨mk_B hK.2.2.2.2.1 hv.1.2.2.2.1 hv.1.2.2.2.2 hl hv.2 hR, kw_m hK.2.2.2.2.1 hv.1.1 rfl, kw_m hK.2.2.2.2.1 hv.1.2.1 hv.1.2.2.1⟩ ⟨pw_blind, mk_recv hK hw he ho hci, fun U hU hW => ⟨rfl, pw_at hK hw hU hW⟩⟩ rfl hn hsz hst (lv_room (rest := st0) (ls := ls) (pc := pc) (m := m) hW) hd hf
theorem q_rS (X : Fx p c cc nL s m own) (hK : KK Γ S s.heap.size s) (hw : Sit Γ σ s H locs) (hM : CT Γ S l y b maxL ret fr lo mc ms As vo σ τ) (hv : MS y b maxL ret n) (hl : Cond.methodLink own index y ∈ lw_tbl) (hR : fr + 1 ≤ R.frames ∧ 8 + (maxL + 11) + lo ≤ R.locals)
    (hn : As.length = n) (hsz : ls.size = nL) (hst : st0 = As.reverse ++ rest) (hW : (rest.map fun v => v.category).sum ≤ 8) (hd : decode cc pc = .ok (.invokestatic index, 3)) (hf : cells + mc ≤ R.cells ∧ slots + ms ≤ R.slots) :
    va_Run p l e R s m args below meth c H locs cells slots mc ms (F0 m pc ls st0) rest (Qg Γ vo τ (AA Γ H.size) As.toArray) (AA Γ H.size) :=
  va_runS (fx_cf X) (hM H.size) ⟨mk_B hK.2.2.2.2.1 hv.1.2.1 hv.1.2.2 hl hv.2 hR, kw_m hK.2.2.2.2.1 hv.1.1 rfl⟩ ⟨pw_blind, fun U hU hW => ⟨rfl, pw_at hK hw hU hW⟩⟩ rfl hn hsz hst (lv_room (rest := st0) (ls := ls) (pc := pc) (m := m) hW) hd hf
theorem mk_CN {R : Room} {s : State} {args : Array Value} {own host : String} {index : Nat} {y : MethodName} {b : ByteArray} {maxL fr lo mc ms n : Nat} {ret : Option FieldType} (hK : KW s) (h1 : Cond.code y b maxL ret ∈ lw_tbl) (h2 : Cond.initialized y.cls ∈ lw_tbl) (h3 : Cond.methodLinkNest own index y host ∈ lw_tbl)
    (hd : y.cls ≠ "java/lang/invoke/MethodHandle" ∧ y.cls ≠ "java/lang/invoke/VarHandle" ∧ (parseMethodDescriptor y.desc).map (fun d => d.parameters.length) = some n) (hR : fr + 1 ≤ R.frames ∧ 8 + (maxL + 11) + lo ≤ R.locals) :
    va_CN R s args own index y host b maxL ret [Cond.code y b maxL ret] { frames := fr, cells := mc, slots := ms, locals := lo } mc ms n := by
  refine ⟨⟨rfl, rfl, hR.1, hR.2, fun w hw a' U hW => ?_, List.mem_cons_self⟩, kw_m hK h1 rfl, kw_m hK h2 rfl, ⟨hd.1, hd.2.1⟩, fun sig h => ?_, kw_m hK h3 rfl⟩
  · rw [List.mem_singleton.mp hw]
    exact pw_warm rfl hW (kw_m (A := #[]) hK h1 rfl)
  · have h2 := hd.2.2
    rw [h] at h2
    exact (Option.some.inj h2).symm
theorem q_rSN {host : String} (X : Fx p c cc nL s m own) (hK : KK Γ S s.heap.size s) (hw : Sit Γ σ s H locs) (hM : CT Γ S l y b maxL ret fr lo mc ms As vo σ τ) (hv : MS y b maxL ret n) (hl : Cond.methodLinkNest own index y host ∈ lw_tbl) (hR : fr + 1 ≤ R.frames ∧ 8 + (maxL + 11) + lo ≤ R.locals)
    (hn : As.length = n) (hsz : ls.size = nL) (hst : st0 = As.reverse ++ rest) (hW : (rest.map fun v => v.category).sum ≤ 8) (hd : decode cc pc = .ok (.invokestatic index, 3)) (hf : cells + mc ≤ R.cells ∧ slots + ms ≤ R.slots) :
    va_Run p l e R s m args below meth c H locs cells slots mc ms (F0 m pc ls st0) rest (Qg Γ vo τ (AA Γ H.size) As.toArray) (AA Γ H.size) :=
  va_runSN (fx_cf X) (hM H.size) ⟨mk_CN hK.2.2.2.2.1 hv.1.2.1 hv.1.2.2 hl hv.2 hR, kw_m hK.2.2.2.2.1 hv.1.1 rfl, trivial⟩ ⟨pw_blind, fun U hU hW => ⟨rfl, pw_at hK hw hU hW⟩⟩ rfl hn hsz hst (lv_room (rest := st0) (ls := ls) (pc := pc) (m := m) hW) hd hf
/-- behind a call whose answer is a number that the pure side has, the state unchanged (mc = ms = 0) -/
theorem q_pI {x : Option Int32} {K : Int32 → Option β} (hf : ob x K = some r) (hw : Sit Γ σ s H locs) {a : Int32 → Array Value} (hr : ∀ v, x = some v → va_Run p l e R s m args below meth c H locs cells slots 0 0 (F0 m pc ls st0) rest (Qg Γ (some (.int v)) σ (AA Γ H.size) (a v)) (AA Γ H.size))
    (kk : ∀ (v : Int32) (H : Heap) (locs : List Loc), K v = some r → Sit Γ σ s H locs → W p l e R s m args below meth c H locs cells slots Q (F0 m (pc + 3) ls (.int v :: rest))) : W p l e R s m args below meth c H locs cells slots Q (F0 m pc ls st0) := by
  obtain ⟨v, h1, h2⟩ := ob_t hf
  exact q_go (hr v h1) hw.2 (fun H1 locs1 h => kk v H1 locs1 h2 h)
theorem q_pF {x : Option UInt32} {K : UInt32 → Option β} (hf : ob x K = some r) (hw : Sit Γ σ s H locs) {a : UInt32 → Array Value} (hr : ∀ v, x = some v → va_Run p l e R s m args below meth c H locs cells slots 0 0 (F0 m pc ls st0) rest (Qg Γ (some (.float v)) σ (AA Γ H.size) (a v)) (AA Γ H.size))
    (kk : ∀ (v : UInt32) (H : Heap) (locs : List Loc), K v = some r → Sit Γ σ s H locs → W p l e R s m args below meth c H locs cells slots Q (F0 m (pc + 3) ls (.float v :: rest))) : W p l e R s m args below meth c H locs cells slots Q (F0 m pc ls st0) := by
  obtain ⟨v, h1, h2⟩ := ob_t hf
  exact q_go (hr v h1) hw.2 (fun H1 locs1 h => kk v H1 locs1 h2 h)
theorem q_pJ {x : Option Int64} {K : Int64 → Option β} (hf : ob x K = some r) (hw : Sit Γ σ s H locs) {a : Int64 → Array Value} (hr : ∀ v, x = some v → va_Run p l e R s m args below meth c H locs cells slots 0 0 (F0 m pc ls st0) rest (Qg Γ (some (.long v)) σ (AA Γ H.size) (a v)) (AA Γ H.size))
    (kk : ∀ (v : Int64) (H : Heap) (locs : List Loc), K v = some r → Sit Γ σ s H locs → W p l e R s m args below meth c H locs cells slots Q (F0 m (pc + 3) ls (.long v :: rest))) : W p l e R s m args below meth c H locs cells slots Q (F0 m pc ls st0) := by
  obtain ⟨v, h1, h2⟩ := ob_t hf
  exact q_go (hr v h1) hw.2 (fun H1 locs1 h => kk v H1 locs1 h2 h)
/-- .. with a new state -/
theorem q_eI {x : Option (Int32 × St)} {K : Int32 → St → Option β} (hf : o2 x K = some r) (hw : Sit Γ σ s H locs) {a : Int32 → St → Array Value} (hr : ∀ v τ, x = some (v, τ) → va_Run p l e R s m args below meth c H locs cells slots mc ms (F0 m pc ls st0) rest (Qg Γ (some (.int v)) τ (AA Γ H.size) (a v τ)) (AA Γ H.size))
    (kk : ∀ (v : Int32) (τ : St) (H : Heap) (locs : List Loc), K v τ = some r → Sit Γ τ s H locs → W p l e R s m args below meth c H locs (cells + mc) (slots + ms) Q (F0 m (pc + 3) ls (.int v :: rest))) : W p l e R s m args below meth c H locs cells slots Q (F0 m pc ls st0) := by
  obtain ⟨v, τ, h1, h2⟩ := o2_t hf
  exact q_go (hr v τ h1) hw.2 (fun H1 locs1 h => kk v τ H1 locs1 h2 h)
theorem q_eF {x : Option (UInt32 × St)} {K : UInt32 → St → Option β} (hf : o2 x K = some r) (hw : Sit Γ σ s H locs) {a : UInt32 → St → Array Value} (hr : ∀ v τ, x = some (v, τ) → va_Run p l e R s m args below meth c H locs cells slots mc ms (F0 m pc ls st0) rest (Qg Γ (some (.float v)) τ (AA Γ H.size) (a v τ)) (AA Γ H.size))
    (kk : ∀ (v : UInt32) (τ : St) (H : Heap) (locs : List Loc), K v τ = some r → Sit Γ τ s H locs → W p l e R s m args below meth c H locs (cells + mc) (slots + ms) Q (F0 m (pc + 3) ls (.float v :: rest))) : W p l e R s m args below meth c H locs cells slots Q (F0 m pc ls st0) := by
  obtain ⟨v, τ, h1, h2⟩ := o2_t hf
  exact q_go (hr v τ h1) hw.2 (fun H1 locs1 h => kk v τ H1 locs1 h2 h)
theorem q_eD {x : Option (UInt64 × St)} {K : UInt64 → St → Option β} (hf : o2 x K = some r) (hw : Sit Γ σ s H locs) {a : UInt64 → St → Array Value} (hr : ∀ v τ, x = some (v, τ) → va_Run p l e R s m args below meth c H locs cells slots mc ms (F0 m pc ls st0) rest (Qg Γ (some (.double v)) τ (AA Γ H.size) (a v τ)) (AA Γ H.size))
    (kk : ∀ (v : UInt64) (τ : St) (H : Heap) (locs : List Loc), K v τ = some r → Sit Γ τ s H locs → W p l e R s m args below meth c H locs (cells + mc) (slots + ms) Q (F0 m (pc + 3) ls (.double v :: rest))) : W p l e R s m args below meth c H locs cells slots Q (F0 m pc ls st0) := by
  obtain ⟨v, τ, h1, h2⟩ := o2_t hf
  exact q_go (hr v τ h1) hw.2 (fun H1 locs1 h => kk v τ H1 locs1 h2 h)
theorem q_eJ {x : Option (Int64 × St)} {K : Int64 → St → Option β} (hf : o2 x K = some r) (hw : Sit Γ σ s H locs) {a : Int64 → St → Array Value} (hr : ∀ v τ, x = some (v, τ) → va_Run p l e R s m args below meth c H locs cells slots mc ms (F0 m pc ls st0) rest (Qg Γ (some (.long v)) τ (AA Γ H.size) (a v τ)) (AA Γ H.size))
    (kk : ∀ (v : Int64) (τ : St) (H : Heap) (locs : List Loc), K v τ = some r → Sit Γ τ s H locs → W p l e R s m args below meth c H locs (cells + mc) (slots + ms) Q (F0 m (pc + 3) ls (.long v :: rest))) : W p l e R s m args below meth c H locs cells slots Q (F0 m pc ls st0) := by
  obtain ⟨v, τ, h1, h2⟩ := o2_t hf
  exact q_go (hr v τ h1) hw.2 (fun H1 locs1 h => kk v τ H1 locs1 h2 h)
theorem q_eV {x : Option St} {K : St → Option β} (hf : ob x K = some r) (hw : Sit Γ σ s H locs) {a : St → Array Value} (hr : ∀ τ, x = some τ → va_Run p l e R s m args below meth c H locs cells slots mc ms (F0 m pc ls st0) rest (Qg Γ none τ (AA Γ H.size) (a τ)) (AA Γ H.size))
    (kk : ∀ (τ : St) (H : Heap) (locs : List Loc), K τ = some r → Sit Γ τ s H locs → W p l e R s m args below meth c H locs (cells + mc) (slots + ms) Q (F0 m (pc + 3) ls rest)) : W p l e R s m args below meth c H locs cells slots Q (F0 m pc ls st0) := by
  obtain ⟨τ, h1, h2⟩ := ob_t hf
  exact q_go (hr τ h1) hw.2 (fun H1 locs1 h => kk τ H1 locs1 h2 h)
/-- ends: int, float, long, double, nothing -/
theorem q_iret {x v : Int32} {ty : FieldType} (hf : some x = some v) (hx : p.tables.exec = Jvm.exec) (hb : c.code = cc) (hr : meth.sig.returnType = some ty) (hn : narrow ty (.int x) = .int x) (hk : meth.locks = false) (hw : Sit Γ σ s H locs) (hd : decode cc pc = .ok (.ireturn, 1)) (hc : cells ≤ mc) (hs : slots ≤ ms) : W p l e R s m args below meth c H locs cells slots (MQ below (Qg Γ (some (.int v)) σ (AA Γ s.heap.size)) args s mc ms (AA Γ s.heap.size)) (F0 m pc ls [.int x]) := by
  cases hf
  refine W.widen hc hs ?_
  exact W.zret hx hb hr hn (fun t ht _ => ⟨⟨rfl, by rw [ht]; exact hw.1⟩, hw.2.F ht⟩) hw.2.2.2 hd
theorem q_fret {x v : UInt32} (hf : some x = some v) (hx : p.tables.exec = Jvm.exec) (hb : c.code = cc) (hr : meth.sig.returnType = some .float) (hk : meth.locks = false) (hw : Sit Γ σ s H locs) (hd : decode cc pc = .ok (.freturn, 1)) (hc : cells ≤ mc) (hs : slots ≤ ms) : W p l e R s m args below meth c H locs cells slots (MQ below (Qg Γ (some (.float v)) σ (AA Γ s.heap.size)) args s mc ms (AA Γ s.heap.size)) (F0 m pc ls [.float x]) := by
  cases hf
  refine W.widen hc hs ?_
  exact W.fret hx hb hr (fun t ht _ => ⟨⟨rfl, by rw [ht]; exact hw.1⟩, hw.2.F ht⟩) hw.2.2.2 hd
theorem q_lret {x v : Int64} (hf : some x = some v) (hx : p.tables.exec = Jvm.exec) (hb : c.code = cc) (hr : meth.sig.returnType = some .long) (hk : meth.locks = false) (hw : Sit Γ σ s H locs) (hd : decode cc pc = .ok (.lreturn, 1)) (hc : cells ≤ mc) (hs : slots ≤ ms) : W p l e R s m args below meth c H locs cells slots (MQ below (Qg Γ (some (.long v)) σ (AA Γ s.heap.size)) args s mc ms (AA Γ s.heap.size)) (F0 m pc ls [.long x]) := by
  cases hf
  refine W.widen hc hs ?_
  exact W.lret hx hb hr (fun t ht _ => ⟨⟨rfl, by rw [ht]; exact hw.1⟩, hw.2.F ht⟩) hw.2.2.2 hd
theorem q_dret {x v : UInt64} (hf : some x = some v) (hx : p.tables.exec = Jvm.exec) (hb : c.code = cc) (hr : meth.sig.returnType = some .double) (hk : meth.locks = false) (hw : Sit Γ σ s H locs) (hd : decode cc pc = .ok (.dreturn, 1)) (hc : cells ≤ mc) (hs : slots ≤ ms) : W p l e R s m args below meth c H locs cells slots (MQ below (Qg Γ (some (.double v)) σ (AA Γ s.heap.size)) args s mc ms (AA Γ s.heap.size)) (F0 m pc ls [.double x]) := by
  cases hf
  refine W.widen hc hs ?_
  exact W.dret hx hb hr (fun t ht _ => ⟨⟨rfl, by rw [ht]; exact hw.1⟩, hw.2.F ht⟩) hw.2.2.2 hd
theorem q_vret (hx : p.tables.exec = Jvm.exec) (hb : c.code = cc) (hr : meth.sig.returnType = none) (hk : meth.locks = false) (hw : Sit Γ σ s H locs) (hd : decode cc pc = .ok (.return_, 1)) (hf : some σ = some τ) (hc : cells ≤ mc) (hs : slots ≤ ms) : W p l e R s m args below meth c H locs cells slots (MQ below (Qg Γ none τ (AA Γ s.heap.size)) args s mc ms (AA Γ s.heap.size)) (F0 m pc ls []) := by
  cases hf
  refine W.widen hc hs ?_
  exact W.vret hx hb hr (fun t ht _ => ⟨⟨rfl, by rw [ht]; exact hw.1⟩, hw.2.F ht⟩) hw.2.2.2 hd
end QD
/-- a contract out of the walk of the body -/
theorem ct_body {Γ : Gm} {S : List (String × Nat × String)} {l : Launch} {y : MethodName} {b : ByteArray} {maxL : Nat} {ret : Option FieldType} {fr lo mc ms : Nat} {As : List Value} {vo : Option Value} {σ τ : St} {lv : List (Nat × Value)} (hy : plainName y.cls = true) (hlv : lv_args 0 As = lv) (hle : (lg_sl As).length ≤ maxL)
    (body : ∀ (p : Program) (e : Env) (s : State) (m : MethodId) (below : List Frame) (meth : Method) (c : Code) (ls : Array Slot), Fx p c b maxL s m y.cls → meth.sig.returnType = ret → meth.locks = false → KK Γ S s.heap.size s → Sit Γ σ s s.heap [] → lv_has ls maxL lv →
      W p l e { frames := fr, cells := mc, slots := ms, locals := lo } s m As.toArray below meth c s.heap [] 0 0 (MQ below (Qg Γ vo τ (AA Γ s.heap.size)) As.toArray s mc ms (AA Γ s.heap.size)) (F0 m 0 ls [])) : CT Γ S l y b maxL ret fr lo mc ms As vo σ τ := by
  intro sz
  refine Met.ofW (cc := b) (maxL := maxL) (ret := ret) hy rfl ?_
  intro p e s m args below meth c s₁ B hml hv
  obtain ⟨rfl, rfl, hP, hK⟩ := hv
  have hl := lv_entry As hle
  rw [lg_entry_eq]
  rw [hlv] at hl
  exact body p e s m below meth c _ ⟨B.exec, B.bytes, hml, findClass_of_methodNamed B.named⟩ B.returns B.notSynchronized hK ⟨hP, va_S.rf⟩ hl
