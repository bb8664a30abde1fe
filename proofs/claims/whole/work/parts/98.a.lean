/-! Constructors: rows over a world of given cells. -/
/-- the class of the arrays of arrays has been made -/
def ZO (ty : FieldType) (U : State) : Prop := (Cond.arrayOver ty).before #[] U = true
theorem ZO.moved {ty : FieldType} {s U : State} (h : s.vm.Alike U.vm) (hz : ZO ty s) : ZO ty U := by
  have h1 : (Cond.arrayOver ty).before #[] (s.setVm U.vm) = true := by
    rw [Cond.arrayOver_setVmC h ty]
    exact hz
  exact h1
def ZK (Γ : Gm) (U : State) : Prop := va_K (gG Γ) vwCl (tysl Γ) U ∧ KW U ∧ ZO (.object "Plugboard$User") U ∧ ZO (.array .int) U ∧ ZO (.array .boolean) U
def ZS (Γ : Gm) (A : Nat → Prop) (s : State) (ws : va_W) (H : Heap) (locs : List Loc) : Prop := va_P (gG Γ) vwCl ws H ∧ va_D A ws ∧ va_S A s.heap H locs
def ZP (Γ : Gm) (ws : va_W) (sz : Nat) (U : State) : Prop := U.heap.size = sz ∧ va_P (gG Γ) vwCl ws U.heap ∧ va_D (fun _ => True) ws ∧ ZK Γ U
def ZQ (Γ : Gm) (ws1 : (Nat → Nat) → va_W) (A : Nat → Prop) : Array Value → State → Outcome → State → Prop := va_Qv (fun _ : Nat → Nat => True) (fun u t => va_P (gG Γ) vwCl (ws1 u) t.heap ∧ va_D A (ws1 u)) A
/-- the contract of a constructor: of its world ws it makes ws1, at addresses u -/
def CZ (Γ : Gm) (l : Launch) (y : MethodName) (b : ByteArray) (maxL fr lo mc ms : Nat) (As : List Value) (ws : va_W) (ws1 : (Nat → Nat) → va_W) : Prop :=
  ∀ sz : Nat, Met l y [Cond.code y b maxL none] { frames := fr, cells := mc, slots := ms, locals := lo } (va_Pc As (ZP Γ ws sz)) (ZQ Γ ws1 (va_A ws sz)) mc ms (va_A ws sz)
theorem ZK.moved {Γ : Gm} {s U : State} (hW : s.WarmedH U.vm) (h : ZK Γ s) : ZK Γ U := ⟨va_K.moved hW.alike h.1, KW.warm hW h.2.1, h.2.2.1.moved hW.alike, h.2.2.2.1.moved hW.alike, h.2.2.2.2.moved hW.alike⟩
theorem zp_blind {Γ : Gm} {ws : va_W} {sz : Nat} {As : List Value} : FrameBlind (va_Pc As (ZP Γ ws sz)) := by
  intro a U g mk h
  obtain ⟨h1, h2, h3, h4, h5⟩ := h
  exact ⟨h1, h2, h3, h4, ZK.moved (s := U) (U := U.calling g mk a) (State.WarmedH.refl U) h5⟩
theorem z_body {Γ : Gm} {l : Launch} {y : MethodName} {b : ByteArray} {maxL fr lo mc ms : Nat} {As : List Value} {ws : va_W} {ws1 : (Nat → Nat) → va_W} {lv : List (Nat × Value)} (hy : plainName y.cls = true) (hlv : lv_args 0 As = lv) (hle : (lg_sl As).length ≤ maxL)
    (body : ∀ (p : Program) (e : Env) (s : State) (m : MethodId) (below : List Frame) (meth : Method) (c : Code) (ls : Array Slot) (A : Nat → Prop), (∀ q, s.heap.size ≤ q → A q) → Fx p c b maxL s m y.cls → meth.sig.returnType = none → meth.locks = false → meth.name = y.name → ZK Γ s → ZS Γ A s ws s.heap [] → lv_has ls maxL lv →
      W p l e { frames := fr, cells := mc, slots := ms, locals := lo } s m As.toArray below meth c s.heap [] 0 0 (MQ below (ZQ Γ ws1 A) As.toArray s mc ms A) (F0 m 0 ls [])) : CZ Γ l y b maxL fr lo mc ms As ws ws1 := by
  intro sz
  refine Met.ofW (cc := b) (maxL := maxL) (ret := none) hy rfl ?_
  intro p e s m args below meth c s₁ B hml hv
  obtain ⟨rfl, rfl, hP, hD, hK⟩ := hv
  have hl := lv_entry As hle
  rw [lg_entry_eq]
  rw [hlv] at hl
  exact body p e s m below meth c _ _ (fun q h => Or.inr h) ⟨B.exec, B.bytes, hml, findClass_of_methodNamed B.named⟩ B.returns B.notSynchronized (name_of_methodNamed B.named B.method).1 hK ⟨hP, hD.self, va_S.rf⟩ hl
section QZ
variable {p : Program} {l : Launch} {e : Env} {R : Room} {s : State} {m : MethodId} {args : Array Value} {below : List Frame} {meth : Method} {c : Code} {H : Heap} {locs : List Loc} {cells slots : Nat} {Q : State → Prop}
variable {cc : ByteArray} {pc : Nat} {ls : Array Slot} {rest st0 : List Value} {Γ : Gm} {A : Nat → Prop} {ws : va_W} {ws1 : (Nat → Nat) → va_W}
variable {own : String} {index nL maxL fr lo mc ms n : Nat} {y : MethodName} {b : ByteArray} {As : List Value}
theorem z_ret (hx : p.tables.exec = Jvm.exec) (hb : c.code = cc) (hr : meth.sig.returnType = none) (hlocks : meth.locks = false) (u : Nat → Nat) (hw : ZS Γ A s (ws1 u) H locs) (hd : decode cc pc = .ok (.return_, 1)) (h1 : cells ≤ mc) (h2 : slots ≤ ms) : W p l e R s m args below meth c H locs cells slots (MQ below (ZQ Γ ws1 A) args s mc ms A) (F0 m pc ls []) :=
  W.widen h1 h2 (W.vret hx hb hr (fun t ht _ => ⟨⟨u, rfl, trivial, by rw [ht]; exact hw.1, hw.2.1⟩, hw.2.2.F ht⟩) hw.2.2.2.2 hd hlocks)
theorem z_newa (hx : p.tables.exec = Jvm.exec) (hb : c.code = cc) {atype : ArrayType} {ty : FieldType} {cA : ClassId} {n : Int32} {N' : Nat} {a0 : vp_A} (i : Nat) (hi : lw_tbl[i]? = some (Cond.arrayClass (newarray.typeOf atype))) (hs : pw_st (Cond.arrayClass (newarray.typeOf atype)) = true) (hty : newarray.typeOf atype = ty) (hK : ZK Γ s) (hA : ∀ q, s.heap.size ≤ q → A q) (hw : ZS Γ A s ws H locs) (t0 : Nat) (ht : (tysl Γ)[t0]? = some (cA, ty)) (hra : ∀ a b : ClassId, va_RA s a ty → va_RA s b ty → a = b)
    (ha : ∀ cA : ClassId, vp_cell cA a0 = arrV cA N' (fun _ => defaultValue ty)) (hn : ¬ n < 0) (hN : n.toNatClampNeg = N') (hbytes : N' * componentBytes ty ≤ 536870912) (hcells : cells + 1 ≤ R.cells) (hslots : slots + N' ≤ R.slots) (hd : decode cc pc = .ok (.newarray atype, 2))
    (kk : ∀ (q : Nat) (H1 : Heap), ZS Γ A s (ws ++ [(q, .inl (cA, a0))]) H1 locs → W p l e R s m args below meth c H1 locs (cells + 1) (slots + N') Q (F0 m (pc + 2) ls (.ref q :: rest))) : W p l e R s m args below meth c H locs cells slots Q (F0 m pc ls (.int n :: rest)) := by
  refine va_newa (atype := atype) hx hb (kw_at hK.2.1 i hi hs) hty hK.1 hw.1 hw.2.1 hw.2.2 hA ha hn hN hbytes hcells hslots hd ?_
  intro q cB H1 hK1 hP1 hD1 hS1
  have e : cB = cA := hra _ _ (hK1.2 (tysl Γ).length (cB, ty) (by rw [List.getElem?_append_right (Nat.le_refl _), Nat.sub_self]; rfl)).2 (hK.1.2 t0 _ ht).2
  subst e
  exact kk q H1 ⟨hP1, hD1, hS1⟩
theorem z_newq (hx : p.tables.exec = Jvm.exec) (hb : c.code = cc) {C : String} {cA : ClassId} {n : Int32} {N' : Nat} (hown : s.vm.findClass own = some m.cls) (h1 : Cond.classLink own index C ∈ lw_tbl) (hO : va_AO C s) (hK : ZK Γ s) (hA : ∀ q, s.heap.size ≤ q → A q) (hw : ZS Γ A s ws H locs) (t0 : Nat) (ht : (tysl Γ)[t0]? = some (cA, .object C))
    (hn : ¬ n < 0) (hN : n.toNatClampNeg = N') (hbytes : N' * 4 ≤ 536870912) (hcells : cells + 1 ≤ R.cells) (hslots : slots + N' ≤ R.slots) (hd : decode cc pc = .ok (.anewarray index, 3))
    (kk : ∀ (q : Nat) (H1 : Heap), ZS Γ A s (ws ++ [(q, .inl (cA, N', .inr (.inr (.inr (.inr (fun _ => none))))))]) H1 locs → W p l e R s m args below meth c H1 locs (cells + 1) (slots + N') Q (F0 m (pc + 3) ls (.ref q :: rest))) : W p l e R s m args below meth c H locs cells slots Q (F0 m pc ls (.int n :: rest)) := by
  refine va_newq hx hb hown (kw_m hK.2.1 h1 rfl) hO hK.1 hw.1 hw.2.1 hw.2.2 hA hn hN hbytes hcells hslots hd ?_
  intro q cB H1 hK1 hP1 hD1 hS1
  obtain ⟨_, _, _, _, _, g1⟩ := (hK1.2 (tysl Γ).length (cB, .object C) (by rw [List.getElem?_append_right (Nat.le_refl _), Nat.sub_self]; rfl)).2
  obtain ⟨_, _, _, _, _, g2⟩ := (hK.1.2 t0 _ ht).2
  have e : cB = cA := Option.some.inj (g1.symm.trans g2)
  subst e
  exact kk q H1 ⟨hP1, hD1, hS1⟩
theorem z_new (hx : p.tables.exec = Jvm.exec) (hb : c.code = cc) {C : String} {T : u_T} {N ci : Nat} (hin : ∀ w ∈ u_ws C T N, w ∈ lw_tbl) (hins : (u_ws C T N).all pw_st = true) (ty : Nat → FieldType) (hty : ∀ k, k < N → parseFieldDescriptor (T k).2.2.1 = some (ty k)) (hown : s.vm.findClass own = some m.cls) (h1 : Cond.classLink own index C ∈ lw_tbl) (h2 : Cond.instantiable C N ∈ lw_tbl) (h3 : Cond.initialized C ∈ lw_tbl)
    (hK : ZK Γ s) (hA : ∀ q, s.heap.size ≤ q → A q) (hw : ZS Γ A s ws H locs) (hc : vwCl[ci]? = some (C, T, N)) {fs : List Value} (hfs : ∀ j, j < N → defaultValue (ty j) = vp_V fs j) (hcells : cells + 1 ≤ R.cells) (hslots : slots + N ≤ R.slots) (hd : decode cc pc = .ok (.new index, 3))
    (kk : ∀ (q : Nat) (H1 : Heap), ZS Γ A s (ws ++ [(q, .inr (ci, fs))]) H1 locs → W p l e R s m args below meth c H1 locs (cells + 1) (slots + N) Q (F0 m (pc + 3) ls (.ref q :: rest))) : W p l e R s m args below meth c H locs cells slots Q (F0 m pc ls rest) :=
  va_new hx hb (kw_in hK.2.1 hin hins) (fun _ h => h) ty hty hown (kw_m hK.2.1 h1 rfl) (kw_m hK.2.1 h2 rfl) (kw_m hK.2.1 h3 rfl) hK.1 hw.1 hw.2.1 hw.2.2 hA hc hfs hcells hslots hd (fun q H1 a1 a2 a3 => kk q H1 ⟨a1, a2, a3⟩)
theorem z_putF (hx : p.tables.exec = Jvm.exec) (hb : c.code = cc) {ref C : String} {T : u_T} {N ci a : Nat} (hin : ∀ w ∈ u_ws C T N, w ∈ lw_tbl) (hins : (u_ws C T N).all pw_st = true) (ty0 : Nat → FieldType) (hty : ∀ k, k < N → parseFieldDescriptor (T k).2.2.1 = some (ty0 k)) (hnm : ∀ a, a < N → ∀ b, b < N → a ≠ b → (T a).2.1 ≠ (T b).2.1) (hown : s.vm.findClass own = some m.cls) (hK : ZK Γ s) (hw : ZS Γ A s ws H locs) (q0 : Nat) {fs : List Value} (he : ws[q0]? = some (a, .inr (ci, fs))) (hc : vwCl[ci]? = some (C, T, N)) (j : Nat) (hj : j < N) (i : Nat) (hi : lw_tbl[i]? = some (Cond.fieldLink own index ref (T j).2.1 (T j).2.2.1)) (hsame : ref = (T j).1) (hfin : (T j).2.2.2 = true) (hin2 : meth.name = "<init>") (hdecl : (T j).1 = own) {ty : FieldType} {v : Value} (hpd : parseFieldDescriptor (T j).2.2.1 = some ty) (hn : narrow ty v = v) (hfit : fits ty v = true) (hl : j < fs.length)
    (hd : decode cc pc = .ok (.putfield index, 3)) (kk : ∀ (H1 : Heap) (locs1 : List Loc), ZS Γ A s (ws.set q0 (a, .inr (ci, fs.set j v))) H1 locs1 → W p l e R s m args below meth c H1 locs1 cells slots Q (F0 m (pc + 3) ls rest)) : W p l e R s m args below meth c H locs cells slots Q (F0 m pc ls (v :: .ref a :: rest)) :=
  va_putF hx hb (kw_in hK.2.1 hin hins) (fun _ h => h) ty0 hty hnm hown hK.1 hw.1 hw.2.1 hw.2.2 q0 he hc j hj (kw_at hK.2.1 i hi rfl) (fun x h => by subst hsame; exact h) hfin hin2 hdecl hpd hn hfit hl hd (fun H1 locs1 a1 a2 a3 => kk H1 locs1 ⟨a1, a2, a3⟩)
theorem z_put (hx : p.tables.exec = Jvm.exec) (hb : c.code = cc) {ref C : String} {T : u_T} {N ci a : Nat} (hin : ∀ w ∈ u_ws C T N, w ∈ lw_tbl) (hins : (u_ws C T N).all pw_st = true) (ty0 : Nat → FieldType) (hty : ∀ k, k < N → parseFieldDescriptor (T k).2.2.1 = some (ty0 k)) (hnm : ∀ a, a < N → ∀ b, b < N → a ≠ b → (T a).2.1 ≠ (T b).2.1) (hown : s.vm.findClass own = some m.cls) (hK : ZK Γ s) (hw : ZS Γ A s ws H locs) (q0 : Nat) {fs : List Value} (he : ws[q0]? = some (a, .inr (ci, fs))) (hc : vwCl[ci]? = some (C, T, N)) (j : Nat) (hj : j < N) (i : Nat) (hi : lw_tbl[i]? = some (Cond.fieldLink own index ref (T j).2.1 (T j).2.2.1)) (hsame : ref = (T j).1) (hfin : (T j).2.2.2 = false) {ty : FieldType} {v : Value} (hpd : parseFieldDescriptor (T j).2.2.1 = some ty) (hn : narrow ty v = v) (hfit : fits ty v = true) (hl : j < fs.length)
    (hd : decode cc pc = .ok (.putfield index, 3)) (kk : ∀ (H1 : Heap) (locs1 : List Loc), ZS Γ A s (ws.set q0 (a, .inr (ci, fs.set j v))) H1 locs1 → W p l e R s m args below meth c H1 locs1 cells slots Q (F0 m (pc + 3) ls rest)) : W p l e R s m args below meth c H locs cells slots Q (F0 m pc ls (v :: .ref a :: rest)) :=
  va_put hx hb (kw_in hK.2.1 hin hins) (fun _ h => h) ty0 hty hnm hown hK.1 hw.1 hw.2.1 hw.2.2 q0 he hc j hj (kw_at hK.2.1 i hi rfl) (fun x h => by subst hsame; exact h) hfin hpd hn hfit hl hd (fun H1 locs1 a1 a2 a3 => kk H1 locs1 ⟨a1, a2, a3⟩)
theorem z_get (hx : p.tables.exec = Jvm.exec) (hb : c.code = cc) {ref C : String} {T : u_T} {N ci a : Nat} (hin : ∀ w ∈ u_ws C T N, w ∈ lw_tbl) (hins : (u_ws C T N).all pw_st = true) (hown : s.vm.findClass own = some m.cls) (hK : ZK Γ s) (hw : ZS Γ A s ws H locs) (q0 : Nat) {fs : List Value} (he : ws[q0]? = some (a, .inr (ci, fs))) (hc : vwCl[ci]? = some (C, T, N)) (j : Nat) (hj : j < N) (i : Nat) (hi : lw_tbl[i]? = some (Cond.fieldLink own index ref (T j).2.1 (T j).2.2.1)) (hsame : ref = (T j).1) {v : Value} (hv : fs[j]? = some v) (hd : decode cc pc = .ok (.getfield index, 3))
    (kk : W p l e R s m args below meth c H locs cells slots Q (F0 m (pc + 3) ls (v :: rest))) : W p l e R s m args below meth c H locs cells slots Q (F0 m pc ls (.ref a :: rest)) :=
  va_get hx hb (kw_in hK.2.1 hin hins) (fun _ h => h) hown hK.1 hw.1 q0 he hc j hj (kw_at hK.2.1 i hi rfl) (fun x h => by subst hsame; exact h) hv hd kk
theorem z_obj (X : Fx p c cc nL s m own) (hK : ZK Γ s) {a : Nat} (h1 : Cond.methodLink own index Lib.objectInit ∈ lw_tbl) (h2 : Cond.instanceMethod Lib.objectInit ∈ lw_tbl) (h3 : Cond.code Lib.objectInit ⟨#[0xb1]⟩ 1 none ∈ lw_tbl) (hsz : ls.size = nL) (hd : decode cc pc = .ok (.invokespecial index, 3)) (hf : 1 ≤ R.frames) (hlo : (rest.map fun v => v.category).sum + 12 ≤ R.locals)
    (kk : W p l e R s m args below meth c H locs cells slots Q (F0 m (pc + 3) ls rest)) : W p l e R s m args below meth c H locs cells slots Q (F0 m pc ls (.ref a :: rest)) := by
  refine W.objInit X.1 X.2.1 X.2.2.2 (kw_m hK.2.1 h1 rfl) (kw_m hK.2.1 h2 rfl) (kw_m hK.2.1 h3 rfl) rfl (by rw [X.2.2.1]; exact hsz) rfl hd hf ?_ ?_
  · show 2 * 0 + _ + 12 ≤ _
    omega
  · exact W.eq (g2 := F0 m (pc + 3) ls rest) rfl kk
/-- behind a constructor's call -/
theorem z_back (hw : ZS Γ A s ws H locs) (hA : ∀ q, s.heap.size ≤ q → A q) {wc wr : va_W} {b0 : Array Value} (isC isR : List Nat) (hC : isC.map (fun i => ws[i]?) = wc.map some) (hR : isR.map (fun i => ws[i]?) = wr.map some) (hn : va_nd isR = true) (hdis : ∀ i ∈ isR, i ∉ isC)
    (hr : va_Run p l e R s m args below meth c H locs cells slots mc ms (F0 m pc ls st0) rest (ZQ Γ ws1 (va_A wc H.size) b0) (va_A wc H.size))
    (kk : ∀ (u : Nat → Nat) (H1 : Heap) (locs1 : List Loc), ZS Γ A s (wr ++ ws1 u) H1 locs1 → W p l e R s m args below meth c H1 locs1 (cells + mc) (slots + ms) Q (F0 m (pc + 3) ls rest)) : W p l e R s m args below meth c H locs cells slots Q (F0 m pc ls st0) := by
  have hF := va_free (wc := wc) hw.2.1 hw.2.2 hA isC hC
  refine va_callv hr hw.2.2 (fun q _ h => hF q h) hF (fun u t H1 locs1 ht _ _ hB _ hk1 hS => ?_)
  obtain ⟨hP1, hD1⟩ := hB
  rw [ht] at hP1
  obtain ⟨a1, a2⟩ := va_join hw.1 hw.2.1 isC isR hC hR hn hdis hk1 hF hP1 hD1
  exact kk u H1 locs1 ⟨a1, a2, hS⟩
theorem z_pre (hw : ZS Γ A s ws H locs) (hK : ZK Γ s) {wc : va_W} {b0 : Nat} (isC : List Nat) (hnC : va_nd isC = true) (hC : isC.map (fun i => ws[i]?) = wc.map some) : PreS s H (va_Pc (.ref b0 :: As) (ZP Γ wc H.size)) (.ref b0 :: As) := by
  have hP : va_P (gG Γ) vwCl wc H := by
    intro k q hk
    have h1 : (isC.map (fun i => ws[i]?))[k]? = some (some q) := by rw [hC, List.getElem?_map, hk]; rfl
    rw [List.getElem?_map] at h1
    cases hi : isC[k]? with
    | none => rw [hi] at h1; cases h1
    | some i =>
      rw [hi] at h1
      exact hw.1 i q (Option.some.inj h1)
  have hD := hw.2.1.sub isC hnC hC
  exact ⟨zp_blind, fun U hU hW => ⟨rfl, by rw [hU], by rw [hU]; exact hP, hD.weaken (fun _ _ _ _ => trivial), hK.moved hW⟩⟩
theorem z_callB (X : Fx p c cc nL s m own) (hK : ZK Γ s) (hA : ∀ q, s.heap.size ≤ q → A q) (hw : ZS Γ A s ws H locs) {wc : va_W} (wr : va_W) {b0 : Nat} (hM : CZ Γ l y b maxL fr lo mc ms (.ref b0 :: As) wc ws1) (isC isR : List Nat) (hC : isC.map (fun i => ws[i]?) = wc.map some) (hR : isR.map (fun i => ws[i]?) = wr.map some) (hnC : va_nd isC = true) (hn : va_nd isR = true) (hdis : ∀ i ∈ isR, i ∉ isC)
    (h1 : Cond.code y b maxL none ∈ lw_tbl) (h2 : Cond.initialized y.cls ∈ lw_tbl) (h3 : Cond.methodLink own index y ∈ lw_tbl) (h4 : Cond.instanceMethod y ∈ lw_tbl) (hy : y.name = "<init>") (hd3 : y.cls ≠ "java/lang/invoke/MethodHandle" ∧ y.cls ≠ "java/lang/invoke/VarHandle" ∧ (parseMethodDescriptor y.desc).map (fun d => d.parameters.length) = some n) (hRm : fr + 1 ≤ R.frames ∧ 8 + (maxL + 11) + lo ≤ R.locals)
    (hln : As.length = n) (hsz : ls.size = nL) (hst : st0 = As.reverse ++ .ref b0 :: rest) (hW : (rest.map fun v => v.category).sum ≤ 8) (hd : decode cc pc = .ok (.invokespecial index, 3)) (hf : cells + mc ≤ R.cells ∧ slots + ms ≤ R.slots)
    (kk : ∀ (u : Nat → Nat) (H1 : Heap) (locs1 : List Loc), ZS Γ A s (wr ++ ws1 u) H1 locs1 → W p l e R s m args below meth c H1 locs1 (cells + mc) (slots + ms) Q (F0 m (pc + 3) ls rest)) : W p l e R s m args below meth c H locs cells slots Q (F0 m pc ls st0) :=
  z_back hw hA isC isR hC hR hn hdis (va_runI (fx_cf X) (hM H.size) ⟨mk_B hK.2.1 h1 h2 h3 hd3 hRm, hy, kw_m hK.2.1 h4 rfl⟩ (z_pre hw hK isC hnC hC) rfl hln hsz hst (lv_room (rest := st0) (ls := ls) (pc := pc) (m := m) hW) hd hf) kk
theorem z_callN (X : Fx p c cc nL s m own) {host : String} (hK : ZK Γ s) (hA : ∀ q, s.heap.size ≤ q → A q) (hw : ZS Γ A s ws H locs) {wc : va_W} (wr : va_W) {b0 : Nat} (hM : CZ Γ l y b maxL fr lo mc ms (.ref b0 :: As) wc ws1) (isC isR : List Nat) (hC : isC.map (fun i => ws[i]?) = wc.map some) (hR : isR.map (fun i => ws[i]?) = wr.map some) (hnC : va_nd isC = true) (hn : va_nd isR = true) (hdis : ∀ i ∈ isR, i ∉ isC)
    (h1 : Cond.code y b maxL none ∈ lw_tbl) (h2 : Cond.initialized y.cls ∈ lw_tbl) (h3 : Cond.methodLinkNest own index y host ∈ lw_tbl) (h4 : Cond.instanceMethod y ∈ lw_tbl) (hy : y.name = "<init>") (hd3 : y.cls ≠ "java/lang/invoke/MethodHandle" ∧ y.cls ≠ "java/lang/invoke/VarHandle" ∧ (parseMethodDescriptor y.desc).map (fun d => d.parameters.length) = some n) (hRm : fr + 1 ≤ R.frames ∧ 8 + (maxL + 11) + lo ≤ R.locals)
    (hln : As.length = n) (hsz : ls.size = nL) (hst : st0 = As.reverse ++ .ref b0 :: rest) (hW : (rest.map fun v => v.category).sum ≤ 8) (hd : decode cc pc = .ok (.invokespecial index, 3)) (hf : cells + mc ≤ R.cells ∧ slots + ms ≤ R.slots)
    (kk : ∀ (u : Nat → Nat) (H1 : Heap) (locs1 : List Loc), ZS Γ A s (wr ++ ws1 u) H1 locs1 → W p l e R s m args below meth c H1 locs1 (cells + mc) (slots + ms) Q (F0 m (pc + 3) ls rest)) : W p l e R s m args below meth c H locs cells slots Q (F0 m pc ls st0) :=
  z_back hw hA isC isR hC hR hn hdis (va_runIN (fx_cf X) (hM H.size) ⟨mk_CN hK.2.1 h1 h2 h3 hd3 hRm, hy, kw_m hK.2.1 h4 rfl⟩ (z_pre hw hK isC hnC hC) rfl hln hsz hst (lv_room (rest := st0) (ls := ls) (pc := pc) (m := m) hW) hd hf) kk
theorem z_astq (hx : p.tables.exec = Jvm.exec) (hb : c.code = cc) (hK : ZK Γ s) (hw : ZS Γ A s ws H locs) (q0 t0 qk ci : Nat) {cA : ClassId} {r : vw_C} {n v a : Nat} {vs : List Value} {f : Nat → Option Nat} (ha : ws[q0]? = some (a, .inl (cA, n, .inr (.inr (.inr (.inr f)))))) (ht : (tysl Γ)[t0]? = some (cA, .object r.1)) (hv : ws[qk]? = some (v, .inr (ci, vs))) (hc : vwCl[ci]? = some r) {i : Int32} (hin : vp_in i n) (hd : decode cc pc = .ok (.aastore, 1))
    (kk : ∀ (H1 : Heap) (locs1 : List Loc), ZS Γ A s (ws.set q0 (a, .inl (cA, n, .inr (.inr (.inr (.inr (va_up f i.toNatClampNeg (some v)))))))) H1 locs1 → W p l e R s m args below meth c H1 locs1 cells slots Q (F0 m (pc + 1) ls rest)) : W p l e R s m args below meth c H locs cells slots Q (F0 m pc ls (.ref v :: .int i :: .ref a :: rest)) :=
  va_astq hx hb hK.1 hw.1 hw.2.1 hw.2.2 q0 t0 qk ci ha ht hv hc hin hd (fun H1 locs1 a1 a2 a3 => kk H1 locs1 ⟨a1, a2, a3⟩)
theorem z_iast (hx : p.tables.exec = Jvm.exec) (hb : c.code = cc) (hK : ZK Γ s) (hw : ZS Γ A s ws H locs) (q0 : Nat) {n a : Nat} {f : Nat → Int32} (ha : ws[q0]? = some (a, aI Γ n f)) {i x : Int32} (hin : vp_in i n) (hd : decode cc pc = .ok (.iastore, 1))
    (kk : ∀ (H1 : Heap) (locs1 : List Loc), ZS Γ A s (ws.set q0 (a, aI Γ n (upd f i.toNatClampNeg x))) H1 locs1 → W p l e R s m args below meth c H1 locs1 cells slots Q (F0 m (pc + 1) ls rest)) : W p l e R s m args below meth c H locs cells slots Q (F0 m pc ls (.int x :: .int i :: .ref a :: rest)) :=
  va_iast hx hb hK.1 hw.1 hw.2.1 hw.2.2 q0 0 ha rfl hin hd (fun H1 locs1 a1 a2 a3 => kk H1 locs1 ⟨a1, a2, a3⟩)
end QZ
