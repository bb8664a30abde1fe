/-! Methods that may throw. -/
def STR : List (String × Nat × String) := [("Plugboard", 62, "the shape is not on the board"), ("Plugboard", 73, "there are 12 shapes"), ("Plugboard", 122, "the shape would go beyond the board"), ("Plugboard", 139, "both shapes are the same"), ("Plugboard", 159, "nobody has locked the shape"), ("Plugboard", 166, "no such side, or both shapes are the same"), ("Plugboard", 171, "there are 8 connectors"), ("Plugboard", 183, "0 to 3 votes"), ("Plugboard", 195, "votes are shown, or would be more than 5"), ("Plugboard", 205, "no step to take back"), ("Plugboard", 218, "the user knows the operation"), ("Plugboard", 226, "both users are the same"), ("Plugboard", 258, "no such rank"), ("Plugboard", 270, "no such cell"), ("Plugboard", 275, "no shape covers the cell"), ("Plugboard", 306, "no shape has votes"), ("Plugboard", 315, "0 to 4 operations"), ("Plugboard", 333, "the user sees no shapes"), ("Plugboard", 346, "no connector has a way"), ("Plugboard", 352, "no such user"), ("Plugboard", 357, "there are 250 operations"), ("Plugboard", 359, "no such operation"), ("Plugboard", 361, "the user does not see such a shape"), ("Plugboard", 370, "another user has locked the shape"), ("Plugboard", 372, "the user does not see such a connector"), ("Plugboard", 374, "votes are not shown"), ("Plugboard", 376, "there is no way"), ("Plugboard", 381, "no key lies between")]
def N3 : List String := ["java/lang/RuntimeException", "java/lang/Exception"]
def AX (own E : String) (ik ic : Nat) : Prop := (Bundle.fit E = true ∧ ∀ n ∈ N3, Bundle.fit n = true) ∧ ∀ w ∈ Cond.classLink own ik E :: Cond.initialized E :: vx_atS own ic E N3, w ∈ lw_tbl ∧ pw_st w = true ∧ vx_ot w = true
def R13 : ByteArray := ⟨#[0x2a, 0x2b, 0xb7, 0x00, 0x0d, 0xb1]⟩
def AXN (own E : String) (ik ic : Nat) : Prop := (Bundle.fit E = true ∧ ∀ n ∈ N3, Bundle.fit n = true) ∧ ∀ w ∈ Cond.classLink own ik E :: Cond.initialized E :: nx_at own ic E 13 R13 N3, w ∈ lw_tbl ∧ pw_st w = true ∧ vx_ot w = true
set_option maxRecDepth 100000 in
theorem ax_ArithmeticException : AX "Plugboard" "java/lang/ArithmeticException" 331 335 := by unfold AX; decide +kernel
set_option maxRecDepth 100000 in
theorem ax_IllegalArgumentException : AX "Plugboard" "java/lang/IllegalArgumentException" 60 64 := by unfold AX; decide +kernel
set_option maxRecDepth 100000 in
theorem ax_IllegalStateException : AX "Plugboard" "java/lang/IllegalStateException" 71 75 := by unfold AX; decide +kernel
set_option maxRecDepth 100000 in
theorem ax_IndexOutOfBoundsException : AX "Plugboard" "java/lang/IndexOutOfBoundsException" 256 260 := by unfold AX; decide +kernel
set_option maxRecDepth 100000 in
theorem ax_UnsupportedOperationException : AX "Plugboard" "java/lang/UnsupportedOperationException" 157 161 := by unfold AX; decide +kernel
set_option maxRecDepth 100000 in
theorem ax_NoSuchElementException : AXN "Plugboard" "java/util/NoSuchElementException" 203 207 := by unfold AXN; decide +kernel
def rsI (r : (Int32 ⊕ String) × St) : Rs := (match r.1 with | .inl v => .inl (some (.int v)) | .inr E => .inr E, r.2)
def rsF (r : (UInt32 ⊕ String) × St) : Rs := (match r.1 with | .inl v => .inl (some (.float v)) | .inr E => .inr E, r.2)
def rsJ (r : (Int64 ⊕ String) × St) : Rs := (match r.1 with | .inl v => .inl (some (.long v)) | .inr E => .inr E, r.2)
def rsD (r : (UInt64 ⊕ String) × St) : Rs := (match r.1 with | .inl v => .inl (some (.double v)) | .inr E => .inr E, r.2)
def rsV (r : (Unit ⊕ String) × St) : Rs := (match r.1 with | .inl _ => .inl none | .inr E => .inr E, r.2)
def rsRk (Γ : Gm) (k : Nat) (r : (Nat ⊕ String) × St) : Rs := (match r.1 with | .inl v => .inl (some (.ref (ga Γ k v))) | .inr E => .inr E, r.2)
section QX
variable {p : Program} {l : Launch} {e : Env} {R : Room} {s : State} {m : MethodId} {args : Array Value} {below : List Frame} {meth : Method} {c : Code} {H : Heap} {locs : List Loc} {cells slots : Nat} {Q : State → Prop}
variable {cc : ByteArray} {pc : Nat} {ls : Array Slot} {rest st0 : List Value} {Γ : Gm} {S : List (String × Nat × String)} {σ τ : St} {β γ : Type} {r : β} {vo : Option Value} {u : Rs}
variable {own : String} {index nL maxL fr lo mc ms mcT msT n : Nat} {y : MethodName} {b : ByteArray} {ret : Option FieldType} {As : List Value}
theorem q_rxV (X : Fx p c cc nL s m own) (hK : KK Γ S s.heap.size s) (hw : Sit Γ σ s H locs) {k o ci : Nat} {fs : List Value} {q : vw_C} (he : cel Γ σ k o = .inr (ci, fs)) (ho : o < cnt (gn Γ) k) (hci : vwCl[ci]? = some q) (hM : CX Γ S l y b maxL ret fr lo mc ms (.ref (ga Γ k o) :: As) u σ) (hv : MV q.1 y b maxL ret n) (hl : Cond.methodLink own index y ∈ lw_tbl) (hR : fr + 1 ≤ R.frames ∧ 8 + (maxL + 11) + lo ≤ R.locals)
    (hn : As.length = n) (hsz : ls.size = nL) (hst : st0 = As.reverse ++ .ref (ga Γ k o) :: rest) (hW : (rest.map fun v => v.category).sum ≤ 8) (hd : decode cc pc = .ok (.invokevirtual index, 3)) (hf : cells + mc ≤ R.cells ∧ slots + ms ≤ R.slots) :
    vx_Run p l e R s m args below meth c H locs cells slots mc ms (F0 m pc ls st0) rest (Qx Γ u (AA Γ H.size) (Value.ref (ga Γ k o) :: As).toArray) (Xx Γ u (AA Γ H.size)) (AA Γ H.size) :=
  vx_runV (fx_cf X) (hM H.size) ⟨mk_B hK.2.2.2.2.1 hv.1.2.2.2.1 hv.1.2.2.2.2 hl hv.2 hR, kw_m hK.2.2.2.2.1 hv.1.1 rfl, kw_m hK.2.2.2.2.1 hv.1.2.1 hv.1.2.2.1⟩ ⟨pw_blind, mk_recv hK hw he ho hci, fun U hU hW => ⟨rfl, pw_at hK hw hU hW⟩⟩ rfl hn hsz hst (lv_room (rest := st0) (ls := ls) (pc := pc) (m := m) hW) hd hf
theorem q_rxS (X : Fx p c cc nL s m own) (hK : KK Γ S s.heap.size s) (hw : Sit Γ σ s H locs) (hM : CX Γ S l y b maxL ret fr lo mc ms As u σ) (hv : MS y b maxL ret n) (hl : Cond.methodLink own index y ∈ lw_tbl) (hR : fr + 1 ≤ R.frames ∧ 8 + (maxL + 11) + lo ≤ R.locals)
    (hn : As.length = n) (hsz : ls.size = nL) (hst : st0 = As.reverse ++ rest) (hW : (rest.map fun v => v.category).sum ≤ 8) (hd : decode cc pc = .ok (.invokestatic index, 3)) (hf : cells + mc ≤ R.cells ∧ slots + ms ≤ R.slots) :
    vx_Run p l e R s m args below meth c H locs cells slots mc ms (F0 m pc ls st0) rest (Qx Γ u (AA Γ H.size) As.toArray) (Xx Γ u (AA Γ H.size)) (AA Γ H.size) :=
  vx_runS (fx_cf X) (hM H.size) ⟨mk_B hK.2.2.2.2.1 hv.1.2.1 hv.1.2.2 hl hv.2 hR, kw_m hK.2.2.2.2.1 hv.1.1 rfl⟩ ⟨pw_blind, fun U hU hW => ⟨rfl, pw_at hK hw hU hW⟩⟩ rfl hn hsz hst (lv_room (rest := st0) (ls := ls) (pc := pc) (m := m) hW) hd hf
/-- where a body that may throw is to arrive -/
abbrev QZ (Γ : Gm) (below : List Frame) (u : Rs) (args : Array Value) (s : State) (mc ms : Nat) : State → Prop := vx_MQ below (Qx Γ u (AA Γ s.heap.size)) (Xx Γ u (AA Γ s.heap.size)) args s mc ms (AA Γ s.heap.size)
/-- a call that may throw, what it throws going on -/
theorem q_xg {rs1 : ((β ⊕ String) × St) → Rs} {rs2 : ((γ ⊕ String) × St) → Rs} {f : β → Option Value} (h1 : ∀ v τ, rs1 (.inl v, τ) = (.inl (f v), τ)) (h1x : ∀ E τ, rs1 (.inr E, τ) = (.inr E, τ)) (h2 : ∀ E τ, rs2 (.inr E, τ) = (.inr E, τ)) {x : Option ((β ⊕ String) × St)} {K : β → St → Option ((γ ⊕ String) × St)} {rr : (γ ⊕ String) × St} (hf : ox x (fun E τ => some (.inr E, τ)) K = some rr) (hw : Sit Γ σ s H locs) {a : ((β ⊕ String) × St) → Array Value}
    (hr : ∀ u, x = some u → vx_Run p l e R s m args below meth c H locs cells slots mc ms (F0 m pc ls st0) rest (Qx Γ (rs1 u) (AA Γ H.size) (a u)) (Xx Γ (rs1 u) (AA Γ H.size)) (AA Γ H.size)) (hk : meth.locks = false) (htab : ∀ x ∈ c.exceptionTable.toList, False) (hc : cells + mc ≤ mcT) (hs : slots + ms ≤ msT)
    (kk : ∀ (v : β) (τ : St) (H : Heap) (locs : List Loc), K v τ = some rr → Sit Γ τ s H locs → x = some (.inl v, τ) → W p l e R s m args below meth c H locs (cells + mc) (slots + ms) (QZ Γ below (rs2 rr) args s mcT msT) (F0 m (pc + 3) ls ((f v).toList ++ rest))) : W p l e R s m args below meth c H locs cells slots (QZ Γ below (rs2 rr) args s mcT msT) (F0 m pc ls st0) := by
  rcases ox_t hf with ⟨v, τ, e1, e2⟩ | ⟨E, τ, e1, e2⟩
  · refine q_gox (hr _ e1) hw.2 (fun E ce q9 H1 locs1 hu => ?_) (fun vo H1 locs1 hu hw1 => ?_)
    · rw [h1] at hu; cases hu
    · rw [h1] at hu hw1
      cases hu
      exact kk v τ H1 locs1 e2 hw1 e1
  · cases e2
    refine q_gox (hr _ e1) hw.2 (fun E ce q9 H1 locs1 hu hw1 g1 g2 g3 => ?_) (fun vo H1 locs1 hu hw1 => ?_)
    · rw [h1x] at hu hw1
      cases hu
      refine vx_out (E := _) (fun x hx => (htab x hx).elim) hk g1 g2 g3 (fun t ht _ => ⟨by rw [h2], by rw [h2, ht]; exact hw1.1, hw1.2.F ht⟩) hw1.2.2.2 hc hs
    · rw [h1x] at hu; cases hu
theorem q_xI {rs2 : ((γ ⊕ String) × St) → Rs} (h2 : ∀ E τ, rs2 (.inr E, τ) = (.inr E, τ)) {x : Option ((Int32 ⊕ String) × St)} {K : Int32 → St → Option ((γ ⊕ String) × St)} {rr : (γ ⊕ String) × St} (hf : ox x (fun E τ => some (.inr E, τ)) K = some rr) (hw : Sit Γ σ s H locs) {a : ((Int32 ⊕ String) × St) → Array Value}
    (hr : ∀ u, x = some u → vx_Run p l e R s m args below meth c H locs cells slots mc ms (F0 m pc ls st0) rest (Qx Γ (rsI u) (AA Γ H.size) (a u)) (Xx Γ (rsI u) (AA Γ H.size)) (AA Γ H.size)) (hk : meth.locks = false) (htab : ∀ x ∈ c.exceptionTable.toList, False) (hc : cells + mc ≤ mcT) (hs : slots + ms ≤ msT)
    (kk : ∀ (v : Int32) (τ : St) (H : Heap) (locs : List Loc), K v τ = some rr → Sit Γ τ s H locs → x = some (.inl v, τ) → W p l e R s m args below meth c H locs (cells + mc) (slots + ms) (QZ Γ below (rs2 rr) args s mcT msT) (F0 m (pc + 3) ls (.int v :: rest))) : W p l e R s m args below meth c H locs cells slots (QZ Γ below (rs2 rr) args s mcT msT) (F0 m pc ls st0) :=
  q_xg (f := fun v => some (.int v)) (fun _ _ => rfl) (fun _ _ => rfl) h2 hf hw hr hk htab hc hs kk
theorem q_xF {rs2 : ((γ ⊕ String) × St) → Rs} (h2 : ∀ E τ, rs2 (.inr E, τ) = (.inr E, τ)) {x : Option ((UInt32 ⊕ String) × St)} {K : UInt32 → St → Option ((γ ⊕ String) × St)} {rr : (γ ⊕ String) × St} (hf : ox x (fun E τ => some (.inr E, τ)) K = some rr) (hw : Sit Γ σ s H locs) {a : ((UInt32 ⊕ String) × St) → Array Value}
    (hr : ∀ u, x = some u → vx_Run p l e R s m args below meth c H locs cells slots mc ms (F0 m pc ls st0) rest (Qx Γ (rsF u) (AA Γ H.size) (a u)) (Xx Γ (rsF u) (AA Γ H.size)) (AA Γ H.size)) (hk : meth.locks = false) (htab : ∀ x ∈ c.exceptionTable.toList, False) (hc : cells + mc ≤ mcT) (hs : slots + ms ≤ msT)
    (kk : ∀ (v : UInt32) (τ : St) (H : Heap) (locs : List Loc), K v τ = some rr → Sit Γ τ s H locs → x = some (.inl v, τ) → W p l e R s m args below meth c H locs (cells + mc) (slots + ms) (QZ Γ below (rs2 rr) args s mcT msT) (F0 m (pc + 3) ls (.float v :: rest))) : W p l e R s m args below meth c H locs cells slots (QZ Γ below (rs2 rr) args s mcT msT) (F0 m pc ls st0) :=
  q_xg (f := fun v => some (.float v)) (fun _ _ => rfl) (fun _ _ => rfl) h2 hf hw hr hk htab hc hs kk
theorem q_xV {rs2 : ((γ ⊕ String) × St) → Rs} (h2 : ∀ E τ, rs2 (.inr E, τ) = (.inr E, τ)) {x : Option ((Unit ⊕ String) × St)} {K : Unit → St → Option ((γ ⊕ String) × St)} {rr : (γ ⊕ String) × St} (hf : ox x (fun E τ => some (.inr E, τ)) K = some rr) (hw : Sit Γ σ s H locs) {a : ((Unit ⊕ String) × St) → Array Value}
    (hr : ∀ u, x = some u → vx_Run p l e R s m args below meth c H locs cells slots mc ms (F0 m pc ls st0) rest (Qx Γ (rsV u) (AA Γ H.size) (a u)) (Xx Γ (rsV u) (AA Γ H.size)) (AA Γ H.size)) (hk : meth.locks = false) (htab : ∀ x ∈ c.exceptionTable.toList, False) (hc : cells + mc ≤ mcT) (hs : slots + ms ≤ msT)
    (kk : ∀ (v : Unit) (τ : St) (H : Heap) (locs : List Loc), K v τ = some rr → Sit Γ τ s H locs → x = some (.inl v, τ) → W p l e R s m args below meth c H locs (cells + mc) (slots + ms) (QZ Γ below (rs2 rr) args s mcT msT) (F0 m (pc + 3) ls rest)) : W p l e R s m args below meth c H locs cells slots (QZ Γ below (rs2 rr) args s mcT msT) (F0 m pc ls st0) :=
  q_xg (f := fun _ => none) (fun _ _ => rfl) (fun _ _ => rfl) h2 hf hw hr hk htab hc hs kk
theorem q_xR {k : Nat} {rs2 : ((γ ⊕ String) × St) → Rs} (h2 : ∀ E τ, rs2 (.inr E, τ) = (.inr E, τ)) {x : Option ((Nat ⊕ String) × St)} {K : Nat → St → Option ((γ ⊕ String) × St)} {rr : (γ ⊕ String) × St} (hf : ox x (fun E τ => some (.inr E, τ)) K = some rr) (hw : Sit Γ σ s H locs) {a : ((Nat ⊕ String) × St) → Array Value}
    (hr : ∀ u, x = some u → vx_Run p l e R s m args below meth c H locs cells slots mc ms (F0 m pc ls st0) rest (Qx Γ (rsRk Γ k u) (AA Γ H.size) (a u)) (Xx Γ (rsRk Γ k u) (AA Γ H.size)) (AA Γ H.size)) (hk : meth.locks = false) (htab : ∀ x ∈ c.exceptionTable.toList, False) (hc : cells + mc ≤ mcT) (hs : slots + ms ≤ msT)
    (kk : ∀ (v : Nat) (τ : St) (H : Heap) (locs : List Loc), K v τ = some rr → Sit Γ τ s H locs → x = some (.inl v, τ) → W p l e R s m args below meth c H locs (cells + mc) (slots + ms) (QZ Γ below (rs2 rr) args s mcT msT) (F0 m (pc + 3) ls (.ref (ga Γ k v) :: rest))) : W p l e R s m args below meth c H locs cells slots (QZ Γ below (rs2 rr) args s mcT msT) (F0 m pc ls st0) :=
  q_xg (f := fun v => some (.ref (ga Γ k v))) (fun _ _ => rfl) (fun _ _ => rfl) h2 hf hw hr hk htab hc hs kk
theorem q_xiret {rr : (Int32 ⊕ String) × St} {x : Int32} {ty : FieldType} (hf : some (.inl x, σ) = some rr) (hx : p.tables.exec = Jvm.exec) (hb : c.code = cc) (hr : meth.sig.returnType = some ty) (hn : narrow ty (.int x) = .int x) (hk : meth.locks = false) (hw : Sit Γ σ s H locs) (hd : decode cc pc = .ok (.ireturn, 1)) (hc : cells ≤ mc) (hs : slots ≤ ms) : W p l e R s m args below meth c H locs cells slots (QZ Γ below (rsI rr) args s mc ms) (F0 m pc ls [.int x]) := by
  cases hf
  refine vx_ret (W.widen hc hs ?_)
  exact W.zret hx hb hr hn (fun t ht _ => ⟨_, rfl, ⟨rfl, by rw [ht]; exact hw.1⟩, hw.2.F ht⟩) hw.2.2.2 hd
theorem q_xnret {rr : (Int32 ⊕ String) × St} {x : Int32} {ty : FieldType} (hf : some (.inl (vp_nar ty x), σ) = some rr) (hx : p.tables.exec = Jvm.exec) (hb : c.code = cc) (hr : meth.sig.returnType = some ty) (hn : ∀ x, narrow ty (.int x) = .int (vp_nar ty x)) (hk : meth.locks = false) (hw : Sit Γ σ s H locs) (hd : decode cc pc = .ok (.ireturn, 1)) (hc : cells ≤ mc) (hs : slots ≤ ms) : W p l e R s m args below meth c H locs cells slots (QZ Γ below (rsI rr) args s mc ms) (F0 m pc ls [.int x]) := by
  cases hf
  refine vx_ret (W.widen hc hs ?_)
  exact W.nret hx hb hr (hn x) (fun t ht _ => ⟨_, rfl, ⟨rfl, by rw [ht]; exact hw.1⟩, hw.2.F ht⟩) hw.2.2.2 hd hk
theorem q_xfret {rr : (UInt32 ⊕ String) × St} {x : UInt32} (hf : some (.inl x, σ) = some rr) (hx : p.tables.exec = Jvm.exec) (hb : c.code = cc) (hr : meth.sig.returnType = some .float) (hk : meth.locks = false) (hw : Sit Γ σ s H locs) (hd : decode cc pc = .ok (.freturn, 1)) (hc : cells ≤ mc) (hs : slots ≤ ms) : W p l e R s m args below meth c H locs cells slots (QZ Γ below (rsF rr) args s mc ms) (F0 m pc ls [.float x]) := by
  cases hf
  refine vx_ret (W.widen hc hs ?_)
  exact W.fret hx hb hr (fun t ht _ => ⟨_, rfl, ⟨rfl, by rw [ht]; exact hw.1⟩, hw.2.F ht⟩) hw.2.2.2 hd
theorem q_xlret {rr : (Int64 ⊕ String) × St} {x : Int64} (hf : some (.inl x, σ) = some rr) (hx : p.tables.exec = Jvm.exec) (hb : c.code = cc) (hr : meth.sig.returnType = some .long) (hk : meth.locks = false) (hw : Sit Γ σ s H locs) (hd : decode cc pc = .ok (.lreturn, 1)) (hc : cells ≤ mc) (hs : slots ≤ ms) : W p l e R s m args below meth c H locs cells slots (QZ Γ below (rsJ rr) args s mc ms) (F0 m pc ls [.long x]) := by
  cases hf
  refine vx_ret (W.widen hc hs ?_)
  exact W.lret hx hb hr (fun t ht _ => ⟨_, rfl, ⟨rfl, by rw [ht]; exact hw.1⟩, hw.2.F ht⟩) hw.2.2.2 hd
theorem q_xdret {rr : (UInt64 ⊕ String) × St} {x : UInt64} (hf : some (.inl x, σ) = some rr) (hx : p.tables.exec = Jvm.exec) (hb : c.code = cc) (hr : meth.sig.returnType = some .double) (hk : meth.locks = false) (hw : Sit Γ σ s H locs) (hd : decode cc pc = .ok (.dreturn, 1)) (hc : cells ≤ mc) (hs : slots ≤ ms) : W p l e R s m args below meth c H locs cells slots (QZ Γ below (rsD rr) args s mc ms) (F0 m pc ls [.double x]) := by
  cases hf
  refine vx_ret (W.widen hc hs ?_)
  exact W.dret hx hb hr (fun t ht _ => ⟨_, rfl, ⟨rfl, by rw [ht]; exact hw.1⟩, hw.2.F ht⟩) hw.2.2.2 hd
theorem q_xvret {rr : (Unit ⊕ String) × St} (hx : p.tables.exec = Jvm.exec) (hb : c.code = cc) (hr : meth.sig.returnType = none) (hk : meth.locks = false) (hw : Sit Γ σ s H locs) (hd : decode cc pc = .ok (.return_, 1)) (hf : some (.inl (), σ) = some rr) (hc : cells ≤ mc) (hs : slots ≤ ms) : W p l e R s m args below meth c H locs cells slots (QZ Γ below (rsV rr) args s mc ms) (F0 m pc ls []) := by
  cases hf
  refine vx_ret (W.widen hc hs ?_)
  exact W.vret hx hb hr (fun t ht _ => ⟨_, rfl, ⟨rfl, by rw [ht]; exact hw.1⟩, hw.2.F ht⟩) hw.2.2.2 hd
theorem q_xaret {k o : Nat} {rr : (Nat ⊕ String) × St} {nm : String} (hf : some (.inl o, σ) = some rr) (hx : p.tables.exec = Jvm.exec) (hb : c.code = cc) (hr : meth.sig.returnType = some (.object nm)) (hk : meth.locks = false) (hw : Sit Γ σ s H locs) (hd : decode cc pc = .ok (.areturn, 1)) (hc : cells ≤ mc) (hs : slots ≤ ms) : W p l e R s m args below meth c H locs cells slots (QZ Γ below (rsRk Γ k rr) args s mc ms) (F0 m pc ls [.ref (ga Γ k o)]) := by
  cases hf
  refine vx_ret (W.widen hc hs ?_)
  exact W.aret hx hb hr (Or.inl ⟨nm, rfl⟩) (Or.inr ⟨_, rfl⟩) (fun t ht _ => ⟨_, rfl, ⟨rfl, by rw [ht]; exact hw.1⟩, hw.2.F ht⟩) hw.2.2.2 hd
theorem xx_of {E : String} {u : Rs} (hu : u = (.inr E, σ)) (hw : Sit Γ σ s H locs) (t : State) (h1 : H.size ≤ t.heap.size) (h2 : ∀ q : Nat, q < H.size → t.heap[q]? = H[q]?) : Xx Γ u (AA Γ s.heap.size) E s t := by
  subst hu
  refine ⟨rfl, hw.1.kept (fun k q hk => h2 q.1 (vx_lt hw.1 hk)), Nat.le_trans hw.2.1 h1, fun q g1 g2 => ?_⟩
  rw [h2 q (Nat.lt_of_lt_of_le g1 hw.2.1)]
  exact hw.2.2.1 q g1 g2
theorem q_thr {E text : String} {ik is ic : Nat} {rs2 : ((γ ⊕ String) × St) → Rs} {rr : (γ ⊕ String) × St} (h2 : ∀ E τ, rs2 (.inr E, τ) = (.inr E, τ)) (hf : some (.inr E, σ) = some rr) (hfl : l.stackTraces = false) (X : Fx p c cc nL s m own) (hK : KK Γ STR s.heap.size s) (hw : Sit Γ σ s H locs) (hsz : ls.size = nL) (hk : meth.locks = false) (htab : ∀ x ∈ c.exceptionTable.toList, False) (hax : AX own E ik ic) (hst : (own, is, text) ∈ STR)
    (d0 : decode cc pc = .ok (.new ik, 3)) (d3 : decode cc (pc + 3) = .ok (.dup, 1)) (d4 : decode cc (pc + 4) = .ok (.ldc is, 2)) (d6 : decode cc (pc + 6) = .ok (.invokespecial ic, 3)) (d9 : decode cc (pc + 9) = .ok (.athrow, 1))
    (hRf : 5 < R.frames) (hRl : (rest.map fun v => v.category).sum + 82 ≤ R.locals) (hRc : cells + 1 ≤ R.cells) (hRs : slots + 6 ≤ R.slots) (hc : cells + 1 ≤ mc) (hs : slots + 6 ≤ ms) : W p l e R s m args below meth c H locs cells slots (QZ Γ below (rs2 rr) args s mc ms) (F0 m pc ls rest) := by
  cases hf
  obtain ⟨sa, hsa⟩ := hK.2.2.2.2.2.1 _ hst
  have hall : ∀ w ∈ Cond.classLink own ik E :: Cond.initialized E :: vx_atS own ic E N3, w.before args s = true := fun w hw9 => kw_m hK.2.2.2.2.1 (hax.2 w hw9).1 (hax.2 w hw9).2.1
  exact vx_throwS (names := N3) X.1 X.2.1 hfl X.2.2.2 hax.1.1 hax.1.2 (hall _ List.mem_cons_self) (hall _ (List.mem_cons_of_mem _ List.mem_cons_self)) hsa (fun w h => hall w (List.mem_cons_of_mem _ (List.mem_cons_of_mem _ h))) (fun w h => (hax.2 w h).2.2) hK.2.2.1 hK.2.2.2.1 hw.2 (hsz.trans X.2.2.1.symm) d0 d3 d4 d6 d9 (fun x hx => (htab x hx).elim) hRf hRl hRc hRs hk (fun t _ g1 g2 => xx_of (h2 _ _) hw t g1 g2) hw.2.2.2 hc hs
theorem q_thrW {E text : String} {ik is ic : Nat} {rs2 : ((γ ⊕ String) × St) → Rs} {rr : (γ ⊕ String) × St} (h2 : ∀ E τ, rs2 (.inr E, τ) = (.inr E, τ)) (hf : some (.inr E, σ) = some rr) (hfl : l.stackTraces = false) (X : Fx p c cc nL s m own) (hK : KK Γ STR s.heap.size s) (hw : Sit Γ σ s H locs) (hsz : ls.size = nL) (hk : meth.locks = false) (htab : ∀ x ∈ c.exceptionTable.toList, False) (hax : AX own E ik ic) (hst : (own, is, text) ∈ STR)
    (d0 : decode cc pc = .ok (.new ik, 3)) (d3 : decode cc (pc + 3) = .ok (.dup, 1)) (d4 : decode cc (pc + 4) = .ok (.ldc_w is, 3)) (d6 : decode cc (pc + 7) = .ok (.invokespecial ic, 3)) (d9 : decode cc (pc + 10) = .ok (.athrow, 1))
    (hRf : 5 < R.frames) (hRl : (rest.map fun v => v.category).sum + 82 ≤ R.locals) (hRc : cells + 1 ≤ R.cells) (hRs : slots + 6 ≤ R.slots) (hc : cells + 1 ≤ mc) (hs : slots + 6 ≤ ms) : W p l e R s m args below meth c H locs cells slots (QZ Γ below (rs2 rr) args s mc ms) (F0 m pc ls rest) := by
  cases hf
  obtain ⟨sa, hsa⟩ := hK.2.2.2.2.2.1 _ hst
  have hall : ∀ w ∈ Cond.classLink own ik E :: Cond.initialized E :: vx_atS own ic E N3, w.before args s = true := fun w hw9 => kw_m hK.2.2.2.2.1 (hax.2 w hw9).1 (hax.2 w hw9).2.1
  exact vx_throwSW (names := N3) X.1 X.2.1 hfl X.2.2.2 hax.1.1 hax.1.2 (hall _ List.mem_cons_self) (hall _ (List.mem_cons_of_mem _ List.mem_cons_self)) hsa (fun w h => hall w (List.mem_cons_of_mem _ (List.mem_cons_of_mem _ h))) (fun w h => (hax.2 w h).2.2) hK.2.2.1 hK.2.2.2.1 hw.2 (hsz.trans X.2.2.1.symm) d0 d3 d4 d6 d9 (fun x hx => (htab x hx).elim) hRf hRl hRc hRs hk (fun t _ g1 g2 => xx_of (h2 _ _) hw t g1 g2) hw.2.2.2 hc hs
theorem q_thrN {E text : String} {ik is ic : Nat} {rs2 : ((γ ⊕ String) × St) → Rs} {rr : (γ ⊕ String) × St} (h2 : ∀ E τ, rs2 (.inr E, τ) = (.inr E, τ)) (hf : some (.inr E, σ) = some rr) (hfl : l.stackTraces = false) (X : Fx p c cc nL s m own) (hK : KK Γ STR s.heap.size s) (hw : Sit Γ σ s H locs) (hsz : ls.size = nL) (hk : meth.locks = false) (htab : ∀ x ∈ c.exceptionTable.toList, False) (hax : AXN own E ik ic) (hst : (own, is, text) ∈ STR)
    (d0 : decode cc pc = .ok (.new ik, 3)) (d3 : decode cc (pc + 3) = .ok (.dup, 1)) (d4 : decode cc (pc + 4) = .ok (.ldc is, 2)) (d6 : decode cc (pc + 6) = .ok (.invokespecial ic, 3)) (d9 : decode cc (pc + 9) = .ok (.athrow, 1))
    (hRf : 5 < R.frames) (hRl : (rest.map fun v => v.category).sum + 82 ≤ R.locals) (hRc : cells + 1 ≤ R.cells) (hRs : slots + 6 ≤ R.slots) (hc : cells + 1 ≤ mc) (hs : slots + 6 ≤ ms) : W p l e R s m args below meth c H locs cells slots (QZ Γ below (rs2 rr) args s mc ms) (F0 m pc ls rest) := by
  cases hf
  obtain ⟨sa, hsa⟩ := hK.2.2.2.2.2.1 _ hst
  have hall : ∀ w ∈ Cond.classLink own ik E :: Cond.initialized E :: nx_at own ic E 13 R13 N3, w.before args s = true := fun w hw9 => kw_m hK.2.2.2.2.1 (hax.2 w hw9).1 (hax.2 w hw9).2.1
  exact nx_throwS (names := N3) (rx := R13) (ix := 13) X.1 X.2.1 hfl (by decide +kernel) (by decide +kernel) (by decide +kernel) (by decide +kernel) X.2.2.2 hax.1.1 hax.1.2 (hall _ List.mem_cons_self) (hall _ (List.mem_cons_of_mem _ List.mem_cons_self)) hsa (fun w h => hall w (List.mem_cons_of_mem _ (List.mem_cons_of_mem _ h))) (fun w h => (hax.2 w h).2.2) hK.2.2.1 hK.2.2.2.1 hw.2 (hsz.trans X.2.2.1.symm) d0 d3 d4 d6 d9 (fun x hx => (htab x hx).elim) hRf hRl hRc hRs hk (fun t _ g1 g2 => xx_of (h2 _ _) hw t g1 g2) hw.2.2.2 hc hs
theorem q_thrNW {E text : String} {ik is ic : Nat} {rs2 : ((γ ⊕ String) × St) → Rs} {rr : (γ ⊕ String) × St} (h2 : ∀ E τ, rs2 (.inr E, τ) = (.inr E, τ)) (hf : some (.inr E, σ) = some rr) (hfl : l.stackTraces = false) (X : Fx p c cc nL s m own) (hK : KK Γ STR s.heap.size s) (hw : Sit Γ σ s H locs) (hsz : ls.size = nL) (hk : meth.locks = false) (htab : ∀ x ∈ c.exceptionTable.toList, False) (hax : AXN own E ik ic) (hst : (own, is, text) ∈ STR)
    (d0 : decode cc pc = .ok (.new ik, 3)) (d3 : decode cc (pc + 3) = .ok (.dup, 1)) (d4 : decode cc (pc + 4) = .ok (.ldc_w is, 3)) (d6 : decode cc (pc + 7) = .ok (.invokespecial ic, 3)) (d9 : decode cc (pc + 10) = .ok (.athrow, 1))
    (hRf : 5 < R.frames) (hRl : (rest.map fun v => v.category).sum + 82 ≤ R.locals) (hRc : cells + 1 ≤ R.cells) (hRs : slots + 6 ≤ R.slots) (hc : cells + 1 ≤ mc) (hs : slots + 6 ≤ ms) : W p l e R s m args below meth c H locs cells slots (QZ Γ below (rs2 rr) args s mc ms) (F0 m pc ls rest) := by
  cases hf
  obtain ⟨sa, hsa⟩ := hK.2.2.2.2.2.1 _ hst
  have hall : ∀ w ∈ Cond.classLink own ik E :: Cond.initialized E :: nx_at own ic E 13 R13 N3, w.before args s = true := fun w hw9 => kw_m hK.2.2.2.2.1 (hax.2 w hw9).1 (hax.2 w hw9).2.1
  exact nx_throwSW (names := N3) (rx := R13) (ix := 13) X.1 X.2.1 hfl (by decide +kernel) (by decide +kernel) (by decide +kernel) (by decide +kernel) X.2.2.2 hax.1.1 hax.1.2 (hall _ List.mem_cons_self) (hall _ (List.mem_cons_of_mem _ List.mem_cons_self)) hsa (fun w h => hall w (List.mem_cons_of_mem _ (List.mem_cons_of_mem _ h))) (fun w h => (hax.2 w h).2.2) hK.2.2.1 hK.2.2.2.1 hw.2 (hsz.trans X.2.2.1.symm) d0 d3 d4 d6 d9 (fun x hx => (htab x hx).elim) hRf hRl hRc hRs hk (fun t _ g1 g2 => xx_of (h2 _ _) hw t g1 g2) hw.2.2.2 hc hs
end QX
/-- a contract of a method that may throw, out of the walk of its body -/
theorem cx_body {Γ : Gm} {S : List (String × Nat × String)} {l : Launch} {y : MethodName} {b : ByteArray} {maxL : Nat} {ret : Option FieldType} {fr lo mc ms : Nat} {As : List Value} {u : Rs} {σ : St} {lv : List (Nat × Value)} (hy : plainName y.cls = true) (hlv : lv_args 0 As = lv) (hle : (lg_sl As).length ≤ maxL)
    (body : ∀ (p : Program) (e : Env) (s : State) (m : MethodId) (below : List Frame) (meth : Method) (c : Code) (ls : Array Slot), Fx p c b maxL s m y.cls → meth.sig.returnType = ret → meth.locks = false → KK Γ S s.heap.size s → Sit Γ σ s s.heap [] → lv_has ls maxL lv → (∀ x ∈ c.exceptionTable.toList, False) →
      W p l e { frames := fr, cells := mc, slots := ms, locals := lo } s m As.toArray below meth c s.heap [] 0 0 (QZ Γ below u As.toArray s mc ms) (F0 m 0 ls [])) : CX Γ S l y b maxL ret fr lo mc ms As u σ := by
  intro sz
  refine vx_ofW (cc := b) (maxL := maxL) (ret := ret) hy rfl ?_
  intro p e s m args below meth c s₁ B hml ht hv
  obtain ⟨rfl, rfl, hP, hK⟩ := hv
  have hl := lv_entry As hle
  rw [lg_entry_eq]
  rw [hlv] at hl
  exact body p e s m below meth c _ ⟨B.exec, B.bytes, hml, findClass_of_methodNamed B.named⟩ B.returns B.notSynchronized hK ⟨hP, va_S.rf⟩ hl ht

theorem ltX7_needUser {N : Nat} {σ τ : St} {x1 : Int32} {v : Nat} (h : fX7_needUser N σ x1 = some (.inl v, τ)) : v < 3 := by
  unfold fX7_needUser at h
  split at h
  · cases h
  · split at h
    · cases h
    · obtain ⟨h1, h2⟩ := ck_t h
      cases h2
      exact inb_lt h1
theorem ltX7_needView {N : Nat} {σ τ : St} {x1 x2 : Int32} {v : Nat} (h : fX7_needView N σ x1 x2 = some (.inl v, τ)) : v < 3 := by
  unfold fX7_needView at h
  rcases ox_t h with ⟨v1, τ1, e1, e2⟩ | ⟨E, τ1, e1, e2⟩
  · rcases ox_t e2 with ⟨v2, τ2, e3, e4⟩ | ⟨E, τ2, e3, e4⟩
    · cases e4
      exact ltX7_needUser e1
    · cases e4
  · cases e2
