/-! What stands at a method's entry and at every point of its walk; contracts; calls. -/
def pw_st (w : Cond) : Bool := match w with
  | .methodLinkNest _ _ _ _ => true
  | .castable _ _ => true
  | .declares _ => true
  | w => goodWord w
theorem pw_warm {w : Cond} (h : pw_st w = true) {s U : State} {A A' : Array Value} (hW : s.WarmedH U.vm) (hb : w.before A s = true) : w.before A' U = true := by
  unfold pw_st at h
  split at h
  · exact va_Nw.use rfl (va_Nw.warmM hW (va_Nw.of rfl hb))
  · exact va_Nw.use rfl (va_Nw.warmC hW (va_Nw.of rfl hb))
  · exact va_Nw.use rfl (va_Nw.warmD hW (va_Nw.of rfl hb))
  · exact word_at hW (good_of_word h) hb
def KW (U : State) : Prop := ∀ w ∈ lw_tbl, pw_st w = true → w.before #[] U = true
theorem KW.warm {s U : State} (hW : s.WarmedH U.vm) (h : KW s) : KW U := fun w hw hs => pw_warm hs hW (h w hw hs)
theorem kw_at {s : State} (h : KW s) {w : Cond} {A : Array Value} (i : Nat) (hi : lw_tbl[i]? = some w) (hs : pw_st w = true) : w.before A s = true := pw_warm hs (State.WarmedH.refl s) (h w (List.mem_of_getElem? hi) hs)
theorem kw_in {s : State} (h : KW s) {L : List Cond} {A : Array Value} (hL : ∀ w ∈ L, w ∈ lw_tbl) (hs : L.all pw_st = true) : ∀ w ∈ L, w.before A s = true := fun w hw => pw_warm (List.all_eq_true.mp hs w hw) (State.WarmedH.refl s) (h w (hL w hw) (List.all_eq_true.mp hs w hw))
/-- pairs of exceptions of which the first is none of the second -/
def NCL : List (String × String) := [("java/lang/IllegalArgumentException", "java/lang/IllegalStateException"), ("java/lang/IllegalArgumentException", "java/util/NoSuchElementException"), ("java/lang/IllegalArgumentException", "java/lang/UnsupportedOperationException"), ("java/lang/IllegalArgumentException", "java/lang/IndexOutOfBoundsException"), ("java/lang/IllegalArgumentException", "java/lang/ArithmeticException"), ("java/lang/IllegalStateException", "java/lang/IllegalArgumentException"), ("java/lang/IllegalStateException", "java/util/NoSuchElementException"), ("java/lang/IllegalStateException", "java/lang/UnsupportedOperationException"), ("java/lang/IllegalStateException", "java/lang/IndexOutOfBoundsException"), ("java/lang/IllegalStateException", "java/lang/ArithmeticException"), ("java/util/NoSuchElementException", "java/lang/IllegalArgumentException"), ("java/util/NoSuchElementException", "java/lang/IllegalStateException"), ("java/util/NoSuchElementException", "java/lang/UnsupportedOperationException"), ("java/util/NoSuchElementException", "java/lang/IndexOutOfBoundsException"), ("java/util/NoSuchElementException", "java/lang/ArithmeticException"), ("java/lang/UnsupportedOperationException", "java/lang/IllegalArgumentException"), ("java/lang/UnsupportedOperationException", "java/lang/IllegalStateException"), ("java/lang/UnsupportedOperationException", "java/util/NoSuchElementException"), ("java/lang/UnsupportedOperationException", "java/lang/IndexOutOfBoundsException"), ("java/lang/UnsupportedOperationException", "java/lang/ArithmeticException"), ("java/lang/IndexOutOfBoundsException", "java/lang/IllegalArgumentException"), ("java/lang/IndexOutOfBoundsException", "java/lang/IllegalStateException"), ("java/lang/IndexOutOfBoundsException", "java/util/NoSuchElementException"), ("java/lang/IndexOutOfBoundsException", "java/lang/UnsupportedOperationException"), ("java/lang/IndexOutOfBoundsException", "java/lang/ArithmeticException"), ("java/lang/ArithmeticException", "java/lang/IllegalArgumentException"), ("java/lang/ArithmeticException", "java/lang/IllegalStateException"), ("java/lang/ArithmeticException", "java/util/NoSuchElementException"), ("java/lang/ArithmeticException", "java/lang/UnsupportedOperationException"), ("java/lang/ArithmeticException", "java/lang/IndexOutOfBoundsException")]
def SR (S : List (String × Nat × String)) (U : State) : Prop := (∀ q ∈ S, ∃ a : Nat, vk_R q.1 q.2.1 q.2.2 a U) ∧ ∀ q ∈ NCL, va_Nc q.1 q.2 U
theorem SR.warm {S : List (String × Nat × String)} {s U : State} (hW : s.WarmedH U.vm) (h : SR S s) : SR S U := ⟨fun q hq => (h.1 q hq).elim fun a ha => ⟨a, vk_R.warm hW ha⟩, fun q hq => va_Nc.moved hW.alike (h.2 q hq)⟩
def AA (Γ : Gm) (sz : Nat) : Nat → Prop := fun q => q ∈ gL Γ ∨ sz ≤ q
def KK (Γ : Gm) (S : List (String × Nat × String)) (sz : Nat) (U : State) : Prop :=
  va_K (gG Γ) vwCl (tysl Γ) U ∧ GOK Γ ∧ vx_Zq Bundle.tN "UNASSIGNED_STACK" Bundle.steD (AA Γ sz) U U.heap ∧ vx_Zq Bundle.tN "SUPPRESSED_SENTINEL" Bundle.listD (AA Γ sz) U U.heap ∧ KW U ∧ SR S U
def PW (Γ : Gm) (S : List (String × Nat × String)) (σ : St) (sz : Nat) (U : State) : Prop := U.heap.size = sz ∧ va_P (gG Γ) vwCl (wsl Γ σ) U.heap ∧ KK Γ S sz U
def Sit (Γ : Gm) (σ : St) (s : State) (H : Heap) (locs : List Loc) : Prop := va_P (gG Γ) vwCl (wsl Γ σ) H ∧ va_S (AA Γ s.heap.size) s.heap H locs
theorem pw_at {Γ : Gm} {S : List (String × Nat × String)} {σ : St} {s U : State} {H : Heap} {locs : List Loc} (hK : KK Γ S s.heap.size s) (hw : Sit Γ σ s H locs) (hU : U.heap = H) (hW : s.WarmedH U.vm) : PW Γ S σ H.size U := by
  obtain ⟨k1, k2, k3, k4, k5, k6⟩ := hK
  have hn : ∀ q, AA Γ H.size q → AA Γ s.heap.size q := fun q h => h.elim Or.inl (fun h => Or.inr (Nat.le_trans hw.2.1 h))
  refine ⟨by rw [hU], by rw [hU]; exact hw.1, va_K.moved hW.alike k1, k2, ?_, ?_, KW.warm hW k5, SR.warm hW k6⟩
  · rw [hU]; exact ((k3.kept hw.2.2.1).moved hW.alike).narrow hn
  · rw [hU]; exact ((k4.kept hw.2.2.1).moved hW.alike).narrow hn
theorem pw_blind {Γ : Gm} {S : List (String × Nat × String)} {σ : St} {sz : Nat} {As : List Value} : FrameBlind (va_Pc As (PW Γ S σ sz)) := by
  intro a U g mk h
  obtain ⟨h1, h2, h3, k1, k2, k3, k4, k5, k6⟩ := h
  have hW : U.WarmedH (U.calling g mk a).vm := State.WarmedH.refl U
  exact ⟨h1, h2, h3, va_K.moved (u := U) (U := U.calling g mk a) (Vm.Alike.refl U.vm) k1, k2, vx_Zq.moved (u := U) (U := U.calling g mk a) (Vm.Alike.refl U.vm) k3, vx_Zq.moved (u := U) (U := U.calling g mk a) (Vm.Alike.refl U.vm) k4, KW.warm hW k5, SR.warm hW k6⟩
def Qg (Γ : Gm) (vo : Option Value) (σ : St) (A : Nat → Prop) : Array Value → State → Outcome → State → Prop := fun _ st oc t => (oc = .returned vo ∧ va_P (gG Γ) vwCl (wsl Γ σ) t.heap) ∧ va_F A st t
/-- what a method that may throw comes to -/
abbrev Rs : Type := (Option Value ⊕ String) × St
def Qx (Γ : Gm) (u : Rs) (A : Nat → Prop) : Array Value → State → Outcome → State → Prop := fun a st oc t => ∃ vo, u.1 = .inl vo ∧ Qg Γ vo u.2 A a st oc t
def Xx (Γ : Gm) (u : Rs) (A : Nat → Prop) : String → State → State → Prop := fun E st t => u.1 = .inr E ∧ va_P (gG Γ) vwCl (wsl Γ u.2) t.heap ∧ va_F A st t
/-- contracts: of a method that returns, of one that may throw -/
def CT (Γ : Gm) (S : List (String × Nat × String)) (l : Launch) (y : MethodName) (b : ByteArray) (maxL : Nat) (ret : Option FieldType) (fr lo mc ms : Nat) (As : List Value) (vo : Option Value) (σ τ : St) : Prop :=
  ∀ sz : Nat, Met l y [Cond.code y b maxL ret] { frames := fr, cells := mc, slots := ms, locals := lo } (va_Pc As (PW Γ S σ sz)) (Qg Γ vo τ (AA Γ sz)) mc ms (AA Γ sz)
def CX (Γ : Gm) (S : List (String × Nat × String)) (l : Launch) (y : MethodName) (b : ByteArray) (maxL : Nat) (ret : Option FieldType) (fr lo mc ms : Nat) (As : List Value) (u : Rs) (σ : St) : Prop :=
  ∀ sz : Nat, vx_Met l y [Cond.code y b maxL ret] { frames := fr, cells := mc, slots := ms, locals := lo } (va_Pc As (PW Γ S σ sz)) (Qx Γ u (AA Γ sz)) (Xx Γ u (AA Γ sz)) mc ms (AA Γ sz)
section QC
variable {p : Program} {l : Launch} {e : Env} {R : Room} {s : State} {m : MethodId} {args : Array Value} {below : List Frame} {meth : Method} {c : Code} {H : Heap} {locs : List Loc} {cells slots : Nat} {Q : State → Prop}
variable {pc : Nat} {ls : Array Slot} {rest st0 : List Value} {a : Array Value} {mc ms : Nat} {Γ : Gm} {S : List (String × Nat × String)} {σ τ : St} {vo : Option Value}
theorem aa_in {H : Heap} (hS : va_S (AA Γ s.heap.size) s.heap H locs) : ∀ q, AA Γ H.size q → AA Γ s.heap.size q := fun q h => h.elim Or.inl (fun h => Or.inr (Nat.le_trans hS.1 h))
theorem q_go (hr : va_Run p l e R s m args below meth c H locs cells slots mc ms (F0 m pc ls st0) rest (Qg Γ vo τ (AA Γ H.size) a) (AA Γ H.size)) (hS : va_S (AA Γ s.heap.size) s.heap H locs)
    (kk : ∀ (H1 : Heap) (locs1 : List Loc), Sit Γ τ s H1 locs1 → W p l e R s m args below meth c H1 locs1 (cells + mc) (slots + ms) Q (F0 m (pc + 3) ls (vo.toList ++ rest))) : W p l e R s m args below meth c H locs cells slots Q (F0 m pc ls st0) := by
  intro T hT X
  obtain ⟨v, st₀, t, T', L, h0, X', hL, e1, e2, ⟨⟨hv, hb⟩, hz, hk⟩, st⟩ := hr T hT X
  cases hv
  rw [h0] at hz hk
  obtain ⟨t2, a1, b1⟩ := kk T'.heap (locs ++ L) ⟨by rw [e1]; exact hb, Nat.le_trans hS.1 (by rw [e1]; exact hz), fun q h1 h2 => by rw [e1, hk q (Nat.lt_of_lt_of_le h1 hS.1) (fun z => h2 (aa_in hS q z))]; exact hS.2.1 q h1 h2, fun q hq => by
      rcases List.mem_append.mp hq with h | h
      · exact hS.2.2 q h
      · exact aa_in hS _ (hL q h)⟩ T' rfl X'
  exact ⟨t2, st t2 a1, b1⟩
theorem q_gox {u : Rs} (hr : vx_Run p l e R s m args below meth c H locs cells slots mc ms (F0 m pc ls st0) rest (Qx Γ u (AA Γ H.size) a) (Xx Γ u (AA Γ H.size)) (AA Γ H.size)) (hS : va_S (AA Γ s.heap.size) s.heap H locs)
    (kx : ∀ (E : String) (ce : Cell) (q9 : Addr) (H1 : Heap) (locs1 : List Loc), u.1 = .inr E → Sit Γ u.2 s H1 locs1 → H1[q9]? = some ce → ce.vm = .none → s.vm.findClass E = some ce.cls → vx_W p l e R s m args below meth c H1 locs1 (cells + mc) (slots + ms) Q (F0 m pc ls rest) q9)
    (kk : ∀ (vo : Option Value) (H1 : Heap) (locs1 : List Loc), u.1 = .inl vo → Sit Γ u.2 s H1 locs1 → W p l e R s m args below meth c H1 locs1 (cells + mc) (slots + ms) Q (F0 m (pc + 3) ls (vo.toList ++ rest))) : W p l e R s m args below meth c H locs cells slots Q (F0 m pc ls st0) := by
  intro T hT X
  have hk0 : ∀ (t T' : State) (L : List Loc), va_F (AA Γ H.size) ({ T with heap := H } : State) t → T'.heap = t.heap → (∀ q ∈ L, AA Γ H.size q.base) → va_S (AA Γ s.heap.size) s.heap T'.heap (locs ++ L) := by
    intro t T' L hF e1 hL
    obtain ⟨hz, hk⟩ := hF
    exact ⟨Nat.le_trans hS.1 (by rw [e1]; exact hz), fun q h1 h2 => by rw [e1, hk q (Nat.lt_of_lt_of_le h1 hS.1) (fun z => h2 (aa_in hS q z))]; exact hS.2.1 q h1 h2, fun q hq => by
      rcases List.mem_append.mp hq with h | h
      · exact hS.2.2 q h
      · exact aa_in hS _ (hL q h)⟩
  rcases hr T hT X with ⟨v, st₀, t, T', L, h0, X', hL, e1, e2, ⟨vo, hu, ⟨hv, hb⟩, hz, hk⟩, st⟩ | ⟨q, st₀, t, T', L, E, ce, h0, X', hL, e1, e2, ⟨hu, hb, hz, hk⟩, hce, hcv, hcl, st⟩
  · cases hv
    rw [h0] at hz hk
    obtain ⟨t2, a1, b1⟩ := kk v T'.heap (locs ++ L) hu ⟨by rw [e1]; exact hb, hk0 t T' L ⟨hz, hk⟩ e1 hL⟩ T' rfl X'
    exact ⟨t2, st t2 a1, b1⟩
  · rw [h0] at hz hk
    obtain ⟨t2, a1, b1⟩ := kx E ce q T'.heap (locs ++ L) hu ⟨by rw [e1]; exact hb, hk0 t T' L ⟨hz, hk⟩ e1 hL⟩ (by rw [e1]; exact hce) hcv hcl T' rfl X'
    exact ⟨t2, st.trans a1, b1⟩
end QC
/-- the words of a method that is called: an instance method of C, a static one -/
def MV (C : String) (y : MethodName) (b : ByteArray) (maxL : Nat) (ret : Option FieldType) (n : Nat) : Prop :=
  (Cond.instanceMethod y ∈ lw_tbl ∧ Cond.selects C y y ∈ lw_tbl ∧ pw_st (Cond.selects C y y) = true ∧ Cond.code y b maxL ret ∈ lw_tbl ∧ Cond.initialized y.cls ∈ lw_tbl) ∧ y.cls ≠ "java/lang/invoke/MethodHandle" ∧ y.cls ≠ "java/lang/invoke/VarHandle" ∧ (parseMethodDescriptor y.desc).map (fun d => d.parameters.length) = some n
def MS (y : MethodName) (b : ByteArray) (maxL : Nat) (ret : Option FieldType) (n : Nat) : Prop :=
  (Cond.static y ∈ lw_tbl ∧ Cond.code y b maxL ret ∈ lw_tbl ∧ Cond.initialized y.cls ∈ lw_tbl) ∧ y.cls ≠ "java/lang/invoke/MethodHandle" ∧ y.cls ≠ "java/lang/invoke/VarHandle" ∧ (parseMethodDescriptor y.desc).map (fun d => d.parameters.length) = some n
theorem kw_m {s : State} (h : KW s) {w : Cond} {A : Array Value} (hi : w ∈ lw_tbl) (hs : pw_st w = true) : w.before A s = true := pw_warm hs (State.WarmedH.refl s) (h w hi hs)
theorem mk_B {R : Room} {s : State} {args : Array Value} {own : String} {index : Nat} {y : MethodName} {b : ByteArray} {maxL fr lo mc ms n : Nat} {ret : Option FieldType} (hK : KW s) (h1 : Cond.code y b maxL ret ∈ lw_tbl) (h2 : Cond.initialized y.cls ∈ lw_tbl) (h3 : Cond.methodLink own index y ∈ lw_tbl)
    (hd : y.cls ≠ "java/lang/invoke/MethodHandle" ∧ y.cls ≠ "java/lang/invoke/VarHandle" ∧ (parseMethodDescriptor y.desc).map (fun d => d.parameters.length) = some n) (hR : fr + 1 ≤ R.frames ∧ 8 + (maxL + 11) + lo ≤ R.locals) :
    CallB R s args own index y b maxL ret [Cond.code y b maxL ret] { frames := fr, cells := mc, slots := ms, locals := lo } mc ms n := by
  refine ⟨rfl, rfl, hR.1, hR.2, fun w hw a' U hW => ?_, List.mem_cons_self, kw_m hK h1 rfl, kw_m hK h2 rfl, ⟨hd.1, hd.2.1⟩, fun sig h => ?_, kw_m hK h3 rfl⟩
  · rw [List.mem_singleton.mp hw]
    exact pw_warm rfl hW (kw_m (A := #[]) hK h1 rfl)
  · have h2 := hd.2.2
    rw [h] at h2
    exact (Option.some.inj h2).symm
