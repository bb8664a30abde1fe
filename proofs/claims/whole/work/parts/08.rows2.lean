/-! More rows: lengths, arrays of arrays, the two rows that a router turns over, a switch, ends with a new state, narrow answers. -/
theorem inb_lt {i : Int32} {n : Nat} (h : inb i n = true) : i.toNatClampNeg < n := by
  unfold inb at h
  simp only [Bool.and_eq_true, decide_eq_true_eq] at h
  exact h.2
theorem cel_sR {Γ : Gm} {σ : St} {k v : Nat} (c' o' : Nat) (h : ¬ c' = 6) : cel Γ (sR σ k v) c' o' = cel Γ σ c' o' := by
  unfold cel cell1
  split <;> first | rfl | exact absurd rfl h
section QE
variable {p : Program} {l : Launch} {e : Env} {R : Room} {s : State} {m : MethodId} {args : Array Value} {below : List Frame} {meth : Method} {c : Code} {H : Heap} {locs : List Loc} {cells slots : Nat} {Q : State → Prop}
variable {cc : ByteArray} {pc : Nat} {ls : Array Slot} {rest : List Value} {Γ : Gm} {S : List (String × Nat × String)} {σ τ : St} {β : Type} {r : β} {mc ms : Nat}
theorem q_alenI (hx : p.tables.exec = Jvm.exec) (hb : c.code = cc) (hK : KK Γ S s.heap.size s) (hw : Sit Γ σ s H locs) {k o n : Nat} (hc : ∀ f g ρ, cell1 Γ k o f g ρ = aI Γ n f) (ho : o < cnt (gn Γ) k) {v : Int32} (hv : Int32.ofNat n = v) (hd : decode cc pc = .ok (.arraylength, 1)) (kk : W p l e R s m args below meth c H locs cells slots Q (F0 m (pc + 1) ls (.int v :: rest))) : W p l e R s m args below meth c H locs cells slots Q (F0 m pc ls (.ref (ga Γ k o) :: rest)) := by
  obtain ⟨q0, hq⟩ := wsl_get hK.2.1 σ ho
  have hq : (wsl Γ σ)[q0]? = some (ga Γ k o, aI Γ n (gI σ k o)) := by rw [hq]; exact congrArg (fun z => some (ga Γ k o, z)) (hc _ _ _)
  exact va_alen hx hb hK.1 hw.1 q0 0 hq (ty := .int) rfl hv hd kk
theorem q_alenZ (hx : p.tables.exec = Jvm.exec) (hb : c.code = cc) (hK : KK Γ S s.heap.size s) (hw : Sit Γ σ s H locs) {k o n : Nat} (hc : ∀ f g ρ, cell1 Γ k o f g ρ = aZ Γ n f) (ho : o < cnt (gn Γ) k) {v : Int32} (hv : Int32.ofNat n = v) (hd : decode cc pc = .ok (.arraylength, 1)) (kk : W p l e R s m args below meth c H locs cells slots Q (F0 m (pc + 1) ls (.int v :: rest))) : W p l e R s m args below meth c H locs cells slots Q (F0 m pc ls (.ref (ga Γ k o) :: rest)) := by
  obtain ⟨q0, hq⟩ := wsl_get hK.2.1 σ ho
  have hq : (wsl Γ σ)[q0]? = some (ga Γ k o, aZ Γ n (gI σ k o)) := by rw [hq]; exact congrArg (fun z => some (ga Γ k o, z)) (hc _ _ _)
  exact va_alen hx hb hK.1 hw.1 q0 1 hq (ty := .boolean) rfl hv hd kk
theorem q_alenC (hx : p.tables.exec = Jvm.exec) (hb : c.code = cc) (hK : KK Γ S s.heap.size s) (hw : Sit Γ σ s H locs) {k o n : Nat} (hc : ∀ f g ρ, cell1 Γ k o f g ρ = aC Γ n f) (ho : o < cnt (gn Γ) k) {v : Int32} (hv : Int32.ofNat n = v) (hd : decode cc pc = .ok (.arraylength, 1)) (kk : W p l e R s m args below meth c H locs cells slots Q (F0 m (pc + 1) ls (.int v :: rest))) : W p l e R s m args below meth c H locs cells slots Q (F0 m pc ls (.ref (ga Γ k o) :: rest)) := by
  obtain ⟨q0, hq⟩ := wsl_get hK.2.1 σ ho
  have hq : (wsl Γ σ)[q0]? = some (ga Γ k o, aC Γ n (gI σ k o)) := by rw [hq]; exact congrArg (fun z => some (ga Γ k o, z)) (hc _ _ _)
  exact va_alen hx hb hK.1 hw.1 q0 2 hq (ty := .char) rfl hv hd kk
theorem q_alenF (hx : p.tables.exec = Jvm.exec) (hb : c.code = cc) (hK : KK Γ S s.heap.size s) (hw : Sit Γ σ s H locs) {k o n : Nat} (hc : ∀ f g ρ, cell1 Γ k o f g ρ = aF Γ n g) (ho : o < cnt (gn Γ) k) {v : Int32} (hv : Int32.ofNat n = v) (hd : decode cc pc = .ok (.arraylength, 1)) (kk : W p l e R s m args below meth c H locs cells slots Q (F0 m (pc + 1) ls (.int v :: rest))) : W p l e R s m args below meth c H locs cells slots Q (F0 m pc ls (.ref (ga Γ k o) :: rest)) := by
  obtain ⟨q0, hq⟩ := wsl_get hK.2.1 σ ho
  have hq : (wsl Γ σ)[q0]? = some (ga Γ k o, aF Γ n (gF σ k o)) := by rw [hq]; exact congrArg (fun z => some (ga Γ k o, z)) (hc _ _ _)
  exact va_alen hx hb hK.1 hw.1 q0 3 hq (ty := .float) rfl hv hd kk
theorem q_alenR (hx : p.tables.exec = Jvm.exec) (hb : c.code = cc) (hK : KK Γ S s.heap.size s) (hw : Sit Γ σ s H locs) {k o n k2 : Nat} (hc : ∀ f g ρ, cell1 Γ k o f g ρ = aR Γ 4 n k2) (ho : o < cnt (gn Γ) k) {v : Int32} (hv : Int32.ofNat n = v) (hd : decode cc pc = .ok (.arraylength, 1)) (kk : W p l e R s m args below meth c H locs cells slots Q (F0 m (pc + 1) ls (.int v :: rest))) : W p l e R s m args below meth c H locs cells slots Q (F0 m pc ls (.ref (ga Γ k o) :: rest)) := by
  obtain ⟨q0, hq⟩ := wsl_get hK.2.1 σ ho
  have hq : (wsl Γ σ)[q0]? = some (ga Γ k o, aR Γ 4 n k2) := by rw [hq]; exact congrArg (fun z => some (ga Γ k o, z)) (hc _ _ _)
  exact va_alen hx hb hK.1 hw.1 q0 4 hq (ty := .object "Plugboard$User") rfl hv hd kk
theorem va_aalA {tys : List (ClassId × FieldType)} {D : va_G} {cl : List vw_C} {ws : va_W} {a : Nat} (hexec : p.tables.exec = Jvm.exec) (hb : c.code = cc) (hK : va_K D cl tys s) (hP : va_P D cl ws H) (q0 t0 : Nat) {cA : ClassId} {t : FieldType} {n : Nat} {f : Nat → Option Nat} (ha : ws[q0]? = some (a, .inl (cA, n, .inr (.inr (.inr (.inr f)))))) (ht : tys[t0]? = some (cA, .array t)) {i : Int32} (hin : vp_in i n) (hdg : decode cc pc = .ok (.aaload, 1))
    (kk : W p l e R s m args below meth c H locs cells slots Q (F0 m (pc + 1) ls (va_rf (f i.toNatClampNeg) :: rest))) : W p l e R s m args below meth c H locs cells slots Q (F0 m pc ls (.int i :: .ref a :: rest)) := by
  have hlt : i.toNatClampNeg < n := Nat.not_le.mp fun q => hin (Or.inr q)
  exact W.aald (v := va_rf (f i.toNatClampNeg)) (ty := .array t) hexec hb (hP q0 _ ha) ((hK.2 t0 _ ht).1 n (fun j => va_rf (f j))) rfl (fun q => by cases q) (by show ¬ (i < 0 ∨ (arrV _ _ _).slots.size ≤ _); rw [arrV_size]; exact hin) (by show (arrV _ _ _).slots[_]? = _; rw [arrV_read _ _ hlt]) rfl rfl hdg kk
theorem q_aalA (hx : p.tables.exec = Jvm.exec) (hb : c.code = cc) (hK : KK Γ S s.heap.size s) (hw : Sit Γ σ s H locs) {k o n k2 : Nat} (hc : ∀ f g ρ, cell1 Γ k o f g ρ = aR Γ 5 n k2) (ho : o < cnt (gn Γ) k) {i : Int32} {X : Option β} (hf : ck (inb i n) X = some r) (hd : decode cc pc = .ok (.aaload, 1)) (kk : X = some r → W p l e R s m args below meth c H locs cells slots Q (F0 m (pc + 1) ls (.ref (ga Γ k2 i.toNatClampNeg) :: rest))) : W p l e R s m args below meth c H locs cells slots Q (F0 m pc ls (.int i :: .ref (ga Γ k o) :: rest)) := by
  obtain ⟨q0, hq⟩ := wsl_get hK.2.1 σ ho
  have hq : (wsl Γ σ)[q0]? = some (ga Γ k o, aR Γ 5 n k2) := by rw [hq]; exact congrArg (fun z => some (ga Γ k o, z)) (hc _ _ _)
  exact va_aalA hx hb hK.1 hw.1 q0 5 hq (t := .int) rfl (inb_t (ck_t hf).1) hd (kk (ck_t hf).2)
theorem q_aalB (hx : p.tables.exec = Jvm.exec) (hb : c.code = cc) (hK : KK Γ S s.heap.size s) (hw : Sit Γ σ s H locs) {k o n k2 : Nat} (hc : ∀ f g ρ, cell1 Γ k o f g ρ = aR Γ 6 n k2) (ho : o < cnt (gn Γ) k) {i : Int32} {X : Option β} (hf : ck (inb i n) X = some r) (hd : decode cc pc = .ok (.aaload, 1)) (kk : X = some r → W p l e R s m args below meth c H locs cells slots Q (F0 m (pc + 1) ls (.ref (ga Γ k2 i.toNatClampNeg) :: rest))) : W p l e R s m args below meth c H locs cells slots Q (F0 m pc ls (.int i :: .ref (ga Γ k o) :: rest)) := by
  obtain ⟨q0, hq⟩ := wsl_get hK.2.1 σ ho
  have hq : (wsl Γ σ)[q0]? = some (ga Γ k o, aR Γ 6 n k2) := by rw [hq]; exact congrArg (fun z => some (ga Γ k o, z)) (hc _ _ _)
  exact va_aalA hx hb hK.1 hw.1 q0 6 hq (t := .boolean) rfl (inb_t (ck_t hf).1) hd (kk (ck_t hf).2)
theorem q_putR (hx : p.tables.exec = Jvm.exec) (hb : c.code = cc) (hK : KK Γ S s.heap.size s) (hw : Sit Γ σ s H locs) {own ref : String} {index w : Nat} (hown : s.vm.findClass own = some m.cls) (hin : ∀ w ∈ u_ws RX4 TX4 9, w ∈ lw_tbl) (hins : (u_ws RX4 TX4 9).all pw_st = true) (ty0 : Nat → FieldType) (hty : ∀ k, k < 9 → parseFieldDescriptor (TX4 k).2.2.1 = some (ty0 k)) (hnm : ∀ a, a < 9 → ∀ b, b < 9 → a ≠ b → (TX4 a).2.1 ≠ (TX4 b).2.1) (j : Nat) (hj : j = 3 ∨ j = 4) (i : Nat) (hi : lw_tbl[i]? = some (Cond.fieldLink own index ref (TX4 j).2.1 (TX4 j).2.2.1)) (hsame : ref = (TX4 j).1) {K : St → Option β} (hf : vl (sR σ (j - 3) w) K = some r) (hd : decode cc pc = .ok (.putfield index, 3)) (kk : ∀ (τ : St) (H : Heap) (locs : List Loc), K τ = some r → Sit Γ τ s H locs → W p l e R s m args below meth c H locs cells slots Q (F0 m (pc + 3) ls rest)) : W p l e R s m args below meth c H locs cells slots Q (F0 m pc ls (.ref (ga Γ 131 w) :: .ref (ga Γ 6 0) :: rest)) := by
  have ho : 0 < cnt (gn Γ) 6 := Nat.le_refl 1
  obtain ⟨q0, hq0⟩ := wsl_get hK.2.1 σ ho
  have hq : (wsl Γ σ)[q0]? = some (ga Γ 6 0, .inr (6, [.ref (ga Γ 127 0), .ref (ga Γ 128 0), .ref (ga Γ 129 0), .ref (ga Γ 131 (σ.2.2.1 0)), .ref (ga Γ 131 (σ.2.2.1 1)), .int (σ.1 6 0 5), .int (σ.1 6 0 6), .int (σ.1 6 0 7), .int (σ.1 6 0 8)])) := hq0
  have hs := wsl_set (τ := sR σ (j - 3) w) hK.2.1 hq0 ho (fun c1 o1 h1 h => by
    by_cases h6 : c1 = 6
    · subst h6
      have h2 : o1 < 1 := h1
      exact absurd ⟨rfl, by omega⟩ h
    · exact cel_sR c1 o1 h6)
  rcases hj with rfl | rfl
  · refine va_put hx hb (kw_in hK.2.2.2.2.1 hin hins) (fun _ h => h) ty0 hty hnm hown hK.1 hw.1 (wsl_nd hK.2.1 (fun a h => Or.inl h)) hw.2 q0 hq (rfl : vwCl[6]? = some (RX4, TX4, 9)) 3 (by decide) (kw_at hK.2.2.2.2.1 i hi rfl) (fun x h => by rw [hsame]; exact h) rfl (ty := .array .int) rfl rfl rfl (Nat.le_of_ble_eq_true rfl) hd (fun H1 locs1 hP _ hS => kk _ H1 locs1 hf ⟨?_, hS⟩)
    rw [← hs]
    exact hP
  · refine va_put hx hb (kw_in hK.2.2.2.2.1 hin hins) (fun _ h => h) ty0 hty hnm hown hK.1 hw.1 (wsl_nd hK.2.1 (fun a h => Or.inl h)) hw.2 q0 hq (rfl : vwCl[6]? = some (RX4, TX4, 9)) 4 (by decide) (kw_at hK.2.2.2.2.1 i hi rfl) (fun x h => by rw [hsame]; exact h) rfl (ty := .array .int) rfl rfl rfl (Nat.le_of_ble_eq_true rfl) hd (fun H1 locs1 hP _ hS => kk _ H1 locs1 hf ⟨?_, hS⟩)
    rw [← hs]
    exact hP
theorem q_sw3 (hx : p.tables.exec = Jvm.exec) (hb : c.code = cc) {x : Int32} {dflt o0 o1 o2 : Int} {len t0 t1 t2 td : Nat} {A B C D : Option β} (hf : (if x = 0 then A else if x = 1 then B else if x = 2 then C else D) = some r) (hd : decode cc pc = .ok (.tableswitch dflt 0 2 #[o0, o1, o2], len)) (h0 : (pc : Int) + o0 = (t0 : Int)) (h1 : (pc : Int) + o1 = (t1 : Int)) (h2 : (pc : Int) + o2 = (t2 : Int)) (h3 : (pc : Int) + dflt = (td : Int))
    (k0 : A = some r → W p l e R s m args below meth c H locs cells slots Q (F0 m t0 ls rest)) (k1 : B = some r → W p l e R s m args below meth c H locs cells slots Q (F0 m t1 ls rest)) (k2 : C = some r → W p l e R s m args below meth c H locs cells slots Q (F0 m t2 ls rest)) (k3 : D = some r → W p l e R s m args below meth c H locs cells slots Q (F0 m td ls rest)) : W p l e R s m args below meth c H locs cells slots Q (F0 m pc ls (.int x :: rest)) := by
  by_cases e0 : x = 0
  · subst e0
    exact lv_tableIn (tgt := t0) (off := o0) hx hb hd (by decide) (by decide) rfl h0 (k0 ((if_pos rfl).symm.trans hf))
  · rw [if_neg e0] at hf
    by_cases e1 : x = 1
    · subst e1
      exact lv_tableIn (tgt := t1) (off := o1) hx hb hd (by decide) (by decide) rfl h1 (k1 ((if_pos rfl).symm.trans hf))
    · rw [if_neg e1] at hf
      by_cases e2 : x = 2
      · subst e2
        exact lv_tableIn (tgt := t2) (off := o2) hx hb hd (by decide) (by decide) rfl h2 (k2 ((if_pos rfl).symm.trans hf))
      · rw [if_neg e2] at hf
        refine lv_tableOut (tgt := td) hx hb hd ?_ h3 (k3 hf)
        have n0 : x.toInt ≠ 0 := fun h => e0 (Int32.toInt_inj.mp (by rw [h]; rfl))
        have n1 : x.toInt ≠ 1 := fun h => e1 (Int32.toInt_inj.mp (by rw [h]; rfl))
        have n2 : x.toInt ≠ 2 := fun h => e2 (Int32.toInt_inj.mp (by rw [h]; rfl))
        omega
theorem vn_Z (x : Int32) : narrow .boolean (.int x) = .int (vp_nar .boolean x) := rfl
theorem vn_C (x : Int32) : narrow .char (.int x) = .int (vp_nar .char x) := rfl
theorem W.nret {Qc : Array Value → State → Outcome → State → Prop} {free : Addr → Prop} {v w : Int32} {ty : FieldType} (hexec : p.tables.exec = Jvm.exec) (hb : c.code = cc) (hr : meth.sig.returnType = some ty) (hn : narrow ty (.int v) = .int w)
    (hq : ∀ t : State, t.heap = H → s.WarmedH t.vm → Qc args s (.returned (some (.int w))) t) (hf : ∀ q ∈ locs, free q.base) (hdg : decode cc pc = .ok (.ireturn, 1)) (hlocks : meth.locks = false) : W p l e R s m args below meth c H locs cells slots (MQ below Qc args s cells slots free) (F0 m pc ls [.int v]) := by
  intro T hT X
  obtain ⟨fs, hret, hrun, hended, hW, hframe⟩ := X.leave (v := some (.int w)) (fun h => by rw [hr] at h; cases h)
  have hmeth' : T.vm.method? m = some meth := X.method'
  refine ⟨T.setFrames fs, ?_, .returned (some (.int w)), hrun, hended, hq _ hT hW, locs, ⟨⟨_, rfl⟩, hW, hframe⟩, hf⟩
  jvm_step X.here [X.here.top, hexec, hb, hdg, hmeth', hr, hn]
  (try refine ⟨rfl, ?_⟩); (try refine ⟨rfl, ?_⟩)
  first | (intro acts; rw [hret _ acts rfl rfl rfl]) | rw [hret _ _ rfl rfl rfl]
  exact Steps.refl _
theorem q_nret {x v : Int32} {ty : FieldType} (hf : some (vp_nar ty x) = some v) (hx : p.tables.exec = Jvm.exec) (hb : c.code = cc) (hr : meth.sig.returnType = some ty) (hn : ∀ x, narrow ty (.int x) = .int (vp_nar ty x)) (hk : meth.locks = false) (hw : Sit Γ σ s H locs) (hd : decode cc pc = .ok (.ireturn, 1)) (hc : cells ≤ mc) (hs : slots ≤ ms) : W p l e R s m args below meth c H locs cells slots (MQ below (Qg Γ (some (.int v)) σ (AA Γ s.heap.size)) args s mc ms (AA Γ s.heap.size)) (F0 m pc ls [.int x]) := by
  cases hf
  refine W.widen hc hs ?_
  exact W.nret hx hb hr (hn x) (fun t ht _ => ⟨⟨rfl, by rw [ht]; exact hw.1⟩, hw.2.F ht⟩) hw.2.2.2 hd hk
theorem q_enret {x v : Int32} {ty : FieldType} (hf : some (vp_nar ty x, σ) = some (v, τ)) (hx : p.tables.exec = Jvm.exec) (hb : c.code = cc) (hr : meth.sig.returnType = some ty) (hn : ∀ x, narrow ty (.int x) = .int (vp_nar ty x)) (hk : meth.locks = false) (hw : Sit Γ σ s H locs) (hd : decode cc pc = .ok (.ireturn, 1)) (hc : cells ≤ mc) (hs : slots ≤ ms) : W p l e R s m args below meth c H locs cells slots (MQ below (Qg Γ (some (.int v)) τ (AA Γ s.heap.size)) args s mc ms (AA Γ s.heap.size)) (F0 m pc ls [.int x]) := by
  cases hf
  exact q_nret rfl hx hb hr hn hk hw hd hc hs
theorem q_eiret {x v : Int32} {ty : FieldType} (hf : some (x, σ) = some (v, τ)) (hx : p.tables.exec = Jvm.exec) (hb : c.code = cc) (hr : meth.sig.returnType = some ty) (hn : narrow ty (.int x) = .int x) (hk : meth.locks = false) (hw : Sit Γ σ s H locs) (hd : decode cc pc = .ok (.ireturn, 1)) (hc : cells ≤ mc) (hs : slots ≤ ms) : W p l e R s m args below meth c H locs cells slots (MQ below (Qg Γ (some (.int v)) τ (AA Γ s.heap.size)) args s mc ms (AA Γ s.heap.size)) (F0 m pc ls [.int x]) := by
  cases hf
  refine W.widen hc hs ?_
  exact W.zret hx hb hr hn (fun t ht _ => ⟨⟨rfl, by rw [ht]; exact hw.1⟩, hw.2.F ht⟩) hw.2.2.2 hd
theorem q_efret {x v : UInt32} (hf : some (x, σ) = some (v, τ)) (hx : p.tables.exec = Jvm.exec) (hb : c.code = cc) (hr : meth.sig.returnType = some .float) (hk : meth.locks = false) (hw : Sit Γ σ s H locs) (hd : decode cc pc = .ok (.freturn, 1)) (hc : cells ≤ mc) (hs : slots ≤ ms) : W p l e R s m args below meth c H locs cells slots (MQ below (Qg Γ (some (.float v)) τ (AA Γ s.heap.size)) args s mc ms (AA Γ s.heap.size)) (F0 m pc ls [.float x]) := by
  cases hf
  exact q_fret rfl hx hb hr hk hw hd hc hs
theorem q_elret {x v : Int64} (hf : some (x, σ) = some (v, τ)) (hx : p.tables.exec = Jvm.exec) (hb : c.code = cc) (hr : meth.sig.returnType = some .long) (hk : meth.locks = false) (hw : Sit Γ σ s H locs) (hd : decode cc pc = .ok (.lreturn, 1)) (hc : cells ≤ mc) (hs : slots ≤ ms) : W p l e R s m args below meth c H locs cells slots (MQ below (Qg Γ (some (.long v)) τ (AA Γ s.heap.size)) args s mc ms (AA Γ s.heap.size)) (F0 m pc ls [.long x]) := by
  cases hf
  exact q_lret rfl hx hb hr hk hw hd hc hs
theorem q_edret {x v : UInt64} (hf : some (x, σ) = some (v, τ)) (hx : p.tables.exec = Jvm.exec) (hb : c.code = cc) (hr : meth.sig.returnType = some .double) (hk : meth.locks = false) (hw : Sit Γ σ s H locs) (hd : decode cc pc = .ok (.dreturn, 1)) (hc : cells ≤ mc) (hs : slots ≤ ms) : W p l e R s m args below meth c H locs cells slots (MQ below (Qg Γ (some (.double v)) τ (AA Γ s.heap.size)) args s mc ms (AA Γ s.heap.size)) (F0 m pc ls [.double x]) := by
  cases hf
  exact q_dret rfl hx hb hr hk hw hd hc hs
theorem q_mmax {own : String} {index nL : Nat} (X : Fx p c cc nL s m own) (hK : KK Γ S s.heap.size s) (hsz : ls.size = nL) (hl : Cond.methodLink own index Lib.Math.max.name ∈ lw_tbl) (hj : Cond.static Lib.Math.max.name ∈ lw_tbl ∧ Cond.initialized "java/lang/Math" ∈ lw_tbl ∧ Cond.code Lib.Math.max.name Lib.Math.max.code 2 (some .int) ∈ lw_tbl) (hR : 1 ≤ R.frames ∧ (rest.map fun v => v.category).sum + 13 ≤ R.locals) (hf : cells ≤ R.cells ∧ slots ≤ R.slots) {x y : Int32} (hd : decode cc pc = .ok (.invokestatic index, 3))
    (kk : W p l e R s m args below meth c H locs cells slots Q (F0 m (pc + 3) ls (.int (if x < y then y else x) :: rest))) : W p l e R s m args below meth c H locs cells slots Q (F0 m pc ls (.int y :: .int x :: rest)) :=
  va_mmax X.1 X.2.1 (X.2.2.1.trans hsz.symm) X.2.2.2 (kw_m hK.2.2.2.2.1 hl rfl) (kw_m hK.2.2.2.2.1 hj.1 rfl) (kw_m hK.2.2.2.2.1 hj.2.1 rfl) (kw_m hK.2.2.2.2.1 hj.2.2 rfl) hR.1 hR.2 hf.1 hf.2 hd kk
theorem q_mmin {own : String} {index nL : Nat} (X : Fx p c cc nL s m own) (hK : KK Γ S s.heap.size s) (hsz : ls.size = nL) (hl : Cond.methodLink own index Lib.Math.min.name ∈ lw_tbl) (hj : Cond.static Lib.Math.min.name ∈ lw_tbl ∧ Cond.initialized "java/lang/Math" ∈ lw_tbl ∧ Cond.code Lib.Math.min.name Lib.Math.min.code 2 (some .int) ∈ lw_tbl) (hR : 1 ≤ R.frames ∧ (rest.map fun v => v.category).sum + 13 ≤ R.locals) (hf : cells ≤ R.cells ∧ slots ≤ R.slots) {x y : Int32} (hd : decode cc pc = .ok (.invokestatic index, 3))
    (kk : W p l e R s m args below meth c H locs cells slots Q (F0 m (pc + 3) ls (.int (if y < x then y else x) :: rest))) : W p l e R s m args below meth c H locs cells slots Q (F0 m pc ls (.int y :: .int x :: rest)) :=
  va_mmin X.1 X.2.1 (X.2.2.1.trans hsz.symm) X.2.2.2 (kw_m hK.2.2.2.2.1 hl rfl) (kw_m hK.2.2.2.2.1 hj.1 rfl) (kw_m hK.2.2.2.2.1 hj.2.1 rfl) (kw_m hK.2.2.2.2.1 hj.2.2 rfl) hR.1 hR.2 hf.1 hf.2 hd kk
end QE
/-- a contract of a method of a class that has entries, itself none of them -/
theorem ct_bodyF {Γ : Gm} {S : List (String × Nat × String)} {l : Launch} {y : MethodName} {b : ByteArray} {maxL : Nat} {ret : Option FieldType} {fr lo mc ms : Nat} {As : List Value} {vo : Option Value} {σ τ : St} {lv : List (Nat × Value)} (hy : plainFor y = true) (hlv : lv_args 0 As = lv) (hle : (lg_sl As).length ≤ maxL)
    (body : ∀ (p : Program) (e : Env) (s : State) (m : MethodId) (below : List Frame) (meth : Method) (c : Code) (ls : Array Slot), Fx p c b maxL s m y.cls → meth.sig.returnType = ret → meth.locks = false → KK Γ S s.heap.size s → Sit Γ σ s s.heap [] → lv_has ls maxL lv →
      W p l e { frames := fr, cells := mc, slots := ms, locals := lo } s m As.toArray below meth c s.heap [] 0 0 (MQ below (Qg Γ vo τ (AA Γ s.heap.size)) As.toArray s mc ms (AA Γ s.heap.size)) (F0 m 0 ls [])) : CT Γ S l y b maxL ret fr lo mc ms As vo σ τ := by
  intro sz
  refine va_MetF (cc := b) (maxL := maxL) (ret := ret) hy rfl ?_
  intro p e s m args below meth c s₁ B hml hv
  obtain ⟨rfl, rfl, hP, hK⟩ := hv
  have hl := lv_entry As hle
  rw [lg_entry_eq]
  rw [hlv] at hl
  exact body p e s m below meth c _ ⟨B.exec, B.bytes, hml, findClass_of_methodNamed B.named⟩ B.returns B.notSynchronized hK ⟨hP, va_S.rf⟩ hl
