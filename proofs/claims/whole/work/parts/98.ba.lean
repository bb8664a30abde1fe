/-! Arrays of arrays. -/
theorem zd_iff {A : Nat → Prop} {ws : va_W} : va_D A ws ↔ (ws.map Prod.fst).Nodup ∧ ∀ q ∈ ws, A q.1 := by
  constructor
  · intro h
    refine ⟨?_, fun q hq => ?_⟩
    · rw [List.nodup_iff_pairwise_ne, List.pairwise_iff_getElem]
      intro i j hi hj hij e
      rw [List.length_map] at hi hj
      rw [List.getElem_map, List.getElem_map] at e
      have := h.1 i j ws[i] ws[j] (List.getElem?_eq_getElem hi) (List.getElem?_eq_getElem hj) e
      omega
    · obtain ⟨k, hk⟩ := List.mem_iff_getElem?.mp hq
      exact h.2 k q hk
  · rintro ⟨h1, h2⟩
    refine ⟨fun i j p q hi hj e => ?_, fun k q hk => h2 q (List.mem_of_getElem? hk)⟩
    have li := (List.getElem?_eq_some_iff.mp hi).1
    refine (List.getElem?_inj (by rw [List.length_map]; exact li) h1).mp ?_
    rw [List.getElem?_map, List.getElem?_map, hi, hj]
    exact congrArg some e
theorem zs_perm {Γ : Gm} {A : Nat → Prop} {s : State} {w1 w2 : va_W} {H : Heap} {locs : List Loc} (h : ZS Γ A s w1 H locs) (hp : w1.Perm w2) : ZS Γ A s w2 H locs := by
  obtain ⟨h1, h2, h3⟩ := h
  refine ⟨fun k q hk => ?_, ?_, h3⟩
  · have hq := hp.mem_iff.mpr (List.mem_of_getElem? hk)
    obtain ⟨i, hi⟩ := List.mem_iff_getElem?.mp hq
    exact h1 i q hi
  · rw [zd_iff] at h2 ⊢
    exact ⟨((hp.map Prod.fst).nodup_iff).mp h2.1, fun q hq => h2.2 q (hp.mem_iff.mpr hq)⟩
/-- n cells e, one behind the other, behind q -/
def blk (q : Nat) (e : va_E) (n : Nat) : va_W := (List.range n).map (fun j => (q + 1 + j, e))
theorem outer_arr (c : ClassId) (N h0 : Nat) : ∀ i, Jvm.Free.Multi.outerC c N h0 i = arrV c N (fun j => if j < i then .ref (h0 + 1 + j) else .null) := by
  intro i
  induction i with
  | zero =>
    show ({ cls := c, slots := Array.replicate N .null, vm := .none } : Cell) = _
    rw [arrV_new]
    congr 1
  | succ i ih =>
    show (Jvm.Free.Multi.outerC c N h0 i).setSlot i (.ref (h0 + 1 + i)) = _
    rw [ih, arrV_store]
    congr 1
    funext j
    show (if j = i then Value.ref (h0 + 1 + i) else if j < i then .ref (h0 + 1 + j) else .null) = if j < i + 1 then .ref (h0 + 1 + j) else .null
    by_cases q : j = i
    · rw [if_pos q, if_pos (by omega), q]
    · rw [if_neg q]
      by_cases q2 : j < i
      · rw [if_pos q2, if_pos (by omega)]
      · rw [if_neg q2, if_neg (by omega)]
theorem arrV_cg {c : ClassId} {N : Nat} {f g : Nat → Value} (h : ∀ j, j < N → f j = g j) : arrV c N f = arrV c N g := by
  unfold arrV
  congr 2
  funext j
  exact h j.val j.isLt
section QM
variable {p : Program} {l : Launch} {e : Env} {R : Room} {s : State} {m : MethodId} {args : Array Value} {below : List Frame} {meth : Method} {c : Code} {H : Heap} {locs : List Loc} {cells slots : Nat} {Q : State → Prop}
variable {cc : ByteArray} {pc : Nat} {ls : Array Slot} {rest : List Value} {Γ : Gm} {A : Nat → Prop} {own : String} {index : Nat}
theorem z_newaB (hx : p.tables.exec = Jvm.exec) (hb : c.code = cc) {atype : ArrayType} {ty : FieldType} {cA : ClassId} {n : Int32} {N' : Nat} {a0 : vp_A} (i : Nat) (hi : lw_tbl[i]? = some (Cond.arrayClass (newarray.typeOf atype))) (hs : pw_st (Cond.arrayClass (newarray.typeOf atype)) = true) (hty : newarray.typeOf atype = ty) (hK : ZK Γ s) (hA : ∀ q, s.heap.size ≤ q → A q) (E BL : va_W) (hw : ZS Γ A s (E ++ BL) H locs) (t0 : Nat) (ht : (tysl Γ)[t0]? = some (cA, ty)) (hra : ∀ a b : ClassId, va_RA s a ty → va_RA s b ty → a = b)
    (ha : ∀ cA : ClassId, vp_cell cA a0 = arrV cA N' (fun _ => defaultValue ty)) (hn : ¬ n < 0) (hN : n.toNatClampNeg = N') (hbytes : N' * componentBytes ty ≤ 536870912) (hcells : cells + 1 ≤ R.cells) (hslots : slots + N' ≤ R.slots) (hd : decode cc pc = .ok (.newarray atype, 2))
    (kk : ∀ (q : Nat) (H1 : Heap), ZS Γ A s ((E ++ [(q, .inl (cA, a0))]) ++ BL) H1 locs → W p l e R s m args below meth c H1 locs (cells + 1) (slots + N') Q (F0 m (pc + 2) ls (.ref q :: rest))) : W p l e R s m args below meth c H locs cells slots Q (F0 m pc ls (.int n :: rest)) :=
  z_newa hx hb i hi hs hty hK hA hw t0 ht hra ha hn hN hbytes hcells hslots hd (fun q H1 h => kk q H1 (zs_perm h (by
    rw [List.append_assoc, List.append_assoc]
    exact List.Perm.append_left E List.perm_append_comm)))
theorem z_mna (hx : p.tables.exec = Jvm.exec) (hb : c.code = cc) {ty : FieldType} {cA cB : ClassId} {n k : Int32} {N' M' : Nat} {a0 : vp_A} (hown : s.vm.findClass own = some m.cls) (h1 : Cond.classLink own index ("[" ++ (FieldType.array ty).toString) ∈ lw_tbl) (hO : ZO (.array ty) s) (i : Nat) (hi : lw_tbl[i]? = some (Cond.arrayClass ty)) (hs : pw_st (Cond.arrayClass ty) = true) (hK : ZK Γ s) (hA : ∀ q, s.heap.size ≤ q → A q) (E BL : va_W) (hw : ZS Γ A s (E ++ BL) H locs)
    (t1 : Nat) (ht1 : (tysl Γ)[t1]? = some (cA, .array ty)) (t0 : Nat) (ht0 : (tysl Γ)[t0]? = some (cB, ty)) (hra : ∀ a : ClassId, s.vm.findClass (FieldType.array ty).toString = some a → va_RA s cB ty → a = cB)
    (ha : ∀ cA : ClassId, vp_cell cA a0 = arrV cA M' (fun _ => defaultValue ty)) (hn : ¬ n < 0) (hk : ¬ k < 0) (hN : n.toNatClampNeg = N') (hM : k.toNatClampNeg = M') (hb1 : N' * 4 ≤ 536870912) (hb2 : M' * componentBytes ty ≤ 536870912) (hb3 : M' ≤ 536870912) (hdf : fits ty (defaultValue ty) = true) (hdd : (defaultValue ty).isDefault = true) (hcells : cells + (1 + N') ≤ R.cells) (hslots : slots + (N' + N' * M') ≤ R.slots) (hd : decode cc pc = .ok (.multianewarray index 2, 4))
    (kk : ∀ (q : Nat) (H1 : Heap) (locs1 : List Loc), ZS Γ A s ((E ++ [(q, .inl (cA, N', .inr (.inr (.inr (.inr (fun j => some (q + 1 + j)))))))]) ++ (BL ++ blk q (.inl (cB, a0)) N')) H1 locs1 → W p l e R s m args below meth c H1 locs1 (cells + (1 + N')) (slots + (N' + N' * M')) Q (F0 m (pc + 4) ls (.ref q :: rest))) : W p l e R s m args below meth c H locs cells slots Q (F0 m pc ls (.int k :: .int n :: rest)) := by
  subst hN
  subst hM
  intro T hT X
  obtain ⟨vm1, cA1, cB1, hW, hfA, hfB, -, -, X1, step⟩ := X.multianewarray2K (g := F0 m pc ls (.int k :: .int n :: rest)) (rest := rest) (n := n) (k := k) hx hown (kw_m hK.2.1 h1 rfl) hO (kw_at hK.2.1 i hi hs) rfl (by rw [hb]; exact hd) rfl hn hk hb1 hb2 hb3 hdf hdd hcells hslots
  have eA : cA1 = cA := by
    have g := (hK.1.2 t1 _ ht1).2
    exact Option.some.inj (hfA.symm.trans g)
  have eB : cB1 = cB := hra cB1 hfB (hK.1.2 t0 _ ht0).2
  subst eA
  subst eB
  subst hT
  obtain ⟨hP, hD, hS⟩ := hw
  have fF := Jvm.Free.Multi.fill_facts (T.setVm vm1) cA1 cB1 n.toNatClampNeg k.toNatClampNeg (defaultValue ty) n.toNatClampNeg
  have fO := fun (a : Nat) (h : a < T.heap.size) => Jvm.Free.Multi.fill_old (T.setVm vm1) cA1 cB1 n.toNatClampNeg k.toNatClampNeg (defaultValue ty) (a := a) h n.toNatClampNeg
  have fI := fun (j : Nat) (h : j < n.toNatClampNeg) => Jvm.Free.Multi.fill_inner (T.setVm vm1) cA1 cB1 n.toNatClampNeg k.toNatClampNeg (defaultValue ty) n.toNatClampNeg j h
  generalize hU : Jvm.Free.Multi.fill (T.setVm vm1) cA1 cB1 n.toNatClampNeg k.toNatClampNeg (defaultValue ty) n.toNatClampNeg = U at X1 step fF fO fI
  have z1 : U.heap.size = T.heap.size + 1 + n.toNatClampNeg := fF.1
  have e1 : U.heap[T.heap.size]? = some (arrV cA1 n.toNatClampNeg (fun j => va_rf (some (T.heap.size + 1 + j)))) := by
    have := fF.2.1
    rw [outer_arr] at this
    rw [show U.heap[T.heap.size]? = _ from this]
    congr 1
    refine arrV_cg (fun j hj => ?_)
    rw [if_pos hj]
    rfl
  have e2 : ∀ j, j < n.toNatClampNeg → U.heap[T.heap.size + 1 + j]? = some (vp_cell cB1 a0) := fun j hj => by
    rw [show U.heap[T.heap.size + 1 + j]? = _ from fI j hj, ha, ← arrV_new]
    rfl
  have o1 : ∀ a : Nat, a < T.heap.size → U.heap[a]? = T.heap[a]? := fun a h => fO a h
  have hold : ∀ q ∈ (E ++ BL), q.1 < T.heap.size := fun q hq => by
    obtain ⟨j, hj⟩ := List.mem_iff_getElem?.mp hq
    exact (hP j q hj).lt
  have hw2 : ZS Γ A s ((E ++ [(T.heap.size, .inl (cA1, n.toNatClampNeg, .inr (.inr (.inr (.inr (fun j => some (T.heap.size + 1 + j)))))))]) ++ (BL ++ blk T.heap.size (.inl (cB1, a0)) n.toNatClampNeg)) U.heap (locs ++ (List.range n.toNatClampNeg).map fun j => ⟨T.heap.size, j⟩) := by
    have hw3 : ZS Γ A s ((E ++ BL) ++ ((T.heap.size, .inl (cA1, n.toNatClampNeg, .inr (.inr (.inr (.inr (fun j => some (T.heap.size + 1 + j))))))) :: blk T.heap.size (.inl (cB1, a0)) n.toNatClampNeg)) U.heap (locs ++ (List.range n.toNatClampNeg).map fun j => ⟨T.heap.size, j⟩) := by
      refine ⟨?_, ?_, Nat.le_trans hS.1 (by omega), fun a g1 g2 => (o1 a (Nat.lt_of_lt_of_le g1 hS.1)).trans (hS.2.1 a g1 g2), fun q hq => ?_⟩
      · refine (hP.kept (fun j q hj => o1 q.1 (hP j q hj).lt)).app (fun j q hj => ?_)
        cases j with
        | zero =>
          cases hj
          exact e1
        | succ j =>
          have hj : (blk T.heap.size (.inl (cB1, a0)) n.toNatClampNeg)[j]? = some q := hj
          unfold blk at hj
          rw [List.getElem?_map] at hj
          obtain ⟨a, g1, g2⟩ := Option.map_eq_some_iff.mp hj
          have hlt := List.mem_range.mp (List.mem_of_getElem? g1)
          subst g2
          exact e2 a hlt
      · rw [zd_iff] at hD ⊢
        refine ⟨?_, fun q hq => ?_⟩
        · rw [List.map_append, List.nodup_append]
          refine ⟨hD.1, ?_, fun a ha b hb e => ?_⟩
          · rw [List.map_cons, List.nodup_cons]
            refine ⟨fun hin => ?_, ?_⟩
            · obtain ⟨q, g1, g2⟩ := List.mem_map.mp hin
              unfold blk at g1
              obtain ⟨j, g3, g4⟩ := List.mem_map.mp g1
              subst g4
              have g2 : T.heap.size + 1 + j = T.heap.size := g2
              omega
            · unfold blk
              rw [List.map_map, List.nodup_iff_pairwise_ne, List.pairwise_map]
              refine List.Pairwise.imp ?_ (List.nodup_iff_pairwise_ne.mp List.nodup_range)
              intro a b hab e
              have e : T.heap.size + 1 + a = T.heap.size + 1 + b := e
              omega
          · obtain ⟨q, g1, g2⟩ := List.mem_map.mp ha
            have hl := hold q g1
            rw [g2] at hl
            obtain ⟨q2, g3, g4⟩ := List.mem_map.mp hb
            rcases List.mem_cons.mp g3 with g5 | g5
            · subst g5
              have g4 : T.heap.size = b := g4
              omega
            · unfold blk at g5
              obtain ⟨j, _, g6⟩ := List.mem_map.mp g5
              subst g6
              have g4 : T.heap.size + 1 + j = b := g4
              omega
        · rcases List.mem_append.mp hq with g | g
          · exact hD.2 q g
          · refine hA _ (Nat.le_trans hS.1 ?_)
            rcases List.mem_cons.mp g with g5 | g5
            · subst g5
              exact Nat.le_refl _
            · unfold blk at g5
              obtain ⟨j, _, g6⟩ := List.mem_map.mp g5
              subst g6
              show T.heap.size ≤ T.heap.size + 1 + j
              omega
      · rcases List.mem_append.mp hq with g | g
        · exact hS.2.2 q g
        · obtain ⟨j, _, g6⟩ := List.mem_map.mp g
          subst g6
          exact hA _ hS.1
    refine zs_perm hw3 ?_
    rw [List.append_assoc, List.append_assoc]
    refine List.Perm.append_left E ?_
    exact List.perm_append_comm_assoc BL [_] _
  obtain ⟨t, a1, b1⟩ := kk T.heap.size U.heap _ hw2 U rfl (by rw [← Nat.add_assoc, ← Nat.add_assoc]; exact X1)
  exact ⟨t, step t a1, b1⟩
end QM
