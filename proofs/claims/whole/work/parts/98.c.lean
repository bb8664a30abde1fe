/-! What holds at the law's entry. -/
theorem st_flags (l : Launch) (h : l.flags = flags0) : l.stackTraces = false := by
  unfold Launch.stackTraces
  rw [h]
  decide +kernel
theorem st_KW {s : State} {b : Nat} (hts : ∀ w ∈ lw_tbl, w.before #[Value.ref b] s = true) : KW s := fun w hw hs => pw_warm hs (State.WarmedH.refl s) (hts w hw)
theorem st_arr {s : State} {A : Array Value} {ty : FieldType} (h : (Cond.arrayClass ty).before A s = true) : ∃ c : ClassId, ArrOfT s c ty ∧ s.vm.findClass ("[" ++ ty.toString) = some c := by
  obtain ⟨c, k, comp, h1, h2, h3⟩ := Cond.arrayClass_spec h
  exact ⟨c, fun n z => ⟨fun x hx => (by cases hx), k, h2, comp, h3⟩, h1⟩
theorem st_over {s : State} {ty : FieldType} (h : ZO (.array ty) s) : ∃ c : ClassId, ArrOfT s c (.array ty) ∧ s.vm.findClass ("[" ++ (FieldType.array ty).toString) = some c := by
  obtain ⟨comp, c, k, h1, h2, h3, h4⟩ := Cond.arrayOver_specA h
  exact ⟨c, fun n z => ⟨fun x hx => (by cases hx), k, h2, comp, h3⟩, h4⟩
set_option maxRecDepth 100000 in
theorem in_J0 : ∀ w ∈ u_ws RJ0 TJ0 2, w ∈ lw_tbl := by decide +kernel
set_option maxRecDepth 100000 in
theorem in_Jx : ∀ w ∈ u_ws RJx00060 TJx00060 6, w ∈ lw_tbl := by decide +kernel
theorem st_ZK {s : State} {b : Nat} (hts : ∀ w ∈ lw_tbl, w.before #[Value.ref b] s = true) : ∃ Γ : Gm, ZK Γ s := by
  have hKW := st_KW hts
  obtain ⟨c0, i0, k0⟩ := u_known (C := RJ0) (T := TJ0) (N := 2) (n := 4) hts in_J0 (hts _ (mi 970 (by decide +kernel)))
  obtain ⟨c1, i1, k1⟩ := u_known (C := RJx00060) (T := TJx00060) (N := 6) (n := 6) hts in_Jx (hts _ (mi 952 (by decide +kernel)))
  obtain ⟨c2, i2, k2⟩ := u_known (C := RX0) (T := TX0) (N := 4) (n := 4) hts in_X0 (hts _ is_X0)
  obtain ⟨c3, i3, k3⟩ := u_known (C := RX1) (T := TX1) (N := 13) (n := 13) hts in_X1 (hts _ is_X1)
  obtain ⟨c4, i4, k4⟩ := u_known (C := RX2) (T := TX2) (N := 9) (n := 9) hts in_X2 (hts _ is_X2)
  obtain ⟨c5, i5, k5⟩ := u_known (C := RX3) (T := TX3) (N := 8) (n := 8) hts in_X3 (hts _ is_X3)
  obtain ⟨c6, i6, k6⟩ := u_known (C := RX4) (T := TX4) (N := 9) (n := 9) hts in_X4 (hts _ is_X4)
  obtain ⟨c7, i7, k7⟩ := u_known (C := RX5) (T := TX5) (N := 8) (n := 8) hts in_X5 (hts _ is_X5)
  obtain ⟨c8, i8, k8⟩ := u_known (C := RX6) (T := TX6) (N := 2) (n := 2) hts in_X6 (hts _ is_X6)
  obtain ⟨c9, i9, k9⟩ := u_known (C := RX7) (T := TX7) (N := 5) (n := 5) hts in_X7 (hts _ (mi 85 (by decide +kernel)))
  obtain ⟨c10, i10, k10⟩ := u_known (C := RX8) (T := TX8) (N := 32) (n := 32) hts in_X8 (hts _ (mi 1345 (by decide +kernel)))
  have z1 : ZO (.object "Plugboard$User") s := hts (Cond.arrayOver (.object "Plugboard$User")) (mi 187 (by decide +kernel))
  have z2 : ZO (.array .int) s := hts (Cond.arrayOver (.array .int)) (mi 1351 (by decide +kernel))
  have z3 : ZO (.array .boolean) s := hts (Cond.arrayOver (.array .boolean)) (mi 1353 (by decide +kernel))
  obtain ⟨a0, p0, f0⟩ := st_arr (ty := .int) (hts _ (mi 146 aw_int))
  obtain ⟨a1, p1, f1⟩ := st_arr (ty := .boolean) (hts _ (mi 147 aw_boolean))
  obtain ⟨a2, p2, f2⟩ := st_arr (ty := .char) (hts _ (mi 185 aw_char))
  obtain ⟨a3, p3, f3⟩ := st_arr (ty := .float) (hts _ (mi 148 aw_float))
  obtain ⟨cm, a4, kA, g1, -, g3, g4, g5⟩ := Cond.arrayOver_spec z1
  obtain ⟨a5, p5, f5⟩ := st_over z2
  obtain ⟨a6, p6, f6⟩ := st_over z3
  obtain ⟨a7, p7, f7⟩ := st_arr (ty := .long) (hts (Cond.arrayClass .long) (mi 1822 (by decide +kernel)))
  obtain ⟨a8, p8, f8⟩ := st_arr (ty := .double) (hts (Cond.arrayClass .double) (mi 1823 (by decide +kernel)))
  have p4 : ArrOfT s a4 (.object "Plugboard$User") := fun n z => ⟨fun x hx => (by cases hx), kA, g3, cm, g4⟩
  refine ⟨(fun _ _ => 0, fun _ => (0, 0), [], (fun k => match k with | 0 => c0 | 1 => c1 | 2 => c2 | 3 => c3 | 4 => c4 | 5 => c5 | 6 => c6 | 7 => c7 | 8 => c8 | 9 => c9 | _ => c10, fun k => match k with | 0 => i0 | 1 => i1 | 2 => i2 | 3 => i3 | 4 => i4 | 5 => i5 | 6 => i6 | 7 => i7 | 8 => i8 | 9 => i9 | _ => i10), (fun k => match k with | 0 => a0 | 1 => a1 | 2 => a2 | 3 => a3 | 4 => a4 | 5 => a5 | 6 => a6 | 7 => a7 | _ => a8), 0), ⟨fun k q hq => ?_, fun k q hq => ?_⟩, hKW, z1, z2, z3⟩
  · match k, hq with
    | 0, hq => cases hq; exact k0
    | 1, hq => cases hq; exact k1
    | 2, hq => cases hq; exact k2
    | 3, hq => cases hq; exact k3
    | 4, hq => cases hq; exact k4
    | 5, hq => cases hq; exact k5
    | 6, hq => cases hq; exact k6
    | 7, hq => cases hq; exact k7
    | 8, hq => cases hq; exact k8
    | 9, hq => cases hq; exact k9
    | 10, hq => cases hq; exact k10
    | k + 11, hq => cases hq
  · match k, hq with
    | 0, hq => cases hq; exact ⟨p0, f0⟩
    | 1, hq => cases hq; exact ⟨p1, f1⟩
    | 2, hq => cases hq; exact ⟨p2, f2⟩
    | 3, hq => cases hq; exact ⟨p3, f3⟩
    | 4, hq => cases hq; exact ⟨p4, kA, cm, g3, g4, g1, g5⟩
    | 5, hq => cases hq; exact ⟨p5, f5⟩
    | 6, hq => cases hq; exact ⟨p6, f6⟩
    | 7, hq => cases hq; exact ⟨p7, f7⟩
    | 8, hq => cases hq; exact ⟨p8, f8⟩
    | k + 9, hq => cases hq
set_option maxRecDepth 100000 in
theorem str_in : ∀ q ∈ STR, Cond.stringRef q.1 q.2.1 q.2.2 ∈ lw_tbl := by decide +kernel
set_option maxRecDepth 100000 in
theorem str_ex : ∀ q ∈ STR, Cond.exactly (Term.string q.1 q.2.1) "java/lang/String" ∈ flatC (Jvm.Cond.and given_1 narrow_1) := by decide +kernel
set_option maxRecDepth 100000 in
theorem ncl_in : ∀ q ∈ NCL, Cond.not (Cond.castable q.1 q.2) ∈ flatC (Jvm.Cond.and given_1 narrow_1) := by decide +kernel
theorem st_SR {s : State} {b : Nat} (hts : ∀ w ∈ lw_tbl, w.before #[Value.ref b] s = true) (hgv : (Jvm.Cond.and given_1 narrow_1).before #[Value.ref b] s = true) : SR STR s := by
  have hf := flat_of_before _ hgv
  refine ⟨fun q hq => ?_, fun q hq => va_Nc.of (hf _ (ncl_in q hq))⟩
  obtain ⟨a, c, cA, kA, q1, -⟩ := Cond.exactly_spec (args := #[Value.ref b]) (first := s) (o := none) (s := s) (idx := []) (t := Term.string q.1 q.2.1) (cls := "java/lang/String") (hf _ (str_ex q hq))
  exact ⟨a, vk_R.of (hts _ (str_in q hq)) q1⟩
theorem st_Z1 {s : State} {b : Nat} {A : Nat → Prop} (hts : ∀ w ∈ lw_tbl, w.before #[Value.ref b] s = true) (hgv : (Jvm.Cond.and given_1 narrow_1).before #[Value.ref b] s = true) (hA : ∀ a : Nat, a < s.heap.size → ¬ A a) : vx_Zq Bundle.tN "UNASSIGNED_STACK" Bundle.steD A s s.heap :=
  vx_Zqof (hts _ (mi 384 (by decide +kernel))) (hts _ (mi 70 (by decide +kernel))) (flat_of_before _ hgv _ (by decide +kernel)) hA
theorem st_Z2 {s : State} {b : Nat} {A : Nat → Prop} (hts : ∀ w ∈ lw_tbl, w.before #[Value.ref b] s = true) (hgv : (Jvm.Cond.and given_1 narrow_1).before #[Value.ref b] s = true) (hA : ∀ a : Nat, a < s.heap.size → ¬ A a) : vx_Zq Bundle.tN "SUPPRESSED_SENTINEL" Bundle.listD A s s.heap :=
  vx_Zqof (hts _ (mi 386 (by decide +kernel))) (hts _ (mi 70 (by decide +kernel))) (flat_of_before _ hgv _ (by decide +kernel)) hA
