/-! The places of the cells, out of what the constructors have made. -/
def zI (c : Nat) : Nat → Int32 := match c with
  | 121 => fM 93
  | 122 => fM 93
  | 4 => fun j => match j with | 7 => -1 | _ => 0
  | 6 => fun j => match j with | 7 => -1 | 8 => -1 | _ => 0
  | _ => fun _ => 0
/-- the state of both sides at the start -/
def z0 : St := (fun c _ => zI c, fun _ _ _ => 0, fun k => k, fun _ => 0, fun _ => 0)
def zA (P M qL qD : Nat) (uP uM : Nat → Nat) (c o : Nat) : Nat := match c with
  | 0 => P
  | 1 => uP 0
  | 2 => uP 12
  | 3 => match o with | 0 => uP 42 | 1 => uP 49 | 2 => uP 56 | 3 => uP 29 | _ => uP 25
  | 4 => match o with | 0 => uP 40 | 1 => uP 47 | _ => uP 54
  | 5 => uP 21
  | 6 => uP 34
  | 7 => match o with | 0 => uP 46 | 1 => uP 53 | 2 => uP 60 | _ => uP 33
  | 8 => M
  | 100 => uP 1
  | 101 => uP 2
  | 102 => uP 3
  | 103 => uP 4
  | 104 => uP 5
  | 105 => uP 6
  | 106 => uP 7
  | 107 => uP 8
  | 108 => uP 9
  | 109 => uP 10
  | 110 => uP 11
  | 111 => uP 13
  | 112 => uP 14
  | 113 => uP 15
  | 114 => uP 16
  | 115 => uP 17
  | 116 => uP 18
  | 117 => uP 19
  | 120 => match o with | 0 => uP 43 | 1 => uP 50 | 2 => uP 57 | 3 => uP 30 | _ => uP 26
  | 121 => match o with | 0 => uP 44 | 1 => uP 51 | 2 => uP 58 | 3 => uP 31 | _ => uP 27
  | 122 => match o with | 0 => uP 45 | 1 => uP 52 | 2 => uP 59 | 3 => uP 32 | _ => uP 28
  | 123 => match o with | 0 => uP 41 | 1 => uP 48 | _ => uP 55
  | 124 => uP 22
  | 125 => uP 23
  | 126 => uP 24
  | 127 => uP 35
  | 128 => uP 36
  | 129 => uP 37
  | 130 => uP 20
  | 131 => match o with | 0 => uP 38 | _ => uP 39
  | 140 => uM 0
  | 141 => uM 1
  | 142 => uM 2
  | 143 => uM 3
  | 144 => uM 4
  | 145 => uM 5
  | 146 => uM 6
  | 147 => uM 7
  | 148 => uM 8
  | 149 => uM 9
  | 150 => uM 10
  | 151 => uM 11
  | 152 => uM 12
  | 153 => uM 13
  | 154 => uM 14
  | 155 => uM 15
  | 156 => uM 16
  | 157 => uM 17
  | 158 => uM 18
  | 159 => uM 19
  | 166 => uM 20
  | 167 => uM 21
  | 168 => uM 22
  | 169 => uM 23
  | 170 => uM 24
  | 171 => uM 25
  | 172 => uM 26
  | 180 => qL
  | 181 => qD
  | 160 => uM 10 + 1 + o
  | 161 => uM 11 + 1 + o
  | 162 => uM 12 + 1 + o
  | 163 => uM 13 + 1 + o
  | 164 => uM 14 + 1 + o
  | 165 => uM 16 + 1 + o
  | _ => 0
def kb (c n : Nat) : List (Nat × Nat) := (List.range n).map (fun j => (c, j))
def kE : List (Nat × Nat) := [(0, 0), (1, 0), (100, 0), (101, 0), (102, 0), (103, 0), (104, 0), (105, 0), (106, 0), (107, 0), (108, 0), (109, 0), (110, 0), (2, 0), (111, 0), (112, 0), (113, 0), (114, 0), (115, 0), (116, 0), (117, 0), (130, 0), (5, 0), (124, 0), (125, 0), (126, 0), (3, 4), (120, 4), (121, 4), (122, 4), (3, 3), (120, 3), (121, 3), (122, 3), (7, 3), (6, 0), (127, 0), (128, 0), (129, 0), (131, 0), (131, 1), (4, 0), (123, 0), (3, 0), (120, 0), (121, 0), (122, 0), (7, 0), (4, 1), (123, 1), (3, 1), (120, 1), (121, 1), (122, 1), (7, 1), (4, 2), (123, 2), (3, 2), (120, 2), (121, 2), (122, 2), (7, 2), (8, 0), (140, 0), (141, 0), (142, 0), (143, 0), (144, 0), (145, 0), (146, 0), (147, 0), (148, 0), (149, 0), (150, 0), (151, 0), (152, 0), (153, 0), (154, 0), (155, 0), (156, 0), (157, 0), (158, 0), (159, 0), (166, 0), (167, 0), (168, 0), (169, 0), (170, 0), (171, 0), (172, 0), (180, 0), (181, 0)]
def kB : List (Nat × Nat) := ((((([] ++ kb 160 250) ++ kb 161 250) ++ kb 162 250) ++ kb 163 250) ++ kb 164 250) ++ kb 165 3
def kT : List (Nat × Nat) := kE ++ kB
def zG (Γ0 : Gm) (P M qL qD : Nat) (uP uM : Nat → Nat) : Gm := (zA P M qL qD uP uM, fun a => (kT.find? (fun k => zA P M qL qD uP uM k.1 k.2 == a)).getD (0, 0), kT.map (fun k => zA P M qL qD uP uM k.1 k.2), gG Γ0, gc Γ0, 0)
theorem mem_kb {c n : Nat} {k : Nat × Nat} : k ∈ kb c n ↔ k.1 = c ∧ k.2 < n := by
  unfold kb
  rw [List.mem_map]
  constructor
  · rintro ⟨j, hj, rfl⟩
    exact ⟨rfl, List.mem_range.mp hj⟩
  · rintro ⟨h1, h2⟩
    exact ⟨k.2, List.mem_range.mpr h2, by rw [← h1]⟩
theorem mem_kB {k : Nat × Nat} : k ∈ kB ↔ ((160 ≤ k.1 ∧ k.1 ≤ 164) ∧ k.2 < 250) ∨ (k.1 = 165 ∧ k.2 < 3) := by
  unfold kB
  simp only [List.mem_append, mem_kb, List.not_mem_nil, false_or]
  omega
theorem cnt_big {n c : Nat} (h : 182 ≤ c) : cnt n c = 0 := by
  unfold cnt
  split <;> first | rfl | omega
set_option maxRecDepth 100000 in
theorem kE_cnt : ∀ k ∈ kE, k.2 < cnt 0 k.1 := by decide +kernel
set_option maxRecDepth 100000 in
theorem cnt_kE1 : (List.range 182).all (fun c => (decide (160 ≤ c) && decide (c ≤ 165)) || (List.range (cnt 0 c)).all (fun o => kE.contains (c, o))) = true := by decide +kernel
theorem cnt_kE : ∀ c, c < 182 → c < 160 ∨ 165 < c → ∀ o, o < cnt 0 c → (c, o) ∈ kE := by
  intro c hc hq o ho
  have h := List.all_eq_true.mp cnt_kE1 c (List.mem_range.mpr hc)
  rw [Bool.or_eq_true, Bool.and_eq_true, decide_eq_true_eq, decide_eq_true_eq] at h
  rcases h with h | h
  · omega
  · have h := List.all_eq_true.mp h o (List.mem_range.mpr ho)
    exact List.contains_iff_mem.mp h
theorem cnt_blk : ∀ c, 160 ≤ c → c ≤ 165 → cnt 0 c = if c = 165 then 3 else 250 := by
  intro c h1 h2
  have : c = 160 ∨ c = 161 ∨ c = 162 ∨ c = 163 ∨ c = 164 ∨ c = 165 := by omega
  rcases this with rfl | rfl | rfl | rfl | rfl | rfl <;> rfl
theorem mem_kT {c o : Nat} : (c, o) ∈ kT ↔ o < cnt 0 c := by
  unfold kT
  rw [List.mem_append, mem_kB]
  constructor
  · rintro (h | ⟨⟨h1, h2⟩, h3⟩ | ⟨h1, h3⟩)
    · exact kE_cnt _ h
    · have h1 : 160 ≤ c := h1
      have h2 : c ≤ 164 := h2
      rw [cnt_blk c h1 (by omega), if_neg (by omega)]
      exact h3
    · have h1 : c = 165 := h1
      rw [cnt_blk c (by omega) (by omega), if_pos h1]
      exact h3
  · intro h
    by_cases g : c < 182
    · by_cases g2 : c < 160 ∨ 165 < c
      · exact Or.inl (cnt_kE c g g2 o h)
      · rw [cnt_blk c (by omega) (by omega)] at h
        right
        by_cases g3 : c = 165
        · rw [if_pos g3] at h
          exact Or.inr ⟨g3, h⟩
        · rw [if_neg g3] at h
          exact Or.inl ⟨⟨by show 160 ≤ c; omega, by show c ≤ 164; omega⟩, h⟩
    · rw [cnt_big (by omega)] at h
      omega
section ZG
variable {Γ0 : Gm} {A : Nat → Prop} {s : State} {H : Heap} {locs : List Loc} {P M qL qD : Nat} {uP uM : Nat → Nat}
/-- references of which only the first n count -/
theorem zs_refs {ws : va_W} (hw : ZS Γ0 A s ws H locs) (i : Nat) {a n : Nat} {cA : ClassId} {f : Nat → Option Nat} (g : Nat → Option Nat) (he : ws[i]? = some (a, .inl (cA, n, .inr (.inr (.inr (.inr f)))))) (h : ∀ j, j < n → f j = g j) : ZS Γ0 A s (ws.set i (a, .inl (cA, n, .inr (.inr (.inr (.inr g)))))) H locs := by
  refine ⟨hw.1.set hw.2.1 he ?_ (fun _ _ => rfl), hw.2.1.set he, hw.2.2⟩
  have h1 : H[a]? = some (vp_cell cA (n, .inr (.inr (.inr (.inr f))))) := hw.1 i _ he
  show H[a]? = some (vp_cell cA (n, .inr (.inr (.inr (.inr g)))))
  rw [h1, vp_cell_q, vp_cell_q]
  congr 1
  exact arrV_cg (fun j hj => by rw [h j hj])
theorem blk_kb (c q n : Nat) (e : va_E) (γ : Nat × Nat → Nat) (η : Nat × Nat → va_E) (h1 : ∀ j, γ (c, j) = q + 1 + j) (h2 : ∀ j, η (c, j) = e) : blk q e n = (kb c n).map (fun k => (γ k, η k)) := by
  unfold blk kb
  rw [List.map_map]
  refine List.map_congr_left (fun j _ => ?_)
  show (q + 1 + j, e) = (γ (c, j), η (c, j))
  rw [h1, h2]
set_option maxHeartbeats 4000000 in
set_option maxRecDepth 100000 in
theorem mk_world : ([(P, .inr (9, [.ref (uP 0), .ref (uP 12), .ref (uP 20), .ref (uP 21), .ref (uP 34)])), (uP 0, .inr (3, [.ref (uP 1), .ref (uP 2), .ref (uP 3), .ref (uP 4), .ref (uP 5), .ref (uP 6), .ref (uP 7), .ref (uP 8), .ref (uP 9), .ref (uP 10), .ref (uP 11), .int 0, .int 0])), (uP 1, aI Γ0 250 (fun _ => 0)), (uP 2, aI Γ0 250 (fun _ => 0)), (uP 3, aZ Γ0 250 (fun _ => 0)), (uP 4, aI Γ0 250 (fun _ => 0)), (uP 5, aI Γ0 250 (fun _ => 0)), (uP 6, aI Γ0 250 (fun _ => 0)), (uP 7, aI Γ0 3000 (fun _ => 0)), (uP 8, aF Γ0 3000 (fun _ => 0)), (uP 9, aI Γ0 3000 (fun _ => 0)), (uP 10, aF Γ0 3000 (fun _ => 0)), (uP 11, aI Γ0 3000 (fun _ => 0)), (uP 12, .inr (4, [.ref (uP 13), .ref (uP 14), .ref (uP 15), .ref (uP 16), .ref (uP 17), .ref (uP 18), .ref (uP 19), .int 0, .int 0])), (uP 13, aI Γ0 12 (fun _ => 0)), (uP 14, aI Γ0 12 (fun _ => 0)), (uP 15, aZ Γ0 12 (fun _ => 0)), (uP 16, aI Γ0 8 (fun _ => 0)), (uP 17, aI Γ0 8 (fun _ => 0)), (uP 18, aC Γ0 8 (fun _ => 0)), (uP 19, aC Γ0 8 (fun _ => 0)), (uP 20, .inl (gc Γ0 4, 3, .inr (.inr (.inr (.inr (fun j => some (zA P M qL qD uP uM 4 j))))))), (uP 21, .inr (5, [.ref (uP 0), .ref (uP 25), .ref (uP 29), .ref (uP 33), .ref (uP 22), .ref (uP 23), .ref (uP 24), .int 0])), (uP 22, aI Γ0 250 (fun _ => 0)), (uP 23, aI Γ0 4 (fun _ => 0)), (uP 24, aI Γ0 24 (fun _ => 0)), (uP 25, .inr (2, [.ref (uP 0), .ref (uP 26), .ref (uP 27), .ref (uP 28)])), (uP 26, aF Γ0 93 (fun _ => 0)), (uP 27, aI Γ0 93 (fM 93)), (uP 28, aI Γ0 93 (fM 93)), (uP 29, .inr (2, [.ref (uP 0), .ref (uP 30), .ref (uP 31), .ref (uP 32)])), (uP 30, aF Γ0 93 (fun _ => 0)), (uP 31, aI Γ0 93 (fM 93)), (uP 32, aI Γ0 93 (fM 93)), (uP 33, .inr (8, [.ref (uP 29), .ref (uP 12)])), (uP 34, .inr (6, [.ref (uP 35), .ref (uP 36), .ref (uP 37), .ref (uP 38), .ref (uP 39), .int 0, .int 0, .int (-1), .int (-1)])), (uP 35, aZ Γ0 384 (fun _ => 0)), (uP 36, aI Γ0 768 (fun _ => 0)), (uP 37, aI Γ0 768 (fun _ => 0)), (uP 38, aI Γ0 768 (fun _ => 0)), (uP 39, aI Γ0 768 (fun _ => 0)), (uP 40, .inr (7, [.int 0, .ref (uP 0), .ref (uP 42), .ref (uP 46), .ref (uP 41), .int 0, .int 0, .int (-1)])), (uP 41, aZ Γ0 250 (fun _ => 0)), (uP 42, .inr (2, [.ref (uP 0), .ref (uP 43), .ref (uP 44), .ref (uP 45)])), (uP 43, aF Γ0 93 (fun _ => 0)), (uP 44, aI Γ0 93 (fM 93)), (uP 45, aI Γ0 93 (fM 93)), (uP 46, .inr (8, [.ref (uP 42), .ref (uP 12)])), (uP 47, .inr (7, [.int 1, .ref (uP 0), .ref (uP 49), .ref (uP 53), .ref (uP 48), .int 0, .int 0, .int (-1)])), (uP 48, aZ Γ0 250 (fun _ => 0)), (uP 49, .inr (2, [.ref (uP 0), .ref (uP 50), .ref (uP 51), .ref (uP 52)])), (uP 50, aF Γ0 93 (fun _ => 0)), (uP 51, aI Γ0 93 (fM 93)), (uP 52, aI Γ0 93 (fM 93)), (uP 53, .inr (8, [.ref (uP 49), .ref (uP 12)])), (uP 54, .inr (7, [.int 2, .ref (uP 0), .ref (uP 56), .ref (uP 60), .ref (uP 55), .int 0, .int 0, .int (-1)])), (uP 55, aZ Γ0 250 (fun _ => 0)), (uP 56, .inr (2, [.ref (uP 0), .ref (uP 57), .ref (uP 58), .ref (uP 59)])), (uP 57, aF Γ0 93 (fun _ => 0)), (uP 58, aI Γ0 93 (fM 93)), (uP 59, aI Γ0 93 (fM 93)), (uP 60, .inr (8, [.ref (uP 56), .ref (uP 12)])), (M, .inr (10, [.int 0, .ref (uM 0), .ref (uM 1), .ref (uM 2), .ref (uM 3), .ref (uM 4), .ref (uM 5), .ref (uM 6), .int 0, .int 0, .ref (uM 7), .ref (uM 8), .ref (uM 9), .ref (uM 10), .ref (uM 11), .ref (uM 12), .ref (uM 13), .ref (uM 14), .ref (uM 15), .ref (uM 16), .int 0, .ref (uM 17), .ref (uM 18), .ref (uM 19), .ref (uM 20), .ref (uM 21), .ref (uM 22), .int 0, .ref (uM 23), .ref (uM 24), .ref (uM 25), .ref (uM 26)])), (uM 0, aI Γ0 12 (fun _ => 0)), (uM 1, aI Γ0 12 (fun _ => 0)), (uM 2, aI Γ0 8 (fun _ => 0)), (uM 3, aI Γ0 8 (fun _ => 0)), (uM 4, aZ Γ0 12 (fun _ => 0)), (uM 5, aC Γ0 8 (fun _ => 0)), (uM 6, aC Γ0 8 (fun _ => 0)), (uM 7, aI Γ0 250 (fun _ => 0)), (uM 8, aI Γ0 250 (fun _ => 0)), (uM 9, aI Γ0 250 (fun _ => 0)), (uM 10, .inl (gc Γ0 5, 250, .inr (.inr (.inr (.inr (fun j => some (uM 10 + 1 + j))))))), (uM 11, .inl (gc Γ0 5, 250, .inr (.inr (.inr (.inr (fun j => some (uM 11 + 1 + j))))))), (uM 12, .inl (gc Γ0 5, 250, .inr (.inr (.inr (.inr (fun j => some (uM 12 + 1 + j))))))), (uM 13, .inl (gc Γ0 5, 250, .inr (.inr (.inr (.inr (fun j => some (uM 13 + 1 + j))))))), (uM 14, .inl (gc Γ0 5, 250, .inr (.inr (.inr (.inr (fun j => some (uM 14 + 1 + j))))))), (uM 15, aZ Γ0 250 (fun _ => 0)), (uM 16, .inl (gc Γ0 6, 3, .inr (.inr (.inr (.inr (fun j => some (uM 16 + 1 + j))))))), (uM 17, aI Γ0 93 (fun _ => 0)), (uM 18, aI Γ0 93 (fun _ => 0)), (uM 19, aI Γ0 93 (fun _ => 0)), (uM 20, aI Γ0 13 (fun _ => 0)), (uM 21, aI Γ0 13 (fun _ => 0)), (uM 22, aI Γ0 13 (fun _ => 0)), (uM 23, aI Γ0 1536 (fun _ => 0)), (uM 24, aI Γ0 1536 (fun _ => 0)), (uM 25, aZ Γ0 384 (fun _ => 0)), (uM 26, aZ Γ0 1536 (fun _ => 0)), (qL, .inl (gc Γ0 7, 1, .inr (.inl (fun _ => 0)))), (qD, .inl (gc Γ0 8, 1, .inr (.inr (.inr (.inl (fun _ => 0))))))] : va_W) ++ (((((([] ++ blk (uM 10) (aI Γ0 13 (fun _ => 0)) 250) ++ blk (uM 11) (aI Γ0 13 (fun _ => 0)) 250) ++ blk (uM 12) (aI Γ0 13 (fun _ => 0)) 250) ++ blk (uM 13) (aI Γ0 13 (fun _ => 0)) 250) ++ blk (uM 14) (aI Γ0 13 (fun _ => 0)) 250) ++ blk (uM 16) (aZ Γ0 250 (fun _ => 0)) 3) = kT.map (fun k => (zA P M qL qD uP uM k.1 k.2, cel (zG Γ0 P M qL qD uP uM) z0 k.1 k.2)) := by
  unfold kT kB
  rw [List.map_append, List.map_append, List.map_append, List.map_append, List.map_append, List.map_append, List.map_append]
  congr 1
/-- the world that the constructors make -/
def wZ (Γ0 : Gm) (P M qL qD : Nat) (uP uM : Nat → Nat) : va_W := ([(P, .inr (9, [.ref (uP 0), .ref (uP 12), .ref (uP 20), .ref (uP 21), .ref (uP 34)])), (uP 0, .inr (3, [.ref (uP 1), .ref (uP 2), .ref (uP 3), .ref (uP 4), .ref (uP 5), .ref (uP 6), .ref (uP 7), .ref (uP 8), .ref (uP 9), .ref (uP 10), .ref (uP 11), .int 0, .int 0])), (uP 1, aI Γ0 250 (fun _ => 0)), (uP 2, aI Γ0 250 (fun _ => 0)), (uP 3, aZ Γ0 250 (fun _ => 0)), (uP 4, aI Γ0 250 (fun _ => 0)), (uP 5, aI Γ0 250 (fun _ => 0)), (uP 6, aI Γ0 250 (fun _ => 0)), (uP 7, aI Γ0 3000 (fun _ => 0)), (uP 8, aF Γ0 3000 (fun _ => 0)), (uP 9, aI Γ0 3000 (fun _ => 0)), (uP 10, aF Γ0 3000 (fun _ => 0)), (uP 11, aI Γ0 3000 (fun _ => 0)), (uP 12, .inr (4, [.ref (uP 13), .ref (uP 14), .ref (uP 15), .ref (uP 16), .ref (uP 17), .ref (uP 18), .ref (uP 19), .int 0, .int 0])), (uP 13, aI Γ0 12 (fun _ => 0)), (uP 14, aI Γ0 12 (fun _ => 0)), (uP 15, aZ Γ0 12 (fun _ => 0)), (uP 16, aI Γ0 8 (fun _ => 0)), (uP 17, aI Γ0 8 (fun _ => 0)), (uP 18, aC Γ0 8 (fun _ => 0)), (uP 19, aC Γ0 8 (fun _ => 0)), (uP 20, .inl (gc Γ0 4, 3, .inr (.inr (.inr (.inr (va_up (va_up (va_up (fun _ => none) (Int32.toNatClampNeg 0) (some (uP 40))) (Int32.toNatClampNeg 1) (some (uP 47))) (Int32.toNatClampNeg 2) (some (uP 54)))))))), (uP 21, .inr (5, [.ref (uP 0), .ref (uP 25), .ref (uP 29), .ref (uP 33), .ref (uP 22), .ref (uP 23), .ref (uP 24), .int 0])), (uP 22, aI Γ0 250 (fun _ => 0)), (uP 23, aI Γ0 4 (fun _ => 0)), (uP 24, aI Γ0 24 (fun _ => 0)), (uP 25, .inr (2, [.ref (uP 0), .ref (uP 26), .ref (uP 27), .ref (uP 28)])), (uP 26, aF Γ0 93 (fun _ => 0)), (uP 27, aI Γ0 93 (fM 93)), (uP 28, aI Γ0 93 (fM 93)), (uP 29, .inr (2, [.ref (uP 0), .ref (uP 30), .ref (uP 31), .ref (uP 32)])), (uP 30, aF Γ0 93 (fun _ => 0)), (uP 31, aI Γ0 93 (fM 93)), (uP 32, aI Γ0 93 (fM 93)), (uP 33, .inr (8, [.ref (uP 29), .ref (uP 12)])), (uP 34, .inr (6, [.ref (uP 35), .ref (uP 36), .ref (uP 37), .ref (uP 38), .ref (uP 39), .int 0, .int 0, .int (-1), .int (-1)])), (uP 35, aZ Γ0 384 (fun _ => 0)), (uP 36, aI Γ0 768 (fun _ => 0)), (uP 37, aI Γ0 768 (fun _ => 0)), (uP 38, aI Γ0 768 (fun _ => 0)), (uP 39, aI Γ0 768 (fun _ => 0)), (uP 40, .inr (7, [.int 0, .ref (uP 0), .ref (uP 42), .ref (uP 46), .ref (uP 41), .int 0, .int 0, .int (-1)])), (uP 41, aZ Γ0 250 (fun _ => 0)), (uP 42, .inr (2, [.ref (uP 0), .ref (uP 43), .ref (uP 44), .ref (uP 45)])), (uP 43, aF Γ0 93 (fun _ => 0)), (uP 44, aI Γ0 93 (fM 93)), (uP 45, aI Γ0 93 (fM 93)), (uP 46, .inr (8, [.ref (uP 42), .ref (uP 12)])), (uP 47, .inr (7, [.int 1, .ref (uP 0), .ref (uP 49), .ref (uP 53), .ref (uP 48), .int 0, .int 0, .int (-1)])), (uP 48, aZ Γ0 250 (fun _ => 0)), (uP 49, .inr (2, [.ref (uP 0), .ref (uP 50), .ref (uP 51), .ref (uP 52)])), (uP 50, aF Γ0 93 (fun _ => 0)), (uP 51, aI Γ0 93 (fM 93)), (uP 52, aI Γ0 93 (fM 93)), (uP 53, .inr (8, [.ref (uP 49), .ref (uP 12)])), (uP 54, .inr (7, [.int 2, .ref (uP 0), .ref (uP 56), .ref (uP 60), .ref (uP 55), .int 0, .int 0, .int (-1)])), (uP 55, aZ Γ0 250 (fun _ => 0)), (uP 56, .inr (2, [.ref (uP 0), .ref (uP 57), .ref (uP 58), .ref (uP 59)])), (uP 57, aF Γ0 93 (fun _ => 0)), (uP 58, aI Γ0 93 (fM 93)), (uP 59, aI Γ0 93 (fM 93)), (uP 60, .inr (8, [.ref (uP 56), .ref (uP 12)])), (M, .inr (10, [.int 0, .ref (uM 0), .ref (uM 1), .ref (uM 2), .ref (uM 3), .ref (uM 4), .ref (uM 5), .ref (uM 6), .int 0, .int 0, .ref (uM 7), .ref (uM 8), .ref (uM 9), .ref (uM 10), .ref (uM 11), .ref (uM 12), .ref (uM 13), .ref (uM 14), .ref (uM 15), .ref (uM 16), .int 0, .ref (uM 17), .ref (uM 18), .ref (uM 19), .ref (uM 20), .ref (uM 21), .ref (uM 22), .int 0, .ref (uM 23), .ref (uM 24), .ref (uM 25), .ref (uM 26)])), (uM 0, aI Γ0 12 (fun _ => 0)), (uM 1, aI Γ0 12 (fun _ => 0)), (uM 2, aI Γ0 8 (fun _ => 0)), (uM 3, aI Γ0 8 (fun _ => 0)), (uM 4, aZ Γ0 12 (fun _ => 0)), (uM 5, aC Γ0 8 (fun _ => 0)), (uM 6, aC Γ0 8 (fun _ => 0)), (uM 7, aI Γ0 250 (fun _ => 0)), (uM 8, aI Γ0 250 (fun _ => 0)), (uM 9, aI Γ0 250 (fun _ => 0)), (uM 10, .inl (gc Γ0 5, 250, .inr (.inr (.inr (.inr (fun j => some (uM 10 + 1 + j))))))), (uM 11, .inl (gc Γ0 5, 250, .inr (.inr (.inr (.inr (fun j => some (uM 11 + 1 + j))))))), (uM 12, .inl (gc Γ0 5, 250, .inr (.inr (.inr (.inr (fun j => some (uM 12 + 1 + j))))))), (uM 13, .inl (gc Γ0 5, 250, .inr (.inr (.inr (.inr (fun j => some (uM 13 + 1 + j))))))), (uM 14, .inl (gc Γ0 5, 250, .inr (.inr (.inr (.inr (fun j => some (uM 14 + 1 + j))))))), (uM 15, aZ Γ0 250 (fun _ => 0)), (uM 16, .inl (gc Γ0 6, 3, .inr (.inr (.inr (.inr (fun j => some (uM 16 + 1 + j))))))), (uM 17, aI Γ0 93 (fun _ => 0)), (uM 18, aI Γ0 93 (fun _ => 0)), (uM 19, aI Γ0 93 (fun _ => 0)), (uM 20, aI Γ0 13 (fun _ => 0)), (uM 21, aI Γ0 13 (fun _ => 0)), (uM 22, aI Γ0 13 (fun _ => 0)), (uM 23, aI Γ0 1536 (fun _ => 0)), (uM 24, aI Γ0 1536 (fun _ => 0)), (uM 25, aZ Γ0 384 (fun _ => 0)), (uM 26, aZ Γ0 1536 (fun _ => 0)), (qL, .inl (gc Γ0 7, 1, .inr (.inl (fun _ => 0)))), (qD, .inl (gc Γ0 8, 1, .inr (.inr (.inr (.inl (fun _ => 0))))))] : va_W) ++ (((((([] ++ blk (uM 10) (aI Γ0 13 (fun _ => 0)) 250) ++ blk (uM 11) (aI Γ0 13 (fun _ => 0)) 250) ++ blk (uM 12) (aI Γ0 13 (fun _ => 0)) 250) ++ blk (uM 13) (aI Γ0 13 (fun _ => 0)) 250) ++ blk (uM 14) (aI Γ0 13 (fun _ => 0)) 250) ++ blk (uM 16) (aZ Γ0 250 (fun _ => 0)) 3)
set_option maxHeartbeats 4000000 in
set_option maxRecDepth 100000 in
theorem mk_G (hw : ZS Γ0 A s (wZ Γ0 P M qL qD uP uM) H locs) : GOK (zG Γ0 P M qL qD uP uM) ∧ (∀ a ∈ gL (zG Γ0 P M qL qD uP uM), A a) ∧ va_P (gG Γ0) vwCl (wsl (zG Γ0 P M qL qD uP uM) z0) H ∧ va_S A s.heap H locs := by
  have hw1 := zs_refs hw 21 (fun j => some (zA P M qL qD uP uM 4 j)) rfl (fun j hj => by
    have : j = 0 ∨ j = 1 ∨ j = 2 := by omega
    rcases this with rfl | rfl | rfl <;> rfl)
  have hw2 : ZS Γ0 A s (([(P, .inr (9, [.ref (uP 0), .ref (uP 12), .ref (uP 20), .ref (uP 21), .ref (uP 34)])), (uP 0, .inr (3, [.ref (uP 1), .ref (uP 2), .ref (uP 3), .ref (uP 4), .ref (uP 5), .ref (uP 6), .ref (uP 7), .ref (uP 8), .ref (uP 9), .ref (uP 10), .ref (uP 11), .int 0, .int 0])), (uP 1, aI Γ0 250 (fun _ => 0)), (uP 2, aI Γ0 250 (fun _ => 0)), (uP 3, aZ Γ0 250 (fun _ => 0)), (uP 4, aI Γ0 250 (fun _ => 0)), (uP 5, aI Γ0 250 (fun _ => 0)), (uP 6, aI Γ0 250 (fun _ => 0)), (uP 7, aI Γ0 3000 (fun _ => 0)), (uP 8, aF Γ0 3000 (fun _ => 0)), (uP 9, aI Γ0 3000 (fun _ => 0)), (uP 10, aF Γ0 3000 (fun _ => 0)), (uP 11, aI Γ0 3000 (fun _ => 0)), (uP 12, .inr (4, [.ref (uP 13), .ref (uP 14), .ref (uP 15), .ref (uP 16), .ref (uP 17), .ref (uP 18), .ref (uP 19), .int 0, .int 0])), (uP 13, aI Γ0 12 (fun _ => 0)), (uP 14, aI Γ0 12 (fun _ => 0)), (uP 15, aZ Γ0 12 (fun _ => 0)), (uP 16, aI Γ0 8 (fun _ => 0)), (uP 17, aI Γ0 8 (fun _ => 0)), (uP 18, aC Γ0 8 (fun _ => 0)), (uP 19, aC Γ0 8 (fun _ => 0)), (uP 20, .inl (gc Γ0 4, 3, .inr (.inr (.inr (.inr (fun j => some (zA P M qL qD uP uM 4 j))))))), (uP 21, .inr (5, [.ref (uP 0), .ref (uP 25), .ref (uP 29), .ref (uP 33), .ref (uP 22), .ref (uP 23), .ref (uP 24), .int 0])), (uP 22, aI Γ0 250 (fun _ => 0)), (uP 23, aI Γ0 4 (fun _ => 0)), (uP 24, aI Γ0 24 (fun _ => 0)), (uP 25, .inr (2, [.ref (uP 0), .ref (uP 26), .ref (uP 27), .ref (uP 28)])), (uP 26, aF Γ0 93 (fun _ => 0)), (uP 27, aI Γ0 93 (fM 93)), (uP 28, aI Γ0 93 (fM 93)), (uP 29, .inr (2, [.ref (uP 0), .ref (uP 30), .ref (uP 31), .ref (uP 32)])), (uP 30, aF Γ0 93 (fun _ => 0)), (uP 31, aI Γ0 93 (fM 93)), (uP 32, aI Γ0 93 (fM 93)), (uP 33, .inr (8, [.ref (uP 29), .ref (uP 12)])), (uP 34, .inr (6, [.ref (uP 35), .ref (uP 36), .ref (uP 37), .ref (uP 38), .ref (uP 39), .int 0, .int 0, .int (-1), .int (-1)])), (uP 35, aZ Γ0 384 (fun _ => 0)), (uP 36, aI Γ0 768 (fun _ => 0)), (uP 37, aI Γ0 768 (fun _ => 0)), (uP 38, aI Γ0 768 (fun _ => 0)), (uP 39, aI Γ0 768 (fun _ => 0)), (uP 40, .inr (7, [.int 0, .ref (uP 0), .ref (uP 42), .ref (uP 46), .ref (uP 41), .int 0, .int 0, .int (-1)])), (uP 41, aZ Γ0 250 (fun _ => 0)), (uP 42, .inr (2, [.ref (uP 0), .ref (uP 43), .ref (uP 44), .ref (uP 45)])), (uP 43, aF Γ0 93 (fun _ => 0)), (uP 44, aI Γ0 93 (fM 93)), (uP 45, aI Γ0 93 (fM 93)), (uP 46, .inr (8, [.ref (uP 42), .ref (uP 12)])), (uP 47, .inr (7, [.int 1, .ref (uP 0), .ref (uP 49), .ref (uP 53), .ref (uP 48), .int 0, .int 0, .int (-1)])), (uP 48, aZ Γ0 250 (fun _ => 0)), (uP 49, .inr (2, [.ref (uP 0), .ref (uP 50), .ref (uP 51), .ref (uP 52)])), (uP 50, aF Γ0 93 (fun _ => 0)), (uP 51, aI Γ0 93 (fM 93)), (uP 52, aI Γ0 93 (fM 93)), (uP 53, .inr (8, [.ref (uP 49), .ref (uP 12)])), (uP 54, .inr (7, [.int 2, .ref (uP 0), .ref (uP 56), .ref (uP 60), .ref (uP 55), .int 0, .int 0, .int (-1)])), (uP 55, aZ Γ0 250 (fun _ => 0)), (uP 56, .inr (2, [.ref (uP 0), .ref (uP 57), .ref (uP 58), .ref (uP 59)])), (uP 57, aF Γ0 93 (fun _ => 0)), (uP 58, aI Γ0 93 (fM 93)), (uP 59, aI Γ0 93 (fM 93)), (uP 60, .inr (8, [.ref (uP 56), .ref (uP 12)])), (M, .inr (10, [.int 0, .ref (uM 0), .ref (uM 1), .ref (uM 2), .ref (uM 3), .ref (uM 4), .ref (uM 5), .ref (uM 6), .int 0, .int 0, .ref (uM 7), .ref (uM 8), .ref (uM 9), .ref (uM 10), .ref (uM 11), .ref (uM 12), .ref (uM 13), .ref (uM 14), .ref (uM 15), .ref (uM 16), .int 0, .ref (uM 17), .ref (uM 18), .ref (uM 19), .ref (uM 20), .ref (uM 21), .ref (uM 22), .int 0, .ref (uM 23), .ref (uM 24), .ref (uM 25), .ref (uM 26)])), (uM 0, aI Γ0 12 (fun _ => 0)), (uM 1, aI Γ0 12 (fun _ => 0)), (uM 2, aI Γ0 8 (fun _ => 0)), (uM 3, aI Γ0 8 (fun _ => 0)), (uM 4, aZ Γ0 12 (fun _ => 0)), (uM 5, aC Γ0 8 (fun _ => 0)), (uM 6, aC Γ0 8 (fun _ => 0)), (uM 7, aI Γ0 250 (fun _ => 0)), (uM 8, aI Γ0 250 (fun _ => 0)), (uM 9, aI Γ0 250 (fun _ => 0)), (uM 10, .inl (gc Γ0 5, 250, .inr (.inr (.inr (.inr (fun j => some (uM 10 + 1 + j))))))), (uM 11, .inl (gc Γ0 5, 250, .inr (.inr (.inr (.inr (fun j => some (uM 11 + 1 + j))))))), (uM 12, .inl (gc Γ0 5, 250, .inr (.inr (.inr (.inr (fun j => some (uM 12 + 1 + j))))))), (uM 13, .inl (gc Γ0 5, 250, .inr (.inr (.inr (.inr (fun j => some (uM 13 + 1 + j))))))), (uM 14, .inl (gc Γ0 5, 250, .inr (.inr (.inr (.inr (fun j => some (uM 14 + 1 + j))))))), (uM 15, aZ Γ0 250 (fun _ => 0)), (uM 16, .inl (gc Γ0 6, 3, .inr (.inr (.inr (.inr (fun j => some (uM 16 + 1 + j))))))), (uM 17, aI Γ0 93 (fun _ => 0)), (uM 18, aI Γ0 93 (fun _ => 0)), (uM 19, aI Γ0 93 (fun _ => 0)), (uM 20, aI Γ0 13 (fun _ => 0)), (uM 21, aI Γ0 13 (fun _ => 0)), (uM 22, aI Γ0 13 (fun _ => 0)), (uM 23, aI Γ0 1536 (fun _ => 0)), (uM 24, aI Γ0 1536 (fun _ => 0)), (uM 25, aZ Γ0 384 (fun _ => 0)), (uM 26, aZ Γ0 1536 (fun _ => 0)), (qL, .inl (gc Γ0 7, 1, .inr (.inl (fun _ => 0)))), (qD, .inl (gc Γ0 8, 1, .inr (.inr (.inr (.inl (fun _ => 0))))))] : va_W) ++ (((((([] ++ blk (uM 10) (aI Γ0 13 (fun _ => 0)) 250) ++ blk (uM 11) (aI Γ0 13 (fun _ => 0)) 250) ++ blk (uM 12) (aI Γ0 13 (fun _ => 0)) 250) ++ blk (uM 13) (aI Γ0 13 (fun _ => 0)) 250) ++ blk (uM 14) (aI Γ0 13 (fun _ => 0)) 250) ++ blk (uM 16) (aZ Γ0 250 (fun _ => 0)) 3)) H locs := hw1
  rw [mk_world] at hw2
  obtain ⟨hP, hD, hS⟩ := hw2
  rw [zd_iff] at hD
  have e1 : (kT.map (fun k => (zA P M qL qD uP uM k.1 k.2, cel (zG Γ0 P M qL qD uP uM) z0 k.1 k.2))).map Prod.fst = kT.map (fun k => zA P M qL qD uP uM k.1 k.2) := by
    rw [List.map_map]
    rfl
  rw [e1] at hD
  have inj : ∀ k ∈ kT, ∀ k' ∈ kT, zA P M qL qD uP uM k.1 k.2 = zA P M qL qD uP uM k'.1 k'.2 → k = k' := by
    intro k hk k' hk' e
    obtain ⟨i, hi⟩ := List.mem_iff_getElem?.mp hk
    obtain ⟨j, hj⟩ := List.mem_iff_getElem?.mp hk'
    have li := (List.getElem?_eq_some_iff.mp hi).1
    have eij : i = j := (List.getElem?_inj (by rw [List.length_map]; exact li) hD.1).mp (by
      rw [List.getElem?_map, List.getElem?_map, hi, hj]
      exact congrArg some e)
    rw [eij, hj] at hi
    exact (Option.some.inj hi).symm
  have gx_k : ∀ k ∈ kT, gx (zG Γ0 P M qL qD uP uM) (zA P M qL qD uP uM k.1 k.2) = k := by
    intro k hk
    show (kT.find? (fun k' => zA P M qL qD uP uM k'.1 k'.2 == zA P M qL qD uP uM k.1 k.2)).getD (0, 0) = k
    cases hf : kT.find? (fun k' => zA P M qL qD uP uM k'.1 k'.2 == zA P M qL qD uP uM k.1 k.2) with
    | none =>
      have := List.find?_eq_none.mp hf k hk
      simp at this
    | some k' =>
      have h1 := List.find?_some hf
      have h2 := List.mem_of_find?_eq_some hf
      have h1 : zA P M qL qD uP uM k'.1 k'.2 = zA P M qL qD uP uM k.1 k.2 := beq_iff_eq.mp h1
      exact inj k' h2 k hk h1
  have ew : wsl (zG Γ0 P M qL qD uP uM) z0 = kT.map (fun k => (zA P M qL qD uP uM k.1 k.2, cel (zG Γ0 P M qL qD uP uM) z0 k.1 k.2)) := by
    have e2 : wsl (zG Γ0 P M qL qD uP uM) z0 = (kT.map (fun k => zA P M qL qD uP uM k.1 k.2)).map (fun a => (a, cel (zG Γ0 P M qL qD uP uM) z0 (gx (zG Γ0 P M qL qD uP uM) a).1 (gx (zG Γ0 P M qL qD uP uM) a).2)) := rfl
    rw [e2, List.map_map]
    refine List.map_congr_left (fun k hk => ?_)
    show (_, cel _ z0 (gx (zG Γ0 P M qL qD uP uM) (zA P M qL qD uP uM k.1 k.2)).1 (gx (zG Γ0 P M qL qD uP uM) (zA P M qL qD uP uM k.1 k.2)).2) = _
    rw [gx_k k hk]
  refine ⟨⟨fun c o ho => ?_, fun a ha => ?_, hD.1⟩, fun a ha => ?_, by rw [ew]; exact hP, hS⟩
  · have hk : (c, o) ∈ kT := mem_kT.mpr ho
    exact ⟨List.mem_map.mpr ⟨(c, o), hk, rfl⟩, gx_k (c, o) hk⟩
  · obtain ⟨k, hk, rfl⟩ := List.mem_map.mp ha
    rw [gx_k k hk]
    exact ⟨rfl, mem_kT.mp hk⟩
  · obtain ⟨k, hk, rfl⟩ := List.mem_map.mp ha
    exact hD.2 (zA P M qL qD uP uM k.1 k.2, cel (zG Γ0 P M qL qD uP uM) z0 k.1 k.2) (List.mem_map.mpr ⟨k, hk, rfl⟩)
end ZG
