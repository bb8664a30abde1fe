/-! The loop of the law. -/
section LAWL
variable {p : Program} {l : Launch} {e : Env} {s : State} {m : MethodId} {below : List Frame} {meth : Method} {c : Code} {Γ : Gm} {b L N : Nat} {xs : Nat → Int32}
theorem law_sw (hfl : l.stackTraces = false) (X : Fx p c cL_law 9 s m RL) (hK : KK Γ STR s.heap.size s) (hL : LX Γ s b L xs) (hN : 10000000000000 ≤ N) {cc ss : Nat} (hC : cc + 16 ≤ 603072) (hS : ss + 256 ≤ 7223402) {A : Ab} {σ : St} {H : Heap} {locs : List Loc} {ls : Array Slot} {i : Int32} (hI : Inv A σ) (hR : InR L i) (hw : Sit Γ σ s H locs) (hl : lv_has ls 9 [(0, .ref b), (1, .ref (ga Γ 0 0)), (2, .ref (ga Γ 8 0)), (3, .ref (ga Γ 180 0)), (4, .ref (ga Γ 181 0)), (5, .int i)]) (x : Int32)
    (kk : ∀ (A' : Ab) (τ : St) (H : Heap) (locs : List Loc) (ls : Array Slot), Inv A' τ → Sit Γ τ s H locs → lv_has ls 9 [(0, .ref b), (1, .ref (ga Γ 0 0)), (2, .ref (ga Γ 8 0)), (3, .ref (ga Γ 180 0)), (4, .ref (ga Γ 181 0)), (5, .int i)] → W p l e room_1 s m #[Value.ref b] below meth c H locs (cc + 16) (ss + 256) (lw_Z below #[Value.ref b] s) (F0 m 3387 ls [])) : W p l e room_1 s m #[Value.ref b] below meth c H locs cc ss (lw_Z below #[Value.ref b] s) (F0 m 45 ls [.int x]) := by
  have hx := X.1
  have hb := X.2.1
  have key : ∀ {g : Option (Bool × St)} , Nxt g → ∃ A' τ, g = some (true, τ) ∧ Inv A' τ := fun h => h
  by_cases hq : x.toInt < 0 ∨ 44 < x.toInt
  · refine lv_tableOut (tgt := 3387) hx hb dL_law_45 hq (by decide) ?_
    exact W.widen (Nat.le_add_right _ _) (Nat.le_add_right _ _) (kk A σ H locs ls hI hw hl)
  · obtain ⟨n, hn⟩ : ∃ n : Nat, x.toInt = (n : Int) := ⟨x.toInt.toNat, by omega⟩
    have hle : n ≤ 44 := by omega
    have hxn : x = ij (n : Int) := by rw [← hn, ij_eta]
    subst hxn
    clear hn hq
    match n, hle with
    | 0, _ =>
      refine lv_tableIn (off := 195) (tgt := 240) hx hb dL_law_45 (by decide) (by decide) (by decide) (by decide) ?_
      obtain ⟨A1, τ1, hg, hI1⟩ := key (ok_0 hI hN xs L i hR)
      exact cs_0 hfl X hK hL hC hS hg hw hl (fun τ2 H locs ls e hw hl => by cases e; exact kk A1 τ1 H locs ls hI1 hw hl)
    | 1, _ =>
      refine lv_tableIn (off := 329) (tgt := 374) hx hb dL_law_45 (by decide) (by decide) (by decide) (by decide) ?_
      obtain ⟨A1, τ1, hg, hI1⟩ := key (ok_1 hI hN xs L i hR)
      exact cs_1 hfl X hK hL hC hS hg hw hl (fun τ2 H locs ls e hw hl => by cases e; exact kk A1 τ1 H locs ls hI1 hw hl)
    | 2, _ =>
      refine lv_tableIn (off := 421) (tgt := 466) hx hb dL_law_45 (by decide) (by decide) (by decide) (by decide) ?_
      obtain ⟨A1, τ1, hg, hI1⟩ := key (ok_2 hI hN xs L i hR)
      exact cs_2 hfl X hK hL hC hS hg hw hl (fun τ2 H locs ls e hw hl => by cases e; exact kk A1 τ1 H locs ls hI1 hw hl)
    | 3, _ =>
      refine lv_tableIn (off := 489) (tgt := 534) hx hb dL_law_45 (by decide) (by decide) (by decide) (by decide) ?_
      obtain ⟨A1, τ1, hg, hI1⟩ := key (ok_3 hI hN xs L i hR)
      exact cs_3 hfl X hK hL hC hS hg hw hl (fun τ2 H locs ls e hw hl => by cases e; exact kk A1 τ1 H locs ls hI1 hw hl)
    | 4, _ =>
      refine lv_tableIn (off := 557) (tgt := 602) hx hb dL_law_45 (by decide) (by decide) (by decide) (by decide) ?_
      obtain ⟨A1, τ1, hg, hI1⟩ := key (ok_4 hI hN xs L i hR)
      exact cs_4 hfl X hK hL hC hS hg hw hl (fun τ2 H locs ls e hw hl => by cases e; exact kk A1 τ1 H locs ls hI1 hw hl)
    | 5, _ =>
      refine lv_tableIn (off := 637) (tgt := 682) hx hb dL_law_45 (by decide) (by decide) (by decide) (by decide) ?_
      obtain ⟨A1, τ1, hg, hI1⟩ := key (ok_5 hI hN xs L i hR)
      exact cs_5 hfl X hK hL hC hS hg hw hl (fun τ2 H locs ls e hw hl => by cases e; exact kk A1 τ1 H locs ls hI1 hw hl)
    | 6, _ =>
      refine lv_tableIn (off := 705) (tgt := 750) hx hb dL_law_45 (by decide) (by decide) (by decide) (by decide) ?_
      obtain ⟨A1, τ1, hg, hI1⟩ := key (ok_6 hI hN xs L i hR)
      exact cs_6 hfl X hK hL hC hS hg hw hl (fun τ2 H locs ls e hw hl => by cases e; exact kk A1 τ1 H locs ls hI1 hw hl)
    | 7, _ =>
      refine lv_tableIn (off := 773) (tgt := 818) hx hb dL_law_45 (by decide) (by decide) (by decide) (by decide) ?_
      obtain ⟨A1, τ1, hg, hI1⟩ := key (ok_7 hI hN xs L i hR)
      exact cs_7 hfl X hK hL hC hS hg hw hl (fun τ2 H locs ls e hw hl => by cases e; exact kk A1 τ1 H locs ls hI1 hw hl)
    | 8, _ =>
      refine lv_tableIn (off := 841) (tgt := 886) hx hb dL_law_45 (by decide) (by decide) (by decide) (by decide) ?_
      obtain ⟨A1, τ1, hg, hI1⟩ := key (ok_8 hI hN xs L i hR)
      exact cs_8 hfl X hK hL hC hS hg hw hl (fun τ2 H locs ls e hw hl => by cases e; exact kk A1 τ1 H locs ls hI1 hw hl)
    | 9, _ =>
      refine lv_tableIn (off := 949) (tgt := 994) hx hb dL_law_45 (by decide) (by decide) (by decide) (by decide) ?_
      obtain ⟨A1, τ1, hg, hI1⟩ := key (ok_9 hI hN xs L i hR)
      exact cs_9 hfl X hK hL hC hS hg hw hl (fun τ2 H locs ls e hw hl => by cases e; exact kk A1 τ1 H locs ls hI1 hw hl)
    | 10, _ =>
      refine lv_tableIn (off := 1017) (tgt := 1062) hx hb dL_law_45 (by decide) (by decide) (by decide) (by decide) ?_
      obtain ⟨A1, τ1, hg, hI1⟩ := key (ok_10 hI hN xs L i hR)
      exact cs_10 hfl X hK hL hC hS hg hw hl (fun τ2 H locs ls e hw hl => by cases e; exact kk A1 τ1 H locs ls hI1 hw hl)
    | 11, _ =>
      refine lv_tableIn (off := 1097) (tgt := 1142) hx hb dL_law_45 (by decide) (by decide) (by decide) (by decide) ?_
      obtain ⟨A1, τ1, hg, hI1⟩ := key (ok_11 hI hN xs L i hR)
      exact cs_11 hfl X hK hL hC hS hg hw hl (fun τ2 H locs ls e hw hl => by cases e; exact kk A1 τ1 H locs ls hI1 hw hl)
    | 12, _ =>
      refine lv_tableIn (off := 1188) (tgt := 1233) hx hb dL_law_45 (by decide) (by decide) (by decide) (by decide) ?_
      obtain ⟨A1, τ1, hg, hI1⟩ := key (ok_12 hI hN xs L i hR)
      exact cs_12 hfl X hK hL hC hS hg hw hl (fun τ2 H locs ls e hw hl => by cases e; exact kk A1 τ1 H locs ls hI1 hw hl)
    | 13, _ =>
      refine lv_tableIn (off := 1244) (tgt := 1289) hx hb dL_law_45 (by decide) (by decide) (by decide) (by decide) ?_
      obtain ⟨A1, τ1, hg, hI1⟩ := key (ok_13 hI hN xs L i hR)
      exact cs_13 hfl X hK hL hC hS hg hw hl (fun τ2 H locs ls e hw hl => by cases e; exact kk A1 τ1 H locs ls hI1 hw hl)
    | 14, _ =>
      refine lv_tableIn (off := 1312) (tgt := 1357) hx hb dL_law_45 (by decide) (by decide) (by decide) (by decide) ?_
      obtain ⟨A1, τ1, hg, hI1⟩ := key (ok_14 hI hN xs L i hR)
      exact cs_14 hfl X hK hL hC hS hg hw hl (fun τ2 H locs ls e hw hl => by cases e; exact kk A1 τ1 H locs ls hI1 hw hl)
    | 15, _ =>
      refine lv_tableIn (off := 1380) (tgt := 1425) hx hb dL_law_45 (by decide) (by decide) (by decide) (by decide) ?_
      obtain ⟨A1, τ1, hg, hI1⟩ := key (ok_15 (N := N) hI xs L i)
      exact cs_15 hfl X hK hL hC hS hg hw hl (fun τ2 H locs ls e hw hl => by cases e; exact kk A1 τ1 H locs ls hI1 hw hl)
    | 16, _ =>
      refine lv_tableIn (off := 1393) (tgt := 1438) hx hb dL_law_45 (by decide) (by decide) (by decide) (by decide) ?_
      obtain ⟨A1, τ1, hg, hI1⟩ := key (ok_16 hI hN xs L i hR)
      exact cs_16 hfl X hK hL hC hS hg hw hl (fun τ2 H locs ls e hw hl => by cases e; exact kk A1 τ1 H locs ls hI1 hw hl)
    | 17, _ =>
      refine lv_tableIn (off := 1449) (tgt := 1494) hx hb dL_law_45 (by decide) (by decide) (by decide) (by decide) ?_
      obtain ⟨A1, τ1, hg, hI1⟩ := key (ok_17 hI hN xs L i hR)
      exact cs_17 hfl X hK hL hC hS hg hw hl (fun τ2 H locs ls e hw hl => by cases e; exact kk A1 τ1 H locs ls hI1 hw hl)
    | 18, _ =>
      refine lv_tableIn (off := 1505) (tgt := 1550) hx hb dL_law_45 (by decide) (by decide) (by decide) (by decide) ?_
      obtain ⟨A1, τ1, hg, hI1⟩ := key (ok_18 hI hN xs L i hR)
      exact cs_18 hfl X hK hL hC hS hg hw hl (fun τ2 H locs ls e hw hl => by cases e; exact kk A1 τ1 H locs ls hI1 hw hl)
    | 19, _ =>
      refine lv_tableIn (off := 1580) (tgt := 1625) hx hb dL_law_45 (by decide) (by decide) (by decide) (by decide) ?_
      obtain ⟨A1, τ1, hg, hI1⟩ := key (ok_19 hI hN xs L i hR)
      exact cs_19 hfl X hK hL hC hS hg hw hl (fun τ2 H locs ls e hw hl => by cases e; exact kk A1 τ1 H locs ls hI1 hw hl)
    | 20, _ =>
      refine lv_tableIn (off := 1636) (tgt := 1681) hx hb dL_law_45 (by decide) (by decide) (by decide) (by decide) ?_
      obtain ⟨A1, τ1, hg, hI1⟩ := key (ok_20 hI hN xs L i hR)
      exact cs_20 hfl X hK hL hC hS hg hw hl (fun τ2 H locs ls e hw hl => by cases e; exact kk A1 τ1 H locs ls hI1 hw hl)
    | 21, _ =>
      refine lv_tableIn (off := 1711) (tgt := 1756) hx hb dL_law_45 (by decide) (by decide) (by decide) (by decide) ?_
      obtain ⟨A1, τ1, hg, hI1⟩ := key (ok_21 hI hN xs L i hR)
      exact cs_21 hfl X hK hL hC hS hg hw hl (fun τ2 H locs ls e hw hl => by cases e; exact kk A1 τ1 H locs ls hI1 hw hl)
    | 22, _ =>
      refine lv_tableIn (off := 1779) (tgt := 1824) hx hb dL_law_45 (by decide) (by decide) (by decide) (by decide) ?_
      obtain ⟨A1, τ1, hg, hI1⟩ := key (ok_22 hI hN xs L i hR)
      exact cs_22 hfl X hK hL hC hS hg hw hl (fun τ2 H locs ls e hw hl => by cases e; exact kk A1 τ1 H locs ls hI1 hw hl)
    | 23, _ =>
      refine lv_tableIn (off := 1847) (tgt := 1892) hx hb dL_law_45 (by decide) (by decide) (by decide) (by decide) ?_
      obtain ⟨A1, τ1, hg, hI1⟩ := key (ok_23 hI hN xs L i hR)
      exact cs_23 hfl X hK hL hC hS hg hw hl (fun τ2 H locs ls e hw hl => by cases e; exact kk A1 τ1 H locs ls hI1 hw hl)
    | 24, _ =>
      refine lv_tableIn (off := 1915) (tgt := 1960) hx hb dL_law_45 (by decide) (by decide) (by decide) (by decide) ?_
      obtain ⟨A1, τ1, hg, hI1⟩ := key (ok_24 hI hN xs L i hR)
      exact cs_24 hfl X hK hL hC hS hg hw hl (fun τ2 H locs ls e hw hl => by cases e; exact kk A1 τ1 H locs ls hI1 hw hl)
    | 25, _ =>
      refine lv_tableIn (off := 1983) (tgt := 2028) hx hb dL_law_45 (by decide) (by decide) (by decide) (by decide) ?_
      obtain ⟨A1, τ1, hg, hI1⟩ := key (ok_25 hI hN xs L i hR)
      exact cs_25 hfl X hK hL hC hS hg hw hl (fun τ2 H locs ls e hw hl => by cases e; exact kk A1 τ1 H locs ls hI1 hw hl)
    | 26, _ =>
      refine lv_tableIn (off := 2073) (tgt := 2118) hx hb dL_law_45 (by decide) (by decide) (by decide) (by decide) ?_
      obtain ⟨A1, τ1, hg, hI1⟩ := key (ok_26 hI hN xs L i hR)
      exact cs_26 hfl X hK hL hC hS hg hw hl (fun τ2 H locs ls e hw hl => by cases e; exact kk A1 τ1 H locs ls hI1 hw hl)
    | 27, _ =>
      refine lv_tableIn (off := 2141) (tgt := 2186) hx hb dL_law_45 (by decide) (by decide) (by decide) (by decide) ?_
      obtain ⟨A1, τ1, hg, hI1⟩ := key (ok_27 hI hN xs L i hR)
      exact cs_27 hfl X hK hL hC hS hg hw hl (fun τ2 H locs ls e hw hl => by cases e; exact kk A1 τ1 H locs ls hI1 hw hl)
    | 28, _ =>
      refine lv_tableIn (off := 2209) (tgt := 2254) hx hb dL_law_45 (by decide) (by decide) (by decide) (by decide) ?_
      obtain ⟨A1, τ1, hg, hI1⟩ := key (ok_28 hI hN xs L i hR)
      exact cs_28 hfl X hK hL hC hS hg hw hl (fun τ2 H locs ls e hw hl => by cases e; exact kk A1 τ1 H locs ls hI1 hw hl)
    | 29, _ =>
      refine lv_tableIn (off := 2289) (tgt := 2334) hx hb dL_law_45 (by decide) (by decide) (by decide) (by decide) ?_
      obtain ⟨A1, τ1, hg, hI1⟩ := key (ok_29 hI hN xs L i hR)
      exact cs_29 hfl X hK hL hC hS hg hw hl (fun τ2 H locs ls e hw hl => by cases e; exact kk A1 τ1 H locs ls hI1 hw hl)
    | 30, _ =>
      refine lv_tableIn (off := 2357) (tgt := 2402) hx hb dL_law_45 (by decide) (by decide) (by decide) (by decide) ?_
      obtain ⟨A1, τ1, hg, hI1⟩ := key (ok_30 hI hN xs L i hR)
      exact cs_30 hfl X hK hL hC hS hg hw hl (fun τ2 H locs ls e hw hl => by cases e; exact kk A1 τ1 H locs ls hI1 hw hl)
    | 31, _ =>
      refine lv_tableIn (off := 2425) (tgt := 2470) hx hb dL_law_45 (by decide) (by decide) (by decide) (by decide) ?_
      obtain ⟨A1, τ1, hg, hI1⟩ := key (ok_31 hI hN xs L i hR)
      exact cs_31 hfl X hK hL hC hS hg hw hl (fun τ2 H locs ls e hw hl => by cases e; exact kk A1 τ1 H locs ls hI1 hw hl)
    | 32, _ =>
      refine lv_tableIn (off := 2481) (tgt := 2526) hx hb dL_law_45 (by decide) (by decide) (by decide) (by decide) ?_
      obtain ⟨A1, τ1, hg, hI1⟩ := key (ok_32 hI hN xs L i hR)
      exact cs_32 hfl X hK hL hC hS hg hw hl (fun τ2 H locs ls e hw hl => by cases e; exact kk A1 τ1 H locs ls hI1 hw hl)
    | 33, _ =>
      refine lv_tableIn (off := 2549) (tgt := 2594) hx hb dL_law_45 (by decide) (by decide) (by decide) (by decide) ?_
      obtain ⟨A1, τ1, hg, hI1⟩ := key (ok_33 hI hN xs L i hR)
      exact cs_33 hfl X hK hL hC hS hg hw hl (fun τ2 H locs ls e hw hl => by cases e; exact kk A1 τ1 H locs ls hI1 hw hl)
    | 34, _ =>
      refine lv_tableIn (off := 2617) (tgt := 2662) hx hb dL_law_45 (by decide) (by decide) (by decide) (by decide) ?_
      obtain ⟨A1, τ1, hg, hI1⟩ := key (ok_34 hI hN xs L i hR)
      exact cs_34 hfl X hK hL hC hS hg hw hl (fun τ2 H locs ls e hw hl => by cases e; exact kk A1 τ1 H locs ls hI1 hw hl)
    | 35, _ =>
      refine lv_tableIn (off := 2685) (tgt := 2730) hx hb dL_law_45 (by decide) (by decide) (by decide) (by decide) ?_
      obtain ⟨A1, τ1, hg, hI1⟩ := key (ok_35 hI hN xs L i hR)
      exact cs_35 hfl X hK hL hC hS hg hw hl (fun τ2 H locs ls e hw hl => by cases e; exact kk A1 τ1 H locs ls hI1 hw hl)
    | 36, _ =>
      refine lv_tableIn (off := 2753) (tgt := 2798) hx hb dL_law_45 (by decide) (by decide) (by decide) (by decide) ?_
      obtain ⟨A1, τ1, hg, hI1⟩ := key (ok_36 hI hN xs L i hR)
      exact cs_36 hfl X hK hL hC hS hg hw hl (fun τ2 H locs ls e hw hl => by cases e; exact kk A1 τ1 H locs ls hI1 hw hl)
    | 37, _ =>
      refine lv_tableIn (off := 2821) (tgt := 2866) hx hb dL_law_45 (by decide) (by decide) (by decide) (by decide) ?_
      obtain ⟨A1, τ1, hg, hI1⟩ := key (ok_37 hI hN xs L i hR)
      exact cs_37 hfl X hK hL hC hS hg hw hl (fun τ2 H locs ls e hw hl => by cases e; exact kk A1 τ1 H locs ls hI1 hw hl)
    | 38, _ =>
      refine lv_tableIn (off := 2877) (tgt := 2922) hx hb dL_law_45 (by decide) (by decide) (by decide) (by decide) ?_
      obtain ⟨A1, τ1, hg, hI1⟩ := key (ok_38 hI hN xs L i hR)
      exact cs_38 hfl X hK hL hC hS hg hw hl (fun τ2 H locs ls e hw hl => by cases e; exact kk A1 τ1 H locs ls hI1 hw hl)
    | 39, _ =>
      refine lv_tableIn (off := 2933) (tgt := 2978) hx hb dL_law_45 (by decide) (by decide) (by decide) (by decide) ?_
      obtain ⟨A1, τ1, hg, hI1⟩ := key (ok_39 hI hN xs L i hR)
      exact cs_39 hfl X hK hL hC hS hg hw hl (fun τ2 H locs ls e hw hl => by cases e; exact kk A1 τ1 H locs ls hI1 hw hl)
    | 40, _ =>
      refine lv_tableIn (off := 2989) (tgt := 3034) hx hb dL_law_45 (by decide) (by decide) (by decide) (by decide) ?_
      obtain ⟨A1, τ1, hg, hI1⟩ := key (ok_40 hI hN xs L i hR)
      exact cs_40 hfl X hK hL hC hS hg hw hl (fun τ2 H locs ls e hw hl => by cases e; exact kk A1 τ1 H locs ls hI1 hw hl)
    | 41, _ =>
      refine lv_tableIn (off := 3057) (tgt := 3102) hx hb dL_law_45 (by decide) (by decide) (by decide) (by decide) ?_
      obtain ⟨A1, τ1, hg, hI1⟩ := key (ok_41 hI hN xs L i hR)
      exact cs_41 hfl X hK hL hC hS hg hw hl (fun τ2 H locs ls e hw hl => by cases e; exact kk A1 τ1 H locs ls hI1 hw hl)
    | 42, _ =>
      refine lv_tableIn (off := 3132) (tgt := 3177) hx hb dL_law_45 (by decide) (by decide) (by decide) (by decide) ?_
      obtain ⟨A1, τ1, hg, hI1⟩ := key (ok_42 hI hN xs L i hR)
      exact cs_42 hfl X hK hL hC hS hg hw hl (fun τ2 H locs ls e hw hl => by cases e; exact kk A1 τ1 H locs ls hI1 hw hl)
    | 43, _ =>
      refine lv_tableIn (off := 3210) (tgt := 3255) hx hb dL_law_45 (by decide) (by decide) (by decide) (by decide) ?_
      obtain ⟨A1, τ1, hg, hI1⟩ := key (ok_43 hI hN xs L i hR)
      exact cs_43 hfl X hK hL hC hS hg hw hl (fun τ2 H locs ls e hw hl => by cases e; exact kk A1 τ1 H locs ls hI1 hw hl)
    | 44, _ =>
      refine lv_tableIn (off := 3287) (tgt := 3332) hx hb dL_law_45 (by decide) (by decide) (by decide) (by decide) ?_
      obtain ⟨A1, τ1, hg, hI1⟩ := key (ok_44 hI hN xs L i hR)
      exact cs_44 hfl X hK hL hC hS hg hw hl (fun τ2 H locs ls e hw hl => by cases e; exact kk A1 τ1 H locs ls hI1 hw hl)
    | n + 45, h => omega
/-- the law's end -/
theorem law_exit (hx : p.tables.exec = Jvm.exec) (hb : c.code = cL_law) (hL : LX Γ s b L xs) {σ : St} {H : Heap} {locs : List Loc} {ls : Array Slot} (hw : Sit Γ σ s H locs) (hr : meth.sig.returnType = ret) (hlocks : meth.locks = false) {cc ss : Nat} (hC : cc ≤ 603072) (hS : ss ≤ 7223402) : W p l e room_1 s m #[Value.ref b] below meth c H locs cc ss (lw_Z below #[Value.ref b] s) (F0 m 3393 ls []) := by
  refine lv_iconst (v := 1) hx hb dL_law_3393 (by decide) ?_
  refine va_forget (fun q hq => (hw.2.2.2 q hq).elim (fun h => hL.2.2.1 _ h) id) ?_
  refine W.widen hC hS ?_
  exact lw_ret (d0 := s.drawn) (Drawn.sameBut.refl s.drawn lw_cs) hx hb hr hlocks dL_law_3394
theorem inb_at {i k : Nat} (h : i + k < L) (hL : L < 2147483648) : inb (ij (i : Int) + ij (k : Int)) L = true := by
  rw [ij_add]
  exact inb_ij (by omega) (by omega) hL
theorem law_loop (hfl : l.stackTraces = false) (X : Fx p c cL_law 9 s m RL) (hK : KK Γ STR s.heap.size s) (hL : LX Γ s b L xs) (hN : 10000000000000 ≤ N) (hLL : L ≤ 3584) (hr : meth.sig.returnType = ret) (hlocks : meth.locks = false) : ∀ k t : Nat, t + k = 513 → ∀ (A : Ab) (σ : St) (H : Heap) (locs : List Loc) (ls : Array Slot), Inv A σ → Sit Γ σ s H locs → lv_has ls 9 [(0, .ref b), (1, .ref (ga Γ 0 0)), (2, .ref (ga Γ 8 0)), (3, .ref (ga Γ 180 0)), (4, .ref (ga Γ 181 0)), (5, .int (ij ((7 * t : Nat) : Int)))] → W p l e room_1 s m #[Value.ref b] below meth c H locs (2000 + 16 * t) (60000 + 256 * t) (lw_Z below #[Value.ref b] s) (F0 m 28 ls []) := by
  intro k
  have hx := X.1
  have hb := X.2.1
  induction k with
  | zero =>
    intro t ht A σ H locs ls hI hw hl
    have et : t = 513 := by omega
    refine lv_iload hx hb dL_law_28 (lv_at hl 5 rfl) ?_
    refine lv_aload_n hx hb dL_law_30 rfl (lv_at hl 0 rfl) ?_
    refine q_slen hx hb hL hw dL_law_31 ?_
    refine lv_bipush (v := 7) hx hb dL_law_32 (by decide) ?_
    refine lv_isub hx hb dL_law_34 ?_
    refine lv_icmp_gt (tgt := 3393) hx hb dL_law_35 (by decide) (fun _ => ?_) (fun hng => absurd ?_ hng)
    · exact law_exit hx hb hL hw hr hlocks (by omega) (by omega)
    · rw [show (7 : Int32) = ij 7 from rfl, ij_ofn, ij_sub, ij_lt (by omega) (by omega) (by omega) (by omega)]
      omega
  | succ k ih =>
    intro t ht A σ H locs ls hI hw hl
    refine lv_iload hx hb dL_law_28 (lv_at hl 5 rfl) ?_
    refine lv_aload_n hx hb dL_law_30 rfl (lv_at hl 0 rfl) ?_
    refine q_slen hx hb hL hw dL_law_31 ?_
    refine lv_bipush (v := 7) hx hb dL_law_32 (by decide) ?_
    refine lv_isub hx hb dL_law_34 ?_
    refine lv_icmp_gt (tgt := 3393) hx hb dL_law_35 (by decide) (fun _ => ?_) (fun hng => ?_)
    · exact law_exit hx hb hL hw hr hlocks (by omega) (by omega)
    · rw [show (7 : Int32) = ij 7 from rfl, ij_ofn, ij_sub, ij_lt (by omega) (by omega) (by omega) (by omega)] at hng
      have hlt : 7 * t + 7 ≤ L := by omega
      have hR : InR L (ij ((7 * t : Nat) : Int)) := ⟨inb_at (k := 1) (by omega) (by omega), inb_at (k := 2) (by omega) (by omega), inb_at (k := 3) (by omega) (by omega), inb_at (k := 4) (by omega) (by omega), inb_at (k := 5) (by omega) (by omega), inb_at (k := 6) (by omega) (by omega)⟩
      refine lv_aload_n hx hb dL_law_38 rfl (lv_at hl 0 rfl) ?_
      refine lv_iload hx hb dL_law_39 (lv_at hl 5 rfl) ?_
      refine q_sld (X := some ()) (r := ()) hx hb hL hw (ck_in _ (by omega) (by omega) (by omega)) dL_law_41 (fun _ => ?_)
      refine lv_bipush (v := 63) hx hb dL_law_42 (by decide) ?_
      refine lv_iand hx hb dL_law_44 ?_
      refine law_sw hfl X hK hL hN (by omega) (by omega) hI hR hw hl _ (fun A1 τ1 H locs ls hI1 hw hl => ?_)
      refine lv_iinc (v := ij ((7 * (t + 1) : Nat) : Int)) (lv' := [(5, .int (ij ((7 * (t + 1) : Nat) : Int))), (0, .ref b), (1, .ref (ga Γ 0 0)), (2, .ref (ga Γ 8 0)), (3, .ref (ga Γ 180 0)), (4, .ref (ga Γ 181 0))]) hx hb dL_law_3387 hl (k := 5) rfl ?_ (by decide) rfl (fun ls hl => ?_)
      · show ij _ + ij 7 = _
        rw [ij_add]
        congr 1
      · refine lv_goto (tgt := 28) hx hb dL_law_3390 (by decide) ?_
        have hl2 := lv_sub hl [1, 2, 3, 4, 5, 0] rfl
        have := ih (t + 1) (by omega) A1 τ1 H locs ls hI1 hw hl2
        rw [show 2000 + 16 * t + 16 = 2000 + 16 * (t + 1) by omega, show 60000 + 256 * t + 256 = 60000 + 256 * (t + 1) by omega]
        exact this
end LAWL
