/-! The bits of a key: the answer. -/
section S18
variable {A : Ab} {N : Nat} {σ : St}
theorem kbl {m : Nat} (hm : MM m) {e : Int} (h1 : -149 ≤ e) (h2 : e ≤ 127) (hN : 1000 ≤ N) (K : UInt64 → Int32 → Option Int32) : fX7_bitsOf_L56 (fun v8 v9 _ => (fX7_bitsOf_L90 (fun v16 v17 _ => K v16 v17) N N v8 v9 (0 : Int32))) N N (Dd m e) (0 : Int32) (0 : Int32) = K (Dd m 0) (ij e) := by
  by_cases g : 0 ≤ e
  · obtain ⟨k, rfl⟩ : ∃ k : Nat, e = k := ⟨e.toNat, by omega⟩
    have q := lp56 hm (fun v8 v9 _ => (fX7_bitsOf_L90 (fun v16 v17 _ => K v16 v17) N N v8 v9 (0 : Int32))) N k 0 0 N (by omega) (by omega) (by omega)
    refine Eq.trans q ?_
    have q2 := lp90 hm (fun v16 v17 _ => K v16 v17) N 0 (0 + (k : Int)) 0 N (by omega) (by omega) (by omega)
    refine Eq.trans q2 ?_
    show K (Dd m 0) (ij (0 + (k : Int) - ((0 : Nat) : Int))) = _
    rw [show 0 + (k : Int) - ((0 : Nat) : Int) = k by omega]
  · obtain ⟨k, hk⟩ : ∃ k : Nat, e = -(k : Int) := ⟨(-e).toNat, by omega⟩
    obtain ⟨n, hn⟩ : ∃ n, N = n + 1 := ⟨N - 1, by omega⟩
    have q := lp56n hm (fun v8 v9 _ => (fX7_bitsOf_L90 (fun v16 v17 _ => K v16 v17) N N v8 v9 (0 : Int32))) N (e := e) (by omega) (by omega) n 0 0
    rw [← hn] at q
    refine Eq.trans q ?_
    have q2 := lp90 hm (fun v16 v17 _ => K v16 v17) N k 0 0 N (by omega) (by omega) (by omega)
    rw [← hk] at q2
    refine Eq.trans q2 ?_
    show K (Dd m 0) (ij (0 - (k : Int))) = _
    rw [show 0 - (k : Int) = e by omega]
theorem kbl_7 {m : Nat} (hm : MM m) {e : Int} (h1 : -149 ≤ e) (h2 : e ≤ 127) (hN : 1000 ≤ N) (K : UInt64 → Int32 → Option Int32) : fX7_bitsOf_L56_7 (fun v8 v9 _ => (fX7_bitsOf_L90_8 (fun v16 v17 _ => K v16 v17) N N v8 v9 (0 : Int32))) N N (Dd m e) (0 : Int32) (0 : Int32) = K (Dd m 0) (ij e) := by
  by_cases g : 0 ≤ e
  · obtain ⟨k, rfl⟩ : ∃ k : Nat, e = k := ⟨e.toNat, by omega⟩
    have q := lp56_7 hm (fun v8 v9 _ => (fX7_bitsOf_L90_8 (fun v16 v17 _ => K v16 v17) N N v8 v9 (0 : Int32))) N k 0 0 N (by omega) (by omega) (by omega)
    refine Eq.trans q ?_
    have q2 := lp90_8 hm (fun v16 v17 _ => K v16 v17) N 0 (0 + (k : Int)) 0 N (by omega) (by omega) (by omega)
    refine Eq.trans q2 ?_
    show K (Dd m 0) (ij (0 + (k : Int) - ((0 : Nat) : Int))) = _
    rw [show 0 + (k : Int) - ((0 : Nat) : Int) = k by omega]
  · obtain ⟨k, hk⟩ : ∃ k : Nat, e = -(k : Int) := ⟨(-e).toNat, by omega⟩
    obtain ⟨n, hn⟩ : ∃ n, N = n + 1 := ⟨N - 1, by omega⟩
    have q := lp56n_7 hm (fun v8 v9 _ => (fX7_bitsOf_L90_8 (fun v16 v17 _ => K v16 v17) N N v8 v9 (0 : Int32))) N (e := e) (by omega) (by omega) n 0 0
    rw [← hn] at q
    refine Eq.trans q ?_
    have q2 := lp90_8 hm (fun v16 v17 _ => K v16 v17) N k 0 0 N (by omega) (by omega) (by omega)
    rw [← hk] at q2
    refine Eq.trans q2 ?_
    show K (Dd m 0) (ij (0 - (k : Int))) = _
    rw [show 0 - (k : Int) = e by omega]
theorem kb_tail {c j : Nat} {q e : Int} (hm : MM (c * 2 ^ j)) (hj : j ≤ 23) (hj3 : 8388608 ≤ c → j = 0) (hc : c < 16777216) (he : e = q + 23 - j) (hq : -149 ≤ q ∧ q ≤ 104) (hs : q = -149 ∨ 8388608 ≤ c) (base : Int32) (B : Nat) (hB : (B = 0 ∧ base = 0) ∨ (B = 256 ∧ base = -2147483648)) :
    (if ((-126) : Int32) ≤ ij e then (ck (nn64 (FP.dsub (Dd (c * 2 ^ j) 0) (4607182418800017408 : UInt64))) (ck (nn64 (FP.dmul (FP.dsub (Dd (c * 2 ^ j) 0) (4607182418800017408 : UInt64)) (4710765210229538816 : UInt64))) (some ((base ||| ((ij e + (127 : Int32)) <<< ((23 : Int32) &&& 31))) ||| (FP.d2i (FP.dmul (FP.dsub (Dd (c * 2 ^ j) 0) (4607182418800017408 : UInt64)) (4710765210229538816 : UInt64))))))) else (ck (nn64 (FP.dmul (Dd (c * 2 ^ j) 0) (FP.i2d ((1 : Int32) <<< ((ij e + (149 : Int32)) &&& 31))))) (some (base ||| (FP.d2i (FP.dmul (Dd (c * 2 ^ j) 0) (FP.i2d ((1 : Int32) <<< ((ij e + (149 : Int32)) &&& 31)))))))))
      = some (ij ((if c < 8388608 then B * 8388608 + c else (B + ((q + 149).toNat + 1)) * 8388608 + (c - 8388608) : Nat) : Int)) := by
  have c0 : (-126 : Int32) = ij (-126) := by decide
  have c1 : ((-126 : Int32) ≤ ij e) = (-126 ≤ e) := by rw [c0]; exact ij_le (by omega) (by omega) (by omega) (by omega)
  have a127 : ij e + (127 : Int32) = ij (e + 127) := ij_add e 127
  have a149 : ij e + (149 : Int32) = ij (e + 149) := ij_add e 149
  have hbase : base = ij ((B * 8388608 : Nat) : Int) := by
    rcases hB with ⟨rfl, rfl⟩ | ⟨rfl, rfl⟩
    · rfl
    · decide
  by_cases g : 8388608 ≤ c
  · have j0 := hj3 g
    subst j0
    obtain ⟨f1, f2, f3⟩ := Dd_frac hm
    have hor : base ||| (ij (e + 127) <<< ((23 : Int32) &&& 31)) = ij (((B + ((q + 149).toNat + 1)) * 8388608 : Nat) : Int) := by
      have e1 : e + 127 = (((q + 149).toNat + 1 : Nat) : Int) := by omega
      rw [e1]
      rcases hB with ⟨rfl, rfl⟩ | ⟨rfl, rfl⟩
      · have := or_p ⟨(q + 149).toNat + 1, by omega⟩
        rw [Nat.zero_add]
        exact this
      · exact or_n ⟨(q + 149).toNat + 1, by omega⟩
    have hcc : c * 2 ^ 0 = c := by rw [Nat.pow_zero, Nat.mul_one]
    rw [if_pos (by rw [c1]; omega), f1, ck_tr, f2, ck_tr, f3, a127, hor, hcc, or_t (by omega) (by omega), if_neg (by omega)]
  · have hj1 : 1 ≤ j := by
      refine Nat.one_le_iff_ne_zero.mpr (fun z => ?_)
      subst z
      rw [Nat.pow_zero, Nat.mul_one] at hm
      exact g hm.1
    obtain ⟨f1, f2⟩ := Dd_sub hm hj hj1 hc (e := e) (by omega)
    rw [if_neg (by rw [c1]; omega), a149, f1, ck_tr, f2, hbase, or_t (by omega) (by omega), if_pos (by omega)]
theorem f_bitsOf {a : UInt32} (ha : kyB a) (hN : 1000 ≤ N) : fX7_bitsOf N σ a = some a.toInt32 := by
  have c1 : (Op.cmpValue (FP.fcmp a 0) CmpOp.l = (0 : Int32)) = (fk a = fk 0) := fk_l_eq ha kyB_0
  have c2 : ((0 : Int32) ≤ Op.cmpValue (FP.fcmp a 0) CmpOp.g) = (fk 0 ≤ fk a) := fk_g_ge ha kyB_0
  unfold fX7_bitsOf
  by_cases e : fk a = fk 0
  · rw [if_pos (by rw [c1]; exact e), f_isNegZero ha, ob_s]
    rcases fk_same e with h | ⟨h | h, _⟩
    · rw [h]; rfl
    · rw [h]; rfl
    · rw [h]; rfl
  · rw [if_neg (by rw [c1]; exact e)]
    obtain ⟨s, c, q, hv⟩ := kyB_fin ha
    obtain ⟨b1, b2, b3, b4, b5⟩ := bits_of hv
    have hlt := a.toNat_lt
    have hfk : fk a = if 2147483648 ≤ a.toNat then (2147483648 : Int) - (a.toNat : Int) else (a.toNat : Int) := rfl
    rw [fk_0] at e
    have hc : 0 < c := by
      refine Nat.pos_of_ne_zero (fun z => e ?_)
      subst z
      rw [if_pos (by omega)] at b1
      rw [hfk]
      cases s
      · have b1 : a.toNat = 0 * 2147483648 + 0 := b1
        rw [if_neg (by omega)]; omega
      · have b1 : a.toNat = 1 * 2147483648 + 0 := b1
        rw [if_pos (by omega)]; omega
    obtain ⟨j, j1, j2, j3, j4, j5⟩ := f2d_Dd hv hc
    cases s with
    | false =>
      have hD := j4 rfl
      have b1 : a.toNat = if c < 8388608 then 0 * 2147483648 + c else 0 * 2147483648 + ((q + 149).toNat + 1) * 8388608 + (c - 8388608) := b1
      have hpos : a.toNat < 2147483648 := by
        rw [b1]
        split <;> omega
      have h0 : fk 0 ≤ fk a := by
        rw [fk_0, hfk, if_neg (by omega)]
        omega
      rw [if_pos (by rw [c2]; exact h0), if_pos (by rw [c2]; exact h0), hD, nn64_of (Dd_nn j2 (by omega) (by omega)), ck_tr, vl_s]
      refine Eq.trans (kbl j2 (by omega) (by omega) hN (fun v16 v17 => (if ((-126) : Int32) ≤ v17 then (ck (nn64 (FP.dsub v16 (4607182418800017408 : UInt64))) (ck (nn64 (FP.dmul (FP.dsub v16 (4607182418800017408 : UInt64)) (4710765210229538816 : UInt64))) (some (((0 : Int32) ||| ((v17 + (127 : Int32)) <<< ((23 : Int32) &&& 31))) ||| (FP.d2i (FP.dmul (FP.dsub v16 (4607182418800017408 : UInt64)) (4710765210229538816 : UInt64))))))) else (ck (nn64 (FP.dmul v16 (FP.i2d ((1 : Int32) <<< ((v17 + (149 : Int32)) &&& 31))))) (some ((0 : Int32) ||| (FP.d2i (FP.dmul v16 (FP.i2d ((1 : Int32) <<< ((v17 + (149 : Int32)) &&& 31)))))))))) ) ?_
      refine Eq.trans (kb_tail j2 j1 j3 b2 rfl ⟨b3, b4⟩ b5 0 0 (Or.inl ⟨rfl, rfl⟩)) ?_
      rw [toI_ij]
      congr 3
      rw [b1]
      by_cases g : c < 8388608
      · rw [if_pos g, if_pos g]
      · rw [if_neg g, if_neg g]; omega
    | true =>
      have hD := j5 rfl
      have b1 : a.toNat = if c < 8388608 then 1 * 2147483648 + c else 1 * 2147483648 + ((q + 149).toNat + 1) * 8388608 + (c - 8388608) := b1
      have hpos : 2147483648 < a.toNat := by
        rw [b1]
        split <;> omega
      have h0 : ¬ fk 0 ≤ fk a := by
        rw [fk_0, hfk, if_pos (by omega)]
        omega
      have hv2 : FP.Core.val64 (FP.f2d a) ≠ .nan := f2d_nn (kyB_nn ha)
      rw [if_neg (by rw [c2]; exact h0), if_neg (by rw [c2]; exact h0), nn64_of hv2, ck_tr, hD, vl_s]
      refine Eq.trans (kbl_7 j2 (by omega) (by omega) hN (fun v16 v17 => (if ((-126) : Int32) ≤ v17 then (ck (nn64 (FP.dsub v16 (4607182418800017408 : UInt64))) (ck (nn64 (FP.dmul (FP.dsub v16 (4607182418800017408 : UInt64)) (4710765210229538816 : UInt64))) (some (((-2147483648 : Int32) ||| ((v17 + (127 : Int32)) <<< ((23 : Int32) &&& 31))) ||| (FP.d2i (FP.dmul (FP.dsub v16 (4607182418800017408 : UInt64)) (4710765210229538816 : UInt64))))))) else (ck (nn64 (FP.dmul v16 (FP.i2d ((1 : Int32) <<< ((v17 + (149 : Int32)) &&& 31))))) (some ((-2147483648 : Int32) ||| (FP.d2i (FP.dmul v16 (FP.i2d ((1 : Int32) <<< ((v17 + (149 : Int32)) &&& 31)))))))))) ) ?_
      refine Eq.trans (kb_tail j2 j1 j3 b2 rfl ⟨b3, b4⟩ b5 (-2147483648) 256 (Or.inr ⟨rfl, rfl⟩)) ?_
      rw [toI_ij]
      congr 3
      rw [b1]
      by_cases g : c < 8388608
      · rw [if_pos g, if_pos g]
      · rw [if_neg g, if_neg g]; omega
theorem p_keyBits (h : Inv A σ) (hN : 1000 ≤ N) (x y : Int32) : PairI (fL_keyBits N σ x y) (fun τ => fX8_keyBits N τ x y) := by
  refine q_view h hN x y (h12 rfl).1 (h12 rfl).2 (fun u σ2 => (ob (fX6_keyAt N σ2 u y) fun v3 => (ob (fX7_bitsOf N σ2 v3) fun v4 => (some (.inl v4, σ2))))) (fun σ1 => (ob (fX8_key N σ1 y) fun v3 => (ob (fJxf58ca_floatToIntBits_5c35a N σ1 v3) fun v4 => (some (v4, σ1))))) (fun u s hx hy hu hs => ?_)
  subst hy
  have hs2 := sn12 h.1 hs
  have hV := CR_VW h.1 hu h.2.1
  refine ⟨(ky (bv A (kn A u)) s).toInt32, ?_, fun τ ht => ?_⟩
  · show ob _ _ = _
    rw [f_keyAt hV hs2, ob_s, f_bitsOf (v_ky hV hs2) hN, ob_s]
  · show ob _ _ = _
    have mk := m_key (N := N) (MB_WM h.1 ht) hs2
    rw [mk.1, ob_s, m_bits mk.2, ob_s]
end S18
