/-! More calls without loops. -/
theorem vp_mono {x : Int32} {a b : Nat} (h : a ≤ b) (hx : vp_in x a) : vp_in x b := by
  rw [vp_in_iff] at hx ⊢
  omega
theorem nar_1 : vp_nar .boolean 1 = 1 := by decide
theorem nar_0 : vp_nar .boolean 0 = 0 := by decide
theorem bt_b1' (k j : Nat) (hk : k < 32) : bt (b1 k) j = decide (j = k) := by
  by_cases hj : j < 32
  · exact bt_b1 k j hk hj
  · rw [bt_big _ _ (by omega)]
    exact (decide_eq_false (by omega)).symm
section O1
variable (X : (Nat → Int32) × Nat) (mo : Bool) (G : Nat × Nat) (I : Nat → Nat → Int32) (J : Nat → Nat → Int64) (Q : Option Value → sm_M → Prop)
theorem nH_worth {n m : Nat} (hn : I 1 0 = zI n) (h12 : n ≤ 12) (hm : I 1 1 = zI m) (h6 : m ≤ 6) (x y z : Int32) : sm_wp X 176 0 [some (.ref 0), some (.int x), some (.int y), some (.int z)] [] (sM mo G I J) Q = if sIn x m ∧ sIn y n ∧ ¬ z < 0 ∧ ¬ 99 < z then Q (some (.int 1)) (sM mo G (up2 (up2 I 13 (x * 12 + y).toNatClampNeg z) 1 4 (I 1 4 + 1)) J) else Q (some (.int 0)) (sM mo G I J) := by
  rw [ct_House_worth]
  simp only [hState_vp hm h6, hLand_vp hn h12]
  have : sIn x m → sIn y n → vp_in (x * 12 + y) 72 := by
    intro a b
    obtain ⟨i, hi, hi2, rfl⟩ := sIn_ex a
    obtain ⟨j, hj, hj2, rfl⟩ := sIn_ex b
    simp (disch := first | omega | decide) only [zI_lt, zI_le, zI_eq, zI_cn, zI_vp, zI_add, zI_mul, zI_sub, zIl_add, zIr_add, zIl_mul, zIr_mul, zIr_sub, zIl_lt, zIr_lt, zIl_le, zIr_le, zIl_eq, zIr_eq, zI_sIn, zI_m1, zI_m1', Int32.add_zero, Int32.or_zero]
    omega
  grind
theorem nM_worth {n m : Nat} (hn : I 81 3 = zI n) (h12 : n ≤ 12) (hm : I 81 10 = zI m) (h6 : m ≤ 6) (x y z : Int32) : sm_wp X 220 0 [some (.ref 81), some (.int x), some (.int y), some (.int z)] [] (sM mo G I J) Q = if sIn x m ∧ sIn y n ∧ ¬ z < 0 ∧ ¬ 99 < z then Q (some (.int 1)) (sM mo G (up2 (up2 I 81 2 0) 91 (x * 12 + y).toNatClampNeg z) J) else Q (some (.int 0)) (sM mo G (up2 I 81 2 0) J) := by
  rw [ct_Model_worth]
  simp only [mS0 hm h6, mL0 hn h12]
  rw [Int32.mul_comm 12 x]
  have : sIn x m → sIn y n → vp_in (x * 12 + y) 72 := by
    intro a b
    obtain ⟨i, hi, hi2, rfl⟩ := sIn_ex a
    obtain ⟨j, hj, hj2, rfl⟩ := sIn_ex b
    simp (disch := first | omega | decide) only [zI_lt, zI_le, zI_eq, zI_cn, zI_vp, zI_add, zI_mul, zI_sub, zIl_add, zIr_add, zIl_mul, zIr_mul, zIr_sub, zIl_lt, zIr_lt, zIl_le, zIr_le, zIl_eq, zIr_eq, zI_sIn, zI_m1, zI_m1', Int32.add_zero, Int32.or_zero]
    omega
  grind
theorem nH_near {n : Nat} (hn : I 1 0 = zI n) (h12 : n ≤ 12) (x y : Int32) : sm_wp X 172 0 [some (.ref 0), some (.int x), some (.int y)] [] (sM mo G I J) Q = if sIn x n ∧ sIn y n ∧ ¬ x = y ∧ ¬ bt (I 3 x.toNatClampNeg) y.toNatClampNeg = true then Q (some (.int 1)) (sM mo G (up2 (up2 I 3 x.toNatClampNeg (I 3 x.toNatClampNeg ||| b1 y.toNatClampNeg)) 3 y.toNatClampNeg (I 3 y.toNatClampNeg ||| b1 x.toNatClampNeg)) J) else Q (some (.int 0)) (sM mo G I J) := by
  rw [ct_House_near]
  simp only [vf_Realm_areNear, hLand_vp hn h12]
  by_cases a : sIn x n
  · obtain ⟨i, hi, hi2, rfl⟩ := sIn_ex a
    by_cases b : sIn y n
    · obtain ⟨j, hj, hj2, rfl⟩ := sIn_ex b
      simp (disch := first | omega | decide) only [zI_lt, zI_le, zI_eq, zI_cn, zI_vp, zI_add, zI_mul, zI_sub, zIl_add, zIr_add, zIl_mul, zIr_mul, zIr_sub, zIl_lt, zIr_lt, zIl_le, zIr_le, zIl_eq, zIr_eq, zI_sIn, zI_m1, zI_m1', Int32.add_zero, Int32.or_zero, hb_bt]
      by_cases e : i = j
      · grind
      · rw [up2_sn (Ne.symm e)]
        grind [b1]
    · simp [a, b]
  · simp [a]
theorem nM_near {n : Nat} (hn : I 81 3 = zI n) (h12 : n ≤ 12) (x y : Int32) : sm_wp X 211 0 [some (.ref 81), some (.int x), some (.int y)] [] (sM mo G I J) Q = if sIn x n ∧ sIn y n ∧ ¬ x = y ∧ I 84 (12 * x.toNatClampNeg + y.toNatClampNeg) = 0 then Q (some (.int 1)) (sM mo G (up2 (up2 (up2 I 81 2 0) 84 (12 * x.toNatClampNeg + y.toNatClampNeg) 1) 84 (12 * y.toNatClampNeg + x.toNatClampNeg) 1) J) else Q (some (.int 0)) (sM mo G (up2 I 81 2 0) J) := by
  rw [ct_Model_near]
  simp only [mL0 hn h12, nar_1]
  by_cases a : sIn x n
  · obtain ⟨i, hi, hi2, rfl⟩ := sIn_ex a
    by_cases b : sIn y n
    · obtain ⟨j, hj, hj2, rfl⟩ := sIn_ex b
      simp (disch := first | omega | decide) only [zI_lt, zI_le, zI_eq, zI_cn, zI_vp, zI_add, zI_mul, zI_sub, zIl_add, zIr_add, zIl_mul, zIr_mul, zIr_sub, zIl_lt, zIr_lt, zIl_le, zIr_le, zIl_eq, zIr_eq, zI_sIn, zI_m1, zI_m1', Int32.add_zero, Int32.or_zero]
      grind
    · simp [a, b]
  · simp [a]
theorem nH_art {r : Nat} (hr : I 71 0 = zI r) (h8 : r ≤ 8) : sm_wp X 195 0 [some (.ref 0)] [] (sM mo G I J) Q = if r < 8 then Q (some (.int (zI r))) (sM mo G (up2 I 71 0 (zI (r + 1))) J) else Q (some (.int (-1))) (sM mo G I J) := by
  rw [ct_House_article, hr]
  simp (disch := first | omega | decide) only [zI_lt, zI_le, zI_eq, zI_cn, zI_vp, zI_add, zI_mul, zI_sub, zIl_add, zIr_add, zIl_mul, zIr_mul, zIr_sub, zIl_lt, zIr_lt, zIl_le, zIr_le, zIl_eq, zIr_eq, zI_sIn, zI_m1, zI_m1', Int32.add_zero, Int32.or_zero, Nat.add_sub_cancel]
theorem nM_art {r : Nat} (hr : I 81 81 = zI r) (h8 : r ≤ 8) : sm_wp X 291 0 [some (.ref 81)] [] (sM mo G I J) Q = if r < 8 then Q (some (.int (zI r))) (sM mo G (up2 (up2 I 81 2 0) 81 81 (zI (r + 1))) J) else Q (some (.int (-1))) (sM mo G (up2 I 81 2 0) J) := by
  rw [ct_Model_article, hr]
  simp (disch := first | omega | decide) only [zI_lt, zI_le, zI_eq, zI_cn, zI_vp, zI_add, zI_mul, zI_sub, zIl_add, zIr_add, zIl_mul, zIr_mul, zIr_sub, zIl_lt, zIr_lt, zIl_le, zIr_le, zIl_eq, zIr_eq, zI_sIn, zI_m1, zI_m1', Int32.add_zero, Int32.or_zero, Nat.add_sub_cancel]
  grind
theorem nH_spy {m t q : Nat} (hm : I 1 1 = zI m) (h6 : m ≤ 6) (ht : I 1 3 = zI t) (hq : I 26 0 = zI q) (h20 : q ≤ 20) (x y z u : Int32) : sm_wp X 181 0 [some (.ref 0), some (.int x), some (.int y), some (.int z), some (.int u)] [] (sM mo G I J) Q = if sIn x m ∧ sIn y m ∧ ¬ x = y ∧ ¬ z < zI t ∧ ¬ u < z ∧ ¬ 300 < u ∧ q < 20 then Q (some (.int 1)) (sM mo G (up2 (up2 (up2 (up2 (up2 I 27 q x) 28 q y) 29 q z) 30 q u) 26 0 (zI (q + 1))) J) else Q (some (.int 0)) (sM mo G I J) := by
  rw [ct_House_spy]
  simp only [hState_vp hm h6]
  rw [hq, ht]
  simp (disch := first | omega | decide) only [zI_lt, zI_le, zI_eq, zI_cn, zI_vp, zI_add, zI_mul, zI_sub, zIl_add, zIr_add, zIl_mul, zIr_mul, zIr_sub, zIl_lt, zIr_lt, zIl_le, zIr_le, zIl_eq, zIr_eq, zI_sIn, zI_m1, zI_m1', Int32.add_zero, Int32.or_zero]
  grind
theorem nM_spy {m t q : Nat} (hm : I 81 10 = zI m) (h6 : m ≤ 6) (ht : I 81 16 = zI t) (hq : I 81 60 = zI q) (h20 : q ≤ 20) (x y z u : Int32) : sm_wp X 250 0 [some (.ref 81), some (.int x), some (.int y), some (.int z), some (.int u)] [] (sM mo G I J) Q = if sIn x m ∧ sIn y m ∧ ¬ x = y ∧ ¬ z < zI t ∧ ¬ u < z ∧ ¬ 300 < u ∧ q < 20 then Q (some (.int 1)) (sM mo G (up2 (up2 (up2 (up2 (up2 (up2 I 81 2 0) 120 (4 * q) x) 120 (4 * q + 1) y) 120 (4 * q + 2) z) 120 (4 * q + 3) u) 81 60 (zI (q + 1))) J) else Q (some (.int 0)) (sM mo G (up2 I 81 2 0) J) := by
  rw [ct_Model_spy]
  simp only [mS0 hm h6]
  rw [hq, ht]
  simp (disch := first | omega | decide) only [zI_lt, zI_le, zI_eq, zI_cn, zI_vp, zI_add, zI_mul, zI_sub, zIl_add, zIr_add, zIl_mul, zIr_mul, zIr_sub, zIl_lt, zIr_lt, zIl_le, zIr_le, zIl_eq, zIr_eq, zI_sIn, zI_m1, zI_m1', Int32.add_zero, Int32.or_zero]
  grind
end O1
section O2
variable {X : (Nat → Int32) × Nat} {c : Nat} {mo : Bool} {G : Nat × Nat} {I : Nat → Nat → Int32} {J : Nat → Nat → Int64}
theorem op_worth (h : inv c mo G I J) (x y z : Int32) : Agr X 176 [some (.ref 0), some (.int x), some (.int y), some (.int z)] 220 [some (.ref 81), some (.int x), some (.int y), some (.int z)] (sM mo G I J) (Inv (c + 1)) := by
  have h0 := h
  obtain ⟨n, m, t, p, q, r, ch, ln, hN, ⟨e2, e4, e5, e6, e10, e11, e12, e13⟩, hV, hY, hG, hK, hP, hS, hA, hT, hF, hB, hC, hD, hD2, hX, hZ⟩ := h
  have hN0 := hN
  obtain ⟨hn, hn', h12, hm, hm', h6, -⟩ := hN0
  unfold Agr
  rw [nH_worth _ _ _ _ _ _ hn h12 hm h6]
  by_cases g : sIn x m ∧ sIn y n ∧ ¬ z < 0 ∧ ¬ 99 < z
  · rw [if_pos g, nM_worth _ _ _ _ _ _ (m := m) (n := n) (by simp (decide := true) only [up2_ra, up2_rn, va_ap, ne_eq, if_false, if_true, not_false_eq_true]; exact hn') h12 (by simp (decide := true) only [up2_ra, up2_rn, va_ap, ne_eq, if_false, if_true, not_false_eq_true]; exact hm') h6, if_pos g]
    refine ⟨rfl, mo, G, _, _, rfl, n, m, t, p, q, r, ch + 1, ln, ?_⟩
    simp (decide := true) only [up2_ra, up2_rn, va_ap, ne_eq, if_false, if_true, not_false_eq_true]
    refine ⟨hN, ⟨e2, e4, e5, e6, e10, e11, e12, by rw [e13]⟩, ?_, hY, hG, ivK_u hK, hP, hS, hA, hT, hF, hB, ivC_u hC, ivD_u hD, ivD_u hD2, hX, ivZ_s hZ⟩
    obtain ⟨v1, v2, v3, v4, v5, v6, v7, v8, v9⟩ := hV
    refine ⟨v1, v2, v3, v4, v5, v6, v7, v8, fun j => ?_⟩
    rw [va_ap]
    split
    · obtain ⟨k, hk, rfl⟩ := zI_of (x := z) g.2.2.1
      exact ⟨k, by have := g.2.2.2; rw [zIl_lt (by omega) hk] at this; omega, rfl⟩
    · exact v9 j
  · rw [if_neg g, nM_worth _ _ _ _ _ _ hn' h12 hm' h6, if_neg g]
    exact ⟨rfl, inv_t 0 h0⟩
theorem op_near (h : inv c mo G I J) (x y : Int32) : Agr X 172 [some (.ref 0), some (.int x), some (.int y)] 211 [some (.ref 81), some (.int x), some (.int y)] (sM mo G I J) (Inv (c + 1)) := by
  have h0 := h
  obtain ⟨n, m, t, p, q, r, ch, ln, hN, hE, hV, hY, ⟨g1, g2⟩, hK, hP, hS, hA, hT, hF, hB, hC, hD, hD2, hX, hZ⟩ := h
  have hN0 := hN
  obtain ⟨hn, hn', h12, -⟩ := hN0
  unfold Agr
  rw [nH_near _ _ _ _ _ _ hn h12]
  by_cases a : sIn x n ∧ sIn y n
  · obtain ⟨i, hi, hi2, rfl⟩ := sIn_ex a.1
    obtain ⟨j, hj, hj2, rfl⟩ := sIn_ex a.2
    have hb := g2 i (by omega) j (by omega)
    have hb2 := g1 (12 * i + j)
    by_cases g : sIn (zI i) n ∧ sIn (zI j) n ∧ ¬ zI i = zI j ∧ ¬ bt (I 3 (zI i).toNatClampNeg) (zI j).toNatClampNeg = true
    · rw [if_pos g, nM_near _ _ _ _ _ _ (n := n) (by simp (decide := true) only [up2_ra, up2_rn, va_ap, ne_eq, if_false, if_true, not_false_eq_true]; exact hn') h12, if_pos]
      · rw [zI_cn hi2, zI_cn hj2]
        refine ⟨rfl, mo, G, _, _, rfl, n, m, t, p, q, r, ch, ln, ?_⟩
        simp (decide := true) only [up2_ra, up2_rn, va_ap, ne_eq, if_false, if_true, not_false_eq_true]
        refine ⟨hN, hE, hV, hY, ⟨fun k => ?_, fun a2 ha b2 hb2 => ?_⟩, ivK_s hK, hP, hS, hA, hT, hF, hB, hC, hD, hD2, hX, ivZ_s hZ⟩
        · rw [va_ap, va_ap]
          have := g1 k
          grind
        · have hh := g2 a2 ha b2 hb2
          have hij : ¬ i = j := fun e => g.2.2.1 (by rw [e])
          rw [va_ap, va_ap, va_ap, va_ap]
          have q1 : (12 * a2 + b2 = 12 * j + i) = (a2 = j ∧ b2 = i) := by apply propext; omega
          have q2 : (12 * a2 + b2 = 12 * i + j) = (a2 = i ∧ b2 = j) := by apply propext; omega
          simp only [q1, q2]
          have w1 := bt_or (I 3 j) (b1 i) b2
          have w2 := bt_or (I 3 i) (b1 j) b2
          rw [bt_b1' _ _ (by omega)] at w1 w2
          grind
      · simp (decide := true) only [up2_ra, up2_rn, va_ap, ne_eq, if_false, if_true, not_false_eq_true]
        rw [zI_cn hi2, zI_cn hj2] at g ⊢
        grind
    · rw [if_neg g, nM_near _ _ _ _ _ _ hn' h12, if_neg]
      · exact ⟨rfl, inv_t 0 h0⟩
      · rw [zI_cn hi2, zI_cn hj2] at g ⊢
        grind
  · rw [if_neg (fun g => a ⟨g.1, g.2.1⟩), nM_near _ _ _ _ _ _ hn' h12, if_neg (fun g => a ⟨g.1, g.2.1⟩)]
    exact ⟨rfl, inv_t 0 h0⟩
theorem op_article (h : inv c mo G I J) : Agr X 195 [some (.ref 0)] 291 [some (.ref 81)] (sM mo G I J) (Inv (c + 1)) := by
  have h0 := h
  obtain ⟨n, m, t, p, q, r, ch, ln, hN, hE, hV, hY, hG, hK, hP, hS, ⟨hr, hr', h8, a1, a2, a3, a4, a5, a6, a7⟩, hT, hF, hB, hC, hD, hD2, hX, hZ⟩ := h
  unfold Agr
  rw [nH_art _ _ _ _ _ _ hr h8]
  by_cases g : r < 8
  · rw [if_pos g, nM_art _ _ _ _ _ _ (r := r) (by simp (decide := true) only [up2_ra, up2_rn, va_ap, ne_eq, if_false, if_true, not_false_eq_true]; exact hr') h8, if_pos g]
    refine ⟨rfl, mo, G, _, _, rfl, n, m, t, p, q, r + 1, ch, ln, ?_⟩
    simp (decide := true) only [up2_ra, up2_rn, va_ap, ne_eq, if_false, if_true, not_false_eq_true]
    exact ⟨hN, hE, hV, hY, hG, ivK_s hK, hP, hS, ⟨rfl, rfl, by omega, a1, a2, a3, a4, a5, a6, fun a b hb => a7 a b (by omega)⟩, hT, hF, hB, hC, hD, hD2, hX, ivZ_s hZ⟩
  · rw [if_neg g, nM_art _ _ _ _ _ _ hr' h8, if_neg g]
    exact ⟨rfl, inv_t 0 h0⟩
theorem op_spy (h : inv c mo G I J) (x y z u : Int32) : Agr X 181 [some (.ref 0), some (.int x), some (.int y), some (.int z), some (.int u)] 250 [some (.ref 81), some (.int x), some (.int y), some (.int z), some (.int u)] (sM mo G I J) (Inv (c + 1)) := by
  have h0 := h
  obtain ⟨n, m, t, p, q, r, ch, ln, hN, hE, hV, hY, hG, hK, hP, ⟨hq, hq', h20, hS⟩, hA, hT, hF, hB, hC, hD, hD2, hX, hZ⟩ := h
  have hN0 := hN
  obtain ⟨hn, hn', h12, hm, hm', h6, -, -, ht, ht', -⟩ := hN0
  unfold Agr
  rw [nH_spy _ _ _ _ _ _ hm h6 ht hq h20]
  by_cases g : sIn x m ∧ sIn y m ∧ ¬ x = y ∧ ¬ z < zI t ∧ ¬ u < z ∧ ¬ 300 < u ∧ q < 20
  · rw [if_pos g, nM_spy _ _ _ _ _ _ (m := m) (t := t) (q := q) (by simp (decide := true) only [up2_ra, up2_rn, va_ap, ne_eq, if_false, if_true, not_false_eq_true]; exact hm') h6 (by simp (decide := true) only [up2_ra, up2_rn, va_ap, ne_eq, if_false, if_true, not_false_eq_true]; exact ht') (by simp (decide := true) only [up2_ra, up2_rn, va_ap, ne_eq, if_false, if_true, not_false_eq_true]; exact hq') h20, if_pos g]
    refine ⟨rfl, mo, G, _, _, rfl, n, m, t, p, q + 1, r, ch, ln, ?_⟩
    simp (decide := true) only [up2_ra, up2_rn, va_ap, ne_eq, if_false, if_true, not_false_eq_true]
    refine ⟨hN, hE, hV, hY, hG, ivK_s hK, hP, ⟨rfl, rfl, by omega, fun k hk => ?_⟩, hA, hT, hF, hB, hC, hD, hD2, hX, ivZ_s hZ⟩
    have := hS k hk
    simp only [va_ap]
    grind
  · rw [if_neg g, nM_spy _ _ _ _ _ _ hm' h6 ht' hq' h20, if_neg g]
    exact ⟨rfl, inv_t 0 h0⟩
theorem op_fault (h : inv c mo G I J) (x : Int32) : Agr X 170 [some (.ref 0), some (.int x)] 246 [some (.ref 81), some (.int x)] (sM mo G I J) (Inv (c + 1)) := by
  have h0 := h
  obtain ⟨n, m, t, p, q, r, ch, ln, hN, hE, hV, hY, hG, hK, hP, hS, hA, hT, ⟨f1, f2⟩, hB, hC, hD, hD2, hX, hZ⟩ := h
  unfold Agr
  have hi := inv_t 0 h0
  rw [ct_House_fault]
  simp only [ct_Model_fault, f1, f2]
  grind
end O2
