/-! Calls without loops. -/
section O1
variable (X : (Nat → Int32) × Nat) (mo : Bool) (G : Nat × Nat) (I : Nat → Nat → Int32) (J : Nat → Nat → Int64) (Q : Option Value → sm_M → Prop)
theorem nH_land {n : Nat} (hn : I 1 0 = zI n) (h12 : n ≤ 12) (x : Int32) : sm_wp X 171 0 [some (.ref 0), some (.int x)] [] (sM mo G I J) Q = if ¬ x < 1 ∧ ¬ 9999 < x ∧ n < 12 then Q (some (.int (zI n))) (sM mo G (up2 (up2 (up2 (up2 I 2 n x) 4 n (-1)) 1 0 (zI (n + 1))) 1 4 (I 1 4 + 1)) J) else Q (some (.int (-1))) (sM mo G I J) := by
  rw [ct_House_land, hn]
  simp (disch := first | omega | decide) only [zI_lt, zI_le, zI_eq, zI_cn, zI_vp, zI_add, zI_mul, zI_sub, zIl_add, zIr_add, zIl_mul, zIr_mul, zIr_sub, zIl_lt, zIr_lt, zIl_le, zIr_le, zIl_eq, zIr_eq, zI_sIn, zI_m1, zI_m1', Int32.add_zero, Int32.or_zero, Nat.add_sub_cancel]
  grind
theorem nM_land {n : Nat} (hn : I 81 3 = zI n) (h12 : n ≤ 12) (x : Int32) : sm_wp X 209 0 [some (.ref 81), some (.int x)] [] (sM mo G I J) Q = if ¬ x < 1 ∧ ¬ 9999 < x ∧ n < 12 then Q (some (.int (zI n))) (sM mo G (up2 (up2 (up2 (up2 (up2 (up2 I 81 2 0) 83 n x) 85 n (-1)) 86 n 0) 87 n 0) 81 3 (zI (n + 1))) J) else Q (some (.int (-1))) (sM mo G (up2 I 81 2 0) J) := by
  rw [ct_Model_land, hn]
  simp (disch := first | omega | decide) only [zI_lt, zI_le, zI_eq, zI_cn, zI_vp, zI_add, zI_mul, zI_sub, zIl_add, zIr_add, zIl_mul, zIr_mul, zIr_sub, zIl_lt, zIr_lt, zIl_le, zIr_le, zIl_eq, zIr_eq, zI_sIn, zI_m1, zI_m1', Int32.add_zero, Int32.or_zero, Nat.add_sub_cancel]
  grind
theorem nH_state {m : Nat} (hm : I 1 1 = zI m) (h6 : m ≤ 6) (x y : Int32) : sm_wp X 173 0 [some (.ref 0), some (.int x), some (.int y)] [] (sM mo G I J) Q = if ¬ x < 0 ∧ ¬ 99 < x ∧ ¬ y < 0 ∧ ¬ 9 < y ∧ m < 6 then Q (some (.int (zI m))) (sM mo G (up2 (up2 (up2 (up2 (up2 I 10 m x) 11 m y) 1 2 (I 1 2 ||| b1 m)) 1 1 (zI (m + 1))) 1 4 (I 1 4 + 1)) J) else Q (some (.int (-1))) (sM mo G I J) := by
  rw [ct_House_state, hm]
  simp (disch := first | omega | decide) only [zI_lt, zI_le, zI_eq, zI_cn, zI_vp, zI_add, zI_mul, zI_sub, zIl_add, zIr_add, zIl_mul, zIr_mul, zIr_sub, zIl_lt, zIr_lt, zIl_le, zIr_le, zIl_eq, zIr_eq, zI_sIn, zI_m1, zI_m1', Int32.add_zero, Int32.or_zero, Nat.add_sub_cancel]
  grind [b1]
theorem nM_state {m : Nat} (hm : I 81 10 = zI m) (h6 : m ≤ 6) (x y : Int32) : sm_wp X 213 0 [some (.ref 81), some (.int x), some (.int y)] [] (sM mo G I J) Q = if ¬ x < 0 ∧ ¬ 99 < x ∧ ¬ y < 0 ∧ ¬ 9 < y ∧ m < 6 then Q (some (.int (zI m))) (sM mo G (up2 (up2 (up2 (up2 (up2 I 81 2 0) 89 m x) 90 m y) 81 15 (I 81 15 ||| b1 m)) 81 10 (zI (m + 1))) J) else Q (some (.int (-1))) (sM mo G (up2 I 81 2 0) J) := by
  rw [ct_Model_state, hm]
  simp (disch := first | omega | decide) only [zI_lt, zI_le, zI_eq, zI_cn, zI_vp, zI_add, zI_mul, zI_sub, zIl_add, zIr_add, zIl_mul, zIr_mul, zIr_sub, zIl_lt, zIr_lt, zIl_le, zIr_le, zIl_eq, zIr_eq, zI_sIn, zI_m1, zI_m1', Int32.add_zero, Int32.or_zero, Nat.add_sub_cancel]
  grind [b1]
theorem nH_bound {m : Nat} (hm : I 1 1 = zI m) (h6 : m ≤ 6) (x y : Int32) : sm_wp X 177 0 [some (.ref 0), some (.int x), some (.int y)] [] (sM mo G I J) Q = if sIn x m ∧ ¬ y < 0 ∧ ¬ 999 < y then Q (some (.int 1)) (sM mo G (up2 (up2 I 12 x.toNatClampNeg y) 1 4 (I 1 4 + 1)) J) else Q (some (.int 0)) (sM mo G I J) := by
  rw [ct_House_bound]
  simp only [hState_vp hm h6]
  have : sIn x m → vp_in x 6 := sIn_vp (by omega) h6
  grind
theorem nM_bound {m : Nat} (hm : I 81 10 = zI m) (h6 : m ≤ 6) (x y : Int32) : sm_wp X 221 0 [some (.ref 81), some (.int x), some (.int y)] [] (sM mo G I J) Q = if sIn x m ∧ ¬ y < 0 ∧ ¬ 999 < y then Q (some (.int 1)) (sM mo G (up2 (up2 I 81 2 0) 92 x.toNatClampNeg y) J) else Q (some (.int 0)) (sM mo G (up2 I 81 2 0) J) := by
  rw [ct_Model_bound]
  simp only [mS0 hm h6]
  have : sIn x m → vp_in x 6 := sIn_vp (by omega) h6
  grind
end O1
section O2
variable {X : (Nat → Int32) × Nat} {c : Nat} {mo : Bool} {G : Nat × Nat} {I : Nat → Nat → Int32} {J : Nat → Nat → Int64}
theorem op_land (h : inv c mo G I J) (x : Int32) : Agr X 171 [some (.ref 0), some (.int x)] 209 [some (.ref 81), some (.int x)] (sM mo G I J) (Inv (c + 1)) := by
  have h0 := h
  obtain ⟨n, m, t, p, q, r, ch, ln, ⟨hn, hn', h12, hN⟩, ⟨e2, e4, e5, e6, e10, e11, e12, e13⟩, hV, hY, hG, hK, hP, hS, hA, hT, hF, hB, hC, hD, hD2, hX, hZ⟩ := h
  unfold Agr
  rw [nH_land _ _ _ _ _ _ hn h12]
  by_cases g : ¬ x < 1 ∧ ¬ 9999 < x ∧ n < 12
  · rw [if_pos g, nM_land _ _ _ _ _ _ (n := n) (by simp (decide := true) only [up2_ra, up2_rn, va_ap, ne_eq, if_false, if_true, not_false_eq_true]; exact hn') h12, if_pos g]
    refine ⟨rfl, mo, G, _, _, rfl, n + 1, m, t, p, q, r, ch + 1, ln, ?_⟩
    simp (decide := true) only [up2_ra, up2_rn, va_ap, ne_eq, if_false, if_true, not_false_eq_true]
    refine ⟨⟨rfl, rfl, by omega, hN⟩, ⟨by rw [e2], by rw [e4], ?_, ?_, e10, e11, e12, e13⟩, ?_, ?_, hG, ivK_u hK, ?_, hS, hA, hT, hF, hB, ivC_u hC, ivD_u hD, ivD_u hD2, hX, ivZ_s hZ⟩
    · funext j
      rw [va_ap, e5]
      split
      · rename_i hj; subst hj; exact (hV.2.2.2.1 _ (Nat.le_refl _)).symm
      · rfl
    · funext j
      rw [va_ap, e6]
      split
      · rename_i hj; subst hj; exact (hY.1 _ (Nat.le_refl _)).symm
      · rfl
    · obtain ⟨v1, v2, v3, v4, v5, v6⟩ := hV
      refine ⟨fun l hl => ?_, v2, v3, fun l hl => v4 l (by omega), fun j => ?_, v6⟩
      · rw [va_ap]
        split
        · exact Or.inl rfl
        · exact v1 l (by omega)
      · rw [va_ap]
        split
        · obtain ⟨k, hk, rfl⟩ := zI_of (x := x) (by intro hh; exact g.1 (by grind))
          exact ⟨k, by have := g.2.1; rw [zIl_lt (by omega) hk] at this; omega, rfl⟩
        · exact v5 j
    · exact ⟨fun l hl => hY.1 l (by omega), hY.2⟩
    · obtain ⟨p1, p2, p3, p4, p5, p6, p7⟩ := hP
      refine ⟨p1, p2, p3, p4, p5, p6, fun k hk => ?_⟩
      rcases p7 k hk with p7 | ⟨a1, a2, a3, a4, a5, a6, a7⟩
      · exact Or.inl p7
      · exact Or.inr ⟨a1, a2, a3, a4, fun j hj => a5 j (by omega), fun j hj => a6 j (by omega), a7⟩
  · rw [if_neg g, nM_land _ _ _ _ _ _ hn' h12, if_neg g]
    exact ⟨rfl, inv_t 0 h0⟩
theorem op_bound (h : inv c mo G I J) (x y : Int32) : Agr X 177 [some (.ref 0), some (.int x), some (.int y)] 221 [some (.ref 81), some (.int x), some (.int y)] (sM mo G I J) (Inv (c + 1)) := by
  have h0 := h
  obtain ⟨n, m, t, p, q, r, ch, ln, hN, ⟨e2, e4, e5, e6, e10, e11, e12, e13⟩, hV, hY, hG, hK, hP, hS, hA, hT, hF, hB, hC, hD, hD2, hX, hZ⟩ := h
  have hN0 := hN
  obtain ⟨hn, hn', h12, hm, hm', h6, -⟩ := hN0
  unfold Agr
  rw [nH_bound _ _ _ _ _ _ hm h6]
  by_cases g : sIn x m ∧ ¬ y < 0 ∧ ¬ 999 < y
  · rw [if_pos g, nM_bound _ _ _ _ _ _ (m := m) (by simp (decide := true) only [up2_ra, up2_rn, va_ap, ne_eq, if_false, if_true, not_false_eq_true]; exact hm') h6, if_pos g]
    refine ⟨rfl, mo, G, _, _, rfl, n, m, t, p, q, r, ch + 1, ln, ?_⟩
    simp (decide := true) only [up2_ra, up2_rn, va_ap, ne_eq, if_false, if_true, not_false_eq_true]
    refine ⟨hN, ⟨e2, e4, e5, e6, e10, e11, by rw [e12], e13⟩, ?_, hY, hG, ivK_u hK, hP, hS, hA, hT, hF, hB, ivC_u hC, ivD_u hD, ivD_u hD2, hX, ivZ_s hZ⟩
    obtain ⟨v1, v2, v3, v4, v5, v6, v7, v8, v9⟩ := hV
    refine ⟨v1, v2, v3, v4, v5, v6, v7, fun j => ?_, v9⟩
    rw [va_ap]
    split
    · obtain ⟨k, hk, rfl⟩ := zI_of (x := y) g.2.1
      exact ⟨k, by have := g.2.2; rw [zIl_lt (by omega) hk] at this; omega, rfl⟩
    · exact v8 j
  · rw [if_neg g, nM_bound _ _ _ _ _ _ hm' h6, if_neg g]
    exact ⟨rfl, inv_t 0 h0⟩
end O2
