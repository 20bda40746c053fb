/-! Claims and articles. -/
theorem bt_nat {x : Int32} {m : Nat} (hm : m ≤ 31) (h : ∀ k, m ≤ k → bt x k = false) : ∃ k, k < 2 ^ m ∧ x = zI k := by
  refine ⟨(x.toBitVec.setWidth m).toNat, BitVec.isLt _, ?_⟩
  apply bt_ext
  intro i hi
  have e : bt (zI (x.toBitVec.setWidth m).toNat) i = (decide (i < 32) && (x.toBitVec.setWidth m).toNat.testBit i) := by
    unfold bt zI
    exact BitVec.getLsbD_ofNat _ _ _
  rw [e, BitVec.testBit_toNat, BitVec.getLsbD_setWidth]
  by_cases g : i < m
  · simp [hi, g, bt]
  · rw [h i (by omega)]
    simp [g]
theorem bc_64 : ∀ k : Fin 64, vf_Integer_bitCount (zI k.val) = zI (pc6 (zI k.val)) ∧ popc (zI k.val) = zI (pc6 (zI k.val)) ∧ pc6 (zI k.val) ≤ 6 := by decide +kernel
theorem bx_64 : ∀ (k : Fin 64) (j : Fin 6), (bt (zI k.val) j.val = true → pc6 (zI k.val ^^^ b1 j.val) ≤ pc6 (zI k.val)) ∧ pc6 (zI k.val ^^^ b1 j.val) ≤ pc6 (zI k.val) + 1 := by decide +kernel
theorem bc_6 {x : Int32} (h : ∀ k, 6 ≤ k → bt x k = false) : vf_Integer_bitCount x = zI (pc6 x) ∧ popc x = zI (pc6 x) ∧ pc6 x ≤ 6 := by
  obtain ⟨k, hk, rfl⟩ := bt_nat (by decide) h
  exact bc_64 ⟨k, hk⟩
theorem bx_6 {x : Int32} (h : ∀ k, 6 ≤ k → bt x k = false) {j : Nat} (hj : j < 6) : (bt x j = true → pc6 (x ^^^ b1 j) ≤ pc6 x) ∧ pc6 (x ^^^ b1 j) ≤ pc6 x + 1 := by
  obtain ⟨k, hk, rfl⟩ := bt_nat (by decide) h
  exact bx_64 ⟨k, hk⟩ ⟨j, hj⟩
theorem nar_z {z : Int32} (h : z = 0 ∨ z = 1) : vp_nar .boolean z = z := by
  rcases h with rfl | rfl <;> decide
section O1
variable (X : (Nat → Int32) × Nat) (mo : Bool) (G : Nat × Nat) (I : Nat → Nat → Int32) (J : Nat → Nat → Int64) (Q : Option Value → sm_M → Prop)
theorem nH_claim {n m i j : Nat} (hn : I 1 0 = zI n) (h12 : n ≤ 12) (hm : I 1 1 = zI m) (h6 : m ≤ 6) (hi : i < n) (hj : j < m) (hb : ∀ k, 6 ≤ k → bt (I 5 i) k = false) (z : Int32) (hz : z = 0 ∨ z = 1) : sm_wp X 175 0 [some (.ref 0), some (.int (zI i)), some (.int (zI j)), some (.int z), none] [] (sM mo G I J) Q = if bi (bt (I 5 i) j = true) = z ∨ (z = 1 ∧ ¬ pc6 (I 5 i) < 3) then Q (some (.int 0)) (sM mo G I J) else Q (some (.int 1)) (sM mo G (up2 (up2 I 5 i (I 5 i ^^^ b1 j)) 1 4 (I 1 4 + 1)) J) := by
  rw [ct_House_claim]
  obtain ⟨b1', b2, b3⟩ := bc_6 hb
  simp only [aLand, hLand_vp hn h12, hState_vp hm h6]
  simp (disch := first | omega | decide) only [zI_lt, zI_le, zI_eq, zI_cn, zI_vp, zI_add, zI_mul, zI_sub, zIl_add, zIr_add, zIl_mul, zIr_mul, zIr_sub, zIl_lt, zIr_lt, zIl_le, zIr_le, zIl_eq, zIr_eq, zI_sIn, zI_m1, zI_m1', Int32.add_zero, Int32.or_zero, hi, hj, if_true, not_true_eq_false, if_false, hb_bt, b1']
  have d : i < 12 := by omega
  simp only [d, true_and]
  rcases hz with rfl | rfl <;> simp (decide := true) only [if_true, if_false, b1] <;> grind
theorem nM_claim {n m i j : Nat} (hn : I 81 3 = zI n) (h12 : n ≤ 12) (hm : I 81 10 = zI m) (h6 : m ≤ 6) (hi : i < n) (hj : j < m) (hb : ∀ k, 6 ≤ k → bt (I 86 i) k = false) (h3 : pc6 (I 86 i) ≤ 3) (z : Int32) (hz : z = 0 ∨ z = 1) : sm_wp X 218 0 [some (.ref 81), some (.int (zI i)), some (.int (zI j)), some (.int z)] [] (sM mo G I J) Q = if bi (bt (I 86 i) j = true) = z ∨ (z = 1 ∧ ¬ pc6 (I 86 i) < 3) then Q (some (.int 0)) (sM mo G (up2 I 81 2 0) J) else Q (some (.int 1)) (sM mo G (up2 (up2 I 81 2 0) 86 i (I 86 i ^^^ b1 j)) J) := by
  rw [lp_218_0]
  obtain ⟨b1', b2, b3⟩ := bc_6 hb
  simp only [mL0 hn h12, mS0 hm h6, ct_Mbits, tl_some, lp_218_57]
  simp (disch := first | omega | decide) only [zI_lt, zI_le, zI_eq, zI_cn, zI_vp, zI_add, zI_mul, zI_sub, zIl_add, zIr_add, zIl_mul, zIr_mul, zIr_sub, zIl_lt, zIr_lt, zIl_le, zIr_le, zIl_eq, zIr_eq, zI_sIn, zI_m1, zI_m1', Int32.add_zero, Int32.or_zero, hi, hj, if_true, not_true_eq_false, if_false, sb_1, b2]
  have d : i < 12 := by omega
  simp (decide := true) only [up2_ra, up2_rn, va_ap, ne_eq, if_false, if_true, not_false_eq_true]
  simp only [d, true_and]
  rcases hz with rfl | rfl <;> simp (decide := true) only [if_true, if_false, b1] <;> unfold bi <;> grind
end O1
section O2
variable {X : (Nat → Int32) × Nat} {c : Nat} {mo : Bool} {G : Nat × Nat} {I : Nat → Nat → Int32} {J : Nat → Nat → Int64}
theorem op_claim (h : inv c mo G I J) (x y z : Int32) (hz : z = 0 ∨ z = 1) : Agr X 175 [some (.ref 0), some (.int x), some (.int y), some (.int z), none] 218 [some (.ref 81), some (.int x), some (.int y), some (.int z)] (sM mo G I J) (Inv (c + 1)) := by
  have hv := inv_t 0 h
  obtain ⟨n, m, t, p, q, r, ch, ln, hN, ⟨e2, e4, e5, e6, e10, e11, e12, e13⟩, hV, hY, hG, hK, hP, hS, hA, hT, hF, hB, hC, hD, hD2, hX, hZ⟩ := h
  have hN0 := hN
  obtain ⟨hn, hn', h12, hm, hm', h6, -⟩ := hN0
  obtain ⟨v1, v2, v3, v4, v5⟩ := hV
  unfold Agr
  by_cases a : sIn x n
  · obtain ⟨i, hi, hi2, rfl⟩ := sIn_ex a
    by_cases b : sIn y m
    · obtain ⟨j, hj, hj2, rfl⟩ := sIn_ex b
      have hb : ∀ k, 6 ≤ k → bt (I 5 i) k = false := fun k hk => v2 i k (by omega)
      rw [nH_claim _ _ _ _ _ _ hn h12 hm h6 hi hj hb z hz]
      by_cases g : bi (bt (I 5 i) j = true) = z ∨ (z = 1 ∧ ¬ pc6 (I 5 i) < 3)
      · rw [if_pos g, nM_claim _ _ _ _ _ _ hn' h12 hm' h6 hi hj (by rw [e5]; exact hb) (by rw [e5]; exact v3 i) z hz, if_pos (by rw [e5]; exact g)]
        exact ⟨rfl, hv⟩
      · rw [if_neg g, nM_claim _ _ _ _ _ _ (n := n) (m := m) (by simp (decide := true) only [up2_ra, up2_rn, va_ap, ne_eq, if_false, if_true, not_false_eq_true]; exact hn') h12 (by simp (decide := true) only [up2_ra, up2_rn, va_ap, ne_eq, if_false, if_true, not_false_eq_true]; exact hm') h6 hi hj (by simp (decide := true) only [up2_ra, up2_rn, va_ap, ne_eq, if_false, if_true, not_false_eq_true]; rw [e5]; exact hb) (by simp (decide := true) only [up2_ra, up2_rn, va_ap, ne_eq, if_false, if_true, not_false_eq_true]; rw [e5]; exact v3 i) z hz, if_neg (by simp (decide := true) only [up2_ra, up2_rn, va_ap, ne_eq, if_false, if_true, not_false_eq_true]; rw [e5]; exact g)]
        refine ⟨rfl, mo, G, _, _, rfl, n, m, t, p, q, r, ch + 1, ln, ?_⟩
        simp (decide := true) only [up2_ra, up2_rn, va_ap, ne_eq, if_false, if_true, not_false_eq_true]
        refine ⟨hN, ⟨e2, e4, by rw [e5], e6, e10, e11, e12, e13⟩, ⟨v1, fun l k hk => ?_, fun l => ?_, fun l hl => ?_, v5⟩, hY, hG, ivK_u hK, hP, hS, hA, hT, hF, hB, ivC_u hC, ivD_u hD, ivD_u hD2, hX, ivZ_s hZ⟩
        · rw [va_ap]
          split
          · rw [bt_xor, v2 i k hk, bt_b1' _ _ (by omega), Bool.false_xor]
            exact decide_eq_false (by omega)
          · exact v2 l k hk
        · rw [va_ap]
          split
          · obtain ⟨w1, w2⟩ := bx_6 hb (j := j) (by omega)
            have := v3 i
            cases hbt : bt (I 5 i) j with
            | true =>
              have := w1 hbt
              omega
            | false =>
              have z1 : z = 1 := by
                rcases hz with rfl | rfl
                · exact absurd (Or.inl (bi_f (by rw [hbt]; decide))) g
                · rfl
              have : pc6 (I 5 i) < 3 := by
                apply Classical.byContradiction
                intro hh
                exact g (Or.inr ⟨z1, hh⟩)
              omega
          · exact v3 l
        · rw [va_ap, if_neg (by omega)]
          exact v4 l hl
    · rw [ct_House_claim, lp_218_0]
      simp only [hLand_vp hn h12, hState_vp hm h6, mL0 hn' h12, mS0 hm' h6, eq_true a, eq_false b, not_true_eq_false, not_false_eq_true, if_true, if_false]
      exact ⟨trivial, hv⟩
  · rw [ct_House_claim, lp_218_0]
    simp only [hLand_vp hn h12, mL0 hn' h12, eq_false a, not_false_eq_true, if_true]
    exact ⟨trivial, hv⟩
theorem op_reserve (h : inv c mo G I J) (x y z : Int32) (hz : z = 0 ∨ z = 1) : Agr X 198 [some (.ref 0), some (.int x), some (.int y), some (.int z)] 295 [some (.ref 81), some (.int x), some (.int y), some (.int z)] (sM mo G I J) (Inv (c + 1)) := by
  have hv := inv_t 0 h
  obtain ⟨n, m, t, p, q, r, ch, ln, hN, hE, hV, hY, hG, hK, hP, hS, ⟨hr, hr', h8, a1, a2, a3, a4⟩, hT, hF, hB, hC, hD, hD2, hX, hZ⟩ := h
  have hN0 := hN
  obtain ⟨hn, hn', h12, hm, hm', h6, hp, -⟩ := hN0
  unfold Agr
  have w : ∀ i j : Nat, i < 8 → Inv (c + 1) (sM mo G (up2 (up2 (up2 I 75 i (I 75 i ^^^ b1 j)) 81 2 0) 138 i (I 75 i ^^^ b1 j)) J) := by
    intro i j hi
    refine ⟨mo, G, _, _, rfl, n, m, t, p, q, r, ch, ln, ?_⟩
    simp (decide := true) only [up2_ra, up2_rn, va_ap, ne_eq, if_false, if_true, not_false_eq_true]
    exact ⟨hN, hE, hV, hY, hG, ivK_s hK, hP, hS, ⟨hr, hr', h8, a1, a2, by rw [a3], a4⟩, hT, hF, hB, hC, hD, hD2, hX, ivZ_s hZ⟩
  rw [ct_House_reserve]
  simp only [ct_Model_reserve, hArt_vp hr h8, hPres_vp hm h6]
  by_cases a : sIn x r
  · obtain ⟨i, hi, hi2, rfl⟩ := sIn_ex a
    have d : i < 8 := by omega
    by_cases b : sIn y m
    · obtain ⟨j, hj, hj2, rfl⟩ := sIn_ex b
      have w2 := w i j d
      simp only [mA0 hr' h8, mP0 hm' h6, mArt_vp (I := up2 (up2 I 75 (zI i).toNatClampNeg (I 75 (zI i).toNatClampNeg ^^^ (1 : Int32) <<< (zI j &&& 31))) 81 2 0) (n := r) (by simp (decide := true) only [up2_ra, up2_rn, va_ap, ne_eq, if_false, if_true, not_false_eq_true]; exact hr') h8, mPres_vp (I := up2 (up2 I 75 (zI i).toNatClampNeg (I 75 (zI i).toNatClampNeg ^^^ (1 : Int32) <<< (zI j &&& 31))) 81 2 0) (n := m) (by simp (decide := true) only [up2_ra, up2_rn, va_ap, ne_eq, if_false, if_true, not_false_eq_true]; exact hm') h6]
      simp (decide := true) only [up2_ra, up2_rn, va_ap, ne_eq, if_false, if_true, not_false_eq_true, hp, a3]
      simp (disch := first | omega | decide) only [zI_lt, zI_le, zI_eq, zI_cn, zI_vp, zI_add, zI_mul, zI_sub, zIl_add, zIr_add, zIl_mul, zIr_mul, zIr_sub, zIl_lt, zIr_lt, zIl_le, zIr_le, zIl_eq, zIr_eq, zI_sIn, zI_m1, zI_m1', Int32.add_zero, Int32.or_zero, hi, hj, d, if_true, not_true_eq_false, if_false, hb_bt, sb_1, true_and]
      unfold b1 at w2
      rcases hz with rfl | rfl <;> simp (decide := true) only [if_true, if_false, bi] <;> grind
    · simp only [mA0 hr' h8, mP0 hm' h6, eq_true a, eq_false b, not_true_eq_false, not_false_eq_true, if_true, if_false, false_and]
      exact ⟨trivial, hv⟩
  · simp only [mA0 hr' h8, a, not_false_eq_true, if_true]
    exact ⟨trivial, hv⟩
end O2
