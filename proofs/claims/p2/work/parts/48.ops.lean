/-! draft, hang, has, count. -/
theorem wd_in {z : Int32} (z0 : ¬ z = 0) : vf_Model_isIn z 0 99 = (¬ z < 1 ∧ ¬ 99 < z) := by
  unfold vf_Model_isIn
  apply propext
  constructor
  · rintro ⟨h1, h2⟩
    exact ⟨fun h => z0 (by grind), h2⟩
  · rintro ⟨h1, h2⟩
    exact ⟨fun h => h1 (by grind), h2⟩
section O1
variable (X : (Nat → Int32) × Nat) (mo : Bool) (G : Nat × Nat) (I : Nat → Nat → Int32) (J : Nat → Nat → Int64) (Q : Option Value → sm_M → Prop)
theorem nH_draft {r m i j w : Nat} (hr : I 71 0 = zI r) (h8 : r ≤ 8) (hm : I 1 1 = zI m) (h6 : m ≤ 6) (hi : i < r) (hj : j < m) (hb : bt (I 1 2) j = true) (hw : I 72 (6 * i + j) = zI w) (hw8 : w ≤ 8) (z : Int32) : sm_wp X 196 0 [some (.ref 0), some (.int (zI i)), some (.int (zI j)), some (.int z)] [] (sM mo G I J) Q = if z = 0 then Q (some (.int 0)) (sM mo G (up2 I 72 (6 * i + j) 0) J) else if (¬ z < 1 ∧ ¬ 99 < z) ∧ w < 8 then Q (some (.int (zI (w + 1)))) (sM mo G (up2 (up2 I 73 (8 * (6 * i + j) + w) z) 72 (6 * i + j) (zI (w + 1))) J) else Q (some (.int (-1))) (sM mo G I J) := by
  rw [ct_House_draft]
  simp only [hArt_vp hr h8, hPres_vp hm h6, hState_vp hm h6]
  have hat : i * 6 + j = 6 * i + j := by omega
  have h48 : 6 * i + j < 48 := by omega
  have c1 : (6 * i + j) * 8 + w = 8 * (6 * i + j) + w := by omega
  simp (disch := first | omega | decide) only [zI_lt, zI_le, zI_eq, zI_cn, zI_vp, zI_add, zI_mul, zI_sub, zIl_add, zIr_add, zIl_mul, zIr_mul, zIr_sub, zIl_lt, zIr_lt, zIl_le, zIr_le, zIl_eq, zIr_eq, zI_sIn, zI_m1, zI_m1', Int32.add_zero, Int32.or_zero, hat, hw, c1, hi, hj, hb, h48, if_true, not_true_eq_false, if_false, true_and, and_self, Nat.not_lt_zero]
  by_cases z0 : z = 0
  · simp only [z0, not_true_eq_false, if_true, if_false]
  · by_cases zw : ¬ z < 1 ∧ ¬ 99 < z
    · by_cases w8 : w < 8
      · have c2 : 8 * (6 * i + j) + w < 384 := by omega
        simp only [z0, eq_true zw, w8, c2, not_true_eq_false, not_false_eq_true, if_true, if_false, true_and]
      · simp only [z0, eq_true zw, w8, not_true_eq_false, not_false_eq_true, if_true, if_false, true_and]
    · simp only [z0, eq_false zw, not_false_eq_true, if_true, if_false, false_and]
theorem nM_draft {r m i j w : Nat} (hr : I 81 81 = zI r) (h8 : r ≤ 8) (hm : I 81 10 = zI m) (h6 : m ≤ 6) (hi : i < r) (hj : j < m) (hb : bt (I 81 15) j = true) (hw : I 135 (6 * i + j) = zI w) (hw8 : w ≤ 8) (z : Int32) : sm_wp X 292 0 [some (.ref 81), some (.int (zI i)), some (.int (zI j)), some (.int z), none] [] (sM mo G I J) Q = if z = 0 then Q (some (.int 0)) (sM mo G (up2 (up2 I 81 2 0) 135 (6 * i + j) 0) J) else if (¬ z < 1 ∧ ¬ 99 < z) ∧ w < 8 then Q (some (.int (zI (w + 1)))) (sM mo G (up2 (up2 (up2 I 81 2 0) 136 (8 * (6 * i + j) + w) z) 135 (6 * i + j) (zI (w + 1))) J) else Q (some (.int (-1))) (sM mo G (up2 I 81 2 0) J) := by
  rw [ct_Model_draft]
  simp only [mA0 hr h8, mP0 hm h6]
  have h48 : 6 * i + j < 48 := by omega
  simp (disch := first | omega | decide) only [zI_lt, zI_le, zI_eq, zI_cn, zI_vp, zI_add, zI_mul, zI_sub, zIl_add, zIr_add, zIl_mul, zIr_mul, zIr_sub, zIl_lt, zIr_lt, zIl_le, zIr_le, zIl_eq, zIr_eq, zI_sIn, zI_m1, zI_m1', Int32.add_zero, Int32.or_zero, hw, hi, hj, hb, h48, if_true, not_true_eq_false, if_false, true_and, and_self, Nat.not_lt_zero]
  by_cases z0 : z = 0
  · subst z0
    simp (decide := true) only [vf_Model_isIn, if_true, if_false]
  · simp only [wd_in z0]
    by_cases zw : ¬ z < 1 ∧ ¬ 99 < z
    · by_cases w8 : w < 8
      · have c2 : 8 * (6 * i + j) + w < 384 := by omega
        have c3 : ¬ w = 8 := by omega
        simp only [z0, eq_true zw, w8, c2, c3, not_false_eq_true, if_true, if_false, true_and, up2_ra, va_ap]
      · have c3 : w = 8 := by omega
        simp only [z0, eq_true zw, w8, c3, Nat.lt_irrefl, not_true_eq_false, not_false_eq_true, if_true, if_false, true_and, and_false]
    · simp only [z0, eq_false zw, not_false_eq_true, if_true, if_false, false_and]
end O1
section O2
variable {X : (Nat → Int32) × Nat} {c : Nat} {mo : Bool} {G : Nat × Nat} {I : Nat → Nat → Int32} {J : Nat → Nat → Int64}
theorem op_hang (h : inv c mo G I J) (x y z : Int32) (hz : z = 0 ∨ z = 1) : Agr X 197 [some (.ref 0), some (.int x), some (.int y), some (.int z)] 294 [some (.ref 81), some (.int x), some (.int y), some (.int z)] (sM mo G I J) (Inv (c + 1)) := by
  have hv := inv_t 0 h
  obtain ⟨n, m, t, p, q, r, ch, ln, hN, hE, hV, hY, hG, hK, hP, hS, ⟨hr, hr', h8, a1, a2, a3, a4, a5, a6, a7⟩, hT, hF, hB, hC, hD, hD2, hX, hZ⟩ := h
  unfold Agr
  rw [ct_House_hang]
  simp only [ct_Model_hang, hArt_vp hr h8, nar_z hz]
  by_cases a : sIn x r
  · obtain ⟨i, hi, hi2, rfl⟩ := sIn_ex a
    have d : i < 8 := by omega
    by_cases b : sIn y r
    · obtain ⟨j, hj, hj2, rfl⟩ := sIn_ex b
      have d2 : j < 8 := by omega
      have d3 : 8 * i + j < 64 := by omega
      have hh := a6 i d j d2
      have h01 := a5 (8 * i + j)
      have w2 : bi (bt (I 74 i) j = true) ≠ z → Inv (c + 1) (sM mo G (up2 (up2 (up2 I 74 i (I 74 i ^^^ b1 j)) 81 2 0) 137 (8 * i + j) z) J) := by
        intro hne
        refine ⟨mo, G, _, _, rfl, n, m, t, p, q, r, ch, ln, ?_⟩
        simp (decide := true) only [up2_ra, up2_rn, va_ap, ne_eq, if_false, if_true, not_false_eq_true]
        refine ⟨hN, hE, hV, hY, hG, ivK_s hK, hP, hS, ⟨hr, hr', h8, a1, a2, a3, a4, fun k => ?_, fun e he f hf => ?_, fun e f hf => ?_⟩, hT, hF, hB, hC, hD, hD2, hX, ivZ_s hZ⟩
        · rw [va_ap]
          split
          · exact hz
          · exact a5 k
        · rw [va_ap, va_ap]
          have q1 : (8 * e + f = 8 * i + j) = (e = i ∧ f = j) := by apply propext; omega
          simp only [q1]
          have w1 := bt_xor (I 74 i) (b1 j) f
          rw [bt_b1' _ _ (by omega)] at w1
          have w3 := a6 e he f hf
          unfold bi at hne
          grind
        · rw [va_ap]
          have w1 := bt_xor (I 74 i) (b1 j) f
          rw [bt_b1' _ _ (by omega), a7 i f hf] at w1
          have := a7 e f hf
          grind
      simp only [mA0 hr' h8, mArt_vp (I := up2 (up2 I 74 (zI i).toNatClampNeg (I 74 (zI i).toNatClampNeg ^^^ (1 : Int32) <<< (zI j &&& 31))) 81 2 0) (n := r) (by simp (decide := true) only [up2_ra, up2_rn, va_ap, ne_eq, if_false, if_true, not_false_eq_true]; exact hr') h8]
      simp (decide := true) only [up2_ra, up2_rn, va_ap, ne_eq, if_false, if_true, not_false_eq_true]
      simp (disch := first | omega | decide) only [zI_lt, zI_le, zI_eq, zI_cn, zI_vp, zI_add, zI_mul, zI_sub, zIl_add, zIr_add, zIl_mul, zIr_mul, zIr_sub, zIl_lt, zIr_lt, zIl_le, zIr_le, zIl_eq, zIr_eq, zI_sIn, zI_m1, zI_m1', Int32.add_zero, Int32.or_zero, hi, hj, d, d2, d3, if_true, not_true_eq_false, if_false, hb_bt, true_and]
      unfold b1 at w2
      unfold bi at *
      grind
    · simp only [mA0 hr' h8, eq_true a, eq_false b, not_true_eq_false, not_false_eq_true, if_true, if_false]
      exact ⟨trivial, hv⟩
  · simp only [mA0 hr' h8, a, not_false_eq_true, if_true]
    exact ⟨trivial, hv⟩
theorem op_draft (h : inv c mo G I J) (x y z : Int32) : Agr X 196 [some (.ref 0), some (.int x), some (.int y), some (.int z)] 292 [some (.ref 81), some (.int x), some (.int y), some (.int z), none] (sM mo G I J) (Inv (c + 1)) := by
  have hv := inv_t 0 h
  obtain ⟨n, m, t, p, q, r, ch, ln, hN, hE, hV, hY, hG, hK, hP, hS, ⟨hr, hr', h8, a1, a2, a3, a4, a5⟩, hT, hF, hB, hC, hD, hD2, hX, hZ⟩ := h
  have hN0 := hN
  obtain ⟨hn, hn', h12, hm, hm', h6, hp, -⟩ := hN0
  unfold Agr
  by_cases g : sIn x r ∧ sIn y m ∧ bt (I 1 2) y.toNatClampNeg = true
  · obtain ⟨i, hi, hi2, rfl⟩ := sIn_ex g.1
    obtain ⟨j, hj, hj2, rfl⟩ := sIn_ex g.2.1
    have hb := g.2.2
    rw [zI_cn hj2] at hb
    obtain ⟨w, hw8, hw⟩ := a4 (6 * i + j)
    rw [nH_draft _ _ _ _ _ _ hr h8 hm h6 hi hj hb hw hw8]
    by_cases z0 : z = 0
    · rw [if_pos z0, nM_draft _ _ _ _ _ _ (r := r) (m := m) (i := i) (j := j) (w := w) (by simp (decide := true) only [up2_ra, up2_rn, va_ap, ne_eq, if_false, if_true, not_false_eq_true]; exact hr') h8 (by simp (decide := true) only [up2_ra, up2_rn, va_ap, ne_eq, if_false, if_true, not_false_eq_true]; exact hm') h6 hi hj (by simp (decide := true) only [up2_ra, up2_rn, va_ap, ne_eq, if_false, if_true, not_false_eq_true]; rw [hp]; exact hb) (by simp (decide := true) only [up2_ra, up2_rn, va_ap, ne_eq, if_false, if_true, not_false_eq_true]; rw [a1]; exact hw) hw8, if_pos z0]
      refine ⟨rfl, mo, G, _, _, rfl, n, m, t, p, q, r, ch, ln, ?_⟩
      simp (decide := true) only [up2_ra, up2_rn, va_ap, ne_eq, if_false, if_true, not_false_eq_true]
      refine ⟨hN, hE, hV, hY, hG, ivK_s hK, hP, hS, ⟨hr, hr', h8, by rw [a1], a2, a3, fun k => ?_, a5⟩, hT, hF, hB, hC, hD, hD2, hX, ivZ_s hZ⟩
      rw [va_ap]
      split
      · exact ⟨0, by omega, rfl⟩
      · exact a4 k
    · by_cases zw : (¬ z < 1 ∧ ¬ 99 < z) ∧ w < 8
      · rw [if_neg z0, if_pos zw, nM_draft _ _ _ _ _ _ (r := r) (m := m) (i := i) (j := j) (w := w) (by simp (decide := true) only [up2_ra, up2_rn, va_ap, ne_eq, if_false, if_true, not_false_eq_true]; exact hr') h8 (by simp (decide := true) only [up2_ra, up2_rn, va_ap, ne_eq, if_false, if_true, not_false_eq_true]; exact hm') h6 hi hj (by simp (decide := true) only [up2_ra, up2_rn, va_ap, ne_eq, if_false, if_true, not_false_eq_true]; rw [hp]; exact hb) (by simp (decide := true) only [up2_ra, up2_rn, va_ap, ne_eq, if_false, if_true, not_false_eq_true]; rw [a1]; exact hw) hw8, if_neg z0, if_pos zw]
        refine ⟨rfl, mo, G, _, _, rfl, n, m, t, p, q, r, ch, ln, ?_⟩
        simp (decide := true) only [up2_ra, up2_rn, va_ap, ne_eq, if_false, if_true, not_false_eq_true]
        refine ⟨hN, hE, hV, hY, hG, ivK_s hK, hP, hS, ⟨hr, hr', h8, by rw [a1], by rw [a2], a3, fun k => ?_, a5⟩, hT, hF, hB, hC, hD, hD2, hX, ivZ_s hZ⟩
        rw [va_ap]
        split
        · exact ⟨w + 1, by omega, rfl⟩
        · exact a4 k
      · rw [if_neg z0, if_neg zw, nM_draft _ _ _ _ _ _ hr' h8 hm' h6 hi hj (by rw [hp]; exact hb) (by rw [a1]; exact hw) hw8, if_neg z0, if_neg zw]
        exact ⟨rfl, hv⟩
  · have e : sm_wp X 196 0 [some (.ref 0), some (.int x), some (.int y), some (.int z)] [] (sM mo G I J) (fun v M1 => sm_wp X 292 0 [some (.ref 81), some (.int x), some (.int y), some (.int z), none] [] M1 (fun w M2 => w = v ∧ Inv (c + 1) M2)) = sm_wp X 292 0 [some (.ref 81), some (.int x), some (.int y), some (.int z), none] [] (sM mo G I J) (fun w M2 => w = some (.int (-1)) ∧ Inv (c + 1) M2) := by
      rw [ct_House_draft]
      simp only [hArt_vp hr h8, hPres_vp hm h6]
      by_cases a : sIn x r
      · by_cases b : sIn y m ∧ bt (I 1 2) y.toNatClampNeg = true
        · exact absurd ⟨a, b⟩ g
        · simp only [eq_true a, eq_false b, not_true_eq_false, if_false]
      · simp only [eq_false a, not_false_eq_true, if_true]
    rw [e, ct_Model_draft]
    simp only [mA0 hr' h8, mP0 hm' h6, hp]
    by_cases a : sIn x r
    · by_cases b : sIn y m ∧ bt (I 1 2) y.toNatClampNeg = true
      · exact absurd ⟨a, b⟩ g
      · simp only [eq_true a, eq_false b, not_true_eq_false, not_false_eq_true, if_true, if_false, hv, and_self]
    · simp only [eq_false a, not_false_eq_true, if_true, hv, and_self]
end O2
