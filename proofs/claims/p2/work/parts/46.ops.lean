/-! Lands that change hands: hold, way; claims; articles' words. -/
def gvC (I : Nat → Nat → Int32) (l w : Nat) (y z : Int32) : Nat → Nat → Int32 := up2 (up2 (up2 (up2 (up2 (up2 I 7 (l * 80 + w) y) 8 (l * 80 + w) (I 1 3)) 9 (l * 80 + w) z) 6 l (zI (w + 1))) 4 l y) 1 4 (I 1 4 + 1)
def gvM (I : Nat → Nat → Int32) (l w : Nat) (y z : Int32) : Nat → Nat → Int32 := up2 (up2 (up2 (up2 (up2 I 85 l y) 88 (300 * l + 3 * w) y) 88 (300 * l + 3 * w + 1) (I 81 16)) 88 (300 * l + 3 * w + 2) z) 87 l (zI (w + 1))
theorem nBound_le (p : Nat) (f : Nat → Int32) : nBound p f ≤ p := by
  unfold nBound
  exact up_ind (fun k a => a ≤ k) (Nat.le_refl _) (fun k _ x hx => by split <;> omega) p (Nat.le_refl _)
section O1
variable (X : (Nat → Int32) × Nat) (mo : Bool) (G : Nat × Nat) (I : Nat → Nat → Int32) (J : Nat → Nat → Int64) (Q : Option Value → sm_M → Prop)
theorem ct_give {n l w : Nat} (hn : I 1 0 = zI n) (h12 : n ≤ 12) (hl : l < n) (hw : I 6 l = zI w) (h80 : w < 80) (y z : Int32) : sm_wp X 97 0 [some (.ref 1), some (.int (zI l)), some (.int y), some (.int z), none, none] [] (sM mo G I J) Q = Q none (sM mo G (gvC I l w y z) J) := by
  rw [ct_Realm_giveLand]
  simp only [hLand_vp hn h12]
  simp (disch := first | omega | decide) only [zI_lt, zI_le, zI_eq, zI_cn, zI_vp, zI_add, zI_mul, zI_sub, zIl_add, zIr_add, zIl_mul, zIr_mul, zIr_sub, zIl_lt, zIr_lt, zIl_le, zIr_le, zIl_eq, zIr_eq, zI_sIn, zI_m1, zI_m1', Int32.add_zero, Int32.or_zero, hw]
  have a : ¬ 80 ≤ w := by omega
  have b : l * 80 + w < 960 := by omega
  have d : l < 12 := by omega
  simp only [a, b, d, hl, Nat.not_lt_zero, if_true, if_false, true_and]
  rfl
theorem ct_comes {l w : Nat} (hl : l < 12) (hw : I 87 l = zI w) (h80 : w < 100) (y z : Int32) : sm_wp X 217 0 [some (.ref 81), some (.int (zI l)), some (.int y), some (.int z), none] [] (sM mo G I J) Q = Q none (sM mo G (gvM I l w y z) J) := by
  rw [ct_Model_comesTo]
  simp (disch := first | omega | decide) only [zI_lt, zI_le, zI_eq, zI_cn, zI_vp, zI_add, zI_mul, zI_sub, zIl_add, zIr_add, zIl_mul, zIr_mul, zIr_sub, zIl_lt, zIr_lt, zIl_le, zIr_le, zIl_eq, zIr_eq, zI_sIn, zI_m1, zI_m1', Int32.add_zero, Int32.or_zero, hw]
  have a : 300 * l + 3 * w < 3600 := by omega
  have b : 300 * l + 3 * w + 1 < 3600 := by omega
  have d : 300 * l + 3 * w + 2 < 3600 := by omega
  simp only [a, b, d, hl, true_and]
  rfl
theorem nH_hold {n m l w : Nat} (hn : I 1 0 = zI n) (h12 : n ≤ 12) (hm : I 1 1 = zI m) (h6 : m ≤ 6) (hl : l < n) (hw : I 6 l = zI w) (h80 : w ≤ 80) (y : Int32) : sm_wp X 174 0 [some (.ref 0), some (.int (zI l)), some (.int y)] [] (sM mo G I J) Q = if (y = -1 ∨ (sIn y m ∧ bt (I 1 2) y.toNatClampNeg = true)) ∧ ¬ I 4 l = y ∧ w < 20 then Q (some (.int 1)) (sM mo G (gvC I l w y (-1)) J) else Q (some (.int 0)) (sM mo G I J) := by
  rw [ct_House_hold]
  simp only [aLand, hLand_vp hn h12, hPres_vp hm h6]
  have d : l < 12 := by omega
  simp (disch := first | omega | decide) only [zI_lt, zI_le, zI_eq, zI_cn, zI_vp, zI_add, zI_mul, zI_sub, zIl_add, zIr_add, zIl_mul, zIr_mul, zIr_sub, zIl_lt, zIr_lt, zIl_le, zIr_le, zIl_eq, zIr_eq, zI_sIn, zI_m1, zI_m1', Int32.add_zero, Int32.or_zero, hw, hl, d, if_true, not_true_eq_false, if_false, true_and]
  by_cases k : w < 20
  · have a : ¬ 80 ≤ w := by omega
    have b : l * 80 + w < 960 := by omega
    simp only [a, b, k, Nat.not_lt_zero, if_true, if_false, true_and, and_true]
    by_cases k1 : y = -1
    · subst k1
      simp only [if_true, true_or, true_and, gvC]
      grind
    · simp only [k1, if_false, false_or, gvC]
      grind
  · simp only [k, if_false, and_false, ite_self]
theorem nM_hold {n m l w : Nat} (hn : I 81 3 = zI n) (h12 : n ≤ 12) (hm : I 81 10 = zI m) (h6 : m ≤ 6) (hl : l < n) (hw : I 87 l = zI w) (h80 : w ≤ 80) (y : Int32) : sm_wp X 214 0 [some (.ref 81), some (.int (zI l)), some (.int y)] [] (sM mo G I J) Q = if (y = -1 ∨ (sIn y m ∧ bt (I 81 15) y.toNatClampNeg = true)) ∧ ¬ I 85 l = y ∧ w < 20 then Q (some (.int 1)) (sM mo G (gvM (up2 I 81 2 0) l w y (-1)) J) else Q (some (.int 0)) (sM mo G (up2 I 81 2 0) J) := by
  rw [ct_Model_hold]
  simp only [mL0 hn h12, mP0 hm h6]
  have a : 300 * l + 3 * w < 3600 := by omega
  have b : 300 * l + 3 * w + 1 < 3600 := by omega
  have d : 300 * l + 3 * w + 2 < 3600 := by omega
  have e : l < 12 := by omega
  simp (disch := first | omega | decide) only [zI_lt, zI_le, zI_eq, zI_cn, zI_vp, zI_add, zI_mul, zI_sub, zIl_add, zIr_add, zIl_mul, zIr_mul, zIr_sub, zIl_lt, zIr_lt, zIl_le, zIr_le, zIl_eq, zIr_eq, zI_sIn, zI_m1, zI_m1', Int32.add_zero, Int32.or_zero, hw, hl, a, b, d, e, if_true, not_true_eq_false, if_false, true_and]
  simp (decide := true) only [gvM, up2_ra, up2_rn, va_ap, ne_eq, if_false, if_true, not_false_eq_true]
  by_cases k1 : y = -1
  · subst k1
    simp only [if_true, true_or, true_and]
    grind
  · simp only [k1, if_false, false_or]
    grind
end O1
section O2
variable {X : (Nat → Int32) × Nat} {c : Nat} {mo : Bool} {G : Nat × Nat} {I : Nat → Nat → Int32} {J : Nat → Nat → Int64}
theorem op_hold (h : inv c mo G I J) (x y : Int32) : Agr X 174 [some (.ref 0), some (.int x), some (.int y)] 214 [some (.ref 81), some (.int x), some (.int y)] (sM mo G I J) (Inv (c + 1)) := by
  have h0 := h
  obtain ⟨n, m, t, p, q, r, ch, ln, hN, ⟨e2, e4, e5, e6, e10, e11, e12, e13⟩, hV, ⟨y1, y2, y3⟩, hG, hK, hP, hS, hA, hT, hF, hB, hC, hD, hD2, hX, hZ⟩ := h
  have hN0 := hN
  obtain ⟨hn, hn', h12, hm, hm', h6, hp, hpb, ht, ht', h300⟩ := hN0
  unfold Agr
  by_cases a : sIn x n
  · obtain ⟨i, hi, hi2, rfl⟩ := sIn_ex a
    obtain ⟨w, hw, hw2⟩ := y2 i
    have hb := nBound_le p (I 42)
    have hp60 := hP.2.2.1
    have e4i : I 85 i = I 4 i := by rw [e4]
    rw [nH_hold _ _ _ _ _ _ hn h12 hm h6 hi hw (by omega)]
    by_cases g : (y = -1 ∨ (sIn y m ∧ bt (I 1 2) y.toNatClampNeg = true)) ∧ ¬ I 4 i = y ∧ w < 20
    · rw [if_pos g, nM_hold _ _ _ _ _ _ (n := n) (m := m) (w := w) (by simp (decide := true) only [gvC, up2_ra, up2_rn, va_ap, ne_eq, if_false, if_true, not_false_eq_true]; exact hn') h12 (by simp (decide := true) only [gvC, up2_ra, up2_rn, va_ap, ne_eq, if_false, if_true, not_false_eq_true]; exact hm') h6 hi (by simp (decide := true) only [gvC, up2_ra, up2_rn, va_ap, ne_eq, if_false, if_true, not_false_eq_true]; rw [e6, hw]) (by omega), if_pos (by simp (decide := true) only [gvC, up2_ra, up2_rn, va_ap, ne_eq, if_false, if_true, not_false_eq_true]; rw [hp, e4]; exact g)]
      refine ⟨rfl, mo, G, _, _, rfl, n, m, t, p, q, r, ch + 1, ln, ?_⟩
      simp (decide := true) only [gvC, gvM, up2_ra, up2_rn, va_ap, ne_eq, if_false, if_true, not_false_eq_true]
      refine ⟨hN, ⟨e2, by rw [e4], e5, by rw [e6], e10, e11, e12, e13⟩, ?_, ?_, hG, ivK_u hK, hP, hS, hA, hT, hF, hB, ivC_u hC, ivD_u hD, ivD_u hD2, hX, ivZ_s hZ⟩
      · obtain ⟨v1, v2⟩ := hV
        refine ⟨fun l hl => ?_, v2⟩
        rw [va_ap]
        split
        · rcases g.1 with rfl | ⟨g1, -⟩
          · exact Or.inl rfl
          · obtain ⟨s, hs, -, rfl⟩ := sIn_ex g1
            exact Or.inr ⟨s, hs, rfl⟩
        · exact v1 l hl
      · refine ⟨fun l hl => ?_, fun l => ?_, fun l hl k hk => ?_⟩
        · rw [va_ap, if_neg (by omega)]
          exact y1 l hl
        · rw [va_ap]
          split
          · exact ⟨w + 1, rfl, by omega⟩
          · exact y2 l
        · have := y3 l hl k hk
          simp only [va_ap]
          have c1 : (80 * l + k = i * 80 + w) = (l = i ∧ k = w) := by apply propext; omega
          have c2 : (300 * l + 3 * k = 300 * i + 3 * w) = (l = i ∧ k = w) := by apply propext; omega
          have c3 : (300 * l + 3 * k = 300 * i + 3 * w + 1) = False := eq_false (by omega)
          have c4 : (300 * l + 3 * k = 300 * i + 3 * w + 2) = False := eq_false (by omega)
          have c5 : (300 * l + 3 * k + 1 = 300 * i + 3 * w) = False := eq_false (by omega)
          have c6 : (300 * l + 3 * k + 1 = 300 * i + 3 * w + 1) = (l = i ∧ k = w) := by apply propext; omega
          have c7 : (300 * l + 3 * k + 1 = 300 * i + 3 * w + 2) = False := eq_false (by omega)
          have c8 : (300 * l + 3 * k + 2 = 300 * i + 3 * w) = False := eq_false (by omega)
          have c9 : (300 * l + 3 * k + 2 = 300 * i + 3 * w + 1) = False := eq_false (by omega)
          have c0 : (300 * l + 3 * k + 2 = 300 * i + 3 * w + 2) = (l = i ∧ k = w) := by apply propext; omega
          simp only [c1, c2, c3, c4, c5, c6, c7, c8, c9, c0, if_false, ht, ht']
          grind
    · rw [if_neg g, nM_hold _ _ _ _ _ _ (n := n) (m := m) (w := w) hn' h12 hm' h6 hi (by rw [e6, hw]) (by omega), if_neg (by rw [hp, e4]; exact g)]
      exact ⟨rfl, inv_t 0 h0⟩
  · rw [ct_House_hold, if_pos (by rw [hLand_vp hn h12]; exact a), ct_Model_hold, if_pos (by rw [mL0 hn' h12]; exact a)]
    exact ⟨rfl, inv_t 0 h0⟩
theorem op_way (h : inv c mo G I J) (x y z : Int32) : Agr X 203 [some (.ref 0), some (.int x), some (.int y), some (.int z)] 307 [some (.ref 81), some (.int x), some (.int y), some (.int z)] (sM mo G I J) (Inv (c + 1)) := by
  have hv := inv_t 0 h
  obtain ⟨n, m, t, p, q, r, ch, ln, ⟨hn, hn', h12, -⟩, ⟨-, -, -, e6, -⟩, hV, ⟨y1, y2, y3⟩, hG, hK, hP, hS, hA, hT, hF, hB, hC, hD, hD2, hX, hZ⟩ := h
  unfold Agr
  rw [ct_House_way]
  simp only [ct_Model_way, hLand_vp hn h12, mL0 hn' h12, e6]
  by_cases a : sIn x n
  · obtain ⟨i, hi, hi2, rfl⟩ := sIn_ex a
    obtain ⟨w, hw, hw2⟩ := y2 i
    have hb := nBound_le p (I 42)
    have hp60 := hP.2.2.1
    have h12' : i < 12 := by omega
    by_cases y0 : y < 0
    · simp only [y0, if_true]
      grind
    · obtain ⟨k, hk, rfl⟩ := zI_of y0
      by_cases kw : k < w
      · have hy := y3 i h12' k (by omega)
        have z1 : (¬ z < 0 ∧ ¬ 2 < z) = (z = 0 ∨ z = 1 ∨ z = 2) := by
          apply propext
          constructor
          · intro g
            obtain ⟨s, hs, rfl⟩ := zI_in (c := 2) (by decide) g.1 g.2
            match s, hs with
            | 0, _ => exact Or.inl rfl
            | 1, _ => exact Or.inr (Or.inl rfl)
            | 2, _ => exact Or.inr (Or.inr rfl)
          · rintro (rfl | rfl | rfl) <;> decide
        have b0 : i * 80 + k = 80 * i + k := by omega
        have b1 : ¬ w ≤ k := by omega
        have b2 : k < 80 := by omega
        have b3 : 80 * i + k < 960 := by omega
        have b4 : 300 * i + 3 * k < 3600 := by omega
        have b5 : 300 * i + 3 * k + 1 < 3600 := by omega
        have b6 : 300 * i + 3 * k + 2 < 3600 := by omega
        simp (disch := first | omega | decide) only [zI_lt, zI_le, zI_eq, zI_cn, zI_vp, zI_add, zI_mul, zI_sub, zIl_add, zIr_add, zIl_mul, zIr_mul, zIr_sub, zIl_lt, zIr_lt, zIl_le, zIr_le, zIl_eq, zIr_eq, zI_sIn, zI_m1, zI_m1', Int32.add_zero, Int32.or_zero, hw, vf_Model_isIn, z1, b0, b1, b2, b3, hi, h12', if_true, if_false, true_and, not_true_eq_false, Nat.not_lt_zero]
        by_cases g : z = 0 ∨ z = 1 ∨ z = 2
        · rcases g with rfl | rfl | rfl
          · simp (decide := true) (disch := first | omega | decide) only [zI_lt, zI_le, zI_eq, zI_cn, zI_vp, zI_add, zI_mul, zI_sub, zIl_add, zIr_add, zIl_mul, zIr_mul, zIr_sub, zIl_lt, zIr_lt, zIl_le, zIr_le, zIl_eq, zIr_eq, zI_sIn, zI_m1, zI_m1', Int32.add_zero, Int32.or_zero, Nat.add_zero, b4, hy, hv, if_true, true_and, true_or, and_self]
          · simp (decide := true) (disch := first | omega | decide) only [zI_lt, zI_le, zI_eq, zI_cn, zI_vp, zI_add, zI_mul, zI_sub, zIl_add, zIr_add, zIl_mul, zIr_mul, zIr_sub, zIl_lt, zIr_lt, zIl_le, zIr_le, zIl_eq, zIr_eq, zI_sIn, zI_m1, zI_m1', Int32.add_zero, Int32.or_zero, b5, hy, hv, if_true, if_false, true_and, true_or, or_true, and_self]
          · simp (decide := true) (disch := first | omega | decide) only [zI_lt, zI_le, zI_eq, zI_cn, zI_vp, zI_add, zI_mul, zI_sub, zIl_add, zIr_add, zIl_mul, zIr_mul, zIr_sub, zIl_lt, zIr_lt, zIl_le, zIr_le, zIl_eq, zIr_eq, zI_sIn, zI_m1, zI_m1', Int32.add_zero, Int32.or_zero, b6, hy, hv, if_true, if_false, true_and, true_or, or_true, and_self]
        · grind
      · have b1 : w ≤ k := by omega
        simp (disch := first | omega | decide) only [zI_lt, zI_le, zI_eq, zI_cn, zI_vp, zI_add, zI_mul, zI_sub, zIl_add, zIr_add, zIl_mul, zIr_mul, zIr_sub, zIl_lt, zIr_lt, zIl_le, zIr_le, zIl_eq, zIr_eq, zI_sIn, zI_m1, zI_m1', Int32.add_zero, Int32.or_zero, hw, b1, hi, h12', if_true, if_false, true_and, not_true_eq_false, Nat.not_lt_zero]
        exact hv
  · rw [if_pos a, if_pos a]
    exact ⟨trivial, hv⟩
end O2
