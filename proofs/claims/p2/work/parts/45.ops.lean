/-! More calls: state, hold, and those that only read. -/
theorem zI_in {x : Int32} {c : Nat} (hc : c < 2147483648) (h1 : ¬ x < 0) (h2 : ¬ zI c < x) : ∃ k, k ≤ c ∧ x = zI k := by
  obtain ⟨k, hk, rfl⟩ := zI_of h1
  rw [zI_lt hc hk] at h2
  exact ⟨k, by omega, rfl⟩
section O2
variable {X : (Nat → Int32) × Nat} {c : Nat} {mo : Bool} {G : Nat × Nat} {I : Nat → Nat → Int32} {J : Nat → Nat → Int64}
theorem op_state (h : inv c mo G I J) (x y : Int32) : Agr X 173 [some (.ref 0), some (.int x), some (.int y)] 213 [some (.ref 81), some (.int x), some (.int y)] (sM mo G I J) (Inv (c + 1)) := by
  have h0 := h
  obtain ⟨n, m, t, p, q, r, ch, ln, ⟨hn, hn', h12, hm, hm', h6, hp, hpb, ht⟩, ⟨e2, e4, e5, e6, e10, e11, e12, e13⟩, hV, hY, hG, hK, hP, hS, hA, hT, hF, hB, hC, hD, hD2, hX, hZ⟩ := h
  unfold Agr
  rw [nH_state _ _ _ _ _ _ hm h6]
  by_cases g : ¬ x < 0 ∧ ¬ 99 < x ∧ ¬ y < 0 ∧ ¬ 9 < y ∧ m < 6
  · rw [if_pos g, nM_state _ _ _ _ _ _ (m := m) (by simp (decide := true) only [up2_ra, up2_rn, va_ap, ne_eq, if_false, if_true, not_false_eq_true]; exact hm') h6, if_pos g]
    refine ⟨rfl, mo, G, _, _, rfl, n, m + 1, t, p, q, r, ch + 1, ln, ?_⟩
    simp (decide := true) only [up2_ra, up2_rn, va_ap, ne_eq, if_false, if_true, not_false_eq_true]
    refine ⟨⟨hn, hn', h12, rfl, rfl, by omega, by rw [hp], fun k hk => ?_, ht⟩, ⟨e2, e4, e5, e6, by rw [e10], by rw [e11], e12, e13⟩, ?_, hY, hG, ivK_u hK, ?_, hS, hA, hT, hF, hB, ivC_u hC, ivD_u hD, ivD_u hD2, hX, ivZ_s hZ⟩
    · rw [bt_or, hpb k (by omega), bt_b1' _ _ (by omega), Bool.false_or]
      exact decide_eq_false (by omega)
    · obtain ⟨v1, v2, v3, v4, v5, v6, v7, v8, v9⟩ := hV
      refine ⟨fun l hl => ?_, fun l k hk => v2 l k (by omega), v3, v4, v5, fun j => ?_, fun j => ?_, v8, v9⟩
      · rcases v1 l hl with v | ⟨s, hs, v⟩
        · exact Or.inl v
        · exact Or.inr ⟨s, by omega, v⟩
      · rw [va_ap]
        split
        · exact zI_in (c := 99) (by decide) g.1 g.2.1
        · exact v6 j
      · rw [va_ap]
        split
        · exact zI_in (c := 9) (by decide) g.2.2.1 g.2.2.2.1
        · exact v7 j
    · obtain ⟨p1, p2, p3, p4, p5, p6, p7⟩ := hP
      refine ⟨p1, p2, p3, p4, p5, fun k hk => ?_, p7⟩
      obtain ⟨⟨s, a1, a2⟩, ⟨u, b1, b2⟩, d⟩ := p6 k hk
      exact ⟨⟨s, by omega, a2⟩, ⟨u, by omega, b2⟩, d⟩
  · rw [if_neg g, nM_state _ _ _ _ _ _ hm' h6, if_neg g]
    exact ⟨rfl, inv_t 0 h0⟩
theorem op_paper (h : inv c mo G I J) (e43 : I 118 = I 43) (x y : Int32) : Agr X 183 [some (.ref 0), some (.int x), some (.int y)] 268 [some (.ref 81), some (.int x), some (.int y)] (sM mo G I J) (Inv (c + 1)) := by
  have hv := inv_t 0 h
  obtain ⟨n, m, t, p, q, r, ch, ln, hN, hE, hV, hY, hG, hK, ⟨p1, p2, p3, ⟨f1, f2, f3, f4, f5, f6, f7, f8, f9, f10, f11⟩, p5, p6, p7⟩, hS, hA, hT, hF, hB, hC, hD, hD2, hX, hZ⟩ := h
  unfold Agr
  by_cases a : sIn x p
  · obtain ⟨i, hi, hi2, rfl⟩ := sIn_ex a
    have v60 : vp_in (zI i) 60 := sIn_vp (by omega) p3 a
    have hh := p7 i hi
    have hq : (I 42 i = -1 ∧ I 107 i = 1) ∨ (¬ I 42 i = -1 ∧ I 107 i = 0) := by
      rcases hh with hh | ⟨h1, ⟨f, hf, hf2⟩, -⟩
      · exact Or.inl ⟨hh.1, hh.2.1⟩
      · exact Or.inr ⟨by rw [hf2, zI_m1 (by omega)]; exact fun h => h, h1⟩
    have k2 : (¬ y < 0 ∧ ¬ 6 < y) → y = 0 ∨ y = 1 ∨ y = 2 ∨ y = 3 ∨ y = 4 ∨ y = 5 ∨ y = 6 := by
      intro hz
      obtain ⟨k, hk, rfl⟩ := zI_in (c := 6) (by decide) hz.1 hz.2
      have := (by decide : ∀ k : Fin 7, zI k.val = 0 ∨ zI k.val = 1 ∨ zI k.val = 2 ∨ zI k.val = 3 ∨ zI k.val = 4 ∨ zI k.val = 5 ∨ zI k.val = 6)
      exact this ⟨k, by omega⟩
    by_cases g : ¬ y < 0 ∧ ¬ 6 < y
    · rcases k2 g with rfl | rfl | rfl | rfl | rfl | rfl | rfl
      · rw [ct_House_paper]
        simp (decide := true) only [hPap_vp p1 p3, a, eq_true a, v60, if_true, if_false, true_and, ct_Model_paper, p2, vf_Model_isIn, zI_cn hi2]
        rcases hq with ⟨h1, h2⟩ | ⟨h1, h2⟩
        · simp (decide := true) only [h1, h2, if_true, if_false, hv, and_self]
        · simp (decide := true) only [h1, h2, if_true, if_false, hv, and_self]
      all_goals
        rw [ct_House_paper]
        simp (decide := true) only [hPap_vp p1 p3, a, eq_true a, v60, if_true, if_false, true_and, ct_Model_paper, p2, vf_Model_isIn, f1, f2, f3, f9, e43, f11, hv, and_self]
    · have n0 : ¬ y = 0 := fun e => g (by subst e; decide)
      have n1 : ¬ y = 1 := fun e => g (by subst e; decide)
      have n2 : ¬ y = 2 := fun e => g (by subst e; decide)
      have n3 : ¬ y = 3 := fun e => g (by subst e; decide)
      have n4 : ¬ y = 4 := fun e => g (by subst e; decide)
      have n5 : ¬ y = 5 := fun e => g (by subst e; decide)
      have n6 : ¬ y = 6 := fun e => g (by subst e; decide)
      rw [ct_House_paper]
      simp only [hPap_vp p1 p3, a, eq_true a, n0, n1, n2, n3, n4, n5, n6, if_true, if_false, ct_Model_paper, p2, vf_Model_isIn, g, not_true_eq_false, hv, and_self]
  · have : x < 0 ∨ zI p ≤ x := by
      rcases Classical.em (x < 0) with h | h
      · exact Or.inl h
      · rcases Classical.em (zI p ≤ x) with h2 | h2
        · exact Or.inr h2
        · exact absurd ⟨h, h2⟩ a
    rw [ct_House_paper]
    simp only [hPap_vp p1 p3, eq_false a, if_false, ct_Model_paper, p2]
    rcases this with e | e
    · simp only [e, if_true, hv, and_self]
    · simp only [e, if_true, hv, and_self]
      split <;> trivial
theorem op_paperW (h : inv c mo G I J) (x y : Int32) : AgW X 183 [some (.ref 0), some (.int x), some (.int y)] 268 [some (.ref 81), some (.int x), some (.int y)] (sM mo G I J) (Inv (c + 1)) := by
  have hv := inv_t 0 h
  obtain ⟨n, m, t, p, q, r, ch, ln, hN, hE, hV, hY, hG, hK, ⟨p1, p2, p3, ⟨f1, f2, f3, f4, f5, f6, f7, f8, f9, f10, f11⟩, p5, p6, p7⟩, hS, hA, hT, hF, hB, hC, hD, hD2, hX, hZ⟩ := h
  unfold AgW
  by_cases a : sIn x p
  · obtain ⟨i, hi, hi2, rfl⟩ := sIn_ex a
    have v60 : vp_in (zI i) 60 := sIn_vp (by omega) p3 a
    have hh := p7 i hi
    have hq : (I 42 i = -1 ∧ I 107 i = 1) ∨ (¬ I 42 i = -1 ∧ I 107 i = 0) := by
      rcases hh with hh | ⟨h1, ⟨f, hf, hf2⟩, -⟩
      · exact Or.inl ⟨hh.1, hh.2.1⟩
      · exact Or.inr ⟨by rw [hf2, zI_m1 (by omega)]; exact fun h => h, h1⟩
    have k2 : (¬ y < 0 ∧ ¬ 6 < y) → y = 0 ∨ y = 1 ∨ y = 2 ∨ y = 3 ∨ y = 4 ∨ y = 5 ∨ y = 6 := by
      intro hz
      obtain ⟨k, hk, rfl⟩ := zI_in (c := 6) (by decide) hz.1 hz.2
      have := (by decide : ∀ k : Fin 7, zI k.val = 0 ∨ zI k.val = 1 ∨ zI k.val = 2 ∨ zI k.val = 3 ∨ zI k.val = 4 ∨ zI k.val = 5 ∨ zI k.val = 6)
      exact this ⟨k, by omega⟩
    by_cases g : ¬ y < 0 ∧ ¬ 6 < y
    · rcases k2 g with rfl | rfl | rfl | rfl | rfl | rfl | rfl
      · rw [ct_House_paper]
        simp (decide := true) only [hPap_vp p1 p3, a, eq_true a, v60, if_true, if_false, true_and, ct_Model_paper, p2, vf_Model_isIn, zI_cn hi2]
        rcases hq with ⟨h1, h2⟩ | ⟨h1, h2⟩
        · simp (decide := true) only [h1, h2, if_true, if_false, hv, and_self]
        · simp (decide := true) only [h1, h2, if_true, if_false, hv, and_self]
      all_goals
        rw [ct_House_paper]
        simp (decide := true) only [hPap_vp p1 p3, a, eq_true a, v60, if_true, if_false, true_and, ct_Model_paper, p2, vf_Model_isIn, f1, f2, f3, f9, f10, f11, hv, and_self]
    · have n0 : ¬ y = 0 := fun e => g (by subst e; decide)
      have n1 : ¬ y = 1 := fun e => g (by subst e; decide)
      have n2 : ¬ y = 2 := fun e => g (by subst e; decide)
      have n3 : ¬ y = 3 := fun e => g (by subst e; decide)
      have n4 : ¬ y = 4 := fun e => g (by subst e; decide)
      have n5 : ¬ y = 5 := fun e => g (by subst e; decide)
      have n6 : ¬ y = 6 := fun e => g (by subst e; decide)
      rw [ct_House_paper]
      simp only [hPap_vp p1 p3, a, eq_true a, n0, n1, n2, n3, n4, n5, n6, if_true, if_false, ct_Model_paper, p2, vf_Model_isIn, g, not_true_eq_false, hv, and_self]
  · have : x < 0 ∨ zI p ≤ x := by
      rcases Classical.em (x < 0) with h | h
      · exact Or.inl h
      · rcases Classical.em (zI p ≤ x) with h2 | h2
        · exact Or.inr h2
        · exact absurd ⟨h, h2⟩ a
    rw [ct_House_paper]
    simp only [hPap_vp p1 p3, eq_false a, if_false, ct_Model_paper, p2]
    rcases this with e | e
    · simp only [e, if_true, hv, and_self]
    · simp only [e, if_true, hv, and_self]
      split <;> trivial
theorem kn_eq {p i j : Nat} (hp : I 31 0 = zI p) (h60 : p ≤ 60) (hi : i < p) (hj : j < 31) (f1 : I 108 = I 32) (f2 : I 109 = I 33) (f3 : I 110 = I 34) (f8 : I 116 = I 36) (hq : I 107 i = 1 ∨ (I 107 i = 0 ∧ I 36 i = 0)) : vf_Model_knownFrom (up2 I 81 2 0) (zI i) (zI j) = vf_Pap_knownDay I (zI i) (zI j) ∧ vc_Model_knownFrom (up2 I 81 2 0) (zI i) (zI j) := by
  have c60 : i < 60 := by omega
  unfold vf_Model_knownFrom vf_Pap_knownDay vc_Model_knownFrom
  simp (decide := true) only [up2_ra, up2_rn, va_ap, ne_eq, if_false, if_true, not_false_eq_true, f1, f2, f3, f8]
  simp (disch := first | omega | decide) only [zI_lt, zI_le, zI_eq, zI_cn, zI_vp, zI_add, zI_mul, zI_sub, zIl_add, zIr_add, zIl_mul, zIr_mul, zIr_sub, zIl_lt, zIr_lt, zIl_le, zIr_le, zIl_eq, zIr_eq, zI_sIn, zI_m1, zI_m1', Int32.add_zero, Int32.or_zero, hb_bt, sb_1, hPap_vp hp h60, hi, c60, if_true, true_and]
  have b0 := bt_0 j
  rcases hq with h | ⟨h, h2⟩
  · simp (decide := true) only [h, if_true, if_false]
    grind
  · simp (decide := true) only [h, h2, b0, if_true, if_false]
    grind
theorem ivP_q {p n m t : Nat} {a0 b0 : Int32} {r32 r33 r34 r35 r36 r37 r38 r39 r40 r41 r42 r43 r44 q107 q108 q109 q110 q111 q112 q113 q114 q115 q116 q117 q118 q119 : Nat → Int32} (h : ivP p n m t a0 b0 r32 r33 r34 r35 r36 r37 r38 r39 r40 r41 r42 r43 r44 q107 q108 q109 q110 q111 q112 q113 q114 q115 q116 q117 q118 q119) {i : Nat} (hi : i < p) : (r42 i = -1 ∧ q107 i = 1) ∨ (¬ r42 i = -1 ∧ q107 i = 0 ∧ r36 i = 0 ∧ r35 i = 0) := by
  rcases h.2.2.2.2.2.2 i hi with hh | ⟨h1, ⟨f, hf, hf2⟩, h3, h4, -⟩
  · exact Or.inl ⟨hh.1, hh.2.1⟩
  · exact Or.inr ⟨by rw [hf2, zI_m1 (by omega)]; exact fun h => h, h1, h4, h3⟩
theorem op_known (h : inv c mo G I J) (x y : Int32) : Agr X 186 [some (.ref 0), some (.int x), some (.int y), none] 271 [some (.ref 81), some (.int x), some (.int y), none] (sM mo G I J) (Inv (c + 1)) := by
  have hv := inv_t 0 h
  obtain ⟨n, m, t, p, q, r, ch, ln, ⟨hn, hn', h12, hm, hm', h6, hp, hpb, ht, ht', h300⟩, hE, hV, hY, hG, hK, hP, hS, hA, hT, hF, hB, hC, hD, hD2, hX, hZ⟩ := h
  have hP0 := hP
  obtain ⟨p1, p2, p3, ⟨f1, f2, f3, f4, f5, f6, f7, f8, f9, f10, f11⟩, p5, p6, p7⟩ := hP0
  unfold Agr
  rw [ct_House_known]
  simp only [hPap_vp p1 p3, hState_vp hm h6]
  by_cases a : sIn x p
  · obtain ⟨i, hi, hi2, rfl⟩ := sIn_ex a
    by_cases b : sIn y m
    · obtain ⟨j, hj, hj2, rfl⟩ := sIn_ex b
      have hq : I 107 i = 1 ∨ (I 107 i = 0 ∧ I 36 i = 0) := by
        rcases ivP_q hP hi with w | w
        · exact Or.inl w.2
        · exact Or.inr ⟨w.2.1, w.2.2.1⟩
      obtain ⟨k1, k2⟩ := kn_eq (j := j) p1 p3 hi (by omega) f1 f2 f3 f8 hq
      simp only [a, b, eq_true a, eq_true b, not_true_eq_false, if_true, if_false, ct_Model_known, mS0 hm' h6, p2, k1, eq_true k2, true_and, ht, ht']
      by_cases g : zI t < vf_Pap_knownDay I (zI i) (zI j)
      · have g2 : ¬ vf_Pap_knownDay I (zI i) (zI j) ≤ zI t := by grind
        simp only [g, g2, if_true, if_false, hv, and_self]
      · have g2 : vf_Pap_knownDay I (zI i) (zI j) ≤ zI t := by grind
        simp only [g, g2, if_true, if_false, hv, and_self]
    · simp only [a, eq_true a, eq_false b, not_true_eq_false, if_true, if_false, ct_Model_known, mS0 hm' h6, p2, hv, and_self]
  · have : x < 0 ∨ zI p ≤ x := by
      rcases Classical.em (x < 0) with h | h
      · exact Or.inl h
      · rcases Classical.em (zI p ≤ x) with h2 | h2
        · exact Or.inr h2
        · exact absurd ⟨h, h2⟩ a
    simp only [eq_false a, not_false_eq_true, if_true, ct_Model_known, p2]
    rcases this with e | e
    · simp only [e, if_true, hv, and_self]
    · simp only [e, if_true, hv, and_self]
      split <;> trivial
end O2
