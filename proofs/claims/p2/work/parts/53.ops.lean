/-! offer. -/
def ofC (I : Nat → Nat → Int32) (p : Nat) (x y g t d l rt : Int32) : Nat → Nat → Int32 := up2 (up2 (up2 (up2 (up2 (up2 (adC I p x y) 37 p g) 38 p t) 39 p d) 40 p l) 41 p rt) 42 p 0
def ofM (I : Nat → Nat → Int32) (p : Nat) (x y g t d l : Int32) : Nat → Nat → Int32 := up2 (up2 (up2 (up2 (up2 (up2 (up2 (up2 (up2 (up2 (up2 (up2 (up2 I 81 2 0) 107 p 0) 108 p x) 109 p y) 110 p (I 81 16)) 111 p g) 112 p t) 113 p d) 114 p l) 117 p 0) 118 p (-1)) 119 p (-1)) 81 46 (zI (p + 1))
def ofT (n m t p : Nat) (pr : Int32) (r42 : Nat → Int32) (x y g k d l : Int32) : Prop := (sIn x m ∧ bt pr x.toNatClampNeg = true) ∧ (sIn y m ∧ bt pr y.toNatClampNeg = true) ∧ ¬ x = y ∧ (¬ g ||| k = 0 ∧ g &&& k = 0 ∧ (g ||| k) &&& ((((1 : Int32) <<< (zI n &&& 31)) - 1) ^^^ (-1)) = 0) ∧ ¬ d < zI t ∧ ¬ 300 < d ∧ p < 60 ∧ (l = -1 ∨ (sIn l p ∧ ¬ r42 l.toNatClampNeg = -1))
section O1
variable (X : (Nat → Int32) × Nat) (mo : Bool) (G : Nat × Nat) (I : Nat → Nat → Int32) (J : Nat → Nat → Int64) (Q : Option Value → sm_M → Prop)
theorem nH_offer1 {n m t p : Nat} (hn : I 1 0 = zI n) (hm : I 1 1 = zI m) (h6 : m ≤ 6) (hp : I 31 0 = zI p) (h60 : p ≤ 60) (ht : I 1 3 = zI t) (x y g k d l : Int32) (hT : ofT n m t p (I 1 2) (I 42) x y g k d l) : sm_wp X 178 0 [some (.ref 0), some (.int x), some (.int y), some (.int g), some (.int k), some (.int d), some (.int l), none, none] [] (sM mo G I J) Q = Q (some (.int (zI p))) (sM mo G (ofC I p x y g k d l (if l = -1 then zI p else I 41 l.toNatClampNeg)) J) := by
  obtain ⟨a, b, xy, ⟨g1, g2, g3⟩, d1, d2, p6, hl⟩ := hT
  have p7 : ¬ 60 ≤ p := by omega
  rw [lp_178_0]
  simp only [hPres_vp hm h6, hPap_vp hp h60, hn, ht, hp]
  simp (disch := first | omega | decide) only [zI_lt, zI_le, zI_eq, zI_cn, zI_vp, zI_add, zI_mul, zI_sub, zIl_add, zIr_add, zIl_mul, zIr_mul, zIr_sub, zIl_lt, zIr_lt, zIl_le, zIr_le, zIl_eq, zIr_eq, zI_sIn, zI_m1, zI_m1', Int32.add_zero, Int32.or_zero, eq_true a, eq_true b, xy, g1, g2, g3, d1, d2, p7, not_true_eq_false, not_false_eq_true, if_true, if_false]
  have e67 : ∀ Q : Option Value → sm_M → Prop, sm_wp X 67 0 [some (.ref 31), some (.int x), some (.int y), some (.int (zI t))] [] (sM mo G I J) Q = Q (some (.int (zI p))) (sM mo G (adC I p x y) J) := by
    intro Q
    rw [ct_Pap_addPaper]
    simp (disch := first | omega | decide) only [hp, zI_lt, zI_le, zI_eq, zI_cn, zI_vp, zI_add, zI_mul, zI_sub, zIl_add, zIr_add, zIl_mul, zIr_mul, zIr_sub, zIl_lt, zIr_lt, zIl_le, zIr_le, zIl_eq, zIr_eq, zI_sIn, zI_m1, zI_m1', Int32.add_zero, Int32.or_zero, p6, p7, not_false_eq_true, if_true, true_and, Nat.add_sub_cancel]
    unfold adC
    rw [ht]
  have e31 : adC I p x y 31 0 = zI (p + 1) := by simp (decide := true) only [adC, up2_ra, up2_rn, va_ap, ne_eq, if_false, if_true, not_false_eq_true]
  have e68 : ∀ Q : Option Value → sm_M → Prop, sm_wp X 68 0 [some (.ref 31), some (.int (zI p)), some (.int g), some (.int k), some (.int d), some (.int l)] [] (sM mo G (adC I p x y) J) Q = Q none (sM mo G (ofC I p x y g k d l (if l = -1 then zI p else I 41 l.toNatClampNeg)) J) := by
    intro Q
    rw [ct_Pap_makeOffer]
    simp only [hPap_vp e31 (show p + 1 ≤ 60 by omega), zI_cn (show p < 2147483648 by omega)]
    rw [if_neg (by rw [zI_sIn (by omega) (by omega)]; omega)]
    simp only [hPap_vp (I := up2 (up2 (up2 (up2 (adC I p x y) 37 p g) 38 p k) 39 p d) 40 p l) (n := p + 1) (by simp (decide := true) only [adC, up2_ra, up2_rn, va_ap, ne_eq, if_false, if_true, not_false_eq_true]) (show p + 1 ≤ 60 by omega), zI_vp (show p < 2147483648 by omega), p6, true_and]
    rcases hl with rfl | ⟨l1, l2⟩
    · rw [if_pos (fun h => h.1 (by decide)), if_pos rfl]
      rfl
    · obtain ⟨e, he, he2, rfl⟩ := sIn_ex l1
      rw [if_neg (by rw [zI_sIn (by omega) (by omega)]; omega), if_neg (by rw [zI_m1 he2]; exact fun h => h)]
      have c1 : e < 60 := by omega
      have c2 : ¬ e = p := by omega
      simp (decide := true) only [zI_vp he2, zI_cn he2, c1, true_and, adC, ofC, up2_ra, up2_rn, va_ap, ne_eq, if_false, if_true, not_false_eq_true, c2]
  have fin : ∀ Q : Option Value → sm_M → Prop, sm_wp X 67 0 [some (.ref 31), some (.int x), some (.int y), some (.int (zI t))] [] (sM mo G I J) (fun v M => sm_wp X 178 132 [some (.ref 0), some (.int x), some (.int y), some (.int g), some (.int k), some (.int d), some (.int l), some (.int (g ||| k)), none] (v.toList ++ []) M Q) = Q (some (.int (zI p))) (sM mo G (ofC I p x y g k d l (if l = -1 then zI p else I 41 l.toNatClampNeg)) J) := by
    intro Q
    rw [e67]
    simp only [tl_some]
    rw [lp_178_132, e68]
    simp only [tl_none]
    rw [lp_178_150]
  simp only [fin]
  rcases hl with rfl | ⟨l1, l2⟩
  · simp only [if_true]
  · have l3 : ¬ l = -1 := by
      obtain ⟨e, he, he2, rfl⟩ := sIn_ex l1
      rw [zI_m1 he2]
      exact fun h => h
    simp only [l3, eq_true l1, l2, if_false, if_true, not_false_eq_true, and_self]
theorem nH_offer0 {n m t p : Nat} (hn : I 1 0 = zI n) (hm : I 1 1 = zI m) (h6 : m ≤ 6) (hp : I 31 0 = zI p) (h60 : p ≤ 60) (ht : I 1 3 = zI t) (x y g k d l : Int32) (hT : ¬ ofT n m t p (I 1 2) (I 42) x y g k d l) : sm_wp X 178 0 [some (.ref 0), some (.int x), some (.int y), some (.int g), some (.int k), some (.int d), some (.int l), none, none] [] (sM mo G I J) Q = Q (some (.int (-1))) (sM mo G I J) := by
  unfold ofT at hT
  rw [lp_178_0]
  simp only [hPres_vp hm h6, hPap_vp hp h60, hn, ht, hp]
  simp only [show ((60 : Int32) ≤ zI p) = (60 ≤ p) from zIl_le (by decide) (by omega)]
  by_cases a : sIn x m ∧ bt (I 1 2) x.toNatClampNeg = true
  · by_cases b : sIn y m ∧ bt (I 1 2) y.toNatClampNeg = true
    · simp only [eq_true a, eq_true b, true_and, not_true_eq_false, if_false] at hT ⊢
      by_cases e1 : x = y
      · simp only [e1, not_true_eq_false, not_false_eq_true, if_true, if_false]
      · by_cases e2 : g ||| k = 0
        · simp only [e1, e2, not_true_eq_false, not_false_eq_true, if_true, if_false]
        · by_cases e3 : g &&& k = 0
          · by_cases e4 : (g ||| k) &&& ((((1 : Int32) <<< (zI n &&& 31)) - 1) ^^^ (-1)) = 0
            · by_cases e5 : d < zI t
              · simp only [e1, e2, e3, e4, e5, not_true_eq_false, not_false_eq_true, if_true, if_false]
              · by_cases e6 : 300 < d
                · simp only [e1, e2, e3, e4, e5, e6, not_true_eq_false, not_false_eq_true, if_true, if_false]
                · by_cases e7 : 60 ≤ p
                  · simp only [e1, e2, e3, e4, e5, e6, e7, not_true_eq_false, not_false_eq_true, if_true, if_false]
                  · by_cases e8 : l = -1
                    · exact absurd ⟨e1, ⟨e2, e3, e4⟩, e5, e6, by omega, Or.inl e8⟩ hT
                    · by_cases e9 : sIn l p ∧ ¬ I 42 l.toNatClampNeg = -1
                      · exact absurd ⟨e1, ⟨e2, e3, e4⟩, e5, e6, by omega, Or.inr e9⟩ hT
                      · simp only [e1, e2, e3, e4, e5, e6, e7, e8, eq_false e9, not_true_eq_false, not_false_eq_true, if_true, if_false]
            · simp only [e1, e2, e3, e4, not_true_eq_false, not_false_eq_true, if_true, if_false]
          · simp only [e1, e2, e3, not_true_eq_false, not_false_eq_true, if_true, if_false]
    · simp only [eq_true a, eq_false b, not_true_eq_false, not_false_eq_true, if_false, if_true]
  · simp only [eq_false a, not_false_eq_true, if_true]
theorem mP1 {I : Nat → Nat → Int32} {n : Nat} (h : I 81 10 = zI n) (hn : n ≤ 6) (x : Int32) : (bi (vf_Model_isPresent (up2 I 81 2 0) x) = 0) = ¬ (sIn x n ∧ bt (I 81 15) x.toNatClampNeg = true) := by rw [bi_eq, mP0 h hn]
theorem nM_offer1 {n m t p : Nat} (hn : I 81 3 = zI n) (h12 : n ≤ 12) (hm : I 81 10 = zI m) (h6 : m ≤ 6) (hp : I 81 46 = zI p) (h60 : p ≤ 60) (ht : I 81 16 = zI t) (x y g k d l : Int32) (f : Nat → Int32) (hf : ∀ j, j < p → (I 107 j = 0 ↔ ¬ f j = -1)) (hT : ofT n m t p (I 81 15) f x y g k d l) : sm_wp X 247 0 [some (.ref 81), some (.int x), some (.int y), some (.int g), some (.int k), some (.int d), some (.int l)] [] (sM mo G I J) Q = Q (some (.int (zI p))) (sM mo G (ofM I p x y g k d l) J) := by
  obtain ⟨a, b, xy, gg, d1, d2, p6, hl⟩ := hT
  obtain ⟨g1, g2, g3, g4, g5, g6⟩ := (of_eq h12 g k).mp gg
  have p7 : ¬ p = 60 := by omega
  have e111 : sm_wp X 247 111 [some (.ref 81), some (.int x), some (.int y), some (.int g), some (.int k), some (.int d), some (.int l)] [] (sM mo G (up2 I 81 2 0) J) Q = Q (some (.int (zI p))) (sM mo G (ofM I p x y g k d l) J) := by
    rw [bk_247_111]
    simp (decide := true) only [up2_ne, up2_sn, ne_eq, not_false_eq_true, hp, nar_0, up2_ss]
    simp (disch := first | omega | decide) only [zI_lt, zI_le, zI_eq, zI_cn, zI_vp, zI_add, zI_mul, zI_sub, zIl_add, zIr_add, zIl_mul, zIr_mul, zIr_sub, zIl_lt, zIr_lt, zIl_le, zIr_le, zIl_eq, zIr_eq, zI_sIn, zI_m1, zI_m1', Int32.add_zero, Int32.or_zero, p6, true_and, Nat.add_sub_cancel]
    rfl
  rw [bk_247_0]
  simp (decide := true) only [up2_ra, up2_rn, va_ap, ne_eq, if_false, if_true, not_false_eq_true, hp, ct_Model_isPresent, tl_some, bk_247_19, bk_247_27, ct_Model_isIn, bk_247_91, ct_Model_isOffer, bk_247_106, mP1 hm h6, hn, ht, e111]
  simp (disch := first | omega | decide) only [zI_lt, zI_le, zI_eq, zI_cn, zI_vp, zI_add, zI_mul, zI_sub, zIl_add, zIr_add, zIl_mul, zIr_mul, zIr_sub, zIl_lt, zIr_lt, zIl_le, zIr_le, zIl_eq, zIr_eq, zI_sIn, zI_m1, zI_m1', Int32.add_zero, Int32.or_zero, p7, eq_true a, eq_true b, xy, g1, g2, g3, g4, g5, g6, bi_eq, bi_ne, vf_Model_isIn, d1, d2, not_true_eq_false, not_false_eq_true, if_true, if_false, and_self]
  rcases hl with rfl | ⟨l1, l2⟩
  · simp only [if_true]
  · obtain ⟨e, he, he2, rfl⟩ := sIn_ex l1
    rw [zI_cn he2] at l2
    have c1 : e < 60 := by omega
    have c2 := (hf e he).mpr l2
    have c3 : ¬ p ≤ e := by omega
    simp (decide := true) only [vc_Model_isOffer, vf_Model_isOffer, up2_ra, up2_rn, va_ap, ne_eq, if_false, if_true, not_false_eq_true, hp]
    simp (disch := first | omega | decide) only [zI_lt, zI_le, zI_eq, zI_cn, zI_vp, zI_add, zI_mul, zI_sub, zIl_add, zIr_add, zIl_mul, zIr_mul, zIr_sub, zIl_lt, zIr_lt, zIl_le, zIr_le, zIl_eq, zIr_eq, zI_sIn, zI_m1, zI_m1', Int32.add_zero, Int32.or_zero, c1, c2, c3, Nat.not_lt_zero, not_false_eq_true, not_true_eq_false, if_true, if_false, and_self, true_and, implies_true]
theorem nM_offer0 {n m t p : Nat} (hn : I 81 3 = zI n) (h12 : n ≤ 12) (hm : I 81 10 = zI m) (h6 : m ≤ 6) (hp : I 81 46 = zI p) (h60 : p ≤ 60) (ht : I 81 16 = zI t) (x y g k d l : Int32) (f : Nat → Int32) (hf : ∀ j, j < p → (I 107 j = 0 ↔ ¬ f j = -1)) (hT : ¬ ofT n m t p (I 81 15) f x y g k d l) : sm_wp X 247 0 [some (.ref 81), some (.int x), some (.int y), some (.int g), some (.int k), some (.int d), some (.int l)] [] (sM mo G I J) Q = Q (some (.int (-1))) (sM mo G (up2 I 81 2 0) J) := by
  unfold ofT at hT
  rw [of_eq h12 g k] at hT
  rw [bk_247_0]
  simp (decide := true) only [up2_ra, up2_rn, va_ap, ne_eq, if_false, if_true, not_false_eq_true, hp, ct_Model_isPresent, tl_some, bk_247_19, bk_247_27, ct_Model_isIn, bk_247_91, ct_Model_isOffer, bk_247_106, bk_247_109, mP1 hm h6, hn, ht, bi_eq, bi_ne, true_and]
  simp only [show (zI p = (60 : Int32)) = (p = 60) from zIr_eq (by decide) (by omega)]
  by_cases p6 : p = 60
  · simp only [p6, if_true]
  · have p7 : p < 60 := by omega
    by_cases a : sIn x m ∧ bt (I 81 15) x.toNatClampNeg = true
    · by_cases b : sIn y m ∧ bt (I 81 15) y.toNatClampNeg = true
      · simp only [eq_true a, eq_true b, p6, p7, true_and, not_true_eq_false, if_false] at hT ⊢
        by_cases e1 : x = y
        · simp only [e1, if_true]
        · by_cases e2 : ¬ g < 0 ∧ ¬ (1 : Int32) <<< (zI n &&& 31) ≤ g ∧ ¬ k < 0 ∧ ¬ (1 : Int32) <<< (zI n &&& 31) ≤ k ∧ ¬ g + k = 0 ∧ g &&& k = 0
          · by_cases e3 : ¬ d < zI t ∧ ¬ 300 < d
            · have e4 : ¬ l = -1 := fun e => hT ⟨e1, e2, e3.1, e3.2, Or.inl e⟩
              have e5 : ¬ (sIn l p ∧ ¬ f l.toNatClampNeg = -1) := fun e => hT ⟨e1, e2, e3.1, e3.2, Or.inr e⟩
              obtain ⟨q1, q2, q3, q4, q5, q6⟩ := e2
              simp only [e1, q1, q2, q3, q4, q5, q6, vf_Model_isIn, e3, e4, not_true_eq_false, not_false_eq_true, if_true, if_false, and_self, vc_Model_isOffer, vf_Model_isOffer]
              simp (decide := true) only [up2_ra, up2_rn, va_ap, ne_eq, if_false, if_true, not_false_eq_true, hp]
              by_cases l1 : sIn l p
              · obtain ⟨e, he, he2, rfl⟩ := sIn_ex l1
                have c1 : e < 60 := by omega
                have c3 : ¬ p ≤ e := by omega
                have c4 : ¬ I 107 e = 0 := by
                  intro h0
                  have := (hf e he).mp h0
                  rw [zI_cn he2] at e5
                  exact e5 ⟨l1, this⟩
                simp (disch := first | omega | decide) only [zI_lt, zI_le, zI_eq, zI_cn, zI_vp, zI_add, zI_mul, zI_sub, zIl_add, zIr_add, zIl_mul, zIr_mul, zIr_sub, zIl_lt, zIr_lt, zIl_le, zIr_le, zIl_eq, zIr_eq, zI_sIn, zI_m1, zI_m1', Int32.add_zero, Int32.or_zero, c1, c3, c4, Nat.not_lt_zero, not_false_eq_true, not_true_eq_false, if_true, if_false, and_self, and_false, true_and, implies_true]
              · have l2 : l < 0 ∨ zI p ≤ l := by
                  rcases Classical.em (l < 0) with h | h
                  · exact Or.inl h
                  · rcases Classical.em (zI p ≤ l) with h2 | h2
                    · exact Or.inr h2
                    · exact absurd ⟨h, h2⟩ l1
                rcases l2 with l2 | l2
                · simp only [l2, not_true_eq_false, false_implies, true_and, false_and, if_false, not_false_eq_true, if_true]
                · simp only [l2, not_true_eq_false, false_implies, implies_true, true_and, false_and, and_false, if_false, not_false_eq_true, if_true]
            · obtain ⟨q1, q2, q3, q4, q5, q6⟩ := e2
              have e4 : ¬ vf_Model_isIn d (zI t) 300 := e3
              simp only [e1, q1, q2, q3, q4, q5, q6, eq_false e4, not_true_eq_false, not_false_eq_true, if_true, if_false]
          · by_cases q1 : g < 0
            · simp only [e1, q1, not_true_eq_false, not_false_eq_true, if_true, if_false]
            · by_cases q2 : (1 : Int32) <<< (zI n &&& 31) ≤ g
              · simp only [e1, q1, q2, not_true_eq_false, not_false_eq_true, if_true, if_false]
              · by_cases q3 : k < 0
                · simp only [e1, q1, q2, q3, not_true_eq_false, not_false_eq_true, if_true, if_false]
                · by_cases q4 : (1 : Int32) <<< (zI n &&& 31) ≤ k
                  · simp only [e1, q1, q2, q3, q4, not_true_eq_false, not_false_eq_true, if_true, if_false]
                  · by_cases q5 : g + k = 0
                    · simp only [e1, q1, q2, q3, q4, q5, not_true_eq_false, not_false_eq_true, if_true, if_false]
                    · by_cases q6 : g &&& k = 0
                      · exact absurd ⟨q1, q2, q3, q4, q5, q6⟩ e2
                      · simp only [e1, q1, q2, q3, q4, q5, q6, not_true_eq_false, not_false_eq_true, if_true, if_false]
      · simp only [eq_true a, eq_false b, p6, not_true_eq_false, not_false_eq_true, if_false, if_true]
    · simp only [eq_false a, p6, not_false_eq_true, if_true, if_false]
end O1
section O2
variable {X : (Nat → Int32) × Nat} {c : Nat} {mo : Bool} {G : Nat × Nat} {I : Nat → Nat → Int32} {J : Nat → Nat → Int64}
theorem op_offer (h : inv c mo G I J) (x y g k d l : Int32) : Agr X 178 [some (.ref 0), some (.int x), some (.int y), some (.int g), some (.int k), some (.int d), some (.int l), none, none] 247 [some (.ref 81), some (.int x), some (.int y), some (.int g), some (.int k), some (.int d), some (.int l)] (sM mo G I J) (Inv (c + 1)) := by
  have hv := inv_t 0 h
  obtain ⟨n, m, t, p, q, r, ch, ln, ⟨hn, hn', h12, hm, hm', h6, hp, hpb, ht, ht', h300⟩, hE, hV, hY, hG, hK, hP, hS, hA, hT, hF, hB, hC, hD, hD2, hX, hZ⟩ := h
  have hP0 := hP
  obtain ⟨p1, p2, p3, ⟨f1, f2, f3, f4, f5, f6, f7, f8, f9, f10, f11⟩, p5, p6, p7⟩ := hP0
  have hf : ∀ j, j < p → (I 107 j = 0 ↔ ¬ I 42 j = -1) := by
    intro j hj
    rcases ivP_q hP hj with ⟨a, b⟩ | ⟨a, b, -⟩
    · rw [a, b]; decide
    · rw [b]; simp [a]
  unfold Agr
  by_cases g0 : ofT n m t p (I 1 2) (I 42) x y g k d l
  · rw [nH_offer1 _ _ _ _ _ _ hn hm h6 p1 p3 ht x y g k d l g0, nM_offer1 _ _ _ _ _ _ (n := n) (m := m) (t := t) (p := p) (by simp (decide := true) only [ofC, adC, up2_ra, up2_rn, va_ap, ne_eq, if_false, if_true, not_false_eq_true]; exact hn') h12 (by simp (decide := true) only [ofC, adC, up2_ra, up2_rn, va_ap, ne_eq, if_false, if_true, not_false_eq_true]; exact hm') h6 (by simp (decide := true) only [ofC, adC, up2_ra, up2_rn, va_ap, ne_eq, if_false, if_true, not_false_eq_true]; exact p2) p3 (by simp (decide := true) only [ofC, adC, up2_ra, up2_rn, va_ap, ne_eq, if_false, if_true, not_false_eq_true]; exact ht') x y g k d l (I 42) (by simp (decide := true) only [ofC, adC, up2_ra, up2_rn, va_ap, ne_eq, if_false, if_true, not_false_eq_true]; exact hf) (by simp (decide := true) only [ofC, adC, up2_ra, up2_rn, va_ap, ne_eq, if_false, if_true, not_false_eq_true]; rw [hp]; exact g0)]
    obtain ⟨⟨ax, -⟩, ⟨ay, -⟩, xy, gg, d1, d2, p60, hl⟩ := g0
    obtain ⟨g1, g2, g3⟩ := gg
    have gb := (of_m h12 _).mp g3
    obtain ⟨sx, hsx, -, rfl⟩ := sIn_ex ax
    obtain ⟨sy, hsy, -, rfl⟩ := sIn_ex ay
    have hrt : ∃ rt, (if l = -1 then zI p else I 41 l.toNatClampNeg) = rt ∧ ((l = -1 ∧ rt = zI p) ∨ ∃ j, j < p ∧ l = zI j ∧ ¬ I 42 j = -1 ∧ rt = I 41 j) ∧ ∃ j, j ≤ p ∧ rt = zI j := by
      rcases hl with rfl | ⟨l1, l2⟩
      · exact ⟨zI p, if_pos rfl, Or.inl ⟨rfl, rfl⟩, p, Nat.le_refl _, rfl⟩
      · obtain ⟨e, he, he2, rfl⟩ := sIn_ex l1
        rw [zI_cn he2] at l2 ⊢
        rw [if_neg (by rw [zI_m1 he2]; exact fun h => h)]
        refine ⟨I 41 e, rfl, Or.inr ⟨e, he, rfl, l2, rfl⟩, ?_⟩
        rcases p7 e he with a | ⟨-, -, -, -, -, -, -, -, -, -, j, hj, ej⟩
        · exact absurd a.1 l2
        · exact ⟨j, by omega, ej⟩
    obtain ⟨rt, ert, hr1, hr2⟩ := hrt
    rw [ert]
    have d3 : ∃ e, e ≤ 300 ∧ d = zI e := by
      have d0 : ¬ d < 0 := by
        intro hh
        apply d1
        have := zIl_le (c := 0) (a := t) (by decide) (by omega)
        have : (0 : Int32) ≤ zI t := by rw [this]; exact Nat.zero_le _
        grind
      exact zI_in (c := 300) (by decide) d0 d2
    refine ⟨rfl, mo, G, _, _, rfl, n, m, t, p + 1, q, r, ch, ln, ?_⟩
    simp (decide := true) only [ofC, adC, ofM, up2_ra, up2_rn, va_ap, ne_eq, if_false, if_true, not_false_eq_true]
    refine ⟨⟨hn, hn', h12, hm, hm', h6, hp, hpb, ht, ht', h300⟩, hE, hV, ?_, hG, ivK_s hK, ⟨rfl, rfl, by omega, ⟨by rw [f1], by rw [f2], by rw [f3, ht, ht'], by rw [f4], by rw [f5], by rw [f6], f7, f8, ?_, trivial, by rw [f11]⟩, fun k hk => ?_, fun k hk => ?_, fun j hj => ?_⟩, hS, hA, hT, hF, hB, hC, hD, hD2, hX, ivZ_s hZ⟩
    · obtain ⟨y1, y2, y3⟩ := hY
      have e : va_up (va_up (I 42) p (-1)) p 0 = va_up (I 42) p 0 := by
        funext j
        simp only [va_ap]
        split <;> rfl
      rw [e]
      exact ⟨y1, fun l => by rw [nBound_s (by decide)]; exact y2 l, y3⟩
    · rw [f9]
      funext j
      simp only [va_ap]
      split <;> rfl
    · have e : ¬ k = p := by omega
      simp only [va_ap, e, if_false]
      exact p5 k (by omega)
    · by_cases e : k = p
      · simp only [va_ap, e, if_true]
        exact ⟨⟨sx, hsx, rfl⟩, ⟨sy, hsy, rfl⟩, t, Nat.le_refl _, ht⟩
      · simp only [va_ap, e, if_false]
        exact p6 k (by omega)
    · by_cases e : j = p
      · have z5 := p5 p (Nat.le_refl _)
        subst e
        simp only [va_ap, if_true]
        refine Or.inr ⟨trivial, ⟨0, by decide, rfl⟩, z5.2.1, z5.2.2, fun i hi => ?_, fun i hi => ?_, g2, d3, trivial, ?_, hr2⟩
        · have := gb i hi
          rw [bt_or] at this
          exact (Bool.or_eq_false_iff.mp this).1
        · have := gb i hi
          rw [bt_or] at this
          exact (Bool.or_eq_false_iff.mp this).2
        · rcases hr1 with a | ⟨i, i1, i2, i3, i4⟩
          · exact Or.inl a
          · have e2 : ¬ i = j := by omega
            exact Or.inr ⟨i, i1, i2, by simp only [e2, if_false]; exact i3, by simp only [e2, if_false]; exact i4⟩
      · simp only [va_ap, e, if_false]
        rcases p7 j (by omega) with a | ⟨a1, a2, a3, a4, a5, a6, a7, a8, a9, a10, a11⟩
        · exact Or.inl a
        · refine Or.inr ⟨a1, a2, a3, a4, a5, a6, a7, a8, a9, ?_, a11⟩
          rcases a10 with b | ⟨i, j1, j2, j3, j4⟩
          · exact Or.inl b
          · have e2 : ¬ i = p := by omega
            exact Or.inr ⟨i, j1, j2, by simp only [e2, if_false]; exact j3, by simp only [e2, if_false]; exact j4⟩
  · rw [nH_offer0 _ _ _ _ _ _ hn hm h6 p1 p3 ht x y g k d l g0, nM_offer0 _ _ _ _ _ _ hn' h12 hm' h6 p2 p3 ht' x y g k d l (I 42) hf (by rw [hp]; exact g0)]
    exact ⟨rfl, hv⟩
end O2
