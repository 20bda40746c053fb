/-! note, offer. -/
def opn (I : Nat → Nat → Int32) (s d : Int32) (q : Nat) : Int32 := up (fun k b => if I 28 k = s ∧ ¬ d < I 29 k ∧ ¬ I 30 k < d then b ||| ((1 : Int32) <<< (I 27 k &&& 31)) else b) q 0
def adC (I : Nat → Nat → Int32) (p : Nat) (x y : Int32) : Nat → Nat → Int32 := up2 (up2 (up2 (up2 (up2 (up2 (up2 (up2 (up2 I 32 p x) 33 p y) 34 p (I 1 3)) 40 p (-1)) 41 p (-1)) 42 p (-1)) 43 p (-1)) 44 p (-1)) 31 0 (zI (p + 1))
def ntM (I : Nat → Nat → Int32) (p : Nat) (x y w o : Int32) : Nat → Nat → Int32 := up2 (up2 (up2 (up2 (up2 (up2 (up2 (up2 (up2 (up2 (up2 I 81 2 0) 107 p 1) 108 p x) 109 p y) 110 p (I 81 16)) 115 p w) 116 p o) 117 p (-1)) 118 p (-1)) 119 p (-1)) 81 46 (zI (p + 1))
section O1
variable (X : (Nat → Int32) × Nat) (mo : Bool) (G : Nat × Nat) (I : Nat → Nat → Int32) (J : Nat → Nat → Int64) (Q : Option Value → sm_M → Prop)
theorem ct_openers {q : Nat} (hq : I 26 0 = zI q) (h20 : q ≤ 20) (s d : Int32) : sm_wp X 151 0 [some (.ref 26), some (.int s), some (.int d), none, none] [] (sM mo G I J) Q = Q (some (.int (opn I s d q))) (sM mo G I J) := by
  rw [lp_151_0]
  refine (cnt (fun k b => sm_wp X 151 5 [some (.ref 26), some (.int s), some (.int d), some (.int b), some (.int (zI k))] [] (sM mo G I J) Q) (fun k b => if I 28 k = s ∧ ¬ d < I 29 k ∧ ¬ I 30 k < d then b ||| ((1 : Int32) <<< (I 27 k &&& 31)) else b) 0 q ?_).trans ?_
  · intro k hk
    have c20 : k < 20 := by omega
    have c21 : ¬ 20 ≤ k := by omega
    have c22 : ¬ q ≤ k := by omega
    rw [lp_151_5]
    simp (disch := first | omega | decide) only [hq, zI_lt, zI_le, zI_eq, zI_cn, zI_vp, zI_add, zI_mul, zI_sub, zIl_add, zIr_add, zIl_mul, zIr_mul, zIr_sub, zIl_lt, zIr_lt, zIl_le, zIr_le, zIl_eq, zIr_eq, zI_sIn, zI_m1, zI_m1', Int32.add_zero, Int32.or_zero, c20, c21, c22, if_false, true_and]
    grind
  · rw [lp_151_5]
    simp (disch := first | omega | decide) only [hq, zI_lt, zI_le, zI_eq, zI_cn, zI_vp, zI_add, zI_mul, zI_sub, zIl_add, zIr_add, zIl_mul, zIr_mul, zIr_sub, zIl_lt, zIr_lt, zIl_le, zIr_le, zIl_eq, zIr_eq, zI_sIn, zI_m1, zI_m1', Int32.add_zero, Int32.or_zero, Nat.le_refl, if_true]
    rfl
theorem nH_note {m t p q : Nat} (hm : I 1 1 = zI m) (h6 : m ≤ 6) (hp : I 31 0 = zI p) (h60 : p ≤ 60) (ht : I 1 3 = zI t) (hq : I 26 0 = zI q) (h20 : q ≤ 20) (x y w : Int32) : sm_wp X 179 0 [some (.ref 0), some (.int x), some (.int y), some (.int w), none] [] (sM mo G I J) Q = if ((sIn x m ∧ bt (I 1 2) x.toNatClampNeg = true) ∧ (sIn y m ∧ bt (I 1 2) y.toNatClampNeg = true) ∧ (¬ w < 1 ∧ ¬ 99 < w)) ∧ p < 60 then Q (some (.int (zI p))) (sM mo G (up2 (up2 (adC I p x y) 35 p w) 36 p (if x = y then opn I x (zI t) q else 0)) J) else Q (some (.int (-1))) (sM mo G I J) := by
  rw [lp_179_0]
  simp only [hPres_vp hm h6, ht, hp]
  by_cases a : sIn x m ∧ bt (I 1 2) x.toNatClampNeg = true
  · by_cases b : sIn y m ∧ bt (I 1 2) y.toNatClampNeg = true
    · by_cases w1 : ¬ w < 1 ∧ ¬ 99 < w
      · simp only [eq_true a, eq_true b, eq_true w1, not_true_eq_false, if_false, true_and]
        by_cases hp6 : p < 60
        · have hp7 : ¬ 60 ≤ p := by omega
          simp (disch := first | omega | decide) only [zI_lt, zI_le, zI_eq, zI_cn, zI_vp, zI_add, zI_mul, zI_sub, zIl_add, zIr_add, zIl_mul, zIr_mul, zIr_sub, zIl_lt, zIr_lt, zIl_le, zIr_le, zIl_eq, zIr_eq, zI_sIn, zI_m1, zI_m1', Int32.add_zero, Int32.or_zero, hp6, hp7, not_false_eq_true, if_true, true_and, Nat.add_sub_cancel]
          have e : ∀ K, up2 K 31 0 (zI (p + 1)) 31 0 = zI (p + 1) := fun K => by simp (decide := true) only [up2_ra, up2_rn, va_ap, ne_eq, if_false, if_true, not_false_eq_true]
          simp only [hPap_vp (e _) (show p + 1 ≤ 60 by omega)]
          simp (disch := first | omega | decide) only [zI_lt, zI_le, zI_eq, zI_cn, zI_vp, zI_add, zI_mul, zI_sub, zIl_add, zIr_add, zIl_mul, zIr_mul, zIr_sub, zIl_lt, zIr_lt, zIl_le, zIr_le, zIl_eq, zIr_eq, zI_sIn, zI_m1, zI_m1', Int32.add_zero, Int32.or_zero, Nat.lt_succ_self, not_true_eq_false, if_false]
          rw [ct_openers _ _ _ _ _ _ (q := q) (by simp (decide := true) only [up2_ra, up2_rn, va_ap, ne_eq, if_false, if_true, not_false_eq_true]; exact hq) h20]
          simp only [tl_some, lp_179_86, hPap_vp (e _) (show p + 1 ≤ 60 by omega)]
          simp (disch := first | omega | decide) only [zI_lt, zI_le, zI_eq, zI_cn, zI_vp, zI_add, zI_mul, zI_sub, zIl_add, zIr_add, zIl_mul, zIr_mul, zIr_sub, zIl_lt, zIr_lt, zIl_le, zIr_le, zIl_eq, zIr_eq, zI_sIn, zI_m1, zI_m1', Int32.add_zero, Int32.or_zero, Nat.lt_succ_self, not_true_eq_false, if_false, hp6, true_and]
          have eo : opn (up2 (up2 (up2 (up2 (up2 (up2 (up2 (up2 (up2 I 32 p x) 33 p y) 34 p (zI t)) 40 p (-1)) 41 p (-1)) 42 p (-1)) 43 p (-1)) 44 p (-1)) 31 0 (zI (p + 1))) x (zI t) q = opn I x (zI t) q := by
            unfold opn
            simp (decide := true) only [up2_ra, up2_rn, va_ap, ne_eq, if_false, if_true, not_false_eq_true]
          rw [eo]
          unfold adC
          rw [ht]
          by_cases hxy : x = y
          · simp only [hxy, not_true_eq_false, if_true, if_false]
          · simp only [hxy, not_false_eq_true, if_true, if_false]
        · have hp7 : 60 ≤ p := by omega
          simp (disch := first | omega | decide) only [zI_lt, zI_le, zI_eq, zI_cn, zI_vp, zI_add, zI_mul, zI_sub, zIl_add, zIr_add, zIl_mul, zIr_mul, zIr_sub, zIl_lt, zIr_lt, zIl_le, zIr_le, zIl_eq, zIr_eq, zI_sIn, zI_m1, zI_m1', Int32.add_zero, Int32.or_zero, hp6, hp7, not_true_eq_false, if_false]
      · simp only [eq_true a, eq_true b, eq_false w1, not_true_eq_false, not_false_eq_true, if_true, if_false, false_and, and_false]
    · simp only [eq_true a, eq_false b, not_true_eq_false, not_false_eq_true, if_true, if_false, false_and, and_false]
  · simp only [eq_false a, not_false_eq_true, if_true, if_false, false_and]
theorem nM_note {m t p q : Nat} (hm : I 81 10 = zI m) (h6 : m ≤ 6) (hp : I 81 46 = zI p) (h60 : p ≤ 60) (ht : I 81 16 = zI t) (hq : I 81 60 = zI q) (h20 : q ≤ 20) (hs : ∀ k, k < 20 → I 120 (4 * k) = I 27 k ∧ I 120 (4 * k + 1) = I 28 k ∧ I 120 (4 * k + 2) = I 29 k ∧ I 120 (4 * k + 3) = I 30 k) (x y w : Int32) : sm_wp X 249 0 [some (.ref 81), some (.int x), some (.int y), some (.int w), none, none] [] (sM mo G I J) Q = if ((sIn x m ∧ bt (I 81 15) x.toNatClampNeg = true) ∧ (sIn y m ∧ bt (I 81 15) y.toNatClampNeg = true) ∧ (¬ w < 1 ∧ ¬ 99 < w)) ∧ p < 60 then Q (some (.int (zI p))) (sM mo G (ntM I p x y w (if x = y then opn I x (zI t) q else 0)) J) else Q (some (.int (-1))) (sM mo G (up2 I 81 2 0) J) := by
  rw [lp_249_0]
  simp only [mP0 hm h6, hp, ht, vf_Model_isIn, nar_1]
  by_cases hp6 : p < 60
  · have hp7 : ¬ p = 60 := by omega
    by_cases a : sIn x m ∧ bt (I 81 15) x.toNatClampNeg = true
    · by_cases b : sIn y m ∧ bt (I 81 15) y.toNatClampNeg = true
      · by_cases w1 : ¬ w < 1 ∧ ¬ 99 < w
        · simp only [eq_true a, eq_true b, eq_true w1, not_true_eq_false, if_false, if_true, true_and]
          simp (disch := first | omega | decide) only [zI_lt, zI_le, zI_eq, zI_cn, zI_vp, zI_add, zI_mul, zI_sub, zIl_add, zIr_add, zIl_mul, zIr_mul, zIr_sub, zIl_lt, zIr_lt, zIl_le, zIr_le, zIl_eq, zIr_eq, zI_sIn, zI_m1, zI_m1', Int32.add_zero, Int32.or_zero, hp6, hp7, if_false, if_true, true_and]
          generalize hK : up2 (up2 (up2 (up2 (up2 (up2 I 81 2 0) 107 p 1) 108 p x) 109 p y) 110 p (zI t)) 115 p w = K
          have k1 : ∀ c, c < 81 ∨ c = 120 → K c = I c := by
            intro c hc
            rw [← hK]
            simp (disch := first | omega | decide) only [up2_rn]
          have k2 : K 81 46 = zI p ∧ K 81 60 = zI q ∧ K 81 16 = zI t := by
            rw [← hK]
            simp (decide := true) only [up2_ra, up2_rn, va_ap, ne_eq, if_false, if_true, not_false_eq_true]
            exact ⟨hp, hq, ht⟩
          have hl : ∀ Q : Option Value → sm_M → Prop, sm_wp X 249 108 [some (.ref 81), some (.int x), some (.int y), none, some (.int 0), none] [] (sM mo G (up2 K 116 p 0) J) Q = sm_wp X 249 108 [some (.ref 81), some (.int x), some (.int y), none, some (.int (zI q)), none] [] (sM mo G (up2 K 116 p (if x = y then opn I x (zI t) q else 0)) J) Q := by
            intro Q
            by_cases hxy : x = y
            · subst hxy
              simp only [if_true]
              refine (cnt (fun k b => sm_wp X 249 108 [some (.ref 81), some (.int x), some (.int x), none, some (.int (zI k)), none] [] (sM mo G (up2 K 116 p b) J) Q) (fun k b => if I 28 k = x ∧ ¬ zI t < I 29 k ∧ ¬ I 30 k < zI t then b ||| ((1 : Int32) <<< (I 27 k &&& 31)) else b) 0 q ?_).trans ?_
              · intro k hk
                have c20 : ¬ q ≤ k := by omega
                obtain ⟨s0, s1, s2, s3⟩ := hs k (by omega)
                have d0 : 4 * k < 80 := by omega
                have d1 : 4 * k + 1 < 80 := by omega
                have d2 : 4 * k + 2 < 80 := by omega
                have d3 : 4 * k + 3 < 80 := by omega
                rw [lp_249_108]
                simp (decide := true) only [up2_ra, up2_rn, va_ap, ne_eq, if_false, if_true, not_false_eq_true, k2, k1]
                simp (disch := first | omega | decide) only [zI_lt, zI_le, zI_eq, zI_cn, zI_vp, zI_add, zI_mul, zI_sub, zIl_add, zIr_add, zIl_mul, zIr_mul, zIr_sub, zIl_lt, zIr_lt, zIl_le, zIr_le, zIl_eq, zIr_eq, zI_sIn, zI_m1, zI_m1', Int32.add_zero, Int32.or_zero, vf_Model_isIn, s0, s1, s2, s3, d0, d1, d2, d3, c20, hp6, not_true_eq_false, if_false, if_true, true_and, va_ap]
                have e : ∀ u v : Int32, up2 (up2 K 116 p u) 116 p v = up2 K 116 p v := by
                  intro u v
                  funext c j
                  simp only [up2_ap]
                  grind
                simp only [e]
                grind
              · rfl
            · simp only [hxy, if_false]
              refine (cnt (fun k (b : Int32) => sm_wp X 249 108 [some (.ref 81), some (.int x), some (.int y), none, some (.int (zI k)), none] [] (sM mo G (up2 K 116 p 0) J) Q) (fun k b => b) 0 q ?_).trans ?_
              · intro k hk
                have c20 : ¬ q ≤ k := by omega
                rw [lp_249_108]
                simp (decide := true) only [up2_ra, up2_rn, va_ap, ne_eq, if_false, if_true, not_false_eq_true, k2, k1]
                simp (disch := first | omega | decide) only [zI_lt, zI_le, zI_eq, zI_cn, zI_vp, zI_add, zI_mul, zI_sub, zIl_add, zIr_add, zIl_mul, zIr_mul, zIr_sub, zIl_lt, zIr_lt, zIl_le, zIr_le, zIl_eq, zIr_eq, zI_sIn, zI_m1, zI_m1', Int32.add_zero, Int32.or_zero, c20, hxy, not_false_eq_true, if_false, if_true]
              · rfl
          rw [hl, lp_249_108]
          simp (decide := true) only [up2_ra, up2_rn, va_ap, ne_eq, if_false, if_true, not_false_eq_true, k2]
          simp (disch := first | omega | decide) only [zI_lt, zI_le, zI_eq, zI_cn, zI_vp, zI_add, zI_mul, zI_sub, zIl_add, zIr_add, zIl_mul, zIr_mul, zIr_sub, zIl_lt, zIr_lt, zIl_le, zIr_le, zIl_eq, zIr_eq, zI_sIn, zI_m1, zI_m1', Int32.add_zero, Int32.or_zero, Nat.le_refl, if_true, hp6, true_and, Nat.add_sub_cancel]
          unfold ntM
          rw [← hK, ht]
        · simp only [eq_true a, eq_true b, eq_false w1, not_true_eq_false, if_false, false_and, and_false, ite_self]
      · simp only [eq_true a, eq_false b, not_true_eq_false, not_false_eq_true, if_true, if_false, false_and, and_false, ite_self]
    · simp only [eq_false a, not_false_eq_true, if_true, if_false, false_and, ite_self]
  · have hp7 : p = 60 := by omega
    simp (disch := first | omega | decide) only [zI_lt, zI_le, zI_eq, zI_cn, zI_vp, zI_add, zI_mul, zI_sub, zIl_add, zIr_add, zIl_mul, zIr_mul, zIr_sub, zIl_lt, zIr_lt, zIl_le, zIr_le, zIl_eq, zIr_eq, zI_sIn, zI_m1, zI_m1', Int32.add_zero, Int32.or_zero, hp7, if_true, Nat.lt_irrefl, and_false, if_false]
end O1
