/-! One turn of each loop, and the stretches between calls, by program. -/
section R3
variable (X : (Nat → Int32) × Nat) (mo : Bool) (G : Nat × Nat) (I : Nat → Nat → Int32) (J : Nat → Nat → Int64) (Q : Option Value → sm_M → Prop)
theorem lp_151_0 (x1 : Int32) (x2 : Int32) : sm_wp X 151 0 [some (.ref 26), some (.int x1), some (.int x2), none, none] [] (sM mo G I J) Q = (sm_wp X 151 5 [some (.ref 26), some (.int x1), some (.int x2), some (.int 0), some (.int 0)] [] (sM mo G I J) Q) := by
  rw [bk_151_0]
  all_goals (try simp (decide := true) only [bk_151_66, bk_151_72, up2_ne, up2_sn, up2_ss, ne_eq, tl_some, tl_none, zb_0, zb_1, zb_bi, true_and, bi_eq, bi_ne, oz_f, zz_t, if_true, if_false, not_true_eq_false, not_false_eq_true])
  all_goals grind (splits := 30) [bi]
theorem lp_151_5 (x1 : Int32) (x2 : Int32) (x3 : Int32) (x4 : Int32) : sm_wp X 151 5 [some (.ref 26), some (.int x1), some (.int x2), some (.int x3), some (.int x4)] [] (sM mo G I J) Q = (if I 26 0 ≤ x4 then (Q (some (.int x3)) (sM mo G I J)) else (if 20 ≤ x4 then (Q (some (.int x3)) (sM mo G I J)) else (vp_in x4 20 ∧ (if ¬ I 28 (x4.toNatClampNeg) = x1 then (sm_wp X 151 5 [some (.ref 26), some (.int x1), some (.int x2), some (.int x3), some (.int (x4 + 1))] [] (sM mo G I J) Q) else (if x2 < I 29 (x4.toNatClampNeg) then (sm_wp X 151 5 [some (.ref 26), some (.int x1), some (.int x2), some (.int x3), some (.int (x4 + 1))] [] (sM mo G I J) Q) else (if I 30 (x4.toNatClampNeg) < x2 then (sm_wp X 151 5 [some (.ref 26), some (.int x1), some (.int x2), some (.int x3), some (.int (x4 + 1))] [] (sM mo G I J) Q) else (sm_wp X 151 5 [some (.ref 26), some (.int x1), some (.int x2), some (.int (x3 ||| ((1 : Int32) <<< ((I 27 (x4.toNatClampNeg)) &&& 31)))), some (.int (x4 + 1))] [] (sM mo G I J) Q))))))) := by
  rw [bk_151_5]
  all_goals (try simp (decide := true) only [bk_151_0, bk_151_66, bk_151_72, up2_ne, up2_sn, up2_ss, ne_eq, tl_some, tl_none, zb_0, zb_1, zb_bi, true_and, bi_eq, bi_ne, oz_f, zz_t, if_true, if_false, not_true_eq_false, not_false_eq_true])
  all_goals grind (splits := 30) [bi]
end R3
