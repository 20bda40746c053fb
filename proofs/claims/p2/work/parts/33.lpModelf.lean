/-! One turn of each loop, and the stretches between calls, by program. -/
section R3
variable (X : (Nat → Int32) × Nat) (mo : Bool) (G : Nat × Nat) (I : Nat → Nat → Int32) (J : Nat → Nat → Int64) (Q : Option Value → sm_M → Prop)
theorem lp_310_93 (x2 : Int32) (x3 : Int32) : sm_wp X 310 93 [some (.ref 81), none, some (.int x2), some (.int x3)] [] (sM mo G I J) Q = (if I 81 3 ≤ x3 then (Q (some (.int x2)) (sM mo G I J)) else (vp_in x3 12 ∧ (if I 85 (x3.toNatClampNeg) = (-1) then (sm_wp X 310 93 [some (.ref 81), none, some (.int (x2 + 0)), some (.int (x3 + 1))] [] (sM mo G I J) Q) else (sm_wp X 310 93 [some (.ref 81), none, some (.int (x2 + (I 83 (x3.toNatClampNeg)))), some (.int (x3 + 1))] [] (sM mo G I J) Q)))) := by
  rw [bk_310_93]
  all_goals (try simp (decide := true) only [bk_310_0, bk_310_56, bk_310_61, bk_310_66, bk_310_71, bk_310_76, bk_310_81, bk_310_86, bk_310_91, bk_310_121, bk_310_122, bk_310_130, bk_310_132, up2_ne, up2_sn, up2_ss, ne_eq, tl_some, tl_none, zb_0, zb_1, zb_bi, true_and, bi_eq, bi_ne, oz_f, zz_t, if_true, if_false, not_true_eq_false, not_false_eq_true])
  all_goals grind (splits := 30) [bi]
end R3
