/-! One turn of each loop, and the stretches between calls, by program. -/
section R3
variable (X : (Nat → Int32) × Nat) (mo : Bool) (G : Nat × Nat) (I : Nat → Nat → Int32) (J : Nat → Nat → Int64) (Q : Option Value → sm_M → Prop)
theorem lp_40_0 (x2 : Int32) : sm_wp X 40 0 [some (.ref 21), some (.ref 16), some (.int x2), none] [] (sM mo G I J) Q = (if x2 < 0 then (Q none (sM mo G I J)) else (if x2 < 6 then (vp_in x2 6 ∧ (sm_wp X 40 28 [some (.ref 21), some (.ref 16), some (.int x2), some (.int 0)] [] (sM mo G (up2 I 22 x2.toNatClampNeg (if (16 : Int32) < I 16 2 then 16 else I 16 2)) J) Q)) else (Q none (sM mo G I J)))) := by
  rw [bk_40_0]
  all_goals (try simp (decide := true) only [bk_40_10, bk_40_11, bk_40_57, bk_40_105, up2_ne, up2_sn, up2_ss, ne_eq, tl_some, tl_none, zb_0, zb_1, zb_bi, true_and, bi_eq, bi_ne, oz_f, zz_t, if_true, if_false, not_true_eq_false, not_false_eq_true])
  all_goals grind (splits := 30) [bi]
theorem lp_40_28 (x2 : Int32) (x3 : Int32) : sm_wp X 40 28 [some (.ref 21), some (.ref 16), some (.int x2), some (.int x3)] [] (sM mo G I J) Q = (if 64 ≤ x3 then (sm_wp X 40 59 [some (.ref 21), some (.ref 16), some (.int x2), some (.int 0)] [] (sM mo G I J) Q) else (vp_in x3 64 ∧ (vp_in ((x2 * 64) + x3) 384 ∧ (sm_wp X 40 28 [some (.ref 21), some (.ref 16), some (.int x2), some (.int (x3 + 1))] [] (sM mo G (up2 I 23 ((x2 * 64) + x3).toNatClampNeg (I 17 (x3.toNatClampNeg))) J) Q)))) := by
  rw [bk_40_28]
  all_goals (try simp (decide := true) only [bk_40_0, bk_40_10, bk_40_11, bk_40_57, bk_40_105, up2_ne, up2_sn, up2_ss, ne_eq, tl_some, tl_none, zb_0, zb_1, zb_bi, true_and, bi_eq, bi_ne, oz_f, zz_t, if_true, if_false, not_true_eq_false, not_false_eq_true])
  all_goals grind (splits := 30) [bi]
theorem lp_40_59 (x2 : Int32) (x3 : Int32) : sm_wp X 40 59 [some (.ref 21), some (.ref 16), some (.int x2), some (.int x3)] [] (sM mo G I J) Q = (if 16 ≤ x3 then (Q none (sM mo G I J)) else (vp_in x3 16 ∧ (vp_in ((x2 * 16) + x3) 96 ∧ (sm_wp X 40 59 [some (.ref 21), some (.ref 16), some (.int x2), some (.int (x3 + 1))] [] (sM mo G (up2 (up2 I 24 ((x2 * 16) + x3).toNatClampNeg (I 18 (x3.toNatClampNeg))) 25 ((x2 * 16) + x3).toNatClampNeg (I 19 (x3.toNatClampNeg))) J) Q)))) := by
  rw [bk_40_59]
  all_goals (try simp (decide := true) only [bk_40_0, bk_40_10, bk_40_11, bk_40_57, bk_40_105, up2_ne, up2_sn, up2_ss, ne_eq, tl_some, tl_none, zb_0, zb_1, zb_bi, true_and, bi_eq, bi_ne, oz_f, zz_t, if_true, if_false, not_true_eq_false, not_false_eq_true])
  all_goals grind (splits := 30) [bi]
end R3
