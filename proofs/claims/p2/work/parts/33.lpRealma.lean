/-! One turn of each loop, and the stretches between calls, by program. -/
section R3
variable (X : (Nat → Int32) × Nat) (mo : Bool) (G : Nat × Nat) (I : Nat → Nat → Int32) (J : Nat → Nat → Int64) (Q : Option Value → sm_M → Prop)
theorem lp_103_0 (x1 : Int32) (x2 : Int32) : sm_wp X 103 0 [some (.ref 1), some (.int x1), some (.int x2), none, none] [] (sM mo G I J) Q = (sm_wp X 103 5 [some (.ref 1), some (.int x1), some (.int x2), some (.int 0), some (.int 0)] [] (sM mo G I J) Q) := by
  rw [bk_103_0]
  all_goals (try simp (decide := true) only [bk_103_20, bk_103_31, bk_103_33, bk_103_39, up2_ne, up2_sn, up2_ss, ne_eq, tl_some, tl_none, zb_0, zb_1, zb_bi, true_and, bi_eq, bi_ne, oz_f, zz_t, if_true, if_false, not_true_eq_false, not_false_eq_true])
  all_goals grind (splits := 30) [bi]
theorem lp_103_5 (x1 : Int32) (x2 : Int32) (x3 : Int32) (x4 : Int32) : sm_wp X 103 5 [some (.ref 1), some (.int x1), some (.int x2), some (.int x3), some (.int x4)] [] (sM mo G I J) Q = (if I 1 0 ≤ x4 then (Q (some (.int x3)) (sM mo G I J)) else (if ¬ (hBit x2 x4) then (sm_wp X 103 5 [some (.ref 1), some (.int x1), some (.int x2), some (.int x3), some (.int (x4 + 1))] [] (sM mo G I J) Q) else (sm_wp X 103 5 [some (.ref 1), some (.int x1), some (.int x2), some (.int (x3 + (wof (I 13) x1 x4))), some (.int (x4 + 1))] [] (sM mo G I J) Q))) := by
  rw [bk_103_5]
  all_goals (try simp (decide := true) only [bk_103_0, bk_103_20, bk_103_31, bk_103_33, bk_103_39, ct_House_hasBit, ct_Realm_worthOf, up2_ne, up2_sn, up2_ss, ne_eq, tl_some, tl_none, zb_0, zb_1, zb_bi, true_and, bi_eq, bi_ne, oz_f, zz_t, if_true, if_false, not_true_eq_false, not_false_eq_true])
  all_goals grind (splits := 30) [bi]
theorem lp_105_0 (x1 : Int32) : sm_wp X 105 0 [some (.ref 1), some (.int x1), none, none] [] (sM mo G I J) Q = (sm_wp X 105 4 [some (.ref 1), some (.int x1), some (.int 0), some (.int 0)] [] (sM mo G I J) Q) := by
  rw [bk_105_0]
  all_goals (try simp (decide := true) only [bk_105_34, bk_105_40, up2_ne, up2_sn, up2_ss, ne_eq, tl_some, tl_none, zb_0, zb_1, zb_bi, true_and, bi_eq, bi_ne, oz_f, zz_t, if_true, if_false, not_true_eq_false, not_false_eq_true])
  all_goals grind (splits := 30) [bi]
theorem lp_105_4 (x1 : Int32) (x2 : Int32) (x3 : Int32) : sm_wp X 105 4 [some (.ref 1), some (.int x1), some (.int x2), some (.int x3)] [] (sM mo G I J) Q = (if I 1 0 ≤ x3 then (Q (some (.int x2)) (sM mo G I J)) else (if 12 ≤ x3 then (Q (some (.int x2)) (sM mo G I J)) else (vp_in x3 12 ∧ (if ¬ I 4 (x3.toNatClampNeg) = x1 then (sm_wp X 105 4 [some (.ref 1), some (.int x1), some (.int x2), some (.int (x3 + 1))] [] (sM mo G I J) Q) else (sm_wp X 105 4 [some (.ref 1), some (.int x1), some (.int (x2 ||| ((1 : Int32) <<< (x3 &&& 31)))), some (.int (x3 + 1))] [] (sM mo G I J) Q))))) := by
  rw [bk_105_4]
  all_goals (try simp (decide := true) only [bk_105_0, bk_105_34, bk_105_40, up2_ne, up2_sn, up2_ss, ne_eq, tl_some, tl_none, zb_0, zb_1, zb_bi, true_and, bi_eq, bi_ne, oz_f, zz_t, if_true, if_false, not_true_eq_false, not_false_eq_true])
  all_goals grind (splits := 30) [bi]
theorem lp_106_0 (x1 : Int32) : sm_wp X 106 0 [some (.ref 1), some (.int x1), none, none] [] (sM mo G I J) Q = (sm_wp X 106 4 [some (.ref 1), some (.int x1), some (.int 0), some (.int 0)] [] (sM mo G I J) Q) := by
  rw [bk_106_0]
  all_goals (try simp (decide := true) only [bk_106_23, bk_106_35, bk_106_41, up2_ne, up2_sn, up2_ss, ne_eq, tl_some, tl_none, zb_0, zb_1, zb_bi, true_and, bi_eq, bi_ne, oz_f, zz_t, if_true, if_false, not_true_eq_false, not_false_eq_true])
  all_goals grind (splits := 30) [bi]
theorem lp_106_4 (x1 : Int32) (x2 : Int32) (x3 : Int32) : sm_wp X 106 4 [some (.ref 1), some (.int x1), some (.int x2), some (.int x3)] [] (sM mo G I J) Q = (if I 1 0 ≤ x3 then (Q (some (.int x2)) (sM mo G I J)) else (if 12 ≤ x3 then (Q (some (.int x2)) (sM mo G I J)) else (if ¬ (hBit x1 x3) then (sm_wp X 106 4 [some (.ref 1), some (.int x1), some (.int x2), some (.int (x3 + 1))] [] (sM mo G I J) Q) else (vp_in x3 12 ∧ (sm_wp X 106 4 [some (.ref 1), some (.int x1), some (.int (x2 + (I 2 (x3.toNatClampNeg)))), some (.int (x3 + 1))] [] (sM mo G I J) Q))))) := by
  rw [bk_106_4]
  all_goals (try simp (decide := true) only [bk_106_0, bk_106_23, bk_106_35, bk_106_41, ct_House_hasBit, up2_ne, up2_sn, up2_ss, ne_eq, tl_some, tl_none, zb_0, zb_1, zb_bi, true_and, bi_eq, bi_ne, oz_f, zz_t, if_true, if_false, not_true_eq_false, not_false_eq_true])
  all_goals grind (splits := 30) [bi]
theorem lp_107_0 (x1 : Int32) (x2 : Int32) : sm_wp X 107 0 [some (.ref 1), some (.int x1), some (.int x2), none, none] [] (sM mo G I J) Q = (sm_wp X 107 5 [some (.ref 1), some (.int x1), some (.int x2), some (.int 0), some (.int 0)] [] (sM mo G I J) Q) := by
  rw [bk_107_0]
  all_goals (try simp (decide := true) only [bk_107_27, bk_107_45, bk_107_51, up2_ne, up2_sn, up2_ss, ne_eq, tl_some, tl_none, zb_0, zb_1, zb_bi, true_and, bi_eq, bi_ne, oz_f, zz_t, if_true, if_false, not_true_eq_false, not_false_eq_true])
  all_goals grind (splits := 30) [bi]
theorem lp_107_5 (x1 : Int32) (x2 : Int32) (x3 : Int32) (x4 : Int32) : sm_wp X 107 5 [some (.ref 1), some (.int x1), some (.int x2), some (.int x3), some (.int x4)] [] (sM mo G I J) Q = (if I 1 0 ≤ x4 then (Q (some (.int x3)) (sM mo G I J)) else (if 12 ≤ x4 then (Q (some (.int x3)) (sM mo G I J)) else (if ¬ (hBit x1 x4) then (sm_wp X 107 5 [some (.ref 1), some (.int x1), some (.int x2), some (.int x3), some (.int (x4 + 1))] [] (sM mo G I J) Q) else (vp_in x4 12 ∧ (if (I 3 (x4.toNatClampNeg)) &&& x2 = 0 then (sm_wp X 107 5 [some (.ref 1), some (.int x1), some (.int x2), some (.int x3), some (.int (x4 + 1))] [] (sM mo G I J) Q) else (sm_wp X 107 5 [some (.ref 1), some (.int x1), some (.int x2), some (.int (x3 + 1)), some (.int (x4 + 1))] [] (sM mo G I J) Q)))))) := by
  rw [bk_107_5]
  all_goals (try simp (decide := true) only [bk_107_0, bk_107_27, bk_107_45, bk_107_51, ct_House_hasBit, up2_ne, up2_sn, up2_ss, ne_eq, tl_some, tl_none, zb_0, zb_1, zb_bi, true_and, bi_eq, bi_ne, oz_f, zz_t, if_true, if_false, not_true_eq_false, not_false_eq_true])
  all_goals grind (splits := 30) [bi]
theorem lp_111_0 (x1 : Int32) : sm_wp X 111 0 [some (.ref 1), some (.int x1)] [] (sM mo G I J) Q = (sm_wp X 105 0 [some (.ref 1), some (.int x1), none, none] [] (sM mo G I J) (fun v M => sm_wp X 111 7 [some (.ref 1), some (.int x1)] (v.toList ++ [.int x1, .ref 1]) M Q)) := by
  rw [bk_111_0]
  all_goals (try simp (decide := true) only [bk_111_7, bk_111_10, up2_ne, up2_sn, up2_ss, ne_eq, tl_some, tl_none, zb_0, zb_1, zb_bi, true_and, bi_eq, bi_ne, oz_f, zz_t, if_true, if_false, not_true_eq_false, not_false_eq_true])
  all_goals grind (splits := 30) [bi]
theorem lp_111_7 (x1 : Int32) (s1 : Int32) (s2 : Int32) : sm_wp X 111 7 [some (.ref 1), some (.int x1)] [.int s2, .int s1, .ref 1] (sM mo G I J) Q = (sm_wp X 103 0 [some (.ref 1), some (.int s1), some (.int s2), none, none] [] (sM mo G I J) (fun v M => sm_wp X 111 10 [some (.ref 1), some (.int x1)] (v.toList ++ []) M Q)) := by
  rw [bk_111_7]
  all_goals (try simp (decide := true) only [bk_111_0, bk_111_10, up2_ne, up2_sn, up2_ss, ne_eq, tl_some, tl_none, zb_0, zb_1, zb_bi, true_and, bi_eq, bi_ne, oz_f, zz_t, if_true, if_false, not_true_eq_false, not_false_eq_true])
  all_goals grind (splits := 30) [bi]
theorem lp_111_10 (x1 : Int32) (s0 : Int32) : sm_wp X 111 10 [some (.ref 1), some (.int x1)] [.int s0] (sM mo G I J) Q = (Q (some (.int s0)) (sM mo G I J)) := by
  rw [bk_111_10]
  all_goals (try simp (decide := true) only [bk_111_0, bk_111_7, up2_ne, up2_sn, up2_ss, ne_eq, tl_some, tl_none, zb_0, zb_1, zb_bi, true_and, bi_eq, bi_ne, oz_f, zz_t, if_true, if_false, not_true_eq_false, not_false_eq_true])
  all_goals grind (splits := 30) [bi]
theorem lp_112_0 (x1 : Int32) : sm_wp X 112 0 [some (.ref 1), some (.int x1), none, none] [] (sM mo G I J) Q = (sm_wp X 112 4 [some (.ref 1), some (.int x1), some (.int 0), some (.int 0)] [] (sM mo G I J) Q) := by
  rw [bk_112_0]
  all_goals (try simp (decide := true) only [bk_112_18, bk_112_24, bk_112_30, up2_ne, up2_sn, up2_ss, ne_eq, tl_some, tl_none, zb_0, zb_1, zb_bi, true_and, bi_eq, bi_ne, oz_f, zz_t, if_true, if_false, not_true_eq_false, not_false_eq_true])
  all_goals grind (splits := 30) [bi]
theorem lp_112_4 (x1 : Int32) (x2 : Int32) (x3 : Int32) : sm_wp X 112 4 [some (.ref 1), some (.int x1), some (.int x2), some (.int x3)] [] (sM mo G I J) Q = (if I 1 0 ≤ x3 then (Q (some (.int x2)) (sM mo G I J)) else (if ¬ (vf_Realm_isDisputed I x3 x1) then (sm_wp X 112 4 [some (.ref 1), some (.int x1), some (.int x2), some (.int (x3 + 1))] [] (sM mo G I J) Q) else (sm_wp X 112 4 [some (.ref 1), some (.int x1), some (.int (x2 + 1)), some (.int (x3 + 1))] [] (sM mo G I J) Q))) := by
  rw [bk_112_4]
  all_goals (try simp (decide := true) only [bk_112_0, bk_112_18, bk_112_24, bk_112_30, ct_Realm_isDisputed, up2_ne, up2_sn, up2_ss, ne_eq, tl_some, tl_none, zb_0, zb_1, zb_bi, true_and, bi_eq, bi_ne, oz_f, zz_t, if_true, if_false, not_true_eq_false, not_false_eq_true])
  all_goals grind (splits := 30) [bi]
theorem lp_116_0  : sm_wp X 116 0 [some (.ref 1)] [] (sM mo G I J) Q = (sm_wp X 105 0 [some (.ref 1), some (.int (-1)), none, none] [] (sM mo G I J) (fun v M => sm_wp X 116 10 [some (.ref 1)] (v.toList ++ [.int (((1 : Int32) <<< ((I 1 0) &&& 31)) - 1), .ref 1]) M Q)) := by
  rw [bk_116_0]
  all_goals (try simp (decide := true) only [bk_116_5, bk_116_10, bk_116_16, ct_Realm_allLands, up2_ne, up2_sn, up2_ss, ne_eq, tl_some, tl_none, zb_0, zb_1, zb_bi, true_and, bi_eq, bi_ne, oz_f, zz_t, if_true, if_false, not_true_eq_false, not_false_eq_true])
  all_goals grind (splits := 30) [bi]
theorem lp_116_10 (s1 : Int32) (s2 : Int32) : sm_wp X 116 10 [some (.ref 1)] [.int s2, .int s1, .ref 1] (sM mo G I J) Q = (sm_wp X 106 0 [some (.ref 1), some (.int (s1 &&& (s2 ^^^ (-1)))), none, none] [] (sM mo G I J) (fun v M => sm_wp X 116 16 [some (.ref 1)] (v.toList ++ []) M Q)) := by
  rw [bk_116_10]
  all_goals (try simp (decide := true) only [bk_116_0, bk_116_5, bk_116_16, up2_ne, up2_sn, up2_ss, ne_eq, tl_some, tl_none, zb_0, zb_1, zb_bi, true_and, bi_eq, bi_ne, oz_f, zz_t, if_true, if_false, not_true_eq_false, not_false_eq_true])
  all_goals grind (splits := 30) [bi]
theorem lp_116_16 (s0 : Int32) : sm_wp X 116 16 [some (.ref 1)] [.int s0] (sM mo G I J) Q = (Q (some (.int s0)) (sM mo G I J)) := by
  rw [bk_116_16]
  all_goals (try simp (decide := true) only [bk_116_0, bk_116_5, bk_116_10, up2_ne, up2_sn, up2_ss, ne_eq, tl_some, tl_none, zb_0, zb_1, zb_bi, true_and, bi_eq, bi_ne, oz_f, zz_t, if_true, if_false, not_true_eq_false, not_false_eq_true])
  all_goals grind (splits := 30) [bi]
end R3
