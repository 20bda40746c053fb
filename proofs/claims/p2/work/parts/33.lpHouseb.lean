/-! One turn of each loop, and the stretches between calls, by program. -/
section R3
variable (X : (Nat → Int32) × Nat) (mo : Bool) (G : Nat × Nat) (I : Nat → Nat → Int32) (J : Nat → Nat → Int64) (Q : Option Value → sm_M → Prop)
theorem lp_200_0 (x1 : Int32) (x2 : Int32) : sm_wp X 200 0 [some (.ref 0), some (.int x1), some (.int x2)] [] (sM mo G I J) Q = (if (hArt I x1) then (if x2 = 0 then (sm_wp X 10 0 [some (.ref 71), some (.int x1), none, none, none] [] (sM mo G I J) (fun v M => sm_wp X 200 52 [some (.ref 0), some (.int x1), some (.int x2)] (v.toList ++ []) M Q)) else (if x2 = 1 then (sm_wp X 10 0 [some (.ref 71), some (.int x1), none, none, none] [] (sM mo G I J) (fun v M => sm_wp X 200 66 [some (.ref 0), some (.int x1), some (.int x2)] (v.toList ++ [.int x1, .ref 71]) M Q)) else (if x2 = 2 then (sm_wp X 13 0 [some (.ref 71), some (.int x1), none, none, none] [] (sM mo G I J) (fun v M => sm_wp X 200 78 [some (.ref 0), some (.int x1), some (.int x2)] (v.toList ++ []) M Q)) else (if x2 = 3 then (sm_wp X 13 0 [some (.ref 71), some (.int x1), none, none, none] [] (sM mo G I J) (fun v M => sm_wp X 200 95 [some (.ref 0), some (.int x1), some (.int x2)] (v.toList ++ []) M Q)) else (Q (some (.int (-1))) (sM mo G I J)))))) else (Q (some (.int (-1))) (sM mo G I J))) := by
  rw [bk_200_0]
  all_goals (try simp (decide := true) only [bk_200_8, bk_200_13, bk_200_44, bk_200_52, bk_200_53, bk_200_66, bk_200_69, bk_200_70, bk_200_78, bk_200_85, bk_200_86, bk_200_87, bk_200_95, bk_200_102, bk_200_110, bk_200_111, ct_Art_isArticle, up2_ne, up2_sn, up2_ss, ne_eq, tl_some, tl_none, zb_0, zb_1, zb_bi, true_and, bi_eq, bi_ne, oz_f, zz_t, if_true, if_false, not_true_eq_false, not_false_eq_true])
  all_goals grind (splits := 30) [bi]
theorem lp_200_52 (x1 : Int32) (x2 : Int32) (s0 : Int32) : sm_wp X 200 52 [some (.ref 0), some (.int x1), some (.int x2)] [.int s0] (sM mo G I J) Q = (Q (some (.int s0)) (sM mo G I J)) := by
  rw [bk_200_52]
  all_goals (try simp (decide := true) only [bk_200_0, bk_200_8, bk_200_13, bk_200_44, bk_200_53, bk_200_66, bk_200_69, bk_200_70, bk_200_78, bk_200_85, bk_200_86, bk_200_87, bk_200_95, bk_200_102, bk_200_110, bk_200_111, up2_ne, up2_sn, up2_ss, ne_eq, tl_some, tl_none, zb_0, zb_1, zb_bi, true_and, bi_eq, bi_ne, oz_f, zz_t, if_true, if_false, not_true_eq_false, not_false_eq_true])
  all_goals grind (splits := 30) [bi]
theorem lp_200_66 (x1 : Int32) (x2 : Int32) (s1 : Int32) (s2 : Int32) : sm_wp X 200 66 [some (.ref 0), some (.int x1), some (.int x2)] [.int s2, .int s1, .ref 71] (sM mo G I J) Q = (Q (some (.int (vf_Art_draftLength I s1 s2))) (sM mo G I J)) := by
  rw [bk_200_66]
  all_goals (try simp (decide := true) only [bk_200_0, bk_200_8, bk_200_13, bk_200_44, bk_200_52, bk_200_53, bk_200_69, bk_200_70, bk_200_78, bk_200_85, bk_200_86, bk_200_87, bk_200_95, bk_200_102, bk_200_110, bk_200_111, ct_Art_draftLength, up2_ne, up2_sn, up2_ss, ne_eq, tl_some, tl_none, zb_0, zb_1, zb_bi, true_and, bi_eq, bi_ne, oz_f, zz_t, if_true, if_false, not_true_eq_false, not_false_eq_true])
  all_goals grind (splits := 30) [bi]
theorem lp_200_78 (x1 : Int32) (x2 : Int32) (s0 : Int32) : sm_wp X 200 78 [some (.ref 0), some (.int x1), some (.int x2)] [.int s0] (sM mo G I J) Q = (if s0 = 0 then (Q (some (.int 0)) (sM mo G I J)) else (Q (some (.int 1)) (sM mo G I J))) := by
  rw [bk_200_78]
  all_goals (try simp (decide := true) only [bk_200_0, bk_200_8, bk_200_13, bk_200_44, bk_200_52, bk_200_53, bk_200_66, bk_200_69, bk_200_70, bk_200_85, bk_200_86, bk_200_87, bk_200_95, bk_200_102, bk_200_110, bk_200_111, up2_ne, up2_sn, up2_ss, ne_eq, tl_some, tl_none, zb_0, zb_1, zb_bi, true_and, bi_eq, bi_ne, oz_f, zz_t, if_true, if_false, not_true_eq_false, not_false_eq_true])
  all_goals grind (splits := 30) [bi]
theorem lp_200_95 (x1 : Int32) (x2 : Int32) (s0 : Int32) : sm_wp X 200 95 [some (.ref 0), some (.int x1), some (.int x2)] [.int s0] (sM mo G I J) Q = (if s0 = 0 then (if (hArt I x1) then (vp_in x1 8 ∧ (if vf_Integer_bitCount ((I 1 2) &&& ((I 75 (x1.toNatClampNeg)) ^^^ (-1))) < 2 then (Q (some (.int 0)) (sM mo G I J)) else (Q (some (.int (vf_Integer_bitCount ((I 1 2) &&& ((I 75 (x1.toNatClampNeg)) ^^^ (-1)))))) (sM mo G I J)))) else (Q (some (.int 0)) (sM mo G I J))) else (Q (some (.int 0)) (sM mo G I J))) := by
  rw [bk_200_95]
  all_goals (try simp (decide := true) only [bk_200_0, bk_200_8, bk_200_13, bk_200_44, bk_200_52, bk_200_53, bk_200_66, bk_200_69, bk_200_70, bk_200_78, bk_200_85, bk_200_86, bk_200_87, bk_200_102, bk_200_110, bk_200_111, ct_Art_signersOf, up2_ne, up2_sn, up2_ss, ne_eq, tl_some, tl_none, zb_0, zb_1, zb_bi, true_and, bi_eq, bi_ne, oz_f, zz_t, if_true, if_false, not_true_eq_false, not_false_eq_true])
  all_goals grind (splits := 30) [bi]
theorem lp_201_0 (x1 : Int32) (x2 : Int32) (x3 : Int32) : sm_wp X 201 0 [some (.ref 0), some (.int x1), some (.int x2), some (.int x3)] [] (sM mo G I J) Q = (if (hArt I x1) then (sm_wp X 20 0 [some (.ref 71), some (.int x1), some (.int x2), some (.int x3), none] [] (sM mo G I J) (fun v M => sm_wp X 201 23 [some (.ref 0), some (.int x1), some (.int x2), some (.int x3)] (v.toList ++ []) M Q)) else (Q (some (.int (-1))) (sM mo G I J))) := by
  rw [bk_201_0]
  all_goals (try simp (decide := true) only [bk_201_8, bk_201_13, bk_201_23, ct_Art_isArticle, up2_ne, up2_sn, up2_ss, ne_eq, tl_some, tl_none, zb_0, zb_1, zb_bi, true_and, bi_eq, bi_ne, oz_f, zz_t, if_true, if_false, not_true_eq_false, not_false_eq_true])
  all_goals grind (splits := 30) [bi]
theorem lp_201_23 (x1 : Int32) (x2 : Int32) (x3 : Int32) (s0 : Int32) : sm_wp X 201 23 [some (.ref 0), some (.int x1), some (.int x2), some (.int x3)] [.int s0] (sM mo G I J) Q = (Q (some (.int s0)) (sM mo G I J)) := by
  rw [bk_201_23]
  all_goals (try simp (decide := true) only [bk_201_0, bk_201_8, bk_201_13, up2_ne, up2_sn, up2_ss, ne_eq, tl_some, tl_none, zb_0, zb_1, zb_bi, true_and, bi_eq, bi_ne, oz_f, zz_t, if_true, if_false, not_true_eq_false, not_false_eq_true])
  all_goals grind (splits := 30) [bi]
theorem lp_202_0 (x1 : Int32) : sm_wp X 202 0 [some (.ref 0), some (.int x1)] [] (sM mo G I J) Q = (if (hPres I x1) then (if ¬ (hState I x1) then (sm_wp X 86 0 [some (.ref 31), some (.int x1), none, none] [] (sM mo G I J) (fun v M => sm_wp X 202 29 [some (.ref 0), some (.int x1)] (v.toList ++ []) M Q)) else (sm_wp X 86 0 [some (.ref 31), some (.int x1), none, none] [] (sM mo G (up2 (up2 I 1 2 ((I 1 2) &&& (((1 : Int32) <<< (x1 &&& 31)) ^^^ (-1)))) 1 4 ((I 1 4) + 1)) J) (fun v M => sm_wp X 202 29 [some (.ref 0), some (.int x1)] (v.toList ++ []) M Q))) else (Q (some (.int (-1))) (sM mo G I J))) := by
  rw [bk_202_0]
  all_goals (try simp (decide := true) only [bk_202_8, bk_202_13, bk_202_21, bk_202_29, ct_Realm_isPresent, ct_Realm_removeState, up2_ne, up2_sn, up2_ss, ne_eq, tl_some, tl_none, zb_0, zb_1, zb_bi, true_and, bi_eq, bi_ne, oz_f, zz_t, if_true, if_false, not_true_eq_false, not_false_eq_true])
  all_goals grind (splits := 30) [bi]
theorem lp_202_29 (x1 : Int32) (s0 : Int32) : sm_wp X 202 29 [some (.ref 0), some (.int x1)] [.int s0] (sM mo G I J) Q = (Q (some (.int s0)) (sM mo G I J)) := by
  rw [bk_202_29]
  all_goals (try simp (decide := true) only [bk_202_0, bk_202_8, bk_202_13, bk_202_21, up2_ne, up2_sn, up2_ss, ne_eq, tl_some, tl_none, zb_0, zb_1, zb_bi, true_and, bi_eq, bi_ne, oz_f, zz_t, if_true, if_false, not_true_eq_false, not_false_eq_true])
  all_goals grind (splits := 30) [bi]
theorem lp_204_0 (x1 : Int32) : sm_wp X 204 0 [some (.ref 0), some (.int x1)] [] (sM mo G I J) Q = (if x1 = 0 then (Q (some (.int (I 1 0))) (sM mo G I J)) else (if x1 = 1 then (Q (some (.int (I 1 1))) (sM mo G I J)) else (if x1 = 2 then (Q (some (.int (I 1 2))) (sM mo G I J)) else (if x1 = 3 then (Q (some (.int (I 31 0))) (sM mo G I J)) else (if x1 = 4 then (Q (some (.int (I 1 3))) (sM mo G I J)) else (if x1 = 5 then (Q (some (.int (I 71 0))) (sM mo G I J)) else (if x1 = 6 then (Q (some (.int (I 26 0))) (sM mo G I J)) else (if x1 = 7 then (sm_wp X 116 0 [some (.ref 1)] [] (sM mo G I J) (fun v M => sm_wp X 204 111 [some (.ref 0), some (.int x1)] (v.toList ++ []) M Q)) else (Q (some (.int (-1))) (sM mo G I J)))))))))) := by
  rw [bk_204_0]
  all_goals (try simp (decide := true) only [bk_204_48, bk_204_56, bk_204_64, bk_204_72, bk_204_80, bk_204_88, bk_204_96, bk_204_104, bk_204_111, bk_204_112, up2_ne, up2_sn, up2_ss, ne_eq, tl_some, tl_none, zb_0, zb_1, zb_bi, true_and, bi_eq, bi_ne, oz_f, zz_t, if_true, if_false, not_true_eq_false, not_false_eq_true])
  all_goals grind (splits := 30) [bi]
theorem lp_204_111 (x1 : Int32) (s0 : Int32) : sm_wp X 204 111 [some (.ref 0), some (.int x1)] [.int s0] (sM mo G I J) Q = (Q (some (.int s0)) (sM mo G I J)) := by
  rw [bk_204_111]
  all_goals (try simp (decide := true) only [bk_204_0, bk_204_48, bk_204_56, bk_204_64, bk_204_72, bk_204_80, bk_204_88, bk_204_96, bk_204_104, bk_204_112, up2_ne, up2_sn, up2_ss, ne_eq, tl_some, tl_none, zb_0, zb_1, zb_bi, true_and, bi_eq, bi_ne, oz_f, zz_t, if_true, if_false, not_true_eq_false, not_false_eq_true])
  all_goals grind (splits := 30) [bi]
end R3
