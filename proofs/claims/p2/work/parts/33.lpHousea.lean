/-! One turn of each loop, and the stretches between calls, by program. -/
section R3
variable (X : (Nat → Int32) × Nat) (mo : Bool) (G : Nat × Nat) (I : Nat → Nat → Int32) (J : Nat → Nat → Int64) (Q : Option Value → sm_M → Prop)
theorem lp_167_0 (x1 : Int32) (x2 : Int32) (x3 : Int32) (x4 : Int32) (x5 : Int32) : sm_wp X 167 0 [some (.ref 0), some (.int x1), some (.int x2), some (.int x3), some (.int x4), some (.int x5)] [] (sM mo G I J) Q = (if (I 14 0) + 20 ≤ 400 then (sm_wp X 154 0 [some (.ref 14), some (.int x1), none] [] (sM mo G I J) (fun v M => sm_wp X 167 26 [some (.ref 0), some (.int x1), some (.int x2), some (.int x3), some (.int x4), some (.int x5)] (v.toList ++ []) M Q)) else (Q (some (.int (-1))) (sM mo G I J))) := by
  rw [bk_167_0]
  all_goals (try simp (decide := true) only [bk_167_18, bk_167_26, bk_167_34, bk_167_42, bk_167_51, bk_167_60, up2_ne, up2_sn, up2_ss, ne_eq, tl_some, tl_none, zb_0, zb_1, zb_bi, true_and, bi_eq, bi_ne, oz_f, zz_t, if_true, if_false, not_true_eq_false, not_false_eq_true])
  all_goals grind (splits := 30) [bi]
theorem lp_167_26 (x1 : Int32) (x2 : Int32) (x3 : Int32) (x4 : Int32) (x5 : Int32) : sm_wp X 167 26 [some (.ref 0), some (.int x1), some (.int x2), some (.int x3), some (.int x4), some (.int x5)] [] (sM mo G I J) Q = (sm_wp X 154 0 [some (.ref 14), some (.int x2), none] [] (sM mo G I J) (fun v M => sm_wp X 167 34 [some (.ref 0), some (.int x1), some (.int x2), some (.int x3), some (.int x4), some (.int x5)] (v.toList ++ []) M Q)) := by
  rw [bk_167_26]
  all_goals (try simp (decide := true) only [bk_167_0, bk_167_18, bk_167_34, bk_167_42, bk_167_51, bk_167_60, up2_ne, up2_sn, up2_ss, ne_eq, tl_some, tl_none, zb_0, zb_1, zb_bi, true_and, bi_eq, bi_ne, oz_f, zz_t, if_true, if_false, not_true_eq_false, not_false_eq_true])
  all_goals grind (splits := 30) [bi]
theorem lp_167_34 (x1 : Int32) (x2 : Int32) (x3 : Int32) (x4 : Int32) (x5 : Int32) : sm_wp X 167 34 [some (.ref 0), some (.int x1), some (.int x2), some (.int x3), some (.int x4), some (.int x5)] [] (sM mo G I J) Q = (sm_wp X 154 0 [some (.ref 14), some (.int x3), none] [] (sM mo G I J) (fun v M => sm_wp X 167 42 [some (.ref 0), some (.int x1), some (.int x2), some (.int x3), some (.int x4), some (.int x5)] (v.toList ++ []) M Q)) := by
  rw [bk_167_34]
  all_goals (try simp (decide := true) only [bk_167_0, bk_167_18, bk_167_26, bk_167_42, bk_167_51, bk_167_60, up2_ne, up2_sn, up2_ss, ne_eq, tl_some, tl_none, zb_0, zb_1, zb_bi, true_and, bi_eq, bi_ne, oz_f, zz_t, if_true, if_false, not_true_eq_false, not_false_eq_true])
  all_goals grind (splits := 30) [bi]
theorem lp_167_42 (x1 : Int32) (x2 : Int32) (x3 : Int32) (x4 : Int32) (x5 : Int32) : sm_wp X 167 42 [some (.ref 0), some (.int x1), some (.int x2), some (.int x3), some (.int x4), some (.int x5)] [] (sM mo G I J) Q = (sm_wp X 154 0 [some (.ref 14), some (.int x4), none] [] (sM mo G I J) (fun v M => sm_wp X 167 51 [some (.ref 0), some (.int x1), some (.int x2), some (.int x3), some (.int x4), some (.int x5)] (v.toList ++ []) M Q)) := by
  rw [bk_167_42]
  all_goals (try simp (decide := true) only [bk_167_0, bk_167_18, bk_167_26, bk_167_34, bk_167_51, bk_167_60, up2_ne, up2_sn, up2_ss, ne_eq, tl_some, tl_none, zb_0, zb_1, zb_bi, true_and, bi_eq, bi_ne, oz_f, zz_t, if_true, if_false, not_true_eq_false, not_false_eq_true])
  all_goals grind (splits := 30) [bi]
theorem lp_167_51 (x1 : Int32) (x2 : Int32) (x3 : Int32) (x4 : Int32) (x5 : Int32) : sm_wp X 167 51 [some (.ref 0), some (.int x1), some (.int x2), some (.int x3), some (.int x4), some (.int x5)] [] (sM mo G I J) Q = (sm_wp X 154 0 [some (.ref 14), some (.int x5), none] [] (sM mo G I J) (fun v M => sm_wp X 167 60 [some (.ref 0), some (.int x1), some (.int x2), some (.int x3), some (.int x4), some (.int x5)] (v.toList ++ []) M Q)) := by
  rw [bk_167_51]
  all_goals (try simp (decide := true) only [bk_167_0, bk_167_18, bk_167_26, bk_167_34, bk_167_42, bk_167_60, up2_ne, up2_sn, up2_ss, ne_eq, tl_some, tl_none, zb_0, zb_1, zb_bi, true_and, bi_eq, bi_ne, oz_f, zz_t, if_true, if_false, not_true_eq_false, not_false_eq_true])
  all_goals grind (splits := 30) [bi]
theorem lp_167_60 (x1 : Int32) (x2 : Int32) (x3 : Int32) (x4 : Int32) (x5 : Int32) : sm_wp X 167 60 [some (.ref 0), some (.int x1), some (.int x2), some (.int x3), some (.int x4), some (.int x5)] [] (sM mo G I J) Q = (Q (some (.int (I 14 0))) (sM mo G I J)) := by
  rw [bk_167_60]
  all_goals (try simp (decide := true) only [bk_167_0, bk_167_18, bk_167_26, bk_167_34, bk_167_42, bk_167_51, up2_ne, up2_sn, up2_ss, ne_eq, tl_some, tl_none, zb_0, zb_1, zb_bi, true_and, bi_eq, bi_ne, oz_f, zz_t, if_true, if_false, not_true_eq_false, not_false_eq_true])
  all_goals grind (splits := 30) [bi]
theorem lp_168_0 (x1 : Int32) (x2 : Int32) : sm_wp X 168 0 [some (.ref 0), some (.int x1), some (.int x2)] [] (sM mo G I J) Q = (if x1 < 0 then (Q (some (.int (-2))) (sM mo G I J)) else (if I 14 0 < x1 then (Q (some (.int (-2))) (sM mo G I J)) else (if (hState I x2) then (sm_wp X 47 0 [some (.ref 16), some (.int x1), none] [] (sM mo G I J) (fun v M => sm_wp X 168 37 [some (.ref 0), some (.int x1), some (.int x2)] (v.toList ++ []) M Q)) else (Q (some (.int (-2))) (sM mo G I J))))) := by
  rw [bk_168_0]
  all_goals (try simp (decide := true) only [bk_168_23, bk_168_26, bk_168_29, bk_168_37, bk_168_49, bk_168_61, ct_Realm_isState, up2_ne, up2_sn, up2_ss, ne_eq, tl_some, tl_none, zb_0, zb_1, zb_bi, true_and, bi_eq, bi_ne, oz_f, zz_t, if_true, if_false, not_true_eq_false, not_false_eq_true])
  all_goals grind (splits := 30) [bi]
theorem lp_168_37 (x1 : Int32) (x2 : Int32) : sm_wp X 168 37 [some (.ref 0), some (.int x1), some (.int x2)] [] (sM mo G I J) Q = (if I 16 0 = 0 then (sm_wp X 40 0 [some (.ref 21), some (.ref 16), some (.int x2), none] [] (sM mo G I J) (fun v M => sm_wp X 168 61 [some (.ref 0), some (.int x1), some (.int x2)] (v.toList ++ []) M Q)) else (Q (some (.int (-1))) (sM mo G I J))) := by
  rw [bk_168_37]
  all_goals (try simp (decide := true) only [bk_168_0, bk_168_23, bk_168_26, bk_168_29, bk_168_49, bk_168_61, up2_ne, up2_sn, up2_ss, ne_eq, tl_some, tl_none, zb_0, zb_1, zb_bi, true_and, bi_eq, bi_ne, oz_f, zz_t, if_true, if_false, not_true_eq_false, not_false_eq_true])
  all_goals grind (splits := 30) [bi]
theorem lp_168_61 (x1 : Int32) (x2 : Int32) : sm_wp X 168 61 [some (.ref 0), some (.int x1), some (.int x2)] [] (sM mo G I J) Q = (Q (some (.int (I 16 2))) (sM mo G I J)) := by
  rw [bk_168_61]
  all_goals (try simp (decide := true) only [bk_168_0, bk_168_23, bk_168_26, bk_168_29, bk_168_37, bk_168_49, up2_ne, up2_sn, up2_ss, ne_eq, tl_some, tl_none, zb_0, zb_1, zb_bi, true_and, bi_eq, bi_ne, oz_f, zz_t, if_true, if_false, not_true_eq_false, not_false_eq_true])
  all_goals grind (splits := 30) [bi]
theorem lp_178_0 (x1 : Int32) (x2 : Int32) (x3 : Int32) (x4 : Int32) (x5 : Int32) (x6 : Int32) : sm_wp X 178 0 [some (.ref 0), some (.int x1), some (.int x2), some (.int x3), some (.int x4), some (.int x5), some (.int x6), none, none] [] (sM mo G I J) Q = (if ¬ (hPres I x1) then (Q (some (.int (-1))) (sM mo G I J)) else (if ¬ (hPres I x2) then (Q (some (.int (-1))) (sM mo G I J)) else (if ¬ x1 = x2 then (if x3 ||| x4 = 0 then (Q (some (.int (-1))) (sM mo G I J)) else (if ¬ x3 &&& x4 = 0 then (Q (some (.int (-1))) (sM mo G I J)) else (if (x3 ||| x4) &&& ((((1 : Int32) <<< ((I 1 0) &&& 31)) - 1) ^^^ (-1)) = 0 then (if x5 < I 1 3 then (Q (some (.int (-1))) (sM mo G I J)) else (if 300 < x5 then (Q (some (.int (-1))) (sM mo G I J)) else (if ¬ (60 ≤ I 31 0) then (if x6 = (-1) then (sm_wp X 67 0 [some (.ref 31), some (.int x1), some (.int x2), some (.int (I 1 3))] [] (sM mo G I J) (fun v M => sm_wp X 178 132 [some (.ref 0), some (.int x1), some (.int x2), some (.int x3), some (.int x4), some (.int x5), some (.int x6), some (.int (x3 ||| x4)), none] (v.toList ++ []) M Q)) else (if (hPap I x6 ∧ ¬ I 42 (x6.toNatClampNeg) = -1) then (sm_wp X 67 0 [some (.ref 31), some (.int x1), some (.int x2), some (.int (I 1 3))] [] (sM mo G I J) (fun v M => sm_wp X 178 132 [some (.ref 0), some (.int x1), some (.int x2), some (.int x3), some (.int x4), some (.int x5), some (.int x6), some (.int (x3 ||| x4)), none] (v.toList ++ []) M Q)) else (Q (some (.int (-1))) (sM mo G I J)))) else (Q (some (.int (-1))) (sM mo G I J))))) else (Q (some (.int (-1))) (sM mo G I J))))) else (Q (some (.int (-1))) (sM mo G I J))))) := by
  rw [bk_178_0]
  all_goals (try simp (decide := true) only [bk_178_8, bk_178_19, bk_178_27, bk_178_29, bk_178_56, bk_178_62, bk_178_64, bk_178_91, bk_178_94, bk_178_96, bk_178_111, bk_178_116, bk_178_132, bk_178_150, ct_Realm_isPresent, ct_Realm_allLands, ct_Pap_isFull, ct_Pap_isOffer, up2_ne, up2_sn, up2_ss, ne_eq, tl_some, tl_none, zb_0, zb_1, zb_bi, true_and, bi_eq, bi_ne, oz_f, zz_t, if_true, if_false, not_true_eq_false, not_false_eq_true])
  all_goals grind (splits := 30) [bi]
theorem lp_178_132 (x1 : Int32) (x2 : Int32) (x3 : Int32) (x4 : Int32) (x5 : Int32) (x6 : Int32) (x7 : Int32) (s0 : Int32) : sm_wp X 178 132 [some (.ref 0), some (.int x1), some (.int x2), some (.int x3), some (.int x4), some (.int x5), some (.int x6), some (.int x7), none] [.int s0] (sM mo G I J) Q = (sm_wp X 68 0 [some (.ref 31), some (.int s0), some (.int x3), some (.int x4), some (.int x5), some (.int x6)] [] (sM mo G I J) (fun v M => sm_wp X 178 150 [some (.ref 0), some (.int x1), some (.int x2), some (.int x3), some (.int x4), some (.int x5), some (.int x6), some (.int x7), some (.int s0)] (v.toList ++ []) M Q)) := by
  rw [bk_178_132]
  all_goals (try simp (decide := true) only [bk_178_0, bk_178_8, bk_178_19, bk_178_27, bk_178_29, bk_178_56, bk_178_62, bk_178_64, bk_178_91, bk_178_94, bk_178_96, bk_178_111, bk_178_116, bk_178_150, up2_ne, up2_sn, up2_ss, ne_eq, tl_some, tl_none, zb_0, zb_1, zb_bi, true_and, bi_eq, bi_ne, oz_f, zz_t, if_true, if_false, not_true_eq_false, not_false_eq_true])
  all_goals grind (splits := 30) [bi]
theorem lp_178_150 (x1 : Int32) (x2 : Int32) (x3 : Int32) (x4 : Int32) (x5 : Int32) (x6 : Int32) (x7 : Int32) (x8 : Int32) : sm_wp X 178 150 [some (.ref 0), some (.int x1), some (.int x2), some (.int x3), some (.int x4), some (.int x5), some (.int x6), some (.int x7), some (.int x8)] [] (sM mo G I J) Q = (Q (some (.int x8)) (sM mo G I J)) := by
  rw [bk_178_150]
  all_goals (try simp (decide := true) only [bk_178_0, bk_178_8, bk_178_19, bk_178_27, bk_178_29, bk_178_56, bk_178_62, bk_178_64, bk_178_91, bk_178_94, bk_178_96, bk_178_111, bk_178_116, bk_178_132, up2_ne, up2_sn, up2_ss, ne_eq, tl_some, tl_none, zb_0, zb_1, zb_bi, true_and, bi_eq, bi_ne, oz_f, zz_t, if_true, if_false, not_true_eq_false, not_false_eq_true])
  all_goals grind (splits := 30) [bi]
theorem lp_179_0 (x1 : Int32) (x2 : Int32) (x3 : Int32) : sm_wp X 179 0 [some (.ref 0), some (.int x1), some (.int x2), some (.int x3), none] [] (sM mo G I J) Q = (if ¬ (hPres I x1) then (Q (some (.int (-1))) (sM mo G I J)) else (if ¬ (hPres I x2) then (Q (some (.int (-1))) (sM mo G I J)) else (if ¬ (¬ x3 < 1 ∧ ¬ 99 < x3) then (Q (some (.int (-1))) (sM mo G I J)) else (if ¬ (60 ≤ I 31 0) then (vp_in (I 31 0) 60 ∧ (if ¬ x1 = x2 then (if ¬ (hPap (up2 (up2 (up2 (up2 (up2 (up2 (up2 (up2 (up2 I 32 (I 31 0).toNatClampNeg x1) 33 (I 31 0).toNatClampNeg x2) 34 (I 31 0).toNatClampNeg (I 1 3)) 40 (I 31 0).toNatClampNeg (-1)) 41 (I 31 0).toNatClampNeg (-1)) 42 (I 31 0).toNatClampNeg (-1)) 43 (I 31 0).toNatClampNeg (-1)) 44 (I 31 0).toNatClampNeg (-1)) 31 0 ((I 31 0) + 1)) (((I 31 0) + 1) - 1)) then (Q (some (.int (((I 31 0) + 1) - 1))) (sM mo G (up2 (up2 (up2 (up2 (up2 (up2 (up2 (up2 (up2 I 32 (I 31 0).toNatClampNeg x1) 33 (I 31 0).toNatClampNeg x2) 34 (I 31 0).toNatClampNeg (I 1 3)) 40 (I 31 0).toNatClampNeg (-1)) 41 (I 31 0).toNatClampNeg (-1)) 42 (I 31 0).toNatClampNeg (-1)) 43 (I 31 0).toNatClampNeg (-1)) 44 (I 31 0).toNatClampNeg (-1)) 31 0 ((I 31 0) + 1)) J)) else (vp_in (((I 31 0) + 1) - 1) 60 ∧ (Q (some (.int (((I 31 0) + 1) - 1))) (sM mo G (up2 (up2 (up2 (up2 (up2 (up2 (up2 (up2 (up2 (up2 (up2 I 32 (I 31 0).toNatClampNeg x1) 33 (I 31 0).toNatClampNeg x2) 34 (I 31 0).toNatClampNeg (I 1 3)) 40 (I 31 0).toNatClampNeg (-1)) 41 (I 31 0).toNatClampNeg (-1)) 42 (I 31 0).toNatClampNeg (-1)) 43 (I 31 0).toNatClampNeg (-1)) 44 (I 31 0).toNatClampNeg (-1)) 31 0 ((I 31 0) + 1)) 35 (((I 31 0) + 1) - 1).toNatClampNeg x3) 36 (((I 31 0) + 1) - 1).toNatClampNeg 0) J)))) else (sm_wp X 151 0 [some (.ref 26), some (.int x1), some (.int (I 1 3)), none, none] [] (sM mo G (up2 (up2 (up2 (up2 (up2 (up2 (up2 (up2 (up2 I 32 (I 31 0).toNatClampNeg x1) 33 (I 31 0).toNatClampNeg x2) 34 (I 31 0).toNatClampNeg (I 1 3)) 40 (I 31 0).toNatClampNeg (-1)) 41 (I 31 0).toNatClampNeg (-1)) 42 (I 31 0).toNatClampNeg (-1)) 43 (I 31 0).toNatClampNeg (-1)) 44 (I 31 0).toNatClampNeg (-1)) 31 0 ((I 31 0) + 1)) J) (fun v M => sm_wp X 179 86 [some (.ref 0), some (.int x1), some (.int x2), some (.int x3), some (.int (((I 31 0) + 1) - 1))] (v.toList ++ [.int x3, .int (((I 31 0) + 1) - 1), .ref 31]) M Q)))) else (Q (some (.int (-1))) (sM mo G I J)))))) := by
  rw [bk_179_0]
  all_goals (try simp (decide := true) only [bk_179_8, bk_179_19, bk_179_26, bk_179_36, bk_179_39, bk_179_41, bk_179_57, bk_179_86, bk_179_89, bk_179_90, bk_179_93, ct_Realm_isPresent, ct_House_isWord, ct_Pap_isFull, ct_Pap_addPaper, ct_Pap_makeNote, up2_ne, up2_sn, up2_ss, ne_eq, tl_some, tl_none, zb_0, zb_1, zb_bi, true_and, bi_eq, bi_ne, oz_f, zz_t, if_true, if_false, not_true_eq_false, not_false_eq_true])
  all_goals grind (splits := 30) [bi]
theorem lp_179_86 (x1 : Int32) (x2 : Int32) (x3 : Int32) (x4 : Int32) (s1 : Int32) (s2 : Int32) (s3 : Int32) : sm_wp X 179 86 [some (.ref 0), some (.int x1), some (.int x2), some (.int x3), some (.int x4)] [.int s3, .int s2, .int s1, .ref 31] (sM mo G I J) Q = (if ¬ (hPap I s1) then (Q (some (.int x4)) (sM mo G I J)) else (vp_in s1 60 ∧ (Q (some (.int x4)) (sM mo G (up2 (up2 I 35 s1.toNatClampNeg s2) 36 s1.toNatClampNeg s3) J)))) := by
  rw [bk_179_86]
  all_goals (try simp (decide := true) only [bk_179_0, bk_179_8, bk_179_19, bk_179_26, bk_179_36, bk_179_39, bk_179_41, bk_179_57, bk_179_89, bk_179_90, bk_179_93, ct_Pap_makeNote, up2_ne, up2_sn, up2_ss, ne_eq, tl_some, tl_none, zb_0, zb_1, zb_bi, true_and, bi_eq, bi_ne, oz_f, zz_t, if_true, if_false, not_true_eq_false, not_false_eq_true])
  all_goals grind (splits := 30) [bi]
theorem lp_182_0 (x1 : Int32) : sm_wp X 182 0 [some (.ref 0), some (.int x1), none] [] (sM mo G I J) Q = (if x1 < 1 then (Q (some (.int (-1))) (sM mo G I J)) else (if 50 < x1 then (Q (some (.int (-1))) (sM mo G I J)) else (if (I 1 3) + x1 ≤ 300 then (sm_wp X 182 30 [some (.ref 0), some (.int x1), some (.int 0)] [] (sM mo G I J) Q) else (Q (some (.int (-1))) (sM mo G I J))))) := by
  rw [bk_182_0]
  all_goals (try simp (decide := true) only [bk_182_26, bk_182_28, bk_182_42, bk_182_48, up2_ne, up2_sn, up2_ss, ne_eq, tl_some, tl_none, zb_0, zb_1, zb_bi, true_and, bi_eq, bi_ne, oz_f, zz_t, if_true, if_false, not_true_eq_false, not_false_eq_true])
  all_goals grind (splits := 30) [bi]
theorem lp_182_30 (x1 : Int32) (x2 : Int32) : sm_wp X 182 30 [some (.ref 0), some (.int x1), some (.int x2)] [] (sM mo G I J) Q = (if x1 ≤ x2 then (Q (some (.int (I 1 3))) (sM mo G I J)) else (sm_wp X 22 0 [some (.ref 45), none, none] [] (sM mo G I J) (fun v M => sm_wp X 182 42 [some (.ref 0), some (.int x1), some (.int x2)] (v.toList ++ []) M Q))) := by
  rw [bk_182_30]
  all_goals (try simp (decide := true) only [bk_182_0, bk_182_26, bk_182_28, bk_182_42, bk_182_48, up2_ne, up2_sn, up2_ss, ne_eq, tl_some, tl_none, zb_0, zb_1, zb_bi, true_and, bi_eq, bi_ne, oz_f, zz_t, if_true, if_false, not_true_eq_false, not_false_eq_true])
  all_goals grind (splits := 30) [bi]
theorem lp_182_42 (x1 : Int32) (x2 : Int32) : sm_wp X 182 42 [some (.ref 0), some (.int x1), some (.int x2)] [] (sM mo G I J) Q = (sm_wp X 182 30 [some (.ref 0), some (.int x1), some (.int (x2 + 1))] [] (sM mo G I J) Q) := by
  rw [bk_182_42]
  all_goals (try simp (decide := true) only [bk_182_0, bk_182_26, bk_182_28, bk_182_48, up2_ne, up2_sn, up2_ss, ne_eq, tl_some, tl_none, zb_0, zb_1, zb_bi, true_and, bi_eq, bi_ne, oz_f, zz_t, if_true, if_false, not_true_eq_false, not_false_eq_true])
  all_goals grind (splits := 30) [bi]
theorem lp_184_0 (x1 : Int32) : sm_wp X 184 0 [some (.ref 0), some (.int x1)] [] (sM mo G I J) Q = (if ¬ (hPap I x1 ∧ ¬ I 42 (x1.toNatClampNeg) = -1) then (Q (some (.int (-1))) (sM mo G I J)) else (sm_wp X 24 0 [some (.ref 45), some (.int x1), some (.int 0), none, none, none, none, none] [] (sM mo G I J) (fun v M => sm_wp X 184 20 [some (.ref 0), some (.int x1)] (v.toList ++ []) M Q))) := by
  rw [bk_184_0]
  all_goals (try simp (decide := true) only [bk_184_8, bk_184_20, bk_184_23, bk_184_24, ct_Pap_isOffer, up2_ne, up2_sn, up2_ss, ne_eq, tl_some, tl_none, zb_0, zb_1, zb_bi, true_and, bi_eq, bi_ne, oz_f, zz_t, if_true, if_false, not_true_eq_false, not_false_eq_true])
  all_goals grind (splits := 30) [bi]
theorem lp_184_20 (x1 : Int32) (s0 : Int32) : sm_wp X 184 20 [some (.ref 0), some (.int x1)] [.int s0] (sM mo G I J) Q = (Q (some (.int s0)) (sM mo G I J)) := by
  rw [bk_184_20]
  all_goals (try simp (decide := true) only [bk_184_0, bk_184_8, bk_184_23, bk_184_24, up2_ne, up2_sn, up2_ss, ne_eq, tl_some, tl_none, zb_0, zb_1, zb_bi, true_and, bi_eq, bi_ne, oz_f, zz_t, if_true, if_false, not_true_eq_false, not_false_eq_true])
  all_goals grind (splits := 30) [bi]
theorem lp_185_0 (x1 : Int32) (x2 : Int32) : sm_wp X 185 0 [some (.ref 0), some (.int x1), some (.int x2)] [] (sM mo G I J) Q = (if ¬ (hPap I x1 ∧ ¬ I 42 (x1.toNatClampNeg) = -1) then (Q (some (.long (-9223372036854775808))) (sM mo G I J)) else (if (vf_Book_isLine I (aPap I 33 (-1) x1) x2) then (sm_wp X 25 0 [some (.ref 45), some (.int x1), none, none, none, none, none, none] [] (sM mo G I J) (fun v M => sm_wp X 185 42 [some (.ref 0), some (.int x1), some (.int x2)] (v.toList ++ []) M Q)) else (Q (some (.long (-9223372036854775808))) (sM mo G I J)))) := by
  rw [bk_185_0]
  all_goals (try simp (decide := true) only [bk_185_8, bk_185_23, bk_185_27, bk_185_30, bk_185_34, bk_185_42, bk_185_54, bk_185_58, ct_Pap_isOffer, ct_Pap_receiver, ct_Book_isLine, up2_ne, up2_sn, up2_ss, ne_eq, tl_some, tl_none, zb_0, zb_1, zb_bi, true_and, bi_eq, bi_ne, oz_f, zz_t, if_true, if_false, not_true_eq_false, not_false_eq_true])
  all_goals grind (splits := 30) [bi]
theorem lp_185_42 (x1 : Int32) (x2 : Int32) : sm_wp X 185 42 [some (.ref 0), some (.int x1), some (.int x2)] [] (sM mo G I J) Q = (sm_wp X 26 0 [some (.ref 45), some (.int (aPap I 33 (-1) x1)), some (.int x2), none, none, none, none] [] (sM mo G I J) (fun v M => sm_wp X 185 58 [some (.ref 0), some (.int x1), some (.int x2)] (v.toList ++ []) M Q)) := by
  rw [bk_185_42]
  all_goals (try simp (decide := true) only [bk_185_0, bk_185_8, bk_185_23, bk_185_27, bk_185_30, bk_185_34, bk_185_54, bk_185_58, ct_Pap_receiver, up2_ne, up2_sn, up2_ss, ne_eq, tl_some, tl_none, zb_0, zb_1, zb_bi, true_and, bi_eq, bi_ne, oz_f, zz_t, if_true, if_false, not_true_eq_false, not_false_eq_true])
  all_goals grind (splits := 30) [bi]
theorem lp_185_58 (x1 : Int32) (x2 : Int32) (s0 : Int64) : sm_wp X 185 58 [some (.ref 0), some (.int x1), some (.int x2)] [.long s0] (sM mo G I J) Q = (Q (some (.long s0)) (sM mo G I J)) := by
  rw [bk_185_58]
  all_goals (try simp (decide := true) only [bk_185_0, bk_185_8, bk_185_23, bk_185_27, bk_185_30, bk_185_34, bk_185_42, bk_185_54, up2_ne, up2_sn, up2_ss, ne_eq, tl_some, tl_none, zb_0, zb_1, zb_bi, true_and, bi_eq, bi_ne, oz_f, zz_t, if_true, if_false, not_true_eq_false, not_false_eq_true])
  all_goals grind (splits := 30) [bi]
theorem lp_187_0 (x1 : Int32) (x2 : Int32) (x3 : Int32) : sm_wp X 187 0 [some (.ref 0), some (.int x1), some (.int x2), some (.int x3)] [] (sM mo G I J) Q = (if ¬ (hState I x1) then (Q (some (.int (-1))) (sM mo G I J)) else (if x2 < 0 then (Q (some (.int (-1))) (sM mo G I J)) else (if I 1 3 < x2 then (Q (some (.int (-1))) (sM mo G I J)) else (if (¬ x3 < 1 ∧ ¬ 99 < x3) then (sm_wp X 85 0 [some (.ref 31), some (.int x1), some (.int x2), some (.int x3), none, none, none] [] (sM mo G I J) (fun v M => sm_wp X 187 45 [some (.ref 0), some (.int x1), some (.int x2), some (.int x3)] (v.toList ++ []) M Q)) else (Q (some (.int (-1))) (sM mo G I J)))))) := by
  rw [bk_187_0]
  all_goals (try simp (decide := true) only [bk_187_8, bk_187_30, bk_187_33, bk_187_35, bk_187_45, ct_Realm_isState, ct_House_isWord, up2_ne, up2_sn, up2_ss, ne_eq, tl_some, tl_none, zb_0, zb_1, zb_bi, true_and, bi_eq, bi_ne, oz_f, zz_t, if_true, if_false, not_true_eq_false, not_false_eq_true])
  all_goals grind (splits := 30) [bi]
theorem lp_187_45 (x1 : Int32) (x2 : Int32) (x3 : Int32) (s0 : Int32) : sm_wp X 187 45 [some (.ref 0), some (.int x1), some (.int x2), some (.int x3)] [.int s0] (sM mo G I J) Q = (Q (some (.int s0)) (sM mo G I J)) := by
  rw [bk_187_45]
  all_goals (try simp (decide := true) only [bk_187_0, bk_187_8, bk_187_30, bk_187_33, bk_187_35, up2_ne, up2_sn, up2_ss, ne_eq, tl_some, tl_none, zb_0, zb_1, zb_bi, true_and, bi_eq, bi_ne, oz_f, zz_t, if_true, if_false, not_true_eq_false, not_false_eq_true])
  all_goals grind (splits := 30) [bi]
theorem lp_188_0 (x1 : Int32) : sm_wp X 188 0 [some (.ref 0), some (.int x1)] [] (sM mo G I J) Q = (if ¬ (hState I x1) then (Q (some (.int (-1))) (sM mo G I J)) else (sm_wp X 111 0 [some (.ref 1), some (.int x1)] [] (sM mo G I J) (fun v M => sm_wp X 188 19 [some (.ref 0), some (.int x1)] (v.toList ++ []) M Q))) := by
  rw [bk_188_0]
  all_goals (try simp (decide := true) only [bk_188_8, bk_188_19, bk_188_22, bk_188_23, ct_Realm_isState, up2_ne, up2_sn, up2_ss, ne_eq, tl_some, tl_none, zb_0, zb_1, zb_bi, true_and, bi_eq, bi_ne, oz_f, zz_t, if_true, if_false, not_true_eq_false, not_false_eq_true])
  all_goals grind (splits := 30) [bi]
theorem lp_188_19 (x1 : Int32) (s0 : Int32) : sm_wp X 188 19 [some (.ref 0), some (.int x1)] [.int s0] (sM mo G I J) Q = (Q (some (.int s0)) (sM mo G I J)) := by
  rw [bk_188_19]
  all_goals (try simp (decide := true) only [bk_188_0, bk_188_8, bk_188_22, bk_188_23, up2_ne, up2_sn, up2_ss, ne_eq, tl_some, tl_none, zb_0, zb_1, zb_bi, true_and, bi_eq, bi_ne, oz_f, zz_t, if_true, if_false, not_true_eq_false, not_false_eq_true])
  all_goals grind (splits := 30) [bi]
theorem lp_189_0 (x1 : Int32) : sm_wp X 189 0 [some (.ref 0), some (.int x1)] [] (sM mo G I J) Q = (if x1 < 0 then (Q (some (.int (-1))) (sM mo G I J)) else (if x1 ≤ 3 then (if ¬ x1 = 0 then (sm_wp X 128 0 [some (.ref 52), some (.int (I 1 2)), none, none] [] (sM mo G I J) (fun v M => sm_wp X 189 44 [some (.ref 0), some (.int x1)] (v.toList ++ []) M Q)) else (sm_wp X 112 0 [some (.ref 1), some (.int (I 1 2)), none, none] [] (sM mo G I J) (fun v M => sm_wp X 189 29 [some (.ref 0), some (.int x1)] (v.toList ++ []) M Q))) else (Q (some (.int (-1))) (sM mo G I J)))) := by
  rw [bk_189_0]
  all_goals (try simp (decide := true) only [bk_189_9, bk_189_11, bk_189_29, bk_189_30, bk_189_44, bk_189_52, up2_ne, up2_sn, up2_ss, ne_eq, tl_some, tl_none, zb_0, zb_1, zb_bi, true_and, bi_eq, bi_ne, oz_f, zz_t, if_true, if_false, not_true_eq_false, not_false_eq_true])
  all_goals grind (splits := 30) [bi]
theorem lp_189_29 (x1 : Int32) (s0 : Int32) : sm_wp X 189 29 [some (.ref 0), some (.int x1)] [.int s0] (sM mo G I J) Q = (Q (some (.int s0)) (sM mo G I J)) := by
  rw [bk_189_29]
  all_goals (try simp (decide := true) only [bk_189_0, bk_189_9, bk_189_11, bk_189_30, bk_189_44, bk_189_52, up2_ne, up2_sn, up2_ss, ne_eq, tl_some, tl_none, zb_0, zb_1, zb_bi, true_and, bi_eq, bi_ne, oz_f, zz_t, if_true, if_false, not_true_eq_false, not_false_eq_true])
  all_goals grind (splits := 30) [bi]
theorem lp_189_44 (x1 : Int32) : sm_wp X 189 44 [some (.ref 0), some (.int x1)] [] (sM mo G I J) Q = (sm_wp X 138 0 [some (.ref 52), some (.int x1)] [] (sM mo G I J) (fun v M => sm_wp X 189 52 [some (.ref 0), some (.int x1)] (v.toList ++ []) M Q)) := by
  rw [bk_189_44]
  all_goals (try simp (decide := true) only [bk_189_0, bk_189_9, bk_189_11, bk_189_29, bk_189_30, bk_189_52, up2_ne, up2_sn, up2_ss, ne_eq, tl_some, tl_none, zb_0, zb_1, zb_bi, true_and, bi_eq, bi_ne, oz_f, zz_t, if_true, if_false, not_true_eq_false, not_false_eq_true])
  all_goals grind (splits := 30) [bi]
theorem lp_189_52 (x1 : Int32) (s0 : Int32) : sm_wp X 189 52 [some (.ref 0), some (.int x1)] [.int s0] (sM mo G I J) Q = (Q (some (.int s0)) (sM mo G I J)) := by
  rw [bk_189_52]
  all_goals (try simp (decide := true) only [bk_189_0, bk_189_9, bk_189_11, bk_189_29, bk_189_30, bk_189_44, up2_ne, up2_sn, up2_ss, ne_eq, tl_some, tl_none, zb_0, zb_1, zb_bi, true_and, bi_eq, bi_ne, oz_f, zz_t, if_true, if_false, not_true_eq_false, not_false_eq_true])
  all_goals grind (splits := 30) [bi]
theorem lp_190_0 (x1 : Int32) : sm_wp X 190 0 [some (.ref 0), some (.int x1)] [] (sM mo G I J) Q = (sm_wp X 128 0 [some (.ref 52), some (.int (I 1 2)), none, none] [] (sM mo G I J) (fun v M => sm_wp X 190 14 [some (.ref 0), some (.int x1)] (v.toList ++ []) M Q)) := by
  rw [bk_190_0]
  all_goals (try simp (decide := true) only [bk_190_14, bk_190_22, up2_ne, up2_sn, up2_ss, ne_eq, tl_some, tl_none, zb_0, zb_1, zb_bi, true_and, bi_eq, bi_ne, oz_f, zz_t, if_true, if_false, not_true_eq_false, not_false_eq_true])
  all_goals grind (splits := 30) [bi]
theorem lp_190_14 (x1 : Int32) : sm_wp X 190 14 [some (.ref 0), some (.int x1)] [] (sM mo G I J) Q = (sm_wp X 139 0 [some (.ref 52), some (.int x1)] [] (sM mo G I J) (fun v M => sm_wp X 190 22 [some (.ref 0), some (.int x1)] (v.toList ++ []) M Q)) := by
  rw [bk_190_14]
  all_goals (try simp (decide := true) only [bk_190_0, bk_190_22, up2_ne, up2_sn, up2_ss, ne_eq, tl_some, tl_none, zb_0, zb_1, zb_bi, true_and, bi_eq, bi_ne, oz_f, zz_t, if_true, if_false, not_true_eq_false, not_false_eq_true])
  all_goals grind (splits := 30) [bi]
theorem lp_190_22 (x1 : Int32) (s0 : Int32) : sm_wp X 190 22 [some (.ref 0), some (.int x1)] [.int s0] (sM mo G I J) Q = (Q (some (.int s0)) (sM mo G I J)) := by
  rw [bk_190_22]
  all_goals (try simp (decide := true) only [bk_190_0, bk_190_14, up2_ne, up2_sn, up2_ss, ne_eq, tl_some, tl_none, zb_0, zb_1, zb_bi, true_and, bi_eq, bi_ne, oz_f, zz_t, if_true, if_false, not_true_eq_false, not_false_eq_true])
  all_goals grind (splits := 30) [bi]
theorem lp_191_0 (x1 : Int32) (x2 : Int32) : sm_wp X 191 0 [some (.ref 0), some (.int x1), some (.int x2)] [] (sM mo G I J) Q = (if (hPres I x1) then (sm_wp X 128 0 [some (.ref 60), some (.int ((I 1 2) &&& (((1 : Int32) <<< (x1 &&& 31)) ^^^ (-1)))), none, none] [] (sM mo G I J) (fun v M => sm_wp X 191 33 [some (.ref 0), some (.int x1), some (.int x2)] (v.toList ++ []) M Q)) else (Q (some (.int (-1))) (sM mo G I J))) := by
  rw [bk_191_0]
  all_goals (try simp (decide := true) only [bk_191_8, bk_191_13, bk_191_33, bk_191_41, ct_Realm_isPresent, up2_ne, up2_sn, up2_ss, ne_eq, tl_some, tl_none, zb_0, zb_1, zb_bi, true_and, bi_eq, bi_ne, oz_f, zz_t, if_true, if_false, not_true_eq_false, not_false_eq_true])
  all_goals grind (splits := 30) [bi]
theorem lp_191_33 (x1 : Int32) (x2 : Int32) : sm_wp X 191 33 [some (.ref 0), some (.int x1), some (.int x2)] [] (sM mo G I J) Q = (sm_wp X 139 0 [some (.ref 60), some (.int x2)] [] (sM mo G I J) (fun v M => sm_wp X 191 41 [some (.ref 0), some (.int x1), some (.int x2)] (v.toList ++ []) M Q)) := by
  rw [bk_191_33]
  all_goals (try simp (decide := true) only [bk_191_0, bk_191_8, bk_191_13, bk_191_41, up2_ne, up2_sn, up2_ss, ne_eq, tl_some, tl_none, zb_0, zb_1, zb_bi, true_and, bi_eq, bi_ne, oz_f, zz_t, if_true, if_false, not_true_eq_false, not_false_eq_true])
  all_goals grind (splits := 30) [bi]
theorem lp_191_41 (x1 : Int32) (x2 : Int32) (s0 : Int32) : sm_wp X 191 41 [some (.ref 0), some (.int x1), some (.int x2)] [.int s0] (sM mo G I J) Q = (Q (some (.int s0)) (sM mo G I J)) := by
  rw [bk_191_41]
  all_goals (try simp (decide := true) only [bk_191_0, bk_191_8, bk_191_13, bk_191_33, up2_ne, up2_sn, up2_ss, ne_eq, tl_some, tl_none, zb_0, zb_1, zb_bi, true_and, bi_eq, bi_ne, oz_f, zz_t, if_true, if_false, not_true_eq_false, not_false_eq_true])
  all_goals grind (splits := 30) [bi]
theorem lp_192_0  : sm_wp X 192 0 [some (.ref 0)] [] (sM mo G I J) Q = (sm_wp X 128 0 [some (.ref 52), some (.int (I 1 2)), none, none] [] (sM mo G I J) (fun v M => sm_wp X 192 14 [some (.ref 0)] (v.toList ++ []) M Q)) := by
  rw [bk_192_0]
  all_goals (try simp (decide := true) only [bk_192_14, bk_192_21, up2_ne, up2_sn, up2_ss, ne_eq, tl_some, tl_none, zb_0, zb_1, zb_bi, true_and, bi_eq, bi_ne, oz_f, zz_t, if_true, if_false, not_true_eq_false, not_false_eq_true])
  all_goals grind (splits := 30) [bi]
theorem lp_192_14  : sm_wp X 192 14 [some (.ref 0)] [] (sM mo G I J) Q = (sm_wp X 141 0 [some (.ref 52), none, none] [] (sM mo G I J) (fun v M => sm_wp X 192 21 [some (.ref 0)] (v.toList ++ []) M Q)) := by
  rw [bk_192_14]
  all_goals (try simp (decide := true) only [bk_192_0, bk_192_21, up2_ne, up2_sn, up2_ss, ne_eq, tl_some, tl_none, zb_0, zb_1, zb_bi, true_and, bi_eq, bi_ne, oz_f, zz_t, if_true, if_false, not_true_eq_false, not_false_eq_true])
  all_goals grind (splits := 30) [bi]
theorem lp_192_21 (s0 : Int32) : sm_wp X 192 21 [some (.ref 0)] [.int s0] (sM mo G I J) Q = (Q (some (.int s0)) (sM mo G I J)) := by
  rw [bk_192_21]
  all_goals (try simp (decide := true) only [bk_192_0, bk_192_14, up2_ne, up2_sn, up2_ss, ne_eq, tl_some, tl_none, zb_0, zb_1, zb_bi, true_and, bi_eq, bi_ne, oz_f, zz_t, if_true, if_false, not_true_eq_false, not_false_eq_true])
  all_goals grind (splits := 30) [bi]
theorem lp_193_0 (x1 : Int32) : sm_wp X 193 0 [some (.ref 0), some (.int x1)] [] (sM mo G I J) Q = (sm_wp X 143 0 [some (.ref 52), some (.int (I 1 2)), some (.int x1), none, none] [] (sM mo G I J) (fun v M => sm_wp X 193 15 [some (.ref 0), some (.int x1)] (v.toList ++ []) M Q)) := by
  rw [bk_193_0]
  all_goals (try simp (decide := true) only [bk_193_15, up2_ne, up2_sn, up2_ss, ne_eq, tl_some, tl_none, zb_0, zb_1, zb_bi, true_and, bi_eq, bi_ne, oz_f, zz_t, if_true, if_false, not_true_eq_false, not_false_eq_true])
  all_goals grind (splits := 30) [bi]
theorem lp_193_15 (x1 : Int32) (s0 : Int32) : sm_wp X 193 15 [some (.ref 0), some (.int x1)] [.int s0] (sM mo G I J) Q = (Q (some (.int s0)) (sM mo G I J)) := by
  rw [bk_193_15]
  all_goals (try simp (decide := true) only [bk_193_0, up2_ne, up2_sn, up2_ss, ne_eq, tl_some, tl_none, zb_0, zb_1, zb_bi, true_and, bi_eq, bi_ne, oz_f, zz_t, if_true, if_false, not_true_eq_false, not_false_eq_true])
  all_goals grind (splits := 30) [bi]
theorem lp_194_0 (x1 : Int32) : sm_wp X 194 0 [some (.ref 0), some (.int x1)] [] (sM mo G I J) Q = (sm_wp X 119 0 [some (.ref 68), none] [] (sM mo G I J) (fun v M => sm_wp X 194 7 [some (.ref 0), some (.int x1)] (v.toList ++ []) M Q)) := by
  rw [bk_194_0]
  all_goals (try simp (decide := true) only [bk_194_7, bk_194_15, up2_ne, up2_sn, up2_ss, ne_eq, tl_some, tl_none, zb_0, zb_1, zb_bi, true_and, bi_eq, bi_ne, oz_f, zz_t, if_true, if_false, not_true_eq_false, not_false_eq_true])
  all_goals grind (splits := 30) [bi]
theorem lp_194_7 (x1 : Int32) : sm_wp X 194 7 [some (.ref 0), some (.int x1)] [] (sM mo G I J) Q = (if ¬ x1 = 0 then (if x1 < 1 then (if (x1 - 1) - 4 < 0 then (Q (some (.int (-1))) (sM mo G I J)) else (if 4 ≤ (x1 - 1) - 4 then (Q (some (.int (-1))) (sM mo G I J)) else (if I 68 3 ≤ (x1 - 1) - 4 then (Q (some (.int (-1))) (sM mo G I J)) else (vp_in ((x1 - 1) - 4) 4 ∧ (Q (some (.int (I 70 (((x1 - 1) - 4).toNatClampNeg)))) (sM mo G I J)))))) else (if 4 < x1 then (if (x1 - 1) - 4 < 0 then (Q (some (.int (-1))) (sM mo G I J)) else (if 4 ≤ (x1 - 1) - 4 then (Q (some (.int (-1))) (sM mo G I J)) else (if I 68 3 ≤ (x1 - 1) - 4 then (Q (some (.int (-1))) (sM mo G I J)) else (vp_in ((x1 - 1) - 4) 4 ∧ (Q (some (.int (I 70 (((x1 - 1) - 4).toNatClampNeg)))) (sM mo G I J)))))) else (if I 68 3 < x1 then (Q (some (.int (-1))) (sM mo G I J)) else (vp_in (x1 - 1) 4 ∧ (Q (some (.int (I 69 ((x1 - 1).toNatClampNeg)))) (sM mo G I J)))))) else (Q (some (.int (I 68 3))) (sM mo G I J))) := by
  rw [bk_194_7]
  all_goals (try simp (decide := true) only [bk_194_0, bk_194_15, ct_Ring_tell, up2_ne, up2_sn, up2_ss, ne_eq, tl_some, tl_none, zb_0, zb_1, zb_bi, true_and, bi_eq, bi_ne, oz_f, zz_t, if_true, if_false, not_true_eq_false, not_false_eq_true])
  all_goals grind (splits := 30) [bi]
theorem lp_199_0 (x1 : Int32) (x2 : Int32) (x3 : Int32) : sm_wp X 199 0 [some (.ref 0), some (.int x1), some (.int x2), some (.int x3)] [] (sM mo G I J) Q = (if vf_Art_draftLength I x1 x2 = 0 then (Q (some (.int (-1))) (sM mo G I J)) else (if ¬ vf_Art_draftLength I x1 x3 = 0 then (sm_wp X 8 0 [some (.ref 71), some (.int x1), some (.int x2), some (.int x3), none, none, none, none, none, none, none] [] (sM mo G I J) (fun v M => sm_wp X 199 36 [some (.ref 0), some (.int x1), some (.int x2), some (.int x3)] (v.toList ++ []) M Q)) else (Q (some (.int (-1))) (sM mo G I J)))) := by
  rw [bk_199_0]
  all_goals (try simp (decide := true) only [bk_199_9, bk_199_21, bk_199_24, bk_199_26, bk_199_36, ct_Art_draftLength, up2_ne, up2_sn, up2_ss, ne_eq, tl_some, tl_none, zb_0, zb_1, zb_bi, true_and, bi_eq, bi_ne, oz_f, zz_t, if_true, if_false, not_true_eq_false, not_false_eq_true])
  all_goals grind (splits := 30) [bi]
theorem lp_199_36 (x1 : Int32) (x2 : Int32) (x3 : Int32) (s0 : Int32) : sm_wp X 199 36 [some (.ref 0), some (.int x1), some (.int x2), some (.int x3)] [.int s0] (sM mo G I J) Q = (Q (some (.int s0)) (sM mo G I J)) := by
  rw [bk_199_36]
  all_goals (try simp (decide := true) only [bk_199_0, bk_199_9, bk_199_21, bk_199_24, bk_199_26, up2_ne, up2_sn, up2_ss, ne_eq, tl_some, tl_none, zb_0, zb_1, zb_bi, true_and, bi_eq, bi_ne, oz_f, zz_t, if_true, if_false, not_true_eq_false, not_false_eq_true])
  all_goals grind (splits := 30) [bi]
end R3
