/-! One turn of each loop, and the stretches between calls, by program. -/
section R3
variable (X : (Nat → Int32) × Nat) (mo : Bool) (G : Nat × Nat) (I : Nat → Nat → Int32) (J : Nat → Nat → Int64) (Q : Option Value → sm_M → Prop)
theorem lpw_139_39 (x1 : Int32) (s0 : Int32) : sm_wp X 139 39 [some (.ref 60), some (.int x1)] [.int s0] (sM mo G I J) Q = (Q (some (.int s0)) (sM mo G I J)) := by
  rw [bkw_139_39]
  all_goals (try simp (decide := true) only [bkw_139_0, bkw_139_10, bkw_139_21, bkw_139_34, up2_ne, up2_sn, up2_ss, ne_eq, tl_some, tl_none, zb_0, zb_1, zb_bi, true_and, bi_eq, bi_ne, oz_f, zz_t, if_true, if_false, not_true_eq_false, not_false_eq_true])
  all_goals grind (splits := 30) [bi]
theorem lpb_139_0 (b : Nat) (hb : b = 52 ∨ b = 60) (x1 : Int32) : sm_wp X 139 0 [some (.ref b), some (.int x1)] [] (sM mo G I J) Q = (if ¬ I b 17 = (-1) then (if ¬ x1 = 12 then (if ¬ x1 = 13 then (sm_wp X 140 0 [some (.ref b), some (.int x1), none] [] (sM mo G I J) (fun v M => sm_wp X 139 39 [some (.ref b), some (.int x1)] (v.toList ++ []) M Q)) else (Q (some (.int (I b 18))) (sM mo G I J))) else (Q (some (.int (I b 17))) (sM mo G I J))) else (Q (some (.int (-1))) (sM mo G I J))) := by
  rcases hb with rfl | rfl
  · exact lp_139_0 X mo G I J Q x1
  · exact lpw_139_0 X mo G I J Q x1
theorem lpb_139_39 (b : Nat) (hb : b = 52 ∨ b = 60) (x1 : Int32) (s0 : Int32) : sm_wp X 139 39 [some (.ref b), some (.int x1)] [.int s0] (sM mo G I J) Q = (Q (some (.int s0)) (sM mo G I J)) := by
  rcases hb with rfl | rfl
  · exact lp_139_39 X mo G I J Q x1 s0
  · exact lpw_139_39 X mo G I J Q x1 s0
theorem lp_140_0 (x1 : Int32) : sm_wp X 140 0 [some (.ref 52), some (.int x1), none] [] (sM mo G I J) Q = (sm_wp X 140 2 [some (.ref 52), some (.int x1), some (.int 0)] [] (sM mo G I J) Q) := by
  rw [bk_140_0]
  all_goals (try simp (decide := true) only [bk_140_33, bk_140_39, bk_140_47, up2_ne, up2_sn, up2_ss, ne_eq, tl_some, tl_none, zb_0, zb_1, zb_bi, true_and, bi_eq, bi_ne, oz_f, zz_t, if_true, if_false, not_true_eq_false, not_false_eq_true])
  all_goals grind (splits := 30) [bi]
theorem lp_140_2 (x1 : Int32) (x2 : Int32) : sm_wp X 140 2 [some (.ref 52), some (.int x1), some (.int x2)] [] (sM mo G I J) Q = (if I 52 5 ≤ x2 then (Q (some (.int (aLand I 4 (-1) x1))) (sM mo G I J)) else (if 8 ≤ x2 then (Q (some (.int (aLand I 4 (-1) x1))) (sM mo G I J)) else (vp_in x2 8 ∧ (if ¬ I 53 (x2.toNatClampNeg) = x1 then (sm_wp X 140 2 [some (.ref 52), some (.int x1), some (.int (x2 + 1))] [] (sM mo G I J) Q) else (Q (some (.int (I 59 (x2.toNatClampNeg)))) (sM mo G I J)))))) := by
  rw [bk_140_2]
  all_goals (try simp (decide := true) only [bk_140_0, bk_140_33, bk_140_39, bk_140_47, ct_Realm_holderOf, up2_ne, up2_sn, up2_ss, ne_eq, tl_some, tl_none, zb_0, zb_1, zb_bi, true_and, bi_eq, bi_ne, oz_f, zz_t, if_true, if_false, not_true_eq_false, not_false_eq_true])
  all_goals grind (splits := 30) [bi]
theorem lpw_140_0 (x1 : Int32) : sm_wp X 140 0 [some (.ref 60), some (.int x1), none] [] (sM mo G I J) Q = (sm_wp X 140 2 [some (.ref 60), some (.int x1), some (.int 0)] [] (sM mo G I J) Q) := by
  rw [bkw_140_0]
  all_goals (try simp (decide := true) only [bkw_140_33, bkw_140_39, bkw_140_47, up2_ne, up2_sn, up2_ss, ne_eq, tl_some, tl_none, zb_0, zb_1, zb_bi, true_and, bi_eq, bi_ne, oz_f, zz_t, if_true, if_false, not_true_eq_false, not_false_eq_true])
  all_goals grind (splits := 30) [bi]
theorem lpw_140_2 (x1 : Int32) (x2 : Int32) : sm_wp X 140 2 [some (.ref 60), some (.int x1), some (.int x2)] [] (sM mo G I J) Q = (if I 60 5 ≤ x2 then (Q (some (.int (aLand I 4 (-1) x1))) (sM mo G I J)) else (if 8 ≤ x2 then (Q (some (.int (aLand I 4 (-1) x1))) (sM mo G I J)) else (vp_in x2 8 ∧ (if ¬ I 61 (x2.toNatClampNeg) = x1 then (sm_wp X 140 2 [some (.ref 60), some (.int x1), some (.int (x2 + 1))] [] (sM mo G I J) Q) else (Q (some (.int (I 67 (x2.toNatClampNeg)))) (sM mo G I J)))))) := by
  rw [bkw_140_2]
  all_goals (try simp (decide := true) only [bkw_140_0, bkw_140_33, bkw_140_39, bkw_140_47, ct_Realm_holderOf, up2_ne, up2_sn, up2_ss, ne_eq, tl_some, tl_none, zb_0, zb_1, zb_bi, true_and, bi_eq, bi_ne, oz_f, zz_t, if_true, if_false, not_true_eq_false, not_false_eq_true])
  all_goals grind (splits := 30) [bi]
theorem lpb_140_0 (b : Nat) (hb : b = 52 ∨ b = 60) (x1 : Int32) : sm_wp X 140 0 [some (.ref b), some (.int x1), none] [] (sM mo G I J) Q = (sm_wp X 140 2 [some (.ref b), some (.int x1), some (.int 0)] [] (sM mo G I J) Q) := by
  rcases hb with rfl | rfl
  · exact lp_140_0 X mo G I J Q x1
  · exact lpw_140_0 X mo G I J Q x1
theorem lpb_140_2 (b : Nat) (hb : b = 52 ∨ b = 60) (x1 : Int32) (x2 : Int32) : sm_wp X 140 2 [some (.ref b), some (.int x1), some (.int x2)] [] (sM mo G I J) Q = (if I b 5 ≤ x2 then (Q (some (.int (aLand I 4 (-1) x1))) (sM mo G I J)) else (if 8 ≤ x2 then (Q (some (.int (aLand I 4 (-1) x1))) (sM mo G I J)) else (vp_in x2 8 ∧ (if ¬ I (b + 1) (x2.toNatClampNeg) = x1 then (sm_wp X 140 2 [some (.ref b), some (.int x1), some (.int (x2 + 1))] [] (sM mo G I J) Q) else (Q (some (.int (I (b + 7) (x2.toNatClampNeg)))) (sM mo G I J)))))) := by
  rcases hb with rfl | rfl
  · exact lp_140_2 X mo G I J Q x1 x2
  · exact lpw_140_2 X mo G I J Q x1 x2
theorem lp_141_0  : sm_wp X 141 0 [some (.ref 52), none, none] [] (sM mo G I J) Q = (sm_wp X 131 0 [some (.ref 52)] [] (sM mo G I J) (fun v M => sm_wp X 141 4 [some (.ref 52), none, none] (v.toList ++ []) M Q)) := by
  rw [bk_141_0]
  all_goals (try simp (decide := true) only [bk_141_4, bk_141_9, bk_141_18, bk_141_38, bk_141_58, bk_141_63, bk_141_69, bk_141_75, up2_ne, up2_sn, up2_ss, ne_eq, tl_some, tl_none, zb_0, zb_1, zb_bi, true_and, bi_eq, bi_ne, oz_f, zz_t, if_true, if_false, not_true_eq_false, not_false_eq_true])
  all_goals grind (splits := 30) [bi]
theorem lp_141_20 (x1 : Int32) : sm_wp X 141 20 [some (.ref 52), some (.int x1), none] [] (sM mo G I J) Q = (if 6 < x1 then (Q (some (.int 0)) (sM mo G I J)) else (sm_wp X 141 28 [some (.ref 52), some (.int x1), some (.int 1)] [] (sM mo G I J) Q)) := by
  rw [bk_141_20]
  all_goals (try simp (decide := true) only [bk_141_0, bk_141_4, bk_141_9, bk_141_18, bk_141_38, bk_141_58, bk_141_63, bk_141_69, bk_141_75, up2_ne, up2_sn, up2_ss, ne_eq, tl_some, tl_none, zb_0, zb_1, zb_bi, true_and, bi_eq, bi_ne, oz_f, zz_t, if_true, if_false, not_true_eq_false, not_false_eq_true])
  all_goals grind (splits := 30) [bi]
theorem lp_141_28 (x1 : Int32) (x2 : Int32) : sm_wp X 141 28 [some (.ref 52), some (.int x1), some (.int x2)] [] (sM mo G I J) Q = (if 64 ≤ x2 then (sm_wp X 141 20 [some (.ref 52), some (.int (x1 + 1)), none] [] (sM mo G I J) Q) else (if ¬ vf_Integer_bitCount x2 = x1 then (sm_wp X 141 28 [some (.ref 52), some (.int x1), some (.int (x2 + 1))] [] (sM mo G I J) Q) else (if ¬ x2 &&& ((I 52 2) ^^^ (-1)) = 0 then (sm_wp X 141 28 [some (.ref 52), some (.int x1), some (.int (x2 + 1))] [] (sM mo G I J) Q) else (sm_wp X 142 0 [some (.ref 52), some (.int x2), none] [] (sM mo G I J) (fun v M => sm_wp X 141 58 [some (.ref 52), some (.int x1), some (.int x2)] (v.toList ++ []) M Q))))) := by
  rw [bk_141_28]
  all_goals (try simp (decide := true) only [bk_141_0, bk_141_4, bk_141_9, bk_141_18, bk_141_38, bk_141_58, bk_141_63, bk_141_69, bk_141_75, ct_Integer_bitCount, up2_ne, up2_sn, up2_ss, ne_eq, tl_some, tl_none, zb_0, zb_1, zb_bi, true_and, bi_eq, bi_ne, oz_f, zz_t, if_true, if_false, not_true_eq_false, not_false_eq_true])
  all_goals grind (splits := 30) [bi]
theorem lp_141_4 (s0 : Int32) : sm_wp X 141 4 [some (.ref 52), none, none] [.int s0] (sM mo G I J) Q = (if s0 = 0 then (if I 52 14 ≤ 0 then (sm_wp X 141 20 [some (.ref 52), some (.int 1), none] [] (sM mo G I J) Q) else (Q (some (.int 0)) (sM mo G I J))) else (Q (some (.int (-1))) (sM mo G I J))) := by
  rw [bk_141_4]
  all_goals (try simp (decide := true) only [bk_141_0, bk_141_9, bk_141_18, bk_141_38, bk_141_58, bk_141_63, bk_141_69, bk_141_75, up2_ne, up2_sn, up2_ss, ne_eq, tl_some, tl_none, zb_0, zb_1, zb_bi, true_and, bi_eq, bi_ne, oz_f, zz_t, if_true, if_false, not_true_eq_false, not_false_eq_true])
  all_goals grind (splits := 30) [bi]
theorem lp_141_58 (x1 : Int32) (x2 : Int32) (s0 : Int32) : sm_wp X 141 58 [some (.ref 52), some (.int x1), some (.int x2)] [.int s0] (sM mo G I J) Q = (if ¬ s0 = 0 then (sm_wp X 141 28 [some (.ref 52), some (.int x1), some (.int (x2 + 1))] [] (sM mo G I J) Q) else (Q (some (.int x2)) (sM mo G I J))) := by
  rw [bk_141_58]
  all_goals (try simp (decide := true) only [bk_141_0, bk_141_4, bk_141_9, bk_141_18, bk_141_38, bk_141_63, bk_141_69, bk_141_75, up2_ne, up2_sn, up2_ss, ne_eq, tl_some, tl_none, zb_0, zb_1, zb_bi, true_and, bi_eq, bi_ne, oz_f, zz_t, if_true, if_false, not_true_eq_false, not_false_eq_true])
  all_goals grind (splits := 30) [bi]
theorem lpw_141_0  : sm_wp X 141 0 [some (.ref 60), none, none] [] (sM mo G I J) Q = (sm_wp X 131 0 [some (.ref 60)] [] (sM mo G I J) (fun v M => sm_wp X 141 4 [some (.ref 60), none, none] (v.toList ++ []) M Q)) := by
  rw [bkw_141_0]
  all_goals (try simp (decide := true) only [bkw_141_4, bkw_141_9, bkw_141_18, bkw_141_38, bkw_141_58, bkw_141_63, bkw_141_69, bkw_141_75, up2_ne, up2_sn, up2_ss, ne_eq, tl_some, tl_none, zb_0, zb_1, zb_bi, true_and, bi_eq, bi_ne, oz_f, zz_t, if_true, if_false, not_true_eq_false, not_false_eq_true])
  all_goals grind (splits := 30) [bi]
theorem lpw_141_20 (x1 : Int32) : sm_wp X 141 20 [some (.ref 60), some (.int x1), none] [] (sM mo G I J) Q = (if 6 < x1 then (Q (some (.int 0)) (sM mo G I J)) else (sm_wp X 141 28 [some (.ref 60), some (.int x1), some (.int 1)] [] (sM mo G I J) Q)) := by
  rw [bkw_141_20]
  all_goals (try simp (decide := true) only [bkw_141_0, bkw_141_4, bkw_141_9, bkw_141_18, bkw_141_38, bkw_141_58, bkw_141_63, bkw_141_69, bkw_141_75, up2_ne, up2_sn, up2_ss, ne_eq, tl_some, tl_none, zb_0, zb_1, zb_bi, true_and, bi_eq, bi_ne, oz_f, zz_t, if_true, if_false, not_true_eq_false, not_false_eq_true])
  all_goals grind (splits := 30) [bi]
theorem lpw_141_28 (x1 : Int32) (x2 : Int32) : sm_wp X 141 28 [some (.ref 60), some (.int x1), some (.int x2)] [] (sM mo G I J) Q = (if 64 ≤ x2 then (sm_wp X 141 20 [some (.ref 60), some (.int (x1 + 1)), none] [] (sM mo G I J) Q) else (if ¬ vf_Integer_bitCount x2 = x1 then (sm_wp X 141 28 [some (.ref 60), some (.int x1), some (.int (x2 + 1))] [] (sM mo G I J) Q) else (if ¬ x2 &&& ((I 60 2) ^^^ (-1)) = 0 then (sm_wp X 141 28 [some (.ref 60), some (.int x1), some (.int (x2 + 1))] [] (sM mo G I J) Q) else (sm_wp X 142 0 [some (.ref 60), some (.int x2), none] [] (sM mo G I J) (fun v M => sm_wp X 141 58 [some (.ref 60), some (.int x1), some (.int x2)] (v.toList ++ []) M Q))))) := by
  rw [bkw_141_28]
  all_goals (try simp (decide := true) only [bkw_141_0, bkw_141_4, bkw_141_9, bkw_141_18, bkw_141_38, bkw_141_58, bkw_141_63, bkw_141_69, bkw_141_75, ct_Integer_bitCount, up2_ne, up2_sn, up2_ss, ne_eq, tl_some, tl_none, zb_0, zb_1, zb_bi, true_and, bi_eq, bi_ne, oz_f, zz_t, if_true, if_false, not_true_eq_false, not_false_eq_true])
  all_goals grind (splits := 30) [bi]
theorem lpw_141_4 (s0 : Int32) : sm_wp X 141 4 [some (.ref 60), none, none] [.int s0] (sM mo G I J) Q = (if s0 = 0 then (if I 60 14 ≤ 0 then (sm_wp X 141 20 [some (.ref 60), some (.int 1), none] [] (sM mo G I J) Q) else (Q (some (.int 0)) (sM mo G I J))) else (Q (some (.int (-1))) (sM mo G I J))) := by
  rw [bkw_141_4]
  all_goals (try simp (decide := true) only [bkw_141_0, bkw_141_9, bkw_141_18, bkw_141_38, bkw_141_58, bkw_141_63, bkw_141_69, bkw_141_75, up2_ne, up2_sn, up2_ss, ne_eq, tl_some, tl_none, zb_0, zb_1, zb_bi, true_and, bi_eq, bi_ne, oz_f, zz_t, if_true, if_false, not_true_eq_false, not_false_eq_true])
  all_goals grind (splits := 30) [bi]
theorem lpw_141_58 (x1 : Int32) (x2 : Int32) (s0 : Int32) : sm_wp X 141 58 [some (.ref 60), some (.int x1), some (.int x2)] [.int s0] (sM mo G I J) Q = (if ¬ s0 = 0 then (sm_wp X 141 28 [some (.ref 60), some (.int x1), some (.int (x2 + 1))] [] (sM mo G I J) Q) else (Q (some (.int x2)) (sM mo G I J))) := by
  rw [bkw_141_58]
  all_goals (try simp (decide := true) only [bkw_141_0, bkw_141_4, bkw_141_9, bkw_141_18, bkw_141_38, bkw_141_63, bkw_141_69, bkw_141_75, up2_ne, up2_sn, up2_ss, ne_eq, tl_some, tl_none, zb_0, zb_1, zb_bi, true_and, bi_eq, bi_ne, oz_f, zz_t, if_true, if_false, not_true_eq_false, not_false_eq_true])
  all_goals grind (splits := 30) [bi]
theorem lpb_141_0 (b : Nat) (hb : b = 52 ∨ b = 60)  : sm_wp X 141 0 [some (.ref b), none, none] [] (sM mo G I J) Q = (sm_wp X 131 0 [some (.ref b)] [] (sM mo G I J) (fun v M => sm_wp X 141 4 [some (.ref b), none, none] (v.toList ++ []) M Q)) := by
  rcases hb with rfl | rfl
  · exact lp_141_0 X mo G I J Q 
  · exact lpw_141_0 X mo G I J Q 
theorem lpb_141_20 (b : Nat) (hb : b = 52 ∨ b = 60) (x1 : Int32) : sm_wp X 141 20 [some (.ref b), some (.int x1), none] [] (sM mo G I J) Q = (if 6 < x1 then (Q (some (.int 0)) (sM mo G I J)) else (sm_wp X 141 28 [some (.ref b), some (.int x1), some (.int 1)] [] (sM mo G I J) Q)) := by
  rcases hb with rfl | rfl
  · exact lp_141_20 X mo G I J Q x1
  · exact lpw_141_20 X mo G I J Q x1
theorem lpb_141_28 (b : Nat) (hb : b = 52 ∨ b = 60) (x1 : Int32) (x2 : Int32) : sm_wp X 141 28 [some (.ref b), some (.int x1), some (.int x2)] [] (sM mo G I J) Q = (if 64 ≤ x2 then (sm_wp X 141 20 [some (.ref b), some (.int (x1 + 1)), none] [] (sM mo G I J) Q) else (if ¬ vf_Integer_bitCount x2 = x1 then (sm_wp X 141 28 [some (.ref b), some (.int x1), some (.int (x2 + 1))] [] (sM mo G I J) Q) else (if ¬ x2 &&& ((I b 2) ^^^ (-1)) = 0 then (sm_wp X 141 28 [some (.ref b), some (.int x1), some (.int (x2 + 1))] [] (sM mo G I J) Q) else (sm_wp X 142 0 [some (.ref b), some (.int x2), none] [] (sM mo G I J) (fun v M => sm_wp X 141 58 [some (.ref b), some (.int x1), some (.int x2)] (v.toList ++ []) M Q))))) := by
  rcases hb with rfl | rfl
  · exact lp_141_28 X mo G I J Q x1 x2
  · exact lpw_141_28 X mo G I J Q x1 x2
theorem lpb_141_4 (b : Nat) (hb : b = 52 ∨ b = 60) (s0 : Int32) : sm_wp X 141 4 [some (.ref b), none, none] [.int s0] (sM mo G I J) Q = (if s0 = 0 then (if I b 14 ≤ 0 then (sm_wp X 141 20 [some (.ref b), some (.int 1), none] [] (sM mo G I J) Q) else (Q (some (.int 0)) (sM mo G I J))) else (Q (some (.int (-1))) (sM mo G I J))) := by
  rcases hb with rfl | rfl
  · exact lp_141_4 X mo G I J Q s0
  · exact lpw_141_4 X mo G I J Q s0
theorem lpb_141_58 (b : Nat) (hb : b = 52 ∨ b = 60) (x1 : Int32) (x2 : Int32) (s0 : Int32) : sm_wp X 141 58 [some (.ref b), some (.int x1), some (.int x2)] [.int s0] (sM mo G I J) Q = (if ¬ s0 = 0 then (sm_wp X 141 28 [some (.ref b), some (.int x1), some (.int (x2 + 1))] [] (sM mo G I J) Q) else (Q (some (.int x2)) (sM mo G I J))) := by
  rcases hb with rfl | rfl
  · exact lp_141_58 X mo G I J Q x1 x2 s0
  · exact lpw_141_58 X mo G I J Q x1 x2 s0
theorem lp_142_0 (x1 : Int32) : sm_wp X 142 0 [some (.ref 52), some (.int x1), none] [] (sM mo G I J) Q = (sm_wp X 142 2 [some (.ref 52), some (.int x1), some (.int 0)] [] (sM mo G I J) Q) := by
  rw [bk_142_0]
  all_goals (try simp (decide := true) only [bk_142_31, bk_142_37, up2_ne, up2_sn, up2_ss, ne_eq, tl_some, tl_none, zb_0, zb_1, zb_bi, true_and, bi_eq, bi_ne, oz_f, zz_t, if_true, if_false, not_true_eq_false, not_false_eq_true])
  all_goals grind (splits := 30) [bi]
theorem lp_142_2 (x1 : Int32) (x2 : Int32) : sm_wp X 142 2 [some (.ref 52), some (.int x1), some (.int x2)] [] (sM mo G I J) Q = (if 64 ≤ x2 then (Q (some (.int 0)) (sM mo G I J)) else (if lg_cmp ((((J 52 16).toUInt64 >>> (x2.toInt64.toUInt64 &&& Int64.toUInt64 63)).toInt64) &&& 1) 0 = 0 then (sm_wp X 142 2 [some (.ref 52), some (.int x1), some (.int (x2 + 1))] [] (sM mo G I J) Q) else (if ¬ x1 &&& (x2 ^^^ (-1)) = 0 then (sm_wp X 142 2 [some (.ref 52), some (.int x1), some (.int (x2 + 1))] [] (sM mo G I J) Q) else (Q (some (.int 1)) (sM mo G I J))))) := by
  rw [bk_142_2]
  all_goals (try simp (decide := true) only [bk_142_0, bk_142_31, bk_142_37, up2_ne, up2_sn, up2_ss, ne_eq, tl_some, tl_none, zb_0, zb_1, zb_bi, true_and, bi_eq, bi_ne, oz_f, zz_t, if_true, if_false, not_true_eq_false, not_false_eq_true])
  all_goals grind (splits := 30) [bi]
theorem lpw_142_0 (x1 : Int32) : sm_wp X 142 0 [some (.ref 60), some (.int x1), none] [] (sM mo G I J) Q = (sm_wp X 142 2 [some (.ref 60), some (.int x1), some (.int 0)] [] (sM mo G I J) Q) := by
  rw [bkw_142_0]
  all_goals (try simp (decide := true) only [bkw_142_31, bkw_142_37, up2_ne, up2_sn, up2_ss, ne_eq, tl_some, tl_none, zb_0, zb_1, zb_bi, true_and, bi_eq, bi_ne, oz_f, zz_t, if_true, if_false, not_true_eq_false, not_false_eq_true])
  all_goals grind (splits := 30) [bi]
theorem lpw_142_2 (x1 : Int32) (x2 : Int32) : sm_wp X 142 2 [some (.ref 60), some (.int x1), some (.int x2)] [] (sM mo G I J) Q = (if 64 ≤ x2 then (Q (some (.int 0)) (sM mo G I J)) else (if lg_cmp ((((J 60 16).toUInt64 >>> (x2.toInt64.toUInt64 &&& Int64.toUInt64 63)).toInt64) &&& 1) 0 = 0 then (sm_wp X 142 2 [some (.ref 60), some (.int x1), some (.int (x2 + 1))] [] (sM mo G I J) Q) else (if ¬ x1 &&& (x2 ^^^ (-1)) = 0 then (sm_wp X 142 2 [some (.ref 60), some (.int x1), some (.int (x2 + 1))] [] (sM mo G I J) Q) else (Q (some (.int 1)) (sM mo G I J))))) := by
  rw [bkw_142_2]
  all_goals (try simp (decide := true) only [bkw_142_0, bkw_142_31, bkw_142_37, up2_ne, up2_sn, up2_ss, ne_eq, tl_some, tl_none, zb_0, zb_1, zb_bi, true_and, bi_eq, bi_ne, oz_f, zz_t, if_true, if_false, not_true_eq_false, not_false_eq_true])
  all_goals grind (splits := 30) [bi]
theorem lpb_142_0 (b : Nat) (hb : b = 52 ∨ b = 60) (x1 : Int32) : sm_wp X 142 0 [some (.ref b), some (.int x1), none] [] (sM mo G I J) Q = (sm_wp X 142 2 [some (.ref b), some (.int x1), some (.int 0)] [] (sM mo G I J) Q) := by
  rcases hb with rfl | rfl
  · exact lp_142_0 X mo G I J Q x1
  · exact lpw_142_0 X mo G I J Q x1
theorem lpb_142_2 (b : Nat) (hb : b = 52 ∨ b = 60) (x1 : Int32) (x2 : Int32) : sm_wp X 142 2 [some (.ref b), some (.int x1), some (.int x2)] [] (sM mo G I J) Q = (if 64 ≤ x2 then (Q (some (.int 0)) (sM mo G I J)) else (if lg_cmp ((((J b 16).toUInt64 >>> (x2.toInt64.toUInt64 &&& Int64.toUInt64 63)).toInt64) &&& 1) 0 = 0 then (sm_wp X 142 2 [some (.ref b), some (.int x1), some (.int (x2 + 1))] [] (sM mo G I J) Q) else (if ¬ x1 &&& (x2 ^^^ (-1)) = 0 then (sm_wp X 142 2 [some (.ref b), some (.int x1), some (.int (x2 + 1))] [] (sM mo G I J) Q) else (Q (some (.int 1)) (sM mo G I J))))) := by
  rcases hb with rfl | rfl
  · exact lp_142_2 X mo G I J Q x1 x2
  · exact lpw_142_2 X mo G I J Q x1 x2
theorem lp_143_0 (x1 : Int32) (x2 : Int32) : sm_wp X 143 0 [some (.ref 52), some (.int x1), some (.int x2), none, none] [] (sM mo G I J) Q = (sm_wp X 129 0 [some (.ref 52), some (.int x1), none, none, none] [] (sM mo G I J) (fun v M => sm_wp X 143 5 [some (.ref 52), some (.int x1), some (.int x2), none, none] (v.toList ++ []) M Q)) := by
  rw [bk_143_0]
  all_goals (try simp (decide := true) only [bk_143_5, bk_143_9, bk_143_14, bk_143_51, bk_143_56, bk_143_63, bk_143_69, bk_143_82, bk_143_86, bk_143_93, bk_143_94, up2_ne, up2_sn, up2_ss, ne_eq, tl_some, tl_none, zb_0, zb_1, zb_bi, true_and, bi_eq, bi_ne, oz_f, zz_t, if_true, if_false, not_true_eq_false, not_false_eq_true])
  all_goals grind (splits := 30) [bi]
theorem lp_143_16 (x2 : Int32) (x3 : Int32) : sm_wp X 143 16 [some (.ref 52), none, some (.int x2), some (.int x3), none] [] (sM mo G I J) Q = (if I 52 5 ≤ x3 then (if I 52 12 = I 52 2 then (sm_wp X 135 0 [some (.ref 52), none, none, none] [] (sM mo G I J) (fun v M => sm_wp X 143 86 [some (.ref 52), none, some (.int x2), some (.int x3), none] (v.toList ++ []) M Q)) else (Q (some (.int 1)) (sM mo G I J))) else (if 8 ≤ x3 then (if I 52 12 = I 52 2 then (sm_wp X 135 0 [some (.ref 52), none, none, none] [] (sM mo G I J) (fun v M => sm_wp X 143 86 [some (.ref 52), none, some (.int x2), some (.int x3), none] (v.toList ++ []) M Q)) else (Q (some (.int 1)) (sM mo G I J))) else (vp_in x3 8 ∧ (if (hBit (I 54 (x3.toNatClampNeg)) (((x2.toUInt32 >>> (((3 : Int32) * x3).toUInt32 &&& Int32.toUInt32 31)).toInt32) &&& 7)) then (sm_wp X 133 0 [some (.ref 52), some (.int x3), some (.int (((x2.toUInt32 >>> (((3 : Int32) * x3).toUInt32 &&& Int32.toUInt32 31)).toInt32) &&& 7))] [] (sM mo G I J) (fun v M => sm_wp X 143 63 [some (.ref 52), none, some (.int x2), some (.int x3), some (.int (((x2.toUInt32 >>> (((3 : Int32) * x3).toUInt32 &&& Int32.toUInt32 31)).toInt32) &&& 7))] (v.toList ++ []) M Q)) else (Q (some (.int 0)) (sM mo G I J)))))) := by
  rw [bk_143_16]
  all_goals (try simp (decide := true) only [bk_143_0, bk_143_5, bk_143_9, bk_143_14, bk_143_51, bk_143_56, bk_143_63, bk_143_69, bk_143_82, bk_143_86, bk_143_93, bk_143_94, ct_House_hasBit, up2_ne, up2_sn, up2_ss, ne_eq, tl_some, tl_none, zb_0, zb_1, zb_bi, true_and, bi_eq, bi_ne, oz_f, zz_t, if_true, if_false, not_true_eq_false, not_false_eq_true])
  all_goals grind (splits := 30) [bi]
theorem lp_143_5 (x1 : Int32) (x2 : Int32) : sm_wp X 143 5 [some (.ref 52), some (.int x1), some (.int x2), none, none] [] (sM mo G I J) Q = (sm_wp X 131 0 [some (.ref 52)] [] (sM mo G I J) (fun v M => sm_wp X 143 9 [some (.ref 52), some (.int x1), some (.int x2), none, none] (v.toList ++ []) M Q)) := by
  rw [bk_143_5]
  all_goals (try simp (decide := true) only [bk_143_0, bk_143_9, bk_143_14, bk_143_51, bk_143_56, bk_143_63, bk_143_69, bk_143_82, bk_143_86, bk_143_93, bk_143_94, up2_ne, up2_sn, up2_ss, ne_eq, tl_some, tl_none, zb_0, zb_1, zb_bi, true_and, bi_eq, bi_ne, oz_f, zz_t, if_true, if_false, not_true_eq_false, not_false_eq_true])
  all_goals grind (splits := 30) [bi]
theorem lp_143_63 (x2 : Int32) (x3 : Int32) (x4 : Int32) : sm_wp X 143 63 [some (.ref 52), none, some (.int x2), some (.int x3), some (.int x4)] [] (sM mo G I J) Q = (sm_wp X 143 16 [some (.ref 52), none, some (.int x2), some (.int (x3 + 1)), none] [] (sM mo G I J) Q) := by
  rw [bk_143_63]
  all_goals (try simp (decide := true) only [bk_143_0, bk_143_5, bk_143_9, bk_143_14, bk_143_51, bk_143_56, bk_143_69, bk_143_82, bk_143_86, bk_143_93, bk_143_94, up2_ne, up2_sn, up2_ss, ne_eq, tl_some, tl_none, zb_0, zb_1, zb_bi, true_and, bi_eq, bi_ne, oz_f, zz_t, if_true, if_false, not_true_eq_false, not_false_eq_true])
  all_goals grind (splits := 30) [bi]
theorem lp_143_86 (x2 : Int32) (x3 : Int32) (s0 : Int32) : sm_wp X 143 86 [some (.ref 52), none, some (.int x2), some (.int x3), none] [.int s0] (sM mo G I J) Q = (if s0 = 0 then (Q (some (.int 2)) (sM mo G I J)) else (Q (some (.int 3)) (sM mo G I J))) := by
  rw [bk_143_86]
  all_goals (try simp (decide := true) only [bk_143_0, bk_143_5, bk_143_9, bk_143_14, bk_143_51, bk_143_56, bk_143_63, bk_143_69, bk_143_82, bk_143_93, bk_143_94, up2_ne, up2_sn, up2_ss, ne_eq, tl_some, tl_none, zb_0, zb_1, zb_bi, true_and, bi_eq, bi_ne, oz_f, zz_t, if_true, if_false, not_true_eq_false, not_false_eq_true])
  all_goals grind (splits := 30) [bi]
theorem lp_143_9 (x1 : Int32) (x2 : Int32) (s0 : Int32) : sm_wp X 143 9 [some (.ref 52), some (.int x1), some (.int x2), none, none] [.int s0] (sM mo G I J) Q = (if s0 = 0 then (sm_wp X 143 16 [some (.ref 52), none, some (.int x2), some (.int 0), none] [] (sM mo G I J) Q) else (Q (some (.int (-1))) (sM mo G I J))) := by
  rw [bk_143_9]
  all_goals (try simp (decide := true) only [bk_143_0, bk_143_5, bk_143_14, bk_143_51, bk_143_56, bk_143_63, bk_143_69, bk_143_82, bk_143_86, bk_143_93, bk_143_94, up2_ne, up2_sn, up2_ss, ne_eq, tl_some, tl_none, zb_0, zb_1, zb_bi, true_and, bi_eq, bi_ne, oz_f, zz_t, if_true, if_false, not_true_eq_false, not_false_eq_true])
  all_goals grind (splits := 30) [bi]
theorem lpw_143_0 (x1 : Int32) (x2 : Int32) : sm_wp X 143 0 [some (.ref 60), some (.int x1), some (.int x2), none, none] [] (sM mo G I J) Q = (sm_wp X 129 0 [some (.ref 60), some (.int x1), none, none, none] [] (sM mo G I J) (fun v M => sm_wp X 143 5 [some (.ref 60), some (.int x1), some (.int x2), none, none] (v.toList ++ []) M Q)) := by
  rw [bkw_143_0]
  all_goals (try simp (decide := true) only [bkw_143_5, bkw_143_9, bkw_143_14, bkw_143_51, bkw_143_56, bkw_143_63, bkw_143_69, bkw_143_82, bkw_143_86, bkw_143_93, bkw_143_94, up2_ne, up2_sn, up2_ss, ne_eq, tl_some, tl_none, zb_0, zb_1, zb_bi, true_and, bi_eq, bi_ne, oz_f, zz_t, if_true, if_false, not_true_eq_false, not_false_eq_true])
  all_goals grind (splits := 30) [bi]
theorem lpw_143_16 (x2 : Int32) (x3 : Int32) : sm_wp X 143 16 [some (.ref 60), none, some (.int x2), some (.int x3), none] [] (sM mo G I J) Q = (if I 60 5 ≤ x3 then (if I 60 12 = I 60 2 then (sm_wp X 135 0 [some (.ref 60), none, none, none] [] (sM mo G I J) (fun v M => sm_wp X 143 86 [some (.ref 60), none, some (.int x2), some (.int x3), none] (v.toList ++ []) M Q)) else (Q (some (.int 1)) (sM mo G I J))) else (if 8 ≤ x3 then (if I 60 12 = I 60 2 then (sm_wp X 135 0 [some (.ref 60), none, none, none] [] (sM mo G I J) (fun v M => sm_wp X 143 86 [some (.ref 60), none, some (.int x2), some (.int x3), none] (v.toList ++ []) M Q)) else (Q (some (.int 1)) (sM mo G I J))) else (vp_in x3 8 ∧ (if (hBit (I 62 (x3.toNatClampNeg)) (((x2.toUInt32 >>> (((3 : Int32) * x3).toUInt32 &&& Int32.toUInt32 31)).toInt32) &&& 7)) then (sm_wp X 133 0 [some (.ref 60), some (.int x3), some (.int (((x2.toUInt32 >>> (((3 : Int32) * x3).toUInt32 &&& Int32.toUInt32 31)).toInt32) &&& 7))] [] (sM mo G I J) (fun v M => sm_wp X 143 63 [some (.ref 60), none, some (.int x2), some (.int x3), some (.int (((x2.toUInt32 >>> (((3 : Int32) * x3).toUInt32 &&& Int32.toUInt32 31)).toInt32) &&& 7))] (v.toList ++ []) M Q)) else (Q (some (.int 0)) (sM mo G I J)))))) := by
  rw [bkw_143_16]
  all_goals (try simp (decide := true) only [bkw_143_0, bkw_143_5, bkw_143_9, bkw_143_14, bkw_143_51, bkw_143_56, bkw_143_63, bkw_143_69, bkw_143_82, bkw_143_86, bkw_143_93, bkw_143_94, ct_House_hasBit, up2_ne, up2_sn, up2_ss, ne_eq, tl_some, tl_none, zb_0, zb_1, zb_bi, true_and, bi_eq, bi_ne, oz_f, zz_t, if_true, if_false, not_true_eq_false, not_false_eq_true])
  all_goals grind (splits := 30) [bi]
theorem lpw_143_5 (x1 : Int32) (x2 : Int32) : sm_wp X 143 5 [some (.ref 60), some (.int x1), some (.int x2), none, none] [] (sM mo G I J) Q = (sm_wp X 131 0 [some (.ref 60)] [] (sM mo G I J) (fun v M => sm_wp X 143 9 [some (.ref 60), some (.int x1), some (.int x2), none, none] (v.toList ++ []) M Q)) := by
  rw [bkw_143_5]
  all_goals (try simp (decide := true) only [bkw_143_0, bkw_143_9, bkw_143_14, bkw_143_51, bkw_143_56, bkw_143_63, bkw_143_69, bkw_143_82, bkw_143_86, bkw_143_93, bkw_143_94, up2_ne, up2_sn, up2_ss, ne_eq, tl_some, tl_none, zb_0, zb_1, zb_bi, true_and, bi_eq, bi_ne, oz_f, zz_t, if_true, if_false, not_true_eq_false, not_false_eq_true])
  all_goals grind (splits := 30) [bi]
theorem lpw_143_63 (x2 : Int32) (x3 : Int32) (x4 : Int32) : sm_wp X 143 63 [some (.ref 60), none, some (.int x2), some (.int x3), some (.int x4)] [] (sM mo G I J) Q = (sm_wp X 143 16 [some (.ref 60), none, some (.int x2), some (.int (x3 + 1)), none] [] (sM mo G I J) Q) := by
  rw [bkw_143_63]
  all_goals (try simp (decide := true) only [bkw_143_0, bkw_143_5, bkw_143_9, bkw_143_14, bkw_143_51, bkw_143_56, bkw_143_69, bkw_143_82, bkw_143_86, bkw_143_93, bkw_143_94, up2_ne, up2_sn, up2_ss, ne_eq, tl_some, tl_none, zb_0, zb_1, zb_bi, true_and, bi_eq, bi_ne, oz_f, zz_t, if_true, if_false, not_true_eq_false, not_false_eq_true])
  all_goals grind (splits := 30) [bi]
theorem lpw_143_86 (x2 : Int32) (x3 : Int32) (s0 : Int32) : sm_wp X 143 86 [some (.ref 60), none, some (.int x2), some (.int x3), none] [.int s0] (sM mo G I J) Q = (if s0 = 0 then (Q (some (.int 2)) (sM mo G I J)) else (Q (some (.int 3)) (sM mo G I J))) := by
  rw [bkw_143_86]
  all_goals (try simp (decide := true) only [bkw_143_0, bkw_143_5, bkw_143_9, bkw_143_14, bkw_143_51, bkw_143_56, bkw_143_63, bkw_143_69, bkw_143_82, bkw_143_93, bkw_143_94, up2_ne, up2_sn, up2_ss, ne_eq, tl_some, tl_none, zb_0, zb_1, zb_bi, true_and, bi_eq, bi_ne, oz_f, zz_t, if_true, if_false, not_true_eq_false, not_false_eq_true])
  all_goals grind (splits := 30) [bi]
theorem lpw_143_9 (x1 : Int32) (x2 : Int32) (s0 : Int32) : sm_wp X 143 9 [some (.ref 60), some (.int x1), some (.int x2), none, none] [.int s0] (sM mo G I J) Q = (if s0 = 0 then (sm_wp X 143 16 [some (.ref 60), none, some (.int x2), some (.int 0), none] [] (sM mo G I J) Q) else (Q (some (.int (-1))) (sM mo G I J))) := by
  rw [bkw_143_9]
  all_goals (try simp (decide := true) only [bkw_143_0, bkw_143_5, bkw_143_14, bkw_143_51, bkw_143_56, bkw_143_63, bkw_143_69, bkw_143_82, bkw_143_86, bkw_143_93, bkw_143_94, up2_ne, up2_sn, up2_ss, ne_eq, tl_some, tl_none, zb_0, zb_1, zb_bi, true_and, bi_eq, bi_ne, oz_f, zz_t, if_true, if_false, not_true_eq_false, not_false_eq_true])
  all_goals grind (splits := 30) [bi]
theorem lpb_143_0 (b : Nat) (hb : b = 52 ∨ b = 60) (x1 : Int32) (x2 : Int32) : sm_wp X 143 0 [some (.ref b), some (.int x1), some (.int x2), none, none] [] (sM mo G I J) Q = (sm_wp X 129 0 [some (.ref b), some (.int x1), none, none, none] [] (sM mo G I J) (fun v M => sm_wp X 143 5 [some (.ref b), some (.int x1), some (.int x2), none, none] (v.toList ++ []) M Q)) := by
  rcases hb with rfl | rfl
  · exact lp_143_0 X mo G I J Q x1 x2
  · exact lpw_143_0 X mo G I J Q x1 x2
theorem lpb_143_16 (b : Nat) (hb : b = 52 ∨ b = 60) (x2 : Int32) (x3 : Int32) : sm_wp X 143 16 [some (.ref b), none, some (.int x2), some (.int x3), none] [] (sM mo G I J) Q = (if I b 5 ≤ x3 then (if I b 12 = I b 2 then (sm_wp X 135 0 [some (.ref b), none, none, none] [] (sM mo G I J) (fun v M => sm_wp X 143 86 [some (.ref b), none, some (.int x2), some (.int x3), none] (v.toList ++ []) M Q)) else (Q (some (.int 1)) (sM mo G I J))) else (if 8 ≤ x3 then (if I b 12 = I b 2 then (sm_wp X 135 0 [some (.ref b), none, none, none] [] (sM mo G I J) (fun v M => sm_wp X 143 86 [some (.ref b), none, some (.int x2), some (.int x3), none] (v.toList ++ []) M Q)) else (Q (some (.int 1)) (sM mo G I J))) else (vp_in x3 8 ∧ (if (hBit (I (b + 2) (x3.toNatClampNeg)) (((x2.toUInt32 >>> (((3 : Int32) * x3).toUInt32 &&& Int32.toUInt32 31)).toInt32) &&& 7)) then (sm_wp X 133 0 [some (.ref b), some (.int x3), some (.int (((x2.toUInt32 >>> (((3 : Int32) * x3).toUInt32 &&& Int32.toUInt32 31)).toInt32) &&& 7))] [] (sM mo G I J) (fun v M => sm_wp X 143 63 [some (.ref b), none, some (.int x2), some (.int x3), some (.int (((x2.toUInt32 >>> (((3 : Int32) * x3).toUInt32 &&& Int32.toUInt32 31)).toInt32) &&& 7))] (v.toList ++ []) M Q)) else (Q (some (.int 0)) (sM mo G I J)))))) := by
  rcases hb with rfl | rfl
  · exact lp_143_16 X mo G I J Q x2 x3
  · exact lpw_143_16 X mo G I J Q x2 x3
theorem lpb_143_5 (b : Nat) (hb : b = 52 ∨ b = 60) (x1 : Int32) (x2 : Int32) : sm_wp X 143 5 [some (.ref b), some (.int x1), some (.int x2), none, none] [] (sM mo G I J) Q = (sm_wp X 131 0 [some (.ref b)] [] (sM mo G I J) (fun v M => sm_wp X 143 9 [some (.ref b), some (.int x1), some (.int x2), none, none] (v.toList ++ []) M Q)) := by
  rcases hb with rfl | rfl
  · exact lp_143_5 X mo G I J Q x1 x2
  · exact lpw_143_5 X mo G I J Q x1 x2
end R3
