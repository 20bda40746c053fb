/-! One turn of each loop, and the stretches between calls, by program. -/
section R3
variable (X : (Nat → Int32) × Nat) (mo : Bool) (G : Nat × Nat) (I : Nat → Nat → Int32) (J : Nat → Nat → Int64) (Q : Option Value → sm_M → Prop)
theorem lpb_129_148 (b : Nat) (hb : b = 52 ∨ b = 60) (x2 : Int32) (x3 : Int32) (x4 : Int32) (s1 : Int32) (s2 : Int32) : sm_wp X 129 148 [some (.ref b), none, some (.int x2), some (.int x3), some (.int x4)] [.int s2, .int s1, .ref (b + 5)] (sM mo G I J) Q = (vp_in s1 6 ∧ (vp_in x3 6 ∧ (sm_wp X 103 0 [some (.ref 1), some (.int x3), some (.int (x4 &&& x2)), none, none] [] (sM mo G (up2 (up2 (up2 I (b + 5) s1.toNatClampNeg s2) (b + 6) x3.toNatClampNeg (aState (up2 I (b + 5) s1.toNatClampNeg s2) 12 0 x3)) (b + 4) x3.toNatClampNeg 0) J) (fun v M => sm_wp X 129 184 [some (.ref b), none, some (.int x2), some (.int x3), some (.int x4)] (v.toList ++ [.int x3, .ref b]) M Q)))) := by
  rcases hb with rfl | rfl
  · exact lp_129_148 X mo G I J Q x2 x3 x4 s1 s2
  · exact lpw_129_148 X mo G I J Q x2 x3 x4 s1 s2
theorem lpb_129_184 (b : Nat) (hb : b = 52 ∨ b = 60) (x2 : Int32) (x3 : Int32) (x4 : Int32) (s1 : Int32) (s2 : Int32) : sm_wp X 129 184 [some (.ref b), none, some (.int x2), some (.int x3), some (.int x4)] [.int s2, .int s1, .ref b] (sM mo G I J) Q = (sm_wp X 130 0 [some (.ref b), some (.int s1), some (.int s2)] [] (sM mo G I J) (fun v M => sm_wp X 129 187 [some (.ref b), none, some (.int x2), some (.int x3), some (.int x4)] (v.toList ++ []) M Q)) := by
  rcases hb with rfl | rfl
  · exact lp_129_184 X mo G I J Q x2 x3 x4 s1 s2
  · exact lpw_129_184 X mo G I J Q x2 x3 x4 s1 s2
theorem lpb_129_187 (b : Nat) (hb : b = 52 ∨ b = 60) (x2 : Int32) (x3 : Int32) (x4 : Int32) : sm_wp X 129 187 [some (.ref b), none, some (.int x2), some (.int x3), some (.int x4)] [] (sM mo G I J) Q = (sm_wp X 129 117 [some (.ref b), none, some (.int x2), some (.int (x3 + 1)), none] [] (sM mo G I J) Q) := by
  rcases hb with rfl | rfl
  · exact lp_129_187 X mo G I J Q x2 x3 x4
  · exact lpw_129_187 X mo G I J Q x2 x3 x4
theorem lp_130_0 (x1 : Int32) (x2 : Int32) : sm_wp X 130 0 [some (.ref 52), some (.int x1), some (.int x2)] [] (sM mo G I J) Q = (if x1 < 0 then (Q none (sM mo G I J)) else (if x1 < 6 then (vp_in x1 6 ∧ (if (up2 I 56 x1.toNatClampNeg ((I 56 (x1.toNatClampNeg)) + x2)) 56 (x1.toNatClampNeg) < I 58 (x1.toNatClampNeg) then (Q none (sM mo G (up2 (up2 I 56 x1.toNatClampNeg ((I 56 (x1.toNatClampNeg)) + x2)) 52 12 ((I 52 12) &&& (((1 : Int32) <<< (x1 &&& 31)) ^^^ (-1)))) J)) else (Q none (sM mo G (up2 (up2 I 56 x1.toNatClampNeg ((I 56 (x1.toNatClampNeg)) + x2)) 52 12 ((I 52 12) ||| ((I 52 2) &&& ((1 : Int32) <<< (x1 &&& 31))))) J)))) else (Q none (sM mo G I J)))) := by
  rw [bk_130_0]
  all_goals (try simp (decide := true) only [bk_130_10, bk_130_11, bk_130_56, bk_130_70, up2_ne, up2_sn, up2_ss, ne_eq, tl_some, tl_none, zb_0, zb_1, zb_bi, true_and, bi_eq, bi_ne, oz_f, zz_t, if_true, if_false, not_true_eq_false, not_false_eq_true])
  all_goals grind (splits := 30) [bi]
theorem lpw_130_0 (x1 : Int32) (x2 : Int32) : sm_wp X 130 0 [some (.ref 60), some (.int x1), some (.int x2)] [] (sM mo G I J) Q = (if x1 < 0 then (Q none (sM mo G I J)) else (if x1 < 6 then (vp_in x1 6 ∧ (if (up2 I 64 x1.toNatClampNeg ((I 64 (x1.toNatClampNeg)) + x2)) 64 (x1.toNatClampNeg) < I 66 (x1.toNatClampNeg) then (Q none (sM mo G (up2 (up2 I 64 x1.toNatClampNeg ((I 64 (x1.toNatClampNeg)) + x2)) 60 12 ((I 60 12) &&& (((1 : Int32) <<< (x1 &&& 31)) ^^^ (-1)))) J)) else (Q none (sM mo G (up2 (up2 I 64 x1.toNatClampNeg ((I 64 (x1.toNatClampNeg)) + x2)) 60 12 ((I 60 12) ||| ((I 60 2) &&& ((1 : Int32) <<< (x1 &&& 31))))) J)))) else (Q none (sM mo G I J)))) := by
  rw [bkw_130_0]
  all_goals (try simp (decide := true) only [bkw_130_10, bkw_130_11, bkw_130_56, bkw_130_70, up2_ne, up2_sn, up2_ss, ne_eq, tl_some, tl_none, zb_0, zb_1, zb_bi, true_and, bi_eq, bi_ne, oz_f, zz_t, if_true, if_false, not_true_eq_false, not_false_eq_true])
  all_goals grind (splits := 30) [bi]
theorem lpb_130_0 (b : Nat) (hb : b = 52 ∨ b = 60) (x1 : Int32) (x2 : Int32) : sm_wp X 130 0 [some (.ref b), some (.int x1), some (.int x2)] [] (sM mo G I J) Q = (if x1 < 0 then (Q none (sM mo G I J)) else (if x1 < 6 then (vp_in x1 6 ∧ (if (up2 I (b + 4) x1.toNatClampNeg ((I (b + 4) (x1.toNatClampNeg)) + x2)) (b + 4) (x1.toNatClampNeg) < I (b + 6) (x1.toNatClampNeg) then (Q none (sM mo G (up2 (up2 I (b + 4) x1.toNatClampNeg ((I (b + 4) (x1.toNatClampNeg)) + x2)) b 12 ((I b 12) &&& (((1 : Int32) <<< (x1 &&& 31)) ^^^ (-1)))) J)) else (Q none (sM mo G (up2 (up2 I (b + 4) x1.toNatClampNeg ((I (b + 4) (x1.toNatClampNeg)) + x2)) b 12 ((I b 12) ||| ((I b 2) &&& ((1 : Int32) <<< (x1 &&& 31))))) J)))) else (Q none (sM mo G I J)))) := by
  rcases hb with rfl | rfl
  · exact lp_130_0 X mo G I J Q x1 x2
  · exact lpw_130_0 X mo G I J Q x1 x2
theorem lp_131_0  : sm_wp X 131 0 [some (.ref 52)] [] (sM mo G I J) Q = (if I 52 5 ≤ 8 then (Q (some (.int 0)) (sM mo G I J)) else (Q (some (.int 1)) (sM mo G I J))) := by
  rw [bk_131_0]
  all_goals (try simp (decide := true) only [bk_131_13, bk_131_14, up2_ne, up2_sn, up2_ss, ne_eq, tl_some, tl_none, zb_0, zb_1, zb_bi, true_and, bi_eq, bi_ne, oz_f, zz_t, if_true, if_false, not_true_eq_false, not_false_eq_true])
  all_goals grind (splits := 30) [bi]
theorem lpw_131_0  : sm_wp X 131 0 [some (.ref 60)] [] (sM mo G I J) Q = (if I 60 5 ≤ 8 then (Q (some (.int 0)) (sM mo G I J)) else (Q (some (.int 1)) (sM mo G I J))) := by
  rw [bkw_131_0]
  all_goals (try simp (decide := true) only [bkw_131_13, bkw_131_14, up2_ne, up2_sn, up2_ss, ne_eq, tl_some, tl_none, zb_0, zb_1, zb_bi, true_and, bi_eq, bi_ne, oz_f, zz_t, if_true, if_false, not_true_eq_false, not_false_eq_true])
  all_goals grind (splits := 30) [bi]
theorem lpb_131_0 (b : Nat) (hb : b = 52 ∨ b = 60)  : sm_wp X 131 0 [some (.ref b)] [] (sM mo G I J) Q = (if I b 5 ≤ 8 then (Q (some (.int 0)) (sM mo G I J)) else (Q (some (.int 1)) (sM mo G I J))) := by
  rcases hb with rfl | rfl
  · exact lp_131_0 X mo G I J Q 
  · exact lpw_131_0 X mo G I J Q 
theorem lp_132_0 (x1 : Int32) (x2 : Int32) : sm_wp X 132 0 [some (.ref 52), some (.int x1), some (.int x2), none] [] (sM mo G I J) Q = (if x1 < 0 then (Q (some (.int (-1))) (sM mo G I J)) else (if x1 < 8 then (sm_wp X 132 16 [some (.ref 52), some (.int x1), none, some (.int (x2 + 1))] [] (sM mo G I J) Q) else (Q (some (.int (-1))) (sM mo G I J)))) := by
  rw [bk_132_0]
  all_goals (try simp (decide := true) only [bk_132_10, bk_132_12, bk_132_37, bk_132_43, up2_ne, up2_sn, up2_ss, ne_eq, tl_some, tl_none, zb_0, zb_1, zb_bi, true_and, bi_eq, bi_ne, oz_f, zz_t, if_true, if_false, not_true_eq_false, not_false_eq_true])
  all_goals grind (splits := 30) [bi]
theorem lp_132_16 (x1 : Int32) (x3 : Int32) : sm_wp X 132 16 [some (.ref 52), some (.int x1), none, some (.int x3)] [] (sM mo G I J) Q = (if 6 ≤ x3 then (Q (some (.int (-1))) (sM mo G I J)) else (vp_in x1 8 ∧ (if ((I 54 (x1.toNatClampNeg)) >>> (x3 &&& 31)) &&& 1 = 0 then (sm_wp X 132 16 [some (.ref 52), some (.int x1), none, some (.int (x3 + 1))] [] (sM mo G I J) Q) else (Q (some (.int x3)) (sM mo G I J))))) := by
  rw [bk_132_16]
  all_goals (try simp (decide := true) only [bk_132_0, bk_132_10, bk_132_12, bk_132_37, bk_132_43, up2_ne, up2_sn, up2_ss, ne_eq, tl_some, tl_none, zb_0, zb_1, zb_bi, true_and, bi_eq, bi_ne, oz_f, zz_t, if_true, if_false, not_true_eq_false, not_false_eq_true])
  all_goals grind (splits := 30) [bi]
theorem lpw_132_0 (x1 : Int32) (x2 : Int32) : sm_wp X 132 0 [some (.ref 60), some (.int x1), some (.int x2), none] [] (sM mo G I J) Q = (if x1 < 0 then (Q (some (.int (-1))) (sM mo G I J)) else (if x1 < 8 then (sm_wp X 132 16 [some (.ref 60), some (.int x1), none, some (.int (x2 + 1))] [] (sM mo G I J) Q) else (Q (some (.int (-1))) (sM mo G I J)))) := by
  rw [bkw_132_0]
  all_goals (try simp (decide := true) only [bkw_132_10, bkw_132_12, bkw_132_37, bkw_132_43, up2_ne, up2_sn, up2_ss, ne_eq, tl_some, tl_none, zb_0, zb_1, zb_bi, true_and, bi_eq, bi_ne, oz_f, zz_t, if_true, if_false, not_true_eq_false, not_false_eq_true])
  all_goals grind (splits := 30) [bi]
theorem lpw_132_16 (x1 : Int32) (x3 : Int32) : sm_wp X 132 16 [some (.ref 60), some (.int x1), none, some (.int x3)] [] (sM mo G I J) Q = (if 6 ≤ x3 then (Q (some (.int (-1))) (sM mo G I J)) else (vp_in x1 8 ∧ (if ((I 62 (x1.toNatClampNeg)) >>> (x3 &&& 31)) &&& 1 = 0 then (sm_wp X 132 16 [some (.ref 60), some (.int x1), none, some (.int (x3 + 1))] [] (sM mo G I J) Q) else (Q (some (.int x3)) (sM mo G I J))))) := by
  rw [bkw_132_16]
  all_goals (try simp (decide := true) only [bkw_132_0, bkw_132_10, bkw_132_12, bkw_132_37, bkw_132_43, up2_ne, up2_sn, up2_ss, ne_eq, tl_some, tl_none, zb_0, zb_1, zb_bi, true_and, bi_eq, bi_ne, oz_f, zz_t, if_true, if_false, not_true_eq_false, not_false_eq_true])
  all_goals grind (splits := 30) [bi]
theorem lpb_132_0 (b : Nat) (hb : b = 52 ∨ b = 60) (x1 : Int32) (x2 : Int32) : sm_wp X 132 0 [some (.ref b), some (.int x1), some (.int x2), none] [] (sM mo G I J) Q = (if x1 < 0 then (Q (some (.int (-1))) (sM mo G I J)) else (if x1 < 8 then (sm_wp X 132 16 [some (.ref b), some (.int x1), none, some (.int (x2 + 1))] [] (sM mo G I J) Q) else (Q (some (.int (-1))) (sM mo G I J)))) := by
  rcases hb with rfl | rfl
  · exact lp_132_0 X mo G I J Q x1 x2
  · exact lpw_132_0 X mo G I J Q x1 x2
theorem lpb_132_16 (b : Nat) (hb : b = 52 ∨ b = 60) (x1 : Int32) (x3 : Int32) : sm_wp X 132 16 [some (.ref b), some (.int x1), none, some (.int x3)] [] (sM mo G I J) Q = (if 6 ≤ x3 then (Q (some (.int (-1))) (sM mo G I J)) else (vp_in x1 8 ∧ (if ((I (b + 2) (x1.toNatClampNeg)) >>> (x3 &&& 31)) &&& 1 = 0 then (sm_wp X 132 16 [some (.ref b), some (.int x1), none, some (.int (x3 + 1))] [] (sM mo G I J) Q) else (Q (some (.int x3)) (sM mo G I J))))) := by
  rcases hb with rfl | rfl
  · exact lp_132_16 X mo G I J Q x1 x3
  · exact lpw_132_16 X mo G I J Q x1 x3
theorem lp_133_0 (x1 : Int32) (x2 : Int32) : sm_wp X 133 0 [some (.ref 52), some (.int x1), some (.int x2)] [] (sM mo G I J) Q = (if x1 < 0 then (Q none (sM mo G I J)) else (if x1 < 8 then (vp_in x1 8 ∧ (sm_wp X 130 0 [some (.ref 52), some (.int (I 55 (x1.toNatClampNeg))), some (.int (-(wof (I 13) (I 55 (x1.toNatClampNeg)) (I 53 (x1.toNatClampNeg)))))] [] (sM mo G I J) (fun v M => sm_wp X 133 41 [some (.ref 52), some (.int x1), some (.int x2)] (v.toList ++ []) M Q))) else (Q none (sM mo G I J)))) := by
  rw [bk_133_0]
  all_goals (try simp (decide := true) only [bk_133_10, bk_133_11, bk_133_37, bk_133_41, bk_133_57, bk_133_60, ct_Realm_worthOf, up2_ne, up2_sn, up2_ss, ne_eq, tl_some, tl_none, zb_0, zb_1, zb_bi, true_and, bi_eq, bi_ne, oz_f, zz_t, if_true, if_false, not_true_eq_false, not_false_eq_true])
  all_goals grind (splits := 30) [bi]
theorem lp_133_41 (x1 : Int32) (x2 : Int32) : sm_wp X 133 41 [some (.ref 52), some (.int x1), some (.int x2)] [] (sM mo G I J) Q = (vp_in x1 8 ∧ (sm_wp X 130 0 [some (.ref 52), some (.int x2), some (.int (wof (I 13) x2 (I 53 (x1.toNatClampNeg))))] [] (sM mo G I J) (fun v M => sm_wp X 133 60 [some (.ref 52), some (.int x1), some (.int x2)] (v.toList ++ []) M Q))) := by
  rw [bk_133_41]
  all_goals (try simp (decide := true) only [bk_133_0, bk_133_10, bk_133_11, bk_133_37, bk_133_57, bk_133_60, ct_Realm_worthOf, up2_ne, up2_sn, up2_ss, ne_eq, tl_some, tl_none, zb_0, zb_1, zb_bi, true_and, bi_eq, bi_ne, oz_f, zz_t, if_true, if_false, not_true_eq_false, not_false_eq_true])
  all_goals grind (splits := 30) [bi]
theorem lp_133_60 (x1 : Int32) (x2 : Int32) : sm_wp X 133 60 [some (.ref 52), some (.int x1), some (.int x2)] [] (sM mo G I J) Q = (vp_in x1 8 ∧ (Q none (sM mo G (up2 I 55 x1.toNatClampNeg x2) J))) := by
  rw [bk_133_60]
  all_goals (try simp (decide := true) only [bk_133_0, bk_133_10, bk_133_11, bk_133_37, bk_133_41, bk_133_57, up2_ne, up2_sn, up2_ss, ne_eq, tl_some, tl_none, zb_0, zb_1, zb_bi, true_and, bi_eq, bi_ne, oz_f, zz_t, if_true, if_false, not_true_eq_false, not_false_eq_true])
  all_goals grind (splits := 30) [bi]
theorem lpw_133_0 (x1 : Int32) (x2 : Int32) : sm_wp X 133 0 [some (.ref 60), some (.int x1), some (.int x2)] [] (sM mo G I J) Q = (if x1 < 0 then (Q none (sM mo G I J)) else (if x1 < 8 then (vp_in x1 8 ∧ (sm_wp X 130 0 [some (.ref 60), some (.int (I 63 (x1.toNatClampNeg))), some (.int (-(wof (I 13) (I 63 (x1.toNatClampNeg)) (I 61 (x1.toNatClampNeg)))))] [] (sM mo G I J) (fun v M => sm_wp X 133 41 [some (.ref 60), some (.int x1), some (.int x2)] (v.toList ++ []) M Q))) else (Q none (sM mo G I J)))) := by
  rw [bkw_133_0]
  all_goals (try simp (decide := true) only [bkw_133_10, bkw_133_11, bkw_133_37, bkw_133_41, bkw_133_57, bkw_133_60, ct_Realm_worthOf, up2_ne, up2_sn, up2_ss, ne_eq, tl_some, tl_none, zb_0, zb_1, zb_bi, true_and, bi_eq, bi_ne, oz_f, zz_t, if_true, if_false, not_true_eq_false, not_false_eq_true])
  all_goals grind (splits := 30) [bi]
theorem lpw_133_41 (x1 : Int32) (x2 : Int32) : sm_wp X 133 41 [some (.ref 60), some (.int x1), some (.int x2)] [] (sM mo G I J) Q = (vp_in x1 8 ∧ (sm_wp X 130 0 [some (.ref 60), some (.int x2), some (.int (wof (I 13) x2 (I 61 (x1.toNatClampNeg))))] [] (sM mo G I J) (fun v M => sm_wp X 133 60 [some (.ref 60), some (.int x1), some (.int x2)] (v.toList ++ []) M Q))) := by
  rw [bkw_133_41]
  all_goals (try simp (decide := true) only [bkw_133_0, bkw_133_10, bkw_133_11, bkw_133_37, bkw_133_57, bkw_133_60, ct_Realm_worthOf, up2_ne, up2_sn, up2_ss, ne_eq, tl_some, tl_none, zb_0, zb_1, zb_bi, true_and, bi_eq, bi_ne, oz_f, zz_t, if_true, if_false, not_true_eq_false, not_false_eq_true])
  all_goals grind (splits := 30) [bi]
theorem lpw_133_60 (x1 : Int32) (x2 : Int32) : sm_wp X 133 60 [some (.ref 60), some (.int x1), some (.int x2)] [] (sM mo G I J) Q = (vp_in x1 8 ∧ (Q none (sM mo G (up2 I 63 x1.toNatClampNeg x2) J))) := by
  rw [bkw_133_60]
  all_goals (try simp (decide := true) only [bkw_133_0, bkw_133_10, bkw_133_11, bkw_133_37, bkw_133_41, bkw_133_57, up2_ne, up2_sn, up2_ss, ne_eq, tl_some, tl_none, zb_0, zb_1, zb_bi, true_and, bi_eq, bi_ne, oz_f, zz_t, if_true, if_false, not_true_eq_false, not_false_eq_true])
  all_goals grind (splits := 30) [bi]
theorem lpb_133_0 (b : Nat) (hb : b = 52 ∨ b = 60) (x1 : Int32) (x2 : Int32) : sm_wp X 133 0 [some (.ref b), some (.int x1), some (.int x2)] [] (sM mo G I J) Q = (if x1 < 0 then (Q none (sM mo G I J)) else (if x1 < 8 then (vp_in x1 8 ∧ (sm_wp X 130 0 [some (.ref b), some (.int (I (b + 3) (x1.toNatClampNeg))), some (.int (-(wof (I 13) (I (b + 3) (x1.toNatClampNeg)) (I (b + 1) (x1.toNatClampNeg)))))] [] (sM mo G I J) (fun v M => sm_wp X 133 41 [some (.ref b), some (.int x1), some (.int x2)] (v.toList ++ []) M Q))) else (Q none (sM mo G I J)))) := by
  rcases hb with rfl | rfl
  · exact lp_133_0 X mo G I J Q x1 x2
  · exact lpw_133_0 X mo G I J Q x1 x2
theorem lpb_133_41 (b : Nat) (hb : b = 52 ∨ b = 60) (x1 : Int32) (x2 : Int32) : sm_wp X 133 41 [some (.ref b), some (.int x1), some (.int x2)] [] (sM mo G I J) Q = (vp_in x1 8 ∧ (sm_wp X 130 0 [some (.ref b), some (.int x2), some (.int (wof (I 13) x2 (I (b + 1) (x1.toNatClampNeg))))] [] (sM mo G I J) (fun v M => sm_wp X 133 60 [some (.ref b), some (.int x1), some (.int x2)] (v.toList ++ []) M Q))) := by
  rcases hb with rfl | rfl
  · exact lp_133_41 X mo G I J Q x1 x2
  · exact lpw_133_41 X mo G I J Q x1 x2
theorem lpb_133_60 (b : Nat) (hb : b = 52 ∨ b = 60) (x1 : Int32) (x2 : Int32) : sm_wp X 133 60 [some (.ref b), some (.int x1), some (.int x2)] [] (sM mo G I J) Q = (vp_in x1 8 ∧ (Q none (sM mo G (up2 I (b + 3) x1.toNatClampNeg x2) J))) := by
  rcases hb with rfl | rfl
  · exact lp_133_60 X mo G I J Q x1 x2
  · exact lpw_133_60 X mo G I J Q x1 x2
theorem lp_134_0  : sm_wp X 134 0 [some (.ref 52)] [] (sM mo G I J) Q = (if I 52 12 = I 52 2 then (sm_wp X 135 0 [some (.ref 52), none, none, none] [] (sM mo G (up2 (up2 I 52 13 ((I 52 13) + 1)) 52 14 ((I 52 14) + 1)) (up2 J 52 16 ((J 52 16) ||| (1 <<< ((I 52 12).toInt64 &&& 63))))) (fun v M => sm_wp X 134 51 [some (.ref 52)] (v.toList ++ []) M Q)) else (Q none (sM mo G (up2 I 52 13 ((I 52 13) + 1)) (up2 J 52 16 ((J 52 16) ||| (1 <<< ((I 52 12).toInt64 &&& 63))))))) := by
  rw [bk_134_0]
  all_goals (try simp (decide := true) only [bk_134_37, bk_134_51, bk_134_68, up2_ne, up2_sn, up2_ss, ne_eq, tl_some, tl_none, zb_0, zb_1, zb_bi, true_and, bi_eq, bi_ne, oz_f, zz_t, if_true, if_false, not_true_eq_false, not_false_eq_true])
  all_goals grind (splits := 30) [bi]
theorem lp_134_51 (s0 : Int32) : sm_wp X 134 51 [some (.ref 52)] [.int s0] (sM mo G I J) Q = (if s0 = 0 then (Q none (sM mo G I J)) else (sm_wp X 136 0 [some (.ref 52), none, none, none, none] [] (sM mo G (up2 I 52 15 ((I 52 15) + 1)) J) (fun v M => sm_wp X 134 68 [some (.ref 52)] (v.toList ++ []) M Q))) := by
  rw [bk_134_51]
  all_goals (try simp (decide := true) only [bk_134_0, bk_134_37, bk_134_68, up2_ne, up2_sn, up2_ss, ne_eq, tl_some, tl_none, zb_0, zb_1, zb_bi, true_and, bi_eq, bi_ne, oz_f, zz_t, if_true, if_false, not_true_eq_false, not_false_eq_true])
  all_goals grind (splits := 30) [bi]
theorem lp_134_68  : sm_wp X 134 68 [some (.ref 52)] [] (sM mo G I J) Q = (Q none (sM mo G I J)) := by
  rw [bk_134_68]
  all_goals (try simp (decide := true) only [bk_134_0, bk_134_37, bk_134_51, up2_ne, up2_sn, up2_ss, ne_eq, tl_some, tl_none, zb_0, zb_1, zb_bi, true_and, bi_eq, bi_ne, oz_f, zz_t, if_true, if_false, not_true_eq_false, not_false_eq_true])
  all_goals grind (splits := 30) [bi]
theorem lpw_134_0  : sm_wp X 134 0 [some (.ref 60)] [] (sM mo G I J) Q = (if I 60 12 = I 60 2 then (sm_wp X 135 0 [some (.ref 60), none, none, none] [] (sM mo G (up2 (up2 I 60 13 ((I 60 13) + 1)) 60 14 ((I 60 14) + 1)) (up2 J 60 16 ((J 60 16) ||| (1 <<< ((I 60 12).toInt64 &&& 63))))) (fun v M => sm_wp X 134 51 [some (.ref 60)] (v.toList ++ []) M Q)) else (Q none (sM mo G (up2 I 60 13 ((I 60 13) + 1)) (up2 J 60 16 ((J 60 16) ||| (1 <<< ((I 60 12).toInt64 &&& 63))))))) := by
  rw [bkw_134_0]
  all_goals (try simp (decide := true) only [bkw_134_37, bkw_134_51, bkw_134_68, up2_ne, up2_sn, up2_ss, ne_eq, tl_some, tl_none, zb_0, zb_1, zb_bi, true_and, bi_eq, bi_ne, oz_f, zz_t, if_true, if_false, not_true_eq_false, not_false_eq_true])
  all_goals grind (splits := 30) [bi]
theorem lpw_134_51 (s0 : Int32) : sm_wp X 134 51 [some (.ref 60)] [.int s0] (sM mo G I J) Q = (if s0 = 0 then (Q none (sM mo G I J)) else (sm_wp X 136 0 [some (.ref 60), none, none, none, none] [] (sM mo G (up2 I 60 15 ((I 60 15) + 1)) J) (fun v M => sm_wp X 134 68 [some (.ref 60)] (v.toList ++ []) M Q))) := by
  rw [bkw_134_51]
  all_goals (try simp (decide := true) only [bkw_134_0, bkw_134_37, bkw_134_68, up2_ne, up2_sn, up2_ss, ne_eq, tl_some, tl_none, zb_0, zb_1, zb_bi, true_and, bi_eq, bi_ne, oz_f, zz_t, if_true, if_false, not_true_eq_false, not_false_eq_true])
  all_goals grind (splits := 30) [bi]
theorem lpw_134_68  : sm_wp X 134 68 [some (.ref 60)] [] (sM mo G I J) Q = (Q none (sM mo G I J)) := by
  rw [bkw_134_68]
  all_goals (try simp (decide := true) only [bkw_134_0, bkw_134_37, bkw_134_51, up2_ne, up2_sn, up2_ss, ne_eq, tl_some, tl_none, zb_0, zb_1, zb_bi, true_and, bi_eq, bi_ne, oz_f, zz_t, if_true, if_false, not_true_eq_false, not_false_eq_true])
  all_goals grind (splits := 30) [bi]
theorem lpb_134_0 (b : Nat) (hb : b = 52 ∨ b = 60)  : sm_wp X 134 0 [some (.ref b)] [] (sM mo G I J) Q = (if I b 12 = I b 2 then (sm_wp X 135 0 [some (.ref b), none, none, none] [] (sM mo G (up2 (up2 I b 13 ((I b 13) + 1)) b 14 ((I b 14) + 1)) (up2 J b 16 ((J b 16) ||| (1 <<< ((I b 12).toInt64 &&& 63))))) (fun v M => sm_wp X 134 51 [some (.ref b)] (v.toList ++ []) M Q)) else (Q none (sM mo G (up2 I b 13 ((I b 13) + 1)) (up2 J b 16 ((J b 16) ||| (1 <<< ((I b 12).toInt64 &&& 63))))))) := by
  rcases hb with rfl | rfl
  · exact lp_134_0 X mo G I J Q 
  · exact lpw_134_0 X mo G I J Q 
theorem lpb_134_51 (b : Nat) (hb : b = 52 ∨ b = 60) (s0 : Int32) : sm_wp X 134 51 [some (.ref b)] [.int s0] (sM mo G I J) Q = (if s0 = 0 then (Q none (sM mo G I J)) else (sm_wp X 136 0 [some (.ref b), none, none, none, none] [] (sM mo G (up2 I b 15 ((I b 15) + 1)) J) (fun v M => sm_wp X 134 68 [some (.ref b)] (v.toList ++ []) M Q))) := by
  rcases hb with rfl | rfl
  · exact lp_134_51 X mo G I J Q s0
  · exact lpw_134_51 X mo G I J Q s0
theorem lpb_134_68 (b : Nat) (hb : b = 52 ∨ b = 60)  : sm_wp X 134 68 [some (.ref b)] [] (sM mo G I J) Q = (Q none (sM mo G I J)) := by
  rcases hb with rfl | rfl
  · exact lp_134_68 X mo G I J Q 
  · exact lpw_134_68 X mo G I J Q 
theorem lp_135_0  : sm_wp X 135 0 [some (.ref 52), none, none, none] [] (sM mo G I J) Q = (sm_wp X 135 2 [some (.ref 52), some (.int 0), none, none] [] (sM mo G I J) Q) := by
  rw [bk_135_0]
  all_goals (try simp (decide := true) only [bk_135_16, bk_135_36, bk_135_42, bk_135_49, bk_135_75, bk_135_78, bk_135_89, bk_135_100, bk_135_124, bk_135_129, bk_135_135, bk_135_141, up2_ne, up2_sn, up2_ss, ne_eq, tl_some, tl_none, zb_0, zb_1, zb_bi, true_and, bi_eq, bi_ne, oz_f, zz_t, if_true, if_false, not_true_eq_false, not_false_eq_true])
  all_goals grind (splits := 30) [bi]
theorem lp_135_2 (x1 : Int32) : sm_wp X 135 2 [some (.ref 52), some (.int x1), none, none] [] (sM mo G I J) Q = (if 6 ≤ x1 then (sm_wp X 145 0 [some (.ref 48), none, none, none] [] (sM mo G I J) (fun v M => sm_wp X 135 49 [some (.ref 52), some (.int x1), none, none] (v.toList ++ []) M Q)) else (if ¬ (hBit (I 52 2) x1) then (sm_wp X 135 2 [some (.ref 52), some (.int (x1 + 1)), none, none] [] (sM mo G I J) Q) else (vp_in x1 6 ∧ (if I 57 (x1.toNatClampNeg) ≤ I 56 (x1.toNatClampNeg) then (sm_wp X 135 2 [some (.ref 52), some (.int (x1 + 1)), none, none] [] (sM mo G I J) Q) else (Q (some (.int 0)) (sM mo G I J)))))) := by
  rw [bk_135_2]
  all_goals (try simp (decide := true) only [bk_135_0, bk_135_16, bk_135_36, bk_135_42, bk_135_49, bk_135_75, bk_135_78, bk_135_89, bk_135_100, bk_135_124, bk_135_129, bk_135_135, bk_135_141, ct_House_hasBit, up2_ne, up2_sn, up2_ss, ne_eq, tl_some, tl_none, zb_0, zb_1, zb_bi, true_and, bi_eq, bi_ne, oz_f, zz_t, if_true, if_false, not_true_eq_false, not_false_eq_true])
  all_goals grind (splits := 30) [bi]
theorem lp_135_52 (x1 : Int32) (x2 : Int32) : sm_wp X 135 52 [some (.ref 52), some (.int x1), some (.int x2), none] [] (sM mo G I J) Q = (if 6 ≤ x2 then (Q (some (.int 1)) (sM mo G I J)) else (if x1 = 0 then (Q (some (.int 1)) (sM mo G I J)) else (sm_wp X 135 64 [some (.ref 52), some (.int x1), some (.int x2), some (.int 0)] [] (sM mo G I J) Q))) := by
  rw [bk_135_52]
  all_goals (try simp (decide := true) only [bk_135_0, bk_135_16, bk_135_36, bk_135_42, bk_135_49, bk_135_75, bk_135_78, bk_135_89, bk_135_100, bk_135_124, bk_135_129, bk_135_135, bk_135_141, up2_ne, up2_sn, up2_ss, ne_eq, tl_some, tl_none, zb_0, zb_1, zb_bi, true_and, bi_eq, bi_ne, oz_f, zz_t, if_true, if_false, not_true_eq_false, not_false_eq_true])
  all_goals grind (splits := 30) [bi]
theorem lp_135_64 (x1 : Int32) (x2 : Int32) (x3 : Int32) : sm_wp X 135 64 [some (.ref 52), some (.int x1), some (.int x2), some (.int x3)] [] (sM mo G I J) Q = (if x2 ≤ x3 then (sm_wp X 135 52 [some (.ref 52), some (.int x1), some (.int (x2 + 1)), none] [] (sM mo G I J) Q) else (sm_wp X 147 0 [some (.int x3), some (.int x2)] [] (sM mo G I J) (fun v M => sm_wp X 135 75 [some (.ref 52), some (.int x1), some (.int x2), some (.int x3)] (v.toList ++ [.int x1]) M Q))) := by
  rw [bk_135_64]
  all_goals (try simp (decide := true) only [bk_135_0, bk_135_16, bk_135_36, bk_135_42, bk_135_49, bk_135_75, bk_135_78, bk_135_89, bk_135_100, bk_135_124, bk_135_129, bk_135_135, bk_135_141, up2_ne, up2_sn, up2_ss, ne_eq, tl_some, tl_none, zb_0, zb_1, zb_bi, true_and, bi_eq, bi_ne, oz_f, zz_t, if_true, if_false, not_true_eq_false, not_false_eq_true])
  all_goals grind (splits := 30) [bi]
theorem lp_135_49 (x1 : Int32) (s0 : Int32) : sm_wp X 135 49 [some (.ref 52), some (.int x1), none, none] [.int s0] (sM mo G I J) Q = (sm_wp X 135 52 [some (.ref 52), some (.int s0), some (.int 1), none] [] (sM mo G I J) Q) := by
  rw [bk_135_49]
  all_goals (try simp (decide := true) only [bk_135_0, bk_135_16, bk_135_36, bk_135_42, bk_135_75, bk_135_78, bk_135_89, bk_135_100, bk_135_124, bk_135_129, bk_135_135, bk_135_141, up2_ne, up2_sn, up2_ss, ne_eq, tl_some, tl_none, zb_0, zb_1, zb_bi, true_and, bi_eq, bi_ne, oz_f, zz_t, if_true, if_false, not_true_eq_false, not_false_eq_true])
  all_goals grind (splits := 30) [bi]
theorem lp_135_75 (x1 : Int32) (x2 : Int32) (x3 : Int32) (s0 : Int32) (s1 : Int32) : sm_wp X 135 75 [some (.ref 52), some (.int x1), some (.int x2), some (.int x3)] [.int s1, .int s0] (sM mo G I J) Q = (if ¬ (hBit s0 s1) then (sm_wp X 135 64 [some (.ref 52), some (.int x1), some (.int x2), some (.int (x3 + 1))] [] (sM mo G I J) Q) else (if ¬ (hBit (I 52 2) x3) then (sm_wp X 135 64 [some (.ref 52), some (.int x1), some (.int x2), some (.int (x3 + 1))] [] (sM mo G I J) Q) else (if ¬ (hBit (I 52 2) x2) then (sm_wp X 135 64 [some (.ref 52), some (.int x1), some (.int x2), some (.int (x3 + 1))] [] (sM mo G I J) Q) else (vp_in x3 6 ∧ (vp_in x2 6 ∧ (sm_wp X 149 0 [some (.ref 48), some (.int x3), some (.int x2), some (.int (I 56 (x3.toNatClampNeg))), some (.int (I 56 (x2.toNatClampNeg))), none, none] [] (sM mo G I J) (fun v M => sm_wp X 135 124 [some (.ref 52), some (.int x1), some (.int x2), some (.int x3)] (v.toList ++ []) M Q))))))) := by
  rw [bk_135_75]
  all_goals (try simp (decide := true) only [bk_135_0, bk_135_16, bk_135_36, bk_135_42, bk_135_49, bk_135_78, bk_135_89, bk_135_100, bk_135_124, bk_135_129, bk_135_135, bk_135_141, ct_House_hasBit, up2_ne, up2_sn, up2_ss, ne_eq, tl_some, tl_none, zb_0, zb_1, zb_bi, true_and, bi_eq, bi_ne, oz_f, zz_t, if_true, if_false, not_true_eq_false, not_false_eq_true])
  all_goals grind (splits := 30) [bi]
theorem lp_135_124 (x1 : Int32) (x2 : Int32) (x3 : Int32) (s0 : Int32) : sm_wp X 135 124 [some (.ref 52), some (.int x1), some (.int x2), some (.int x3)] [.int s0] (sM mo G I J) Q = (if s0 = 0 then (sm_wp X 135 64 [some (.ref 52), some (.int x1), some (.int x2), some (.int (x3 + 1))] [] (sM mo G I J) Q) else (Q (some (.int 0)) (sM mo G I J))) := by
  rw [bk_135_124]
  all_goals (try simp (decide := true) only [bk_135_0, bk_135_16, bk_135_36, bk_135_42, bk_135_49, bk_135_75, bk_135_78, bk_135_89, bk_135_100, bk_135_129, bk_135_135, bk_135_141, up2_ne, up2_sn, up2_ss, ne_eq, tl_some, tl_none, zb_0, zb_1, zb_bi, true_and, bi_eq, bi_ne, oz_f, zz_t, if_true, if_false, not_true_eq_false, not_false_eq_true])
  all_goals grind (splits := 30) [bi]
theorem lpw_135_0  : sm_wp X 135 0 [some (.ref 60), none, none, none] [] (sM mo G I J) Q = (sm_wp X 135 2 [some (.ref 60), some (.int 0), none, none] [] (sM mo G I J) Q) := by
  rw [bkw_135_0]
  all_goals (try simp (decide := true) only [bkw_135_16, bkw_135_36, bkw_135_42, bkw_135_49, bkw_135_75, bkw_135_78, bkw_135_89, bkw_135_100, bkw_135_124, bkw_135_129, bkw_135_135, bkw_135_141, up2_ne, up2_sn, up2_ss, ne_eq, tl_some, tl_none, zb_0, zb_1, zb_bi, true_and, bi_eq, bi_ne, oz_f, zz_t, if_true, if_false, not_true_eq_false, not_false_eq_true])
  all_goals grind (splits := 30) [bi]
theorem lpw_135_2 (x1 : Int32) : sm_wp X 135 2 [some (.ref 60), some (.int x1), none, none] [] (sM mo G I J) Q = (if 6 ≤ x1 then (sm_wp X 145 0 [some (.ref 48), none, none, none] [] (sM mo G I J) (fun v M => sm_wp X 135 49 [some (.ref 60), some (.int x1), none, none] (v.toList ++ []) M Q)) else (if ¬ (hBit (I 60 2) x1) then (sm_wp X 135 2 [some (.ref 60), some (.int (x1 + 1)), none, none] [] (sM mo G I J) Q) else (vp_in x1 6 ∧ (if I 65 (x1.toNatClampNeg) ≤ I 64 (x1.toNatClampNeg) then (sm_wp X 135 2 [some (.ref 60), some (.int (x1 + 1)), none, none] [] (sM mo G I J) Q) else (Q (some (.int 0)) (sM mo G I J)))))) := by
  rw [bkw_135_2]
  all_goals (try simp (decide := true) only [bkw_135_0, bkw_135_16, bkw_135_36, bkw_135_42, bkw_135_49, bkw_135_75, bkw_135_78, bkw_135_89, bkw_135_100, bkw_135_124, bkw_135_129, bkw_135_135, bkw_135_141, ct_House_hasBit, up2_ne, up2_sn, up2_ss, ne_eq, tl_some, tl_none, zb_0, zb_1, zb_bi, true_and, bi_eq, bi_ne, oz_f, zz_t, if_true, if_false, not_true_eq_false, not_false_eq_true])
  all_goals grind (splits := 30) [bi]
theorem lpw_135_52 (x1 : Int32) (x2 : Int32) : sm_wp X 135 52 [some (.ref 60), some (.int x1), some (.int x2), none] [] (sM mo G I J) Q = (if 6 ≤ x2 then (Q (some (.int 1)) (sM mo G I J)) else (if x1 = 0 then (Q (some (.int 1)) (sM mo G I J)) else (sm_wp X 135 64 [some (.ref 60), some (.int x1), some (.int x2), some (.int 0)] [] (sM mo G I J) Q))) := by
  rw [bkw_135_52]
  all_goals (try simp (decide := true) only [bkw_135_0, bkw_135_16, bkw_135_36, bkw_135_42, bkw_135_49, bkw_135_75, bkw_135_78, bkw_135_89, bkw_135_100, bkw_135_124, bkw_135_129, bkw_135_135, bkw_135_141, up2_ne, up2_sn, up2_ss, ne_eq, tl_some, tl_none, zb_0, zb_1, zb_bi, true_and, bi_eq, bi_ne, oz_f, zz_t, if_true, if_false, not_true_eq_false, not_false_eq_true])
  all_goals grind (splits := 30) [bi]
theorem lpw_135_64 (x1 : Int32) (x2 : Int32) (x3 : Int32) : sm_wp X 135 64 [some (.ref 60), some (.int x1), some (.int x2), some (.int x3)] [] (sM mo G I J) Q = (if x2 ≤ x3 then (sm_wp X 135 52 [some (.ref 60), some (.int x1), some (.int (x2 + 1)), none] [] (sM mo G I J) Q) else (sm_wp X 147 0 [some (.int x3), some (.int x2)] [] (sM mo G I J) (fun v M => sm_wp X 135 75 [some (.ref 60), some (.int x1), some (.int x2), some (.int x3)] (v.toList ++ [.int x1]) M Q))) := by
  rw [bkw_135_64]
  all_goals (try simp (decide := true) only [bkw_135_0, bkw_135_16, bkw_135_36, bkw_135_42, bkw_135_49, bkw_135_75, bkw_135_78, bkw_135_89, bkw_135_100, bkw_135_124, bkw_135_129, bkw_135_135, bkw_135_141, up2_ne, up2_sn, up2_ss, ne_eq, tl_some, tl_none, zb_0, zb_1, zb_bi, true_and, bi_eq, bi_ne, oz_f, zz_t, if_true, if_false, not_true_eq_false, not_false_eq_true])
  all_goals grind (splits := 30) [bi]
theorem lpw_135_49 (x1 : Int32) (s0 : Int32) : sm_wp X 135 49 [some (.ref 60), some (.int x1), none, none] [.int s0] (sM mo G I J) Q = (sm_wp X 135 52 [some (.ref 60), some (.int s0), some (.int 1), none] [] (sM mo G I J) Q) := by
  rw [bkw_135_49]
  all_goals (try simp (decide := true) only [bkw_135_0, bkw_135_16, bkw_135_36, bkw_135_42, bkw_135_75, bkw_135_78, bkw_135_89, bkw_135_100, bkw_135_124, bkw_135_129, bkw_135_135, bkw_135_141, up2_ne, up2_sn, up2_ss, ne_eq, tl_some, tl_none, zb_0, zb_1, zb_bi, true_and, bi_eq, bi_ne, oz_f, zz_t, if_true, if_false, not_true_eq_false, not_false_eq_true])
  all_goals grind (splits := 30) [bi]
end R3
