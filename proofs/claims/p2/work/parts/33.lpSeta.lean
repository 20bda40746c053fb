/-! One turn of each loop, and the stretches between calls, by program. -/
section R3
variable (X : (Nat → Int32) × Nat) (mo : Bool) (G : Nat × Nat) (I : Nat → Nat → Int32) (J : Nat → Nat → Int64) (Q : Option Value → sm_M → Prop)
theorem lp_128_0 (x1 : Int32) : sm_wp X 128 0 [some (.ref 52), some (.int x1), none, none] [] (sM mo G I J) Q = (if ¬ I 52 3 = x1 then (sm_wp X 129 0 [some (.ref 52), some (.int x1), none, none, none] [] (sM mo G (up2 (up2 (up2 (up2 (up2 (up2 I 52 3 x1) 52 4 (I 1 4)) 52 13 0) 52 14 0) 52 15 0) 52 17 (-1)) (up2 J 52 16 0)) (fun v M => sm_wp X 128 69 [some (.ref 52), some (.int x1), none, none] (v.toList ++ []) M Q)) else (if ¬ I 52 4 = I 1 4 then (sm_wp X 129 0 [some (.ref 52), some (.int x1), none, none, none] [] (sM mo G (up2 (up2 (up2 (up2 (up2 (up2 I 52 3 x1) 52 4 (I 1 4)) 52 13 0) 52 14 0) 52 15 0) 52 17 (-1)) (up2 J 52 16 0)) (fun v M => sm_wp X 128 69 [some (.ref 52), some (.int x1), none, none] (v.toList ++ []) M Q)) else (Q none (sM mo G I J)))) := by
  rw [bk_128_0]
  all_goals (try simp (decide := true) only [bk_128_23, bk_128_69, bk_128_73, bk_128_77, bk_128_101, bk_128_104, bk_128_110, bk_128_129, bk_128_133, bk_128_140, up2_ne, up2_sn, up2_ss, ne_eq, tl_some, tl_none, zb_0, zb_1, zb_bi, true_and, bi_eq, bi_ne, oz_f, zz_t, if_true, if_false, not_true_eq_false, not_false_eq_true])
  all_goals grind (splits := 30) [bi]
theorem lp_128_79 (x2 : Int32) : sm_wp X 128 79 [some (.ref 52), none, some (.int x2), none] [] (sM mo G I J) Q = (if I 52 5 ≤ x2 then (sm_wp X 128 114 [some (.ref 52), none, some (.int 1), some (.int 0)] [] (sM mo G I J) Q) else (if 8 ≤ x2 then (sm_wp X 128 114 [some (.ref 52), none, some (.int 1), some (.int 0)] [] (sM mo G I J) Q) else (sm_wp X 132 0 [some (.ref 52), some (.int x2), some (.int (-1)), none] [] (sM mo G I J) (fun v M => sm_wp X 128 101 [some (.ref 52), none, some (.int x2), none] (v.toList ++ [.int x2, .ref 52]) M Q)))) := by
  rw [bk_128_79]
  all_goals (try simp (decide := true) only [bk_128_0, bk_128_23, bk_128_69, bk_128_73, bk_128_77, bk_128_101, bk_128_104, bk_128_110, bk_128_129, bk_128_133, bk_128_140, up2_ne, up2_sn, up2_ss, ne_eq, tl_some, tl_none, zb_0, zb_1, zb_bi, true_and, bi_eq, bi_ne, oz_f, zz_t, if_true, if_false, not_true_eq_false, not_false_eq_true])
  all_goals grind (splits := 30) [bi]
theorem lp_128_114 (x2 : Int32) (x3 : Int32) : sm_wp X 128 114 [some (.ref 52), none, some (.int x2), some (.int x3)] [] (sM mo G I J) Q = (if 6561 ≤ x3 then (Q none (sM mo G I J)) else (if x2 = 0 then (Q none (sM mo G I J)) else (sm_wp X 134 0 [some (.ref 52)] [] (sM mo G I J) (fun v M => sm_wp X 128 129 [some (.ref 52), none, some (.int x2), some (.int x3)] (v.toList ++ []) M Q)))) := by
  rw [bk_128_114]
  all_goals (try simp (decide := true) only [bk_128_0, bk_128_23, bk_128_69, bk_128_73, bk_128_77, bk_128_101, bk_128_104, bk_128_110, bk_128_129, bk_128_133, bk_128_140, up2_ne, up2_sn, up2_ss, ne_eq, tl_some, tl_none, zb_0, zb_1, zb_bi, true_and, bi_eq, bi_ne, oz_f, zz_t, if_true, if_false, not_true_eq_false, not_false_eq_true])
  all_goals grind (splits := 30) [bi]
theorem lp_128_69 (x1 : Int32) : sm_wp X 128 69 [some (.ref 52), some (.int x1), none, none] [] (sM mo G I J) Q = (sm_wp X 131 0 [some (.ref 52)] [] (sM mo G I J) (fun v M => sm_wp X 128 73 [some (.ref 52), some (.int x1), none, none] (v.toList ++ []) M Q)) := by
  rw [bk_128_69]
  all_goals (try simp (decide := true) only [bk_128_0, bk_128_23, bk_128_73, bk_128_77, bk_128_101, bk_128_104, bk_128_110, bk_128_129, bk_128_133, bk_128_140, up2_ne, up2_sn, up2_ss, ne_eq, tl_some, tl_none, zb_0, zb_1, zb_bi, true_and, bi_eq, bi_ne, oz_f, zz_t, if_true, if_false, not_true_eq_false, not_false_eq_true])
  all_goals grind (splits := 30) [bi]
theorem lp_128_101 (x2 : Int32) (s1 : Int32) (s2 : Int32) : sm_wp X 128 101 [some (.ref 52), none, some (.int x2), none] [.int s2, .int s1, .ref 52] (sM mo G I J) Q = (sm_wp X 133 0 [some (.ref 52), some (.int s1), some (.int s2)] [] (sM mo G I J) (fun v M => sm_wp X 128 104 [some (.ref 52), none, some (.int x2), none] (v.toList ++ []) M Q)) := by
  rw [bk_128_101]
  all_goals (try simp (decide := true) only [bk_128_0, bk_128_23, bk_128_69, bk_128_73, bk_128_77, bk_128_104, bk_128_110, bk_128_129, bk_128_133, bk_128_140, up2_ne, up2_sn, up2_ss, ne_eq, tl_some, tl_none, zb_0, zb_1, zb_bi, true_and, bi_eq, bi_ne, oz_f, zz_t, if_true, if_false, not_true_eq_false, not_false_eq_true])
  all_goals grind (splits := 30) [bi]
theorem lp_128_129 (x2 : Int32) (x3 : Int32) : sm_wp X 128 129 [some (.ref 52), none, some (.int x2), some (.int x3)] [] (sM mo G I J) Q = (sm_wp X 137 0 [some (.ref 52), none, none] [] (sM mo G I J) (fun v M => sm_wp X 128 133 [some (.ref 52), none, some (.int x2), some (.int x3)] (v.toList ++ []) M Q)) := by
  rw [bk_128_129]
  all_goals (try simp (decide := true) only [bk_128_0, bk_128_23, bk_128_69, bk_128_73, bk_128_77, bk_128_101, bk_128_104, bk_128_110, bk_128_133, bk_128_140, up2_ne, up2_sn, up2_ss, ne_eq, tl_some, tl_none, zb_0, zb_1, zb_bi, true_and, bi_eq, bi_ne, oz_f, zz_t, if_true, if_false, not_true_eq_false, not_false_eq_true])
  all_goals grind (splits := 30) [bi]
theorem lp_128_73 (x1 : Int32) (s0 : Int32) : sm_wp X 128 73 [some (.ref 52), some (.int x1), none, none] [.int s0] (sM mo G I J) Q = (if s0 = 0 then (sm_wp X 128 79 [some (.ref 52), none, some (.int 0), none] [] (sM mo G I J) Q) else (Q none (sM mo G I J))) := by
  rw [bk_128_73]
  all_goals (try simp (decide := true) only [bk_128_0, bk_128_23, bk_128_69, bk_128_77, bk_128_101, bk_128_104, bk_128_110, bk_128_129, bk_128_133, bk_128_140, up2_ne, up2_sn, up2_ss, ne_eq, tl_some, tl_none, zb_0, zb_1, zb_bi, true_and, bi_eq, bi_ne, oz_f, zz_t, if_true, if_false, not_true_eq_false, not_false_eq_true])
  all_goals grind (splits := 30) [bi]
theorem lp_128_104 (x2 : Int32) : sm_wp X 128 104 [some (.ref 52), none, some (.int x2), none] [] (sM mo G I J) Q = (sm_wp X 128 79 [some (.ref 52), none, some (.int (x2 + 1)), none] [] (sM mo G I J) Q) := by
  rw [bk_128_104]
  all_goals (try simp (decide := true) only [bk_128_0, bk_128_23, bk_128_69, bk_128_73, bk_128_77, bk_128_101, bk_128_110, bk_128_129, bk_128_133, bk_128_140, up2_ne, up2_sn, up2_ss, ne_eq, tl_some, tl_none, zb_0, zb_1, zb_bi, true_and, bi_eq, bi_ne, oz_f, zz_t, if_true, if_false, not_true_eq_false, not_false_eq_true])
  all_goals grind (splits := 30) [bi]
theorem lp_128_133 (x2 : Int32) (x3 : Int32) (s0 : Int32) : sm_wp X 128 133 [some (.ref 52), none, some (.int x2), some (.int x3)] [.int s0] (sM mo G I J) Q = (sm_wp X 128 114 [some (.ref 52), none, some (.int s0), some (.int (x3 + 1))] [] (sM mo G I J) Q) := by
  rw [bk_128_133]
  all_goals (try simp (decide := true) only [bk_128_0, bk_128_23, bk_128_69, bk_128_73, bk_128_77, bk_128_101, bk_128_104, bk_128_110, bk_128_129, bk_128_140, up2_ne, up2_sn, up2_ss, ne_eq, tl_some, tl_none, zb_0, zb_1, zb_bi, true_and, bi_eq, bi_ne, oz_f, zz_t, if_true, if_false, not_true_eq_false, not_false_eq_true])
  all_goals grind (splits := 30) [bi]
theorem lpw_128_0 (x1 : Int32) : sm_wp X 128 0 [some (.ref 60), some (.int x1), none, none] [] (sM mo G I J) Q = (if ¬ I 60 3 = x1 then (sm_wp X 129 0 [some (.ref 60), some (.int x1), none, none, none] [] (sM mo G (up2 (up2 (up2 (up2 (up2 (up2 I 60 3 x1) 60 4 (I 1 4)) 60 13 0) 60 14 0) 60 15 0) 60 17 (-1)) (up2 J 60 16 0)) (fun v M => sm_wp X 128 69 [some (.ref 60), some (.int x1), none, none] (v.toList ++ []) M Q)) else (if ¬ I 60 4 = I 1 4 then (sm_wp X 129 0 [some (.ref 60), some (.int x1), none, none, none] [] (sM mo G (up2 (up2 (up2 (up2 (up2 (up2 I 60 3 x1) 60 4 (I 1 4)) 60 13 0) 60 14 0) 60 15 0) 60 17 (-1)) (up2 J 60 16 0)) (fun v M => sm_wp X 128 69 [some (.ref 60), some (.int x1), none, none] (v.toList ++ []) M Q)) else (Q none (sM mo G I J)))) := by
  rw [bkw_128_0]
  all_goals (try simp (decide := true) only [bkw_128_23, bkw_128_69, bkw_128_73, bkw_128_77, bkw_128_101, bkw_128_104, bkw_128_110, bkw_128_129, bkw_128_133, bkw_128_140, up2_ne, up2_sn, up2_ss, ne_eq, tl_some, tl_none, zb_0, zb_1, zb_bi, true_and, bi_eq, bi_ne, oz_f, zz_t, if_true, if_false, not_true_eq_false, not_false_eq_true])
  all_goals grind (splits := 30) [bi]
theorem lpw_128_79 (x2 : Int32) : sm_wp X 128 79 [some (.ref 60), none, some (.int x2), none] [] (sM mo G I J) Q = (if I 60 5 ≤ x2 then (sm_wp X 128 114 [some (.ref 60), none, some (.int 1), some (.int 0)] [] (sM mo G I J) Q) else (if 8 ≤ x2 then (sm_wp X 128 114 [some (.ref 60), none, some (.int 1), some (.int 0)] [] (sM mo G I J) Q) else (sm_wp X 132 0 [some (.ref 60), some (.int x2), some (.int (-1)), none] [] (sM mo G I J) (fun v M => sm_wp X 128 101 [some (.ref 60), none, some (.int x2), none] (v.toList ++ [.int x2, .ref 60]) M Q)))) := by
  rw [bkw_128_79]
  all_goals (try simp (decide := true) only [bkw_128_0, bkw_128_23, bkw_128_69, bkw_128_73, bkw_128_77, bkw_128_101, bkw_128_104, bkw_128_110, bkw_128_129, bkw_128_133, bkw_128_140, up2_ne, up2_sn, up2_ss, ne_eq, tl_some, tl_none, zb_0, zb_1, zb_bi, true_and, bi_eq, bi_ne, oz_f, zz_t, if_true, if_false, not_true_eq_false, not_false_eq_true])
  all_goals grind (splits := 30) [bi]
theorem lpw_128_114 (x2 : Int32) (x3 : Int32) : sm_wp X 128 114 [some (.ref 60), none, some (.int x2), some (.int x3)] [] (sM mo G I J) Q = (if 6561 ≤ x3 then (Q none (sM mo G I J)) else (if x2 = 0 then (Q none (sM mo G I J)) else (sm_wp X 134 0 [some (.ref 60)] [] (sM mo G I J) (fun v M => sm_wp X 128 129 [some (.ref 60), none, some (.int x2), some (.int x3)] (v.toList ++ []) M Q)))) := by
  rw [bkw_128_114]
  all_goals (try simp (decide := true) only [bkw_128_0, bkw_128_23, bkw_128_69, bkw_128_73, bkw_128_77, bkw_128_101, bkw_128_104, bkw_128_110, bkw_128_129, bkw_128_133, bkw_128_140, up2_ne, up2_sn, up2_ss, ne_eq, tl_some, tl_none, zb_0, zb_1, zb_bi, true_and, bi_eq, bi_ne, oz_f, zz_t, if_true, if_false, not_true_eq_false, not_false_eq_true])
  all_goals grind (splits := 30) [bi]
theorem lpw_128_69 (x1 : Int32) : sm_wp X 128 69 [some (.ref 60), some (.int x1), none, none] [] (sM mo G I J) Q = (sm_wp X 131 0 [some (.ref 60)] [] (sM mo G I J) (fun v M => sm_wp X 128 73 [some (.ref 60), some (.int x1), none, none] (v.toList ++ []) M Q)) := by
  rw [bkw_128_69]
  all_goals (try simp (decide := true) only [bkw_128_0, bkw_128_23, bkw_128_73, bkw_128_77, bkw_128_101, bkw_128_104, bkw_128_110, bkw_128_129, bkw_128_133, bkw_128_140, up2_ne, up2_sn, up2_ss, ne_eq, tl_some, tl_none, zb_0, zb_1, zb_bi, true_and, bi_eq, bi_ne, oz_f, zz_t, if_true, if_false, not_true_eq_false, not_false_eq_true])
  all_goals grind (splits := 30) [bi]
theorem lpw_128_101 (x2 : Int32) (s1 : Int32) (s2 : Int32) : sm_wp X 128 101 [some (.ref 60), none, some (.int x2), none] [.int s2, .int s1, .ref 60] (sM mo G I J) Q = (sm_wp X 133 0 [some (.ref 60), some (.int s1), some (.int s2)] [] (sM mo G I J) (fun v M => sm_wp X 128 104 [some (.ref 60), none, some (.int x2), none] (v.toList ++ []) M Q)) := by
  rw [bkw_128_101]
  all_goals (try simp (decide := true) only [bkw_128_0, bkw_128_23, bkw_128_69, bkw_128_73, bkw_128_77, bkw_128_104, bkw_128_110, bkw_128_129, bkw_128_133, bkw_128_140, up2_ne, up2_sn, up2_ss, ne_eq, tl_some, tl_none, zb_0, zb_1, zb_bi, true_and, bi_eq, bi_ne, oz_f, zz_t, if_true, if_false, not_true_eq_false, not_false_eq_true])
  all_goals grind (splits := 30) [bi]
theorem lpw_128_129 (x2 : Int32) (x3 : Int32) : sm_wp X 128 129 [some (.ref 60), none, some (.int x2), some (.int x3)] [] (sM mo G I J) Q = (sm_wp X 137 0 [some (.ref 60), none, none] [] (sM mo G I J) (fun v M => sm_wp X 128 133 [some (.ref 60), none, some (.int x2), some (.int x3)] (v.toList ++ []) M Q)) := by
  rw [bkw_128_129]
  all_goals (try simp (decide := true) only [bkw_128_0, bkw_128_23, bkw_128_69, bkw_128_73, bkw_128_77, bkw_128_101, bkw_128_104, bkw_128_110, bkw_128_133, bkw_128_140, up2_ne, up2_sn, up2_ss, ne_eq, tl_some, tl_none, zb_0, zb_1, zb_bi, true_and, bi_eq, bi_ne, oz_f, zz_t, if_true, if_false, not_true_eq_false, not_false_eq_true])
  all_goals grind (splits := 30) [bi]
theorem lpw_128_73 (x1 : Int32) (s0 : Int32) : sm_wp X 128 73 [some (.ref 60), some (.int x1), none, none] [.int s0] (sM mo G I J) Q = (if s0 = 0 then (sm_wp X 128 79 [some (.ref 60), none, some (.int 0), none] [] (sM mo G I J) Q) else (Q none (sM mo G I J))) := by
  rw [bkw_128_73]
  all_goals (try simp (decide := true) only [bkw_128_0, bkw_128_23, bkw_128_69, bkw_128_77, bkw_128_101, bkw_128_104, bkw_128_110, bkw_128_129, bkw_128_133, bkw_128_140, up2_ne, up2_sn, up2_ss, ne_eq, tl_some, tl_none, zb_0, zb_1, zb_bi, true_and, bi_eq, bi_ne, oz_f, zz_t, if_true, if_false, not_true_eq_false, not_false_eq_true])
  all_goals grind (splits := 30) [bi]
theorem lpw_128_104 (x2 : Int32) : sm_wp X 128 104 [some (.ref 60), none, some (.int x2), none] [] (sM mo G I J) Q = (sm_wp X 128 79 [some (.ref 60), none, some (.int (x2 + 1)), none] [] (sM mo G I J) Q) := by
  rw [bkw_128_104]
  all_goals (try simp (decide := true) only [bkw_128_0, bkw_128_23, bkw_128_69, bkw_128_73, bkw_128_77, bkw_128_101, bkw_128_110, bkw_128_129, bkw_128_133, bkw_128_140, up2_ne, up2_sn, up2_ss, ne_eq, tl_some, tl_none, zb_0, zb_1, zb_bi, true_and, bi_eq, bi_ne, oz_f, zz_t, if_true, if_false, not_true_eq_false, not_false_eq_true])
  all_goals grind (splits := 30) [bi]
theorem lpw_128_133 (x2 : Int32) (x3 : Int32) (s0 : Int32) : sm_wp X 128 133 [some (.ref 60), none, some (.int x2), some (.int x3)] [.int s0] (sM mo G I J) Q = (sm_wp X 128 114 [some (.ref 60), none, some (.int s0), some (.int (x3 + 1))] [] (sM mo G I J) Q) := by
  rw [bkw_128_133]
  all_goals (try simp (decide := true) only [bkw_128_0, bkw_128_23, bkw_128_69, bkw_128_73, bkw_128_77, bkw_128_101, bkw_128_104, bkw_128_110, bkw_128_129, bkw_128_140, up2_ne, up2_sn, up2_ss, ne_eq, tl_some, tl_none, zb_0, zb_1, zb_bi, true_and, bi_eq, bi_ne, oz_f, zz_t, if_true, if_false, not_true_eq_false, not_false_eq_true])
  all_goals grind (splits := 30) [bi]
theorem lpb_128_0 (b : Nat) (hb : b = 52 ∨ b = 60) (x1 : Int32) : sm_wp X 128 0 [some (.ref b), some (.int x1), none, none] [] (sM mo G I J) Q = (if ¬ I b 3 = x1 then (sm_wp X 129 0 [some (.ref b), some (.int x1), none, none, none] [] (sM mo G (up2 (up2 (up2 (up2 (up2 (up2 I b 3 x1) b 4 (I 1 4)) b 13 0) b 14 0) b 15 0) b 17 (-1)) (up2 J b 16 0)) (fun v M => sm_wp X 128 69 [some (.ref b), some (.int x1), none, none] (v.toList ++ []) M Q)) else (if ¬ I b 4 = I 1 4 then (sm_wp X 129 0 [some (.ref b), some (.int x1), none, none, none] [] (sM mo G (up2 (up2 (up2 (up2 (up2 (up2 I b 3 x1) b 4 (I 1 4)) b 13 0) b 14 0) b 15 0) b 17 (-1)) (up2 J b 16 0)) (fun v M => sm_wp X 128 69 [some (.ref b), some (.int x1), none, none] (v.toList ++ []) M Q)) else (Q none (sM mo G I J)))) := by
  rcases hb with rfl | rfl
  · exact lp_128_0 X mo G I J Q x1
  · exact lpw_128_0 X mo G I J Q x1
theorem lpb_128_79 (b : Nat) (hb : b = 52 ∨ b = 60) (x2 : Int32) : sm_wp X 128 79 [some (.ref b), none, some (.int x2), none] [] (sM mo G I J) Q = (if I b 5 ≤ x2 then (sm_wp X 128 114 [some (.ref b), none, some (.int 1), some (.int 0)] [] (sM mo G I J) Q) else (if 8 ≤ x2 then (sm_wp X 128 114 [some (.ref b), none, some (.int 1), some (.int 0)] [] (sM mo G I J) Q) else (sm_wp X 132 0 [some (.ref b), some (.int x2), some (.int (-1)), none] [] (sM mo G I J) (fun v M => sm_wp X 128 101 [some (.ref b), none, some (.int x2), none] (v.toList ++ [.int x2, .ref b]) M Q)))) := by
  rcases hb with rfl | rfl
  · exact lp_128_79 X mo G I J Q x2
  · exact lpw_128_79 X mo G I J Q x2
theorem lpb_128_114 (b : Nat) (hb : b = 52 ∨ b = 60) (x2 : Int32) (x3 : Int32) : sm_wp X 128 114 [some (.ref b), none, some (.int x2), some (.int x3)] [] (sM mo G I J) Q = (if 6561 ≤ x3 then (Q none (sM mo G I J)) else (if x2 = 0 then (Q none (sM mo G I J)) else (sm_wp X 134 0 [some (.ref b)] [] (sM mo G I J) (fun v M => sm_wp X 128 129 [some (.ref b), none, some (.int x2), some (.int x3)] (v.toList ++ []) M Q)))) := by
  rcases hb with rfl | rfl
  · exact lp_128_114 X mo G I J Q x2 x3
  · exact lpw_128_114 X mo G I J Q x2 x3
theorem lpb_128_69 (b : Nat) (hb : b = 52 ∨ b = 60) (x1 : Int32) : sm_wp X 128 69 [some (.ref b), some (.int x1), none, none] [] (sM mo G I J) Q = (sm_wp X 131 0 [some (.ref b)] [] (sM mo G I J) (fun v M => sm_wp X 128 73 [some (.ref b), some (.int x1), none, none] (v.toList ++ []) M Q)) := by
  rcases hb with rfl | rfl
  · exact lp_128_69 X mo G I J Q x1
  · exact lpw_128_69 X mo G I J Q x1
theorem lpb_128_101 (b : Nat) (hb : b = 52 ∨ b = 60) (x2 : Int32) (s1 : Int32) (s2 : Int32) : sm_wp X 128 101 [some (.ref b), none, some (.int x2), none] [.int s2, .int s1, .ref b] (sM mo G I J) Q = (sm_wp X 133 0 [some (.ref b), some (.int s1), some (.int s2)] [] (sM mo G I J) (fun v M => sm_wp X 128 104 [some (.ref b), none, some (.int x2), none] (v.toList ++ []) M Q)) := by
  rcases hb with rfl | rfl
  · exact lp_128_101 X mo G I J Q x2 s1 s2
  · exact lpw_128_101 X mo G I J Q x2 s1 s2
theorem lpb_128_129 (b : Nat) (hb : b = 52 ∨ b = 60) (x2 : Int32) (x3 : Int32) : sm_wp X 128 129 [some (.ref b), none, some (.int x2), some (.int x3)] [] (sM mo G I J) Q = (sm_wp X 137 0 [some (.ref b), none, none] [] (sM mo G I J) (fun v M => sm_wp X 128 133 [some (.ref b), none, some (.int x2), some (.int x3)] (v.toList ++ []) M Q)) := by
  rcases hb with rfl | rfl
  · exact lp_128_129 X mo G I J Q x2 x3
  · exact lpw_128_129 X mo G I J Q x2 x3
theorem lpb_128_73 (b : Nat) (hb : b = 52 ∨ b = 60) (x1 : Int32) (s0 : Int32) : sm_wp X 128 73 [some (.ref b), some (.int x1), none, none] [.int s0] (sM mo G I J) Q = (if s0 = 0 then (sm_wp X 128 79 [some (.ref b), none, some (.int 0), none] [] (sM mo G I J) Q) else (Q none (sM mo G I J))) := by
  rcases hb with rfl | rfl
  · exact lp_128_73 X mo G I J Q x1 s0
  · exact lpw_128_73 X mo G I J Q x1 s0
theorem lpb_128_104 (b : Nat) (hb : b = 52 ∨ b = 60) (x2 : Int32) : sm_wp X 128 104 [some (.ref b), none, some (.int x2), none] [] (sM mo G I J) Q = (sm_wp X 128 79 [some (.ref b), none, some (.int (x2 + 1)), none] [] (sM mo G I J) Q) := by
  rcases hb with rfl | rfl
  · exact lp_128_104 X mo G I J Q x2
  · exact lpw_128_104 X mo G I J Q x2
theorem lpb_128_133 (b : Nat) (hb : b = 52 ∨ b = 60) (x2 : Int32) (x3 : Int32) (s0 : Int32) : sm_wp X 128 133 [some (.ref b), none, some (.int x2), some (.int x3)] [.int s0] (sM mo G I J) Q = (sm_wp X 128 114 [some (.ref b), none, some (.int s0), some (.int (x3 + 1))] [] (sM mo G I J) Q) := by
  rcases hb with rfl | rfl
  · exact lp_128_133 X mo G I J Q x2 x3 s0
  · exact lpw_128_133 X mo G I J Q x2 x3 s0
theorem lp_129_0 (x1 : Int32) : sm_wp X 129 0 [some (.ref 52), some (.int x1), none, none, none] [] (sM mo G I J) Q = (sm_wp X 129 19 [some (.ref 52), some (.int x1), some (.int 0), some (.int 0), none] [] (sM mo G (up2 (up2 (up2 I 52 2 x1) 52 12 0) 52 5 0) J) Q) := by
  rw [bk_129_0]
  all_goals (try simp (decide := true) only [bk_129_39, bk_129_51, bk_129_86, bk_129_99, bk_129_109, bk_129_115, bk_129_131, bk_129_148, bk_129_162, bk_129_184, bk_129_187, bk_129_193, up2_ne, up2_sn, up2_ss, ne_eq, tl_some, tl_none, zb_0, zb_1, zb_bi, true_and, bi_eq, bi_ne, oz_f, zz_t, if_true, if_false, not_true_eq_false, not_false_eq_true])
  all_goals grind (splits := 30) [bi]
theorem lp_129_19 (x1 : Int32) (x2 : Int32) (x3 : Int32) : sm_wp X 129 19 [some (.ref 52), some (.int x1), some (.int x2), some (.int x3), none] [] (sM mo G I J) Q = (if I 1 0 ≤ x3 then (sm_wp X 129 117 [some (.ref 52), none, some (.int x2), some (.int 0), none] [] (sM mo G I J) Q) else (if (vf_Realm_isDisputed I x3 x1) then (if 8 ≤ I 52 5 then (sm_wp X 129 19 [some (.ref 52), some (.int x1), some (.int x2), some (.int (x3 + 1)), none] [] (sM mo G (up2 I 52 5 ((I 52 5) + 1)) J) Q) else (vp_in (I 52 5) 8 ∧ (sm_wp X 129 19 [some (.ref 52), some (.int x1), some (.int x2), some (.int (x3 + 1)), none] [] (sM mo G (up2 (up2 (up2 (up2 I 53 (I 52 5).toNatClampNeg x3) 54 (I 52 5).toNatClampNeg ((aLand (up2 I 53 (I 52 5).toNatClampNeg x3) 5 0 x3) &&& x1)) 55 (I 52 5).toNatClampNeg (-1)) 52 5 ((I 52 5) + 1)) J) Q))) else (sm_wp X 129 19 [some (.ref 52), some (.int x1), some (.int (x2 ||| ((1 : Int32) <<< (x3 &&& 31)))), some (.int (x3 + 1)), none] [] (sM mo G I J) Q))) := by
  rw [bk_129_19]
  all_goals (try simp (decide := true) only [bk_129_0, bk_129_39, bk_129_51, bk_129_86, bk_129_99, bk_129_109, bk_129_115, bk_129_131, bk_129_148, bk_129_162, bk_129_184, bk_129_187, bk_129_193, ct_Realm_isDisputed, ct_Realm_claimsOf, up2_ne, up2_sn, up2_ss, ne_eq, tl_some, tl_none, zb_0, zb_1, zb_bi, true_and, bi_eq, bi_ne, oz_f, zz_t, if_true, if_false, not_true_eq_false, not_false_eq_true])
  all_goals grind (splits := 30) [bi]
theorem lp_129_117 (x2 : Int32) (x3 : Int32) : sm_wp X 129 117 [some (.ref 52), none, some (.int x2), some (.int x3), none] [] (sM mo G I J) Q = (if 6 ≤ x3 then (Q none (sM mo G I J)) else (sm_wp X 105 0 [some (.ref 1), some (.int x3), none, none] [] (sM mo G I J) (fun v M => sm_wp X 129 131 [some (.ref 52), none, some (.int x2), some (.int x3), none] (v.toList ++ []) M Q))) := by
  rw [bk_129_117]
  all_goals (try simp (decide := true) only [bk_129_0, bk_129_39, bk_129_51, bk_129_86, bk_129_99, bk_129_109, bk_129_115, bk_129_131, bk_129_148, bk_129_162, bk_129_184, bk_129_187, bk_129_193, up2_ne, up2_sn, up2_ss, ne_eq, tl_some, tl_none, zb_0, zb_1, zb_bi, true_and, bi_eq, bi_ne, oz_f, zz_t, if_true, if_false, not_true_eq_false, not_false_eq_true])
  all_goals grind (splits := 30) [bi]
theorem lp_129_131 (x2 : Int32) (x3 : Int32) (s0 : Int32) : sm_wp X 129 131 [some (.ref 52), none, some (.int x2), some (.int x3), none] [.int s0] (sM mo G I J) Q = (sm_wp X 103 0 [some (.ref 1), some (.int x3), some (.int s0), none, none] [] (sM mo G I J) (fun v M => sm_wp X 129 148 [some (.ref 52), none, some (.int x2), some (.int x3), some (.int s0)] (v.toList ++ [.int x3, .ref 57]) M Q)) := by
  rw [bk_129_131]
  all_goals (try simp (decide := true) only [bk_129_0, bk_129_39, bk_129_51, bk_129_86, bk_129_99, bk_129_109, bk_129_115, bk_129_148, bk_129_162, bk_129_184, bk_129_187, bk_129_193, up2_ne, up2_sn, up2_ss, ne_eq, tl_some, tl_none, zb_0, zb_1, zb_bi, true_and, bi_eq, bi_ne, oz_f, zz_t, if_true, if_false, not_true_eq_false, not_false_eq_true])
  all_goals grind (splits := 30) [bi]
theorem lp_129_148 (x2 : Int32) (x3 : Int32) (x4 : Int32) (s1 : Int32) (s2 : Int32) : sm_wp X 129 148 [some (.ref 52), none, some (.int x2), some (.int x3), some (.int x4)] [.int s2, .int s1, .ref 57] (sM mo G I J) Q = (vp_in s1 6 ∧ (vp_in x3 6 ∧ (sm_wp X 103 0 [some (.ref 1), some (.int x3), some (.int (x4 &&& x2)), none, none] [] (sM mo G (up2 (up2 (up2 I 57 s1.toNatClampNeg s2) 58 x3.toNatClampNeg (aState (up2 I 57 s1.toNatClampNeg s2) 12 0 x3)) 56 x3.toNatClampNeg 0) J) (fun v M => sm_wp X 129 184 [some (.ref 52), none, some (.int x2), some (.int x3), some (.int x4)] (v.toList ++ [.int x3, .ref 52]) M Q)))) := by
  rw [bk_129_148]
  all_goals (try simp (decide := true) only [bk_129_0, bk_129_39, bk_129_51, bk_129_86, bk_129_99, bk_129_109, bk_129_115, bk_129_131, bk_129_162, bk_129_184, bk_129_187, bk_129_193, ct_Realm_boundOf, up2_ne, up2_sn, up2_ss, ne_eq, tl_some, tl_none, zb_0, zb_1, zb_bi, true_and, bi_eq, bi_ne, oz_f, zz_t, if_true, if_false, not_true_eq_false, not_false_eq_true])
  all_goals grind (splits := 30) [bi]
theorem lp_129_184 (x2 : Int32) (x3 : Int32) (x4 : Int32) (s1 : Int32) (s2 : Int32) : sm_wp X 129 184 [some (.ref 52), none, some (.int x2), some (.int x3), some (.int x4)] [.int s2, .int s1, .ref 52] (sM mo G I J) Q = (sm_wp X 130 0 [some (.ref 52), some (.int s1), some (.int s2)] [] (sM mo G I J) (fun v M => sm_wp X 129 187 [some (.ref 52), none, some (.int x2), some (.int x3), some (.int x4)] (v.toList ++ []) M Q)) := by
  rw [bk_129_184]
  all_goals (try simp (decide := true) only [bk_129_0, bk_129_39, bk_129_51, bk_129_86, bk_129_99, bk_129_109, bk_129_115, bk_129_131, bk_129_148, bk_129_162, bk_129_187, bk_129_193, up2_ne, up2_sn, up2_ss, ne_eq, tl_some, tl_none, zb_0, zb_1, zb_bi, true_and, bi_eq, bi_ne, oz_f, zz_t, if_true, if_false, not_true_eq_false, not_false_eq_true])
  all_goals grind (splits := 30) [bi]
theorem lp_129_187 (x2 : Int32) (x3 : Int32) (x4 : Int32) : sm_wp X 129 187 [some (.ref 52), none, some (.int x2), some (.int x3), some (.int x4)] [] (sM mo G I J) Q = (sm_wp X 129 117 [some (.ref 52), none, some (.int x2), some (.int (x3 + 1)), none] [] (sM mo G I J) Q) := by
  rw [bk_129_187]
  all_goals (try simp (decide := true) only [bk_129_0, bk_129_39, bk_129_51, bk_129_86, bk_129_99, bk_129_109, bk_129_115, bk_129_131, bk_129_148, bk_129_162, bk_129_184, bk_129_193, up2_ne, up2_sn, up2_ss, ne_eq, tl_some, tl_none, zb_0, zb_1, zb_bi, true_and, bi_eq, bi_ne, oz_f, zz_t, if_true, if_false, not_true_eq_false, not_false_eq_true])
  all_goals grind (splits := 30) [bi]
theorem lpw_129_0 (x1 : Int32) : sm_wp X 129 0 [some (.ref 60), some (.int x1), none, none, none] [] (sM mo G I J) Q = (sm_wp X 129 19 [some (.ref 60), some (.int x1), some (.int 0), some (.int 0), none] [] (sM mo G (up2 (up2 (up2 I 60 2 x1) 60 12 0) 60 5 0) J) Q) := by
  rw [bkw_129_0]
  all_goals (try simp (decide := true) only [bkw_129_39, bkw_129_51, bkw_129_86, bkw_129_99, bkw_129_109, bkw_129_115, bkw_129_131, bkw_129_148, bkw_129_162, bkw_129_184, bkw_129_187, bkw_129_193, up2_ne, up2_sn, up2_ss, ne_eq, tl_some, tl_none, zb_0, zb_1, zb_bi, true_and, bi_eq, bi_ne, oz_f, zz_t, if_true, if_false, not_true_eq_false, not_false_eq_true])
  all_goals grind (splits := 30) [bi]
theorem lpw_129_19 (x1 : Int32) (x2 : Int32) (x3 : Int32) : sm_wp X 129 19 [some (.ref 60), some (.int x1), some (.int x2), some (.int x3), none] [] (sM mo G I J) Q = (if I 1 0 ≤ x3 then (sm_wp X 129 117 [some (.ref 60), none, some (.int x2), some (.int 0), none] [] (sM mo G I J) Q) else (if (vf_Realm_isDisputed I x3 x1) then (if 8 ≤ I 60 5 then (sm_wp X 129 19 [some (.ref 60), some (.int x1), some (.int x2), some (.int (x3 + 1)), none] [] (sM mo G (up2 I 60 5 ((I 60 5) + 1)) J) Q) else (vp_in (I 60 5) 8 ∧ (sm_wp X 129 19 [some (.ref 60), some (.int x1), some (.int x2), some (.int (x3 + 1)), none] [] (sM mo G (up2 (up2 (up2 (up2 I 61 (I 60 5).toNatClampNeg x3) 62 (I 60 5).toNatClampNeg ((aLand (up2 I 61 (I 60 5).toNatClampNeg x3) 5 0 x3) &&& x1)) 63 (I 60 5).toNatClampNeg (-1)) 60 5 ((I 60 5) + 1)) J) Q))) else (sm_wp X 129 19 [some (.ref 60), some (.int x1), some (.int (x2 ||| ((1 : Int32) <<< (x3 &&& 31)))), some (.int (x3 + 1)), none] [] (sM mo G I J) Q))) := by
  rw [bkw_129_19]
  all_goals (try simp (decide := true) only [bkw_129_0, bkw_129_39, bkw_129_51, bkw_129_86, bkw_129_99, bkw_129_109, bkw_129_115, bkw_129_131, bkw_129_148, bkw_129_162, bkw_129_184, bkw_129_187, bkw_129_193, ct_Realm_isDisputed, ct_Realm_claimsOf, up2_ne, up2_sn, up2_ss, ne_eq, tl_some, tl_none, zb_0, zb_1, zb_bi, true_and, bi_eq, bi_ne, oz_f, zz_t, if_true, if_false, not_true_eq_false, not_false_eq_true])
  all_goals grind (splits := 30) [bi]
theorem lpw_129_117 (x2 : Int32) (x3 : Int32) : sm_wp X 129 117 [some (.ref 60), none, some (.int x2), some (.int x3), none] [] (sM mo G I J) Q = (if 6 ≤ x3 then (Q none (sM mo G I J)) else (sm_wp X 105 0 [some (.ref 1), some (.int x3), none, none] [] (sM mo G I J) (fun v M => sm_wp X 129 131 [some (.ref 60), none, some (.int x2), some (.int x3), none] (v.toList ++ []) M Q))) := by
  rw [bkw_129_117]
  all_goals (try simp (decide := true) only [bkw_129_0, bkw_129_39, bkw_129_51, bkw_129_86, bkw_129_99, bkw_129_109, bkw_129_115, bkw_129_131, bkw_129_148, bkw_129_162, bkw_129_184, bkw_129_187, bkw_129_193, up2_ne, up2_sn, up2_ss, ne_eq, tl_some, tl_none, zb_0, zb_1, zb_bi, true_and, bi_eq, bi_ne, oz_f, zz_t, if_true, if_false, not_true_eq_false, not_false_eq_true])
  all_goals grind (splits := 30) [bi]
theorem lpw_129_131 (x2 : Int32) (x3 : Int32) (s0 : Int32) : sm_wp X 129 131 [some (.ref 60), none, some (.int x2), some (.int x3), none] [.int s0] (sM mo G I J) Q = (sm_wp X 103 0 [some (.ref 1), some (.int x3), some (.int s0), none, none] [] (sM mo G I J) (fun v M => sm_wp X 129 148 [some (.ref 60), none, some (.int x2), some (.int x3), some (.int s0)] (v.toList ++ [.int x3, .ref 65]) M Q)) := by
  rw [bkw_129_131]
  all_goals (try simp (decide := true) only [bkw_129_0, bkw_129_39, bkw_129_51, bkw_129_86, bkw_129_99, bkw_129_109, bkw_129_115, bkw_129_148, bkw_129_162, bkw_129_184, bkw_129_187, bkw_129_193, up2_ne, up2_sn, up2_ss, ne_eq, tl_some, tl_none, zb_0, zb_1, zb_bi, true_and, bi_eq, bi_ne, oz_f, zz_t, if_true, if_false, not_true_eq_false, not_false_eq_true])
  all_goals grind (splits := 30) [bi]
theorem lpw_129_148 (x2 : Int32) (x3 : Int32) (x4 : Int32) (s1 : Int32) (s2 : Int32) : sm_wp X 129 148 [some (.ref 60), none, some (.int x2), some (.int x3), some (.int x4)] [.int s2, .int s1, .ref 65] (sM mo G I J) Q = (vp_in s1 6 ∧ (vp_in x3 6 ∧ (sm_wp X 103 0 [some (.ref 1), some (.int x3), some (.int (x4 &&& x2)), none, none] [] (sM mo G (up2 (up2 (up2 I 65 s1.toNatClampNeg s2) 66 x3.toNatClampNeg (aState (up2 I 65 s1.toNatClampNeg s2) 12 0 x3)) 64 x3.toNatClampNeg 0) J) (fun v M => sm_wp X 129 184 [some (.ref 60), none, some (.int x2), some (.int x3), some (.int x4)] (v.toList ++ [.int x3, .ref 60]) M Q)))) := by
  rw [bkw_129_148]
  all_goals (try simp (decide := true) only [bkw_129_0, bkw_129_39, bkw_129_51, bkw_129_86, bkw_129_99, bkw_129_109, bkw_129_115, bkw_129_131, bkw_129_162, bkw_129_184, bkw_129_187, bkw_129_193, ct_Realm_boundOf, up2_ne, up2_sn, up2_ss, ne_eq, tl_some, tl_none, zb_0, zb_1, zb_bi, true_and, bi_eq, bi_ne, oz_f, zz_t, if_true, if_false, not_true_eq_false, not_false_eq_true])
  all_goals grind (splits := 30) [bi]
theorem lpw_129_184 (x2 : Int32) (x3 : Int32) (x4 : Int32) (s1 : Int32) (s2 : Int32) : sm_wp X 129 184 [some (.ref 60), none, some (.int x2), some (.int x3), some (.int x4)] [.int s2, .int s1, .ref 60] (sM mo G I J) Q = (sm_wp X 130 0 [some (.ref 60), some (.int s1), some (.int s2)] [] (sM mo G I J) (fun v M => sm_wp X 129 187 [some (.ref 60), none, some (.int x2), some (.int x3), some (.int x4)] (v.toList ++ []) M Q)) := by
  rw [bkw_129_184]
  all_goals (try simp (decide := true) only [bkw_129_0, bkw_129_39, bkw_129_51, bkw_129_86, bkw_129_99, bkw_129_109, bkw_129_115, bkw_129_131, bkw_129_148, bkw_129_162, bkw_129_187, bkw_129_193, up2_ne, up2_sn, up2_ss, ne_eq, tl_some, tl_none, zb_0, zb_1, zb_bi, true_and, bi_eq, bi_ne, oz_f, zz_t, if_true, if_false, not_true_eq_false, not_false_eq_true])
  all_goals grind (splits := 30) [bi]
theorem lpw_129_187 (x2 : Int32) (x3 : Int32) (x4 : Int32) : sm_wp X 129 187 [some (.ref 60), none, some (.int x2), some (.int x3), some (.int x4)] [] (sM mo G I J) Q = (sm_wp X 129 117 [some (.ref 60), none, some (.int x2), some (.int (x3 + 1)), none] [] (sM mo G I J) Q) := by
  rw [bkw_129_187]
  all_goals (try simp (decide := true) only [bkw_129_0, bkw_129_39, bkw_129_51, bkw_129_86, bkw_129_99, bkw_129_109, bkw_129_115, bkw_129_131, bkw_129_148, bkw_129_162, bkw_129_184, bkw_129_193, up2_ne, up2_sn, up2_ss, ne_eq, tl_some, tl_none, zb_0, zb_1, zb_bi, true_and, bi_eq, bi_ne, oz_f, zz_t, if_true, if_false, not_true_eq_false, not_false_eq_true])
  all_goals grind (splits := 30) [bi]
theorem lpb_129_0 (b : Nat) (hb : b = 52 ∨ b = 60) (x1 : Int32) : sm_wp X 129 0 [some (.ref b), some (.int x1), none, none, none] [] (sM mo G I J) Q = (sm_wp X 129 19 [some (.ref b), some (.int x1), some (.int 0), some (.int 0), none] [] (sM mo G (up2 (up2 (up2 I b 2 x1) b 12 0) b 5 0) J) Q) := by
  rcases hb with rfl | rfl
  · exact lp_129_0 X mo G I J Q x1
  · exact lpw_129_0 X mo G I J Q x1
theorem lpb_129_19 (b : Nat) (hb : b = 52 ∨ b = 60) (x1 : Int32) (x2 : Int32) (x3 : Int32) : sm_wp X 129 19 [some (.ref b), some (.int x1), some (.int x2), some (.int x3), none] [] (sM mo G I J) Q = (if I 1 0 ≤ x3 then (sm_wp X 129 117 [some (.ref b), none, some (.int x2), some (.int 0), none] [] (sM mo G I J) Q) else (if (vf_Realm_isDisputed I x3 x1) then (if 8 ≤ I b 5 then (sm_wp X 129 19 [some (.ref b), some (.int x1), some (.int x2), some (.int (x3 + 1)), none] [] (sM mo G (up2 I b 5 ((I b 5) + 1)) J) Q) else (vp_in (I b 5) 8 ∧ (sm_wp X 129 19 [some (.ref b), some (.int x1), some (.int x2), some (.int (x3 + 1)), none] [] (sM mo G (up2 (up2 (up2 (up2 I (b + 1) (I b 5).toNatClampNeg x3) (b + 2) (I b 5).toNatClampNeg ((aLand (up2 I (b + 1) (I b 5).toNatClampNeg x3) 5 0 x3) &&& x1)) (b + 3) (I b 5).toNatClampNeg (-1)) b 5 ((I b 5) + 1)) J) Q))) else (sm_wp X 129 19 [some (.ref b), some (.int x1), some (.int (x2 ||| ((1 : Int32) <<< (x3 &&& 31)))), some (.int (x3 + 1)), none] [] (sM mo G I J) Q))) := by
  rcases hb with rfl | rfl
  · exact lp_129_19 X mo G I J Q x1 x2 x3
  · exact lpw_129_19 X mo G I J Q x1 x2 x3
theorem lpb_129_117 (b : Nat) (hb : b = 52 ∨ b = 60) (x2 : Int32) (x3 : Int32) : sm_wp X 129 117 [some (.ref b), none, some (.int x2), some (.int x3), none] [] (sM mo G I J) Q = (if 6 ≤ x3 then (Q none (sM mo G I J)) else (sm_wp X 105 0 [some (.ref 1), some (.int x3), none, none] [] (sM mo G I J) (fun v M => sm_wp X 129 131 [some (.ref b), none, some (.int x2), some (.int x3), none] (v.toList ++ []) M Q))) := by
  rcases hb with rfl | rfl
  · exact lp_129_117 X mo G I J Q x2 x3
  · exact lpw_129_117 X mo G I J Q x2 x3
theorem lpb_129_131 (b : Nat) (hb : b = 52 ∨ b = 60) (x2 : Int32) (x3 : Int32) (s0 : Int32) : sm_wp X 129 131 [some (.ref b), none, some (.int x2), some (.int x3), none] [.int s0] (sM mo G I J) Q = (sm_wp X 103 0 [some (.ref 1), some (.int x3), some (.int s0), none, none] [] (sM mo G I J) (fun v M => sm_wp X 129 148 [some (.ref b), none, some (.int x2), some (.int x3), some (.int s0)] (v.toList ++ [.int x3, .ref (b + 5)]) M Q)) := by
  rcases hb with rfl | rfl
  · exact lp_129_131 X mo G I J Q x2 x3 s0
  · exact lpw_129_131 X mo G I J Q x2 x3 s0
end R3
