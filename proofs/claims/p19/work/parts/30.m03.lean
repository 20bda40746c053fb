section
/-! One turn of each loop, and the stretches between calls, by program. -/
section R3
variable (X : (Nat → Int32) × Nat) (mo : Bool) (G : Nat × Nat) (I : Nat → Nat → Int32) (J : Nat → Nat → Int64) (Q : Option Value → sm_M → Prop)
theorem lp_128_0 (x1 : Int32) : sm_wp X 128 0 [some (.ref 52), some (.int x1), none, none] [] (sM mo G I J) Q = (if ¬ I 52 3 = x1 then (sm_wp X 129 0 [some (.ref 52), some (.int x1), none, none, none] [] (sM mo G (up2 (up2 (up2 (up2 (up2 (up2 I 52 3 x1) 52 4 (I 1 4)) 52 13 0) 52 14 0) 52 15 0) 52 17 (-1)) (up2 J 52 16 0)) (fun v M => sm_wp X 128 69 [some (.ref 52), some (.int x1), none, none] (v.toList ++ []) M Q)) else (if ¬ I 52 4 = I 1 4 then (sm_wp X 129 0 [some (.ref 52), some (.int x1), none, none, none] [] (sM mo G (up2 (up2 (up2 (up2 (up2 (up2 I 52 3 x1) 52 4 (I 1 4)) 52 13 0) 52 14 0) 52 15 0) 52 17 (-1)) (up2 J 52 16 0)) (fun v M => sm_wp X 128 69 [some (.ref 52), some (.int x1), none, none] (v.toList ++ []) M Q)) else (Q none (sM mo G I J)))) := by
  rw [bk_128_0]
  all_goals (try simp (decide := true) only [bk_128_23, bk_128_69, bk_128_73, bk_128_77, bk_128_101, bk_128_104, bk_128_110, bk_128_129, bk_128_133, bk_128_140, up2_ne, up2_sn, up2_ss, ne_eq, tl_some, tl_none, zb_0, zb_1, zb_bi, true_and, bi_eq, bi_ne, oz_f, zz_t, if_true, if_false, not_true_eq_false, not_false_eq_true])
  all_goals grind (splits := 30) [bi]
theorem lp_128_79 (x2 : Int32) : sm_wp X 128 79 [some (.ref 52), none, some (.int x2), none] [] (sM mo G I J) Q = (if I 52 5 ≤ x2 then (sm_wp X 128 114 [some (.ref 52), none, some (.int 1), some (.int 0)] [] (sM mo G I J) Q) else (if 8 ≤ x2 then (sm_wp X 128 114 [some (.ref 52), none, some (.int 1), some (.int 0)] [] (sM mo G I J) Q) else (sm_wp X 132 0 [some (.ref 52), some (.int x2), some (.int (-1)), none] [] (sM mo G I J) (fun v M => sm_wp X 128 101 [some (.ref 52), none, some (.int x2), none] (v.toList ++ [.int x2, .ref 52]) M Q)))) := by
  rw [bk_128_79]
  all_goals (try simp (decide := true) only [bk_128_0, bk_128_23, bk_128_69, bk_128_73, bk_128_77, bk_128_101, bk_128_104, bk_128_110, bk_128_129, bk_128_133, bk_128_140, up2_ne, up2_sn, up2_ss, ne_eq, tl_some, tl_none, zb_0, zb_1, zb_bi, true_and, bi_eq, bi_ne, oz_f, zz_t, if_true, if_false, not_true_eq_false, not_false_eq_true])
  all_goals grind (splits := 30) [bi]
theorem lp_128_114 (x2 : Int32) (x3 : Int32) : sm_wp X 128 114 [some (.ref 52), none, some (.int x2), some (.int x3)] [] (sM mo G I J) Q = (if 6561 ≤ x3 then (Q none (sM mo G I J)) else (if x2 = 0 then (Q none (sM mo G I J)) else (sm_wp X 134 0 [some (.ref 52)] [] (sM mo G I J) (fun v M => sm_wp X 128 129 [some (.ref 52), none, some (.int x2), some (.int x3)] (v.toList ++ []) M Q)))) := by
  rw [bk_128_114]
  all_goals (try simp (decide := true) only [bk_128_0, bk_128_23, bk_128_69, bk_128_73, bk_128_77, bk_128_101, bk_128_104, bk_128_110, bk_128_129, bk_128_133, bk_128_140, up2_ne, up2_sn, up2_ss, ne_eq, tl_some, tl_none, zb_0, zb_1, zb_bi, true_and, bi_eq, bi_ne, oz_f, zz_t, if_true, if_false, not_true_eq_false, not_false_eq_true])
  all_goals grind (splits := 30) [bi]
theorem lp_128_69 (x1 : Int32) : sm_wp X 128 69 [some (.ref 52), some (.int x1), none, none] [] (sM mo G I J) Q = (sm_wp X 131 0 [some (.ref 52)] [] (sM mo G I J) (fun v M => sm_wp X 128 73 [some (.ref 52), some (.int x1), none, none] (v.toList ++ []) M Q)) := by
  rw [bk_128_69]
  all_goals (try simp (decide := true) only [bk_128_0, bk_128_23, bk_128_73, bk_128_77, bk_128_101, bk_128_104, bk_128_110, bk_128_129, bk_128_133, bk_128_140, up2_ne, up2_sn, up2_ss, ne_eq, tl_some, tl_none, zb_0, zb_1, zb_bi, true_and, bi_eq, bi_ne, oz_f, zz_t, if_true, if_false, not_true_eq_false, not_false_eq_true])
  all_goals grind (splits := 30) [bi]
theorem lp_128_101 (x2 : Int32) (s1 : Int32) (s2 : Int32) : sm_wp X 128 101 [some (.ref 52), none, some (.int x2), none] [.int s2, .int s1, .ref 52] (sM mo G I J) Q = (sm_wp X 133 0 [some (.ref 52), some (.int s1), some (.int s2)] [] (sM mo G I J) (fun v M => sm_wp X 128 104 [some (.ref 52), none, some (.int x2), none] (v.toList ++ []) M Q)) := by
  rw [bk_128_101]
  all_goals (try simp (decide := true) only [bk_128_0, bk_128_23, bk_128_69, bk_128_73, bk_128_77, bk_128_104, bk_128_110, bk_128_129, bk_128_133, bk_128_140, up2_ne, up2_sn, up2_ss, ne_eq, tl_some, tl_none, zb_0, zb_1, zb_bi, true_and, bi_eq, bi_ne, oz_f, zz_t, if_true, if_false, not_true_eq_false, not_false_eq_true])
  all_goals grind (splits := 30) [bi]
theorem lp_128_129 (x2 : Int32) (x3 : Int32) : sm_wp X 128 129 [some (.ref 52), none, some (.int x2), some (.int x3)] [] (sM mo G I J) Q = (sm_wp X 137 0 [some (.ref 52), none, none] [] (sM mo G I J) (fun v M => sm_wp X 128 133 [some (.ref 52), none, some (.int x2), some (.int x3)] (v.toList ++ []) M Q)) := by
  rw [bk_128_129]
  all_goals (try simp (decide := true) only [bk_128_0, bk_128_23, bk_128_69, bk_128_73, bk_128_77, bk_128_101, bk_128_104, bk_128_110, bk_128_133, bk_128_140, up2_ne, up2_sn, up2_ss, ne_eq, tl_some, tl_none, zb_0, zb_1, zb_bi, true_and, bi_eq, bi_ne, oz_f, zz_t, if_true, if_false, not_true_eq_false, not_false_eq_true])
  all_goals grind (splits := 30) [bi]
theorem lp_128_73 (x1 : Int32) (s0 : Int32) : sm_wp X 128 73 [some (.ref 52), some (.int x1), none, none] [.int s0] (sM mo G I J) Q = (if s0 = 0 then (sm_wp X 128 79 [some (.ref 52), none, some (.int 0), none] [] (sM mo G I J) Q) else (Q none (sM mo G I J))) := by
  rw [bk_128_73]
  all_goals (try simp (decide := true) only [bk_128_0, bk_128_23, bk_128_69, bk_128_77, bk_128_101, bk_128_104, bk_128_110, bk_128_129, bk_128_133, bk_128_140, up2_ne, up2_sn, up2_ss, ne_eq, tl_some, tl_none, zb_0, zb_1, zb_bi, true_and, bi_eq, bi_ne, oz_f, zz_t, if_true, if_false, not_true_eq_false, not_false_eq_true])
  all_goals grind (splits := 30) [bi]
theorem lp_128_104 (x2 : Int32) : sm_wp X 128 104 [some (.ref 52), none, some (.int x2), none] [] (sM mo G I J) Q = (sm_wp X 128 79 [some (.ref 52), none, some (.int (x2 + 1)), none] [] (sM mo G I J) Q) := by
  rw [bk_128_104]
  all_goals (try simp (decide := true) only [bk_128_0, bk_128_23, bk_128_69, bk_128_73, bk_128_77, bk_128_101, bk_128_110, bk_128_129, bk_128_133, bk_128_140, up2_ne, up2_sn, up2_ss, ne_eq, tl_some, tl_none, zb_0, zb_1, zb_bi, true_and, bi_eq, bi_ne, oz_f, zz_t, if_true, if_false, not_true_eq_false, not_false_eq_true])
  all_goals grind (splits := 30) [bi]
theorem lp_128_133 (x2 : Int32) (x3 : Int32) (s0 : Int32) : sm_wp X 128 133 [some (.ref 52), none, some (.int x2), some (.int x3)] [.int s0] (sM mo G I J) Q = (sm_wp X 128 114 [some (.ref 52), none, some (.int s0), some (.int (x3 + 1))] [] (sM mo G I J) Q) := by
  rw [bk_128_133]
  all_goals (try simp (decide := true) only [bk_128_0, bk_128_23, bk_128_69, bk_128_73, bk_128_77, bk_128_101, bk_128_104, bk_128_110, bk_128_129, bk_128_140, up2_ne, up2_sn, up2_ss, ne_eq, tl_some, tl_none, zb_0, zb_1, zb_bi, true_and, bi_eq, bi_ne, oz_f, zz_t, if_true, if_false, not_true_eq_false, not_false_eq_true])
  all_goals grind (splits := 30) [bi]
theorem lpw_128_0 (x1 : Int32) : sm_wp X 128 0 [some (.ref 60), some (.int x1), none, none] [] (sM mo G I J) Q = (if ¬ I 60 3 = x1 then (sm_wp X 129 0 [some (.ref 60), some (.int x1), none, none, none] [] (sM mo G (up2 (up2 (up2 (up2 (up2 (up2 I 60 3 x1) 60 4 (I 1 4)) 60 13 0) 60 14 0) 60 15 0) 60 17 (-1)) (up2 J 60 16 0)) (fun v M => sm_wp X 128 69 [some (.ref 60), some (.int x1), none, none] (v.toList ++ []) M Q)) else (if ¬ I 60 4 = I 1 4 then (sm_wp X 129 0 [some (.ref 60), some (.int x1), none, none, none] [] (sM mo G (up2 (up2 (up2 (up2 (up2 (up2 I 60 3 x1) 60 4 (I 1 4)) 60 13 0) 60 14 0) 60 15 0) 60 17 (-1)) (up2 J 60 16 0)) (fun v M => sm_wp X 128 69 [some (.ref 60), some (.int x1), none, none] (v.toList ++ []) M Q)) else (Q none (sM mo G I J)))) := by
  rw [bkw_128_0]
  all_goals (try simp (decide := true) only [bkw_128_23, bkw_128_69, bkw_128_73, bkw_128_77, bkw_128_101, bkw_128_104, bkw_128_110, bkw_128_129, bkw_128_133, bkw_128_140, up2_ne, up2_sn, up2_ss, ne_eq, tl_some, tl_none, zb_0, zb_1, zb_bi, true_and, bi_eq, bi_ne, oz_f, zz_t, if_true, if_false, not_true_eq_false, not_false_eq_true])
  all_goals grind (splits := 30) [bi]
theorem lpw_128_79 (x2 : Int32) : sm_wp X 128 79 [some (.ref 60), none, some (.int x2), none] [] (sM mo G I J) Q = (if I 60 5 ≤ x2 then (sm_wp X 128 114 [some (.ref 60), none, some (.int 1), some (.int 0)] [] (sM mo G I J) Q) else (if 8 ≤ x2 then (sm_wp X 128 114 [some (.ref 60), none, some (.int 1), some (.int 0)] [] (sM mo G I J) Q) else (sm_wp X 132 0 [some (.ref 60), some (.int x2), some (.int (-1)), none] [] (sM mo G I J) (fun v M => sm_wp X 128 101 [some (.ref 60), none, some (.int x2), none] (v.toList ++ [.int x2, .ref 60]) M Q)))) := by
  rw [bkw_128_79]
  all_goals (try simp (decide := true) only [bkw_128_0, bkw_128_23, bkw_128_69, bkw_128_73, bkw_128_77, bkw_128_101, bkw_128_104, bkw_128_110, bkw_128_129, bkw_128_133, bkw_128_140, up2_ne, up2_sn, up2_ss, ne_eq, tl_some, tl_none, zb_0, zb_1, zb_bi, true_and, bi_eq, bi_ne, oz_f, zz_t, if_true, if_false, not_true_eq_false, not_false_eq_true])
  all_goals grind (splits := 30) [bi]
theorem lpw_128_114 (x2 : Int32) (x3 : Int32) : sm_wp X 128 114 [some (.ref 60), none, some (.int x2), some (.int x3)] [] (sM mo G I J) Q = (if 6561 ≤ x3 then (Q none (sM mo G I J)) else (if x2 = 0 then (Q none (sM mo G I J)) else (sm_wp X 134 0 [some (.ref 60)] [] (sM mo G I J) (fun v M => sm_wp X 128 129 [some (.ref 60), none, some (.int x2), some (.int x3)] (v.toList ++ []) M Q)))) := by
  rw [bkw_128_114]
  all_goals (try simp (decide := true) only [bkw_128_0, bkw_128_23, bkw_128_69, bkw_128_73, bkw_128_77, bkw_128_101, bkw_128_104, bkw_128_110, bkw_128_129, bkw_128_133, bkw_128_140, up2_ne, up2_sn, up2_ss, ne_eq, tl_some, tl_none, zb_0, zb_1, zb_bi, true_and, bi_eq, bi_ne, oz_f, zz_t, if_true, if_false, not_true_eq_false, not_false_eq_true])
  all_goals grind (splits := 30) [bi]
theorem lpw_128_69 (x1 : Int32) : sm_wp X 128 69 [some (.ref 60), some (.int x1), none, none] [] (sM mo G I J) Q = (sm_wp X 131 0 [some (.ref 60)] [] (sM mo G I J) (fun v M => sm_wp X 128 73 [some (.ref 60), some (.int x1), none, none] (v.toList ++ []) M Q)) := by
  rw [bkw_128_69]
  all_goals (try simp (decide := true) only [bkw_128_0, bkw_128_23, bkw_128_73, bkw_128_77, bkw_128_101, bkw_128_104, bkw_128_110, bkw_128_129, bkw_128_133, bkw_128_140, up2_ne, up2_sn, up2_ss, ne_eq, tl_some, tl_none, zb_0, zb_1, zb_bi, true_and, bi_eq, bi_ne, oz_f, zz_t, if_true, if_false, not_true_eq_false, not_false_eq_true])
  all_goals grind (splits := 30) [bi]
theorem lpw_128_101 (x2 : Int32) (s1 : Int32) (s2 : Int32) : sm_wp X 128 101 [some (.ref 60), none, some (.int x2), none] [.int s2, .int s1, .ref 60] (sM mo G I J) Q = (sm_wp X 133 0 [some (.ref 60), some (.int s1), some (.int s2)] [] (sM mo G I J) (fun v M => sm_wp X 128 104 [some (.ref 60), none, some (.int x2), none] (v.toList ++ []) M Q)) := by
  rw [bkw_128_101]
  all_goals (try simp (decide := true) only [bkw_128_0, bkw_128_23, bkw_128_69, bkw_128_73, bkw_128_77, bkw_128_104, bkw_128_110, bkw_128_129, bkw_128_133, bkw_128_140, up2_ne, up2_sn, up2_ss, ne_eq, tl_some, tl_none, zb_0, zb_1, zb_bi, true_and, bi_eq, bi_ne, oz_f, zz_t, if_true, if_false, not_true_eq_false, not_false_eq_true])
  all_goals grind (splits := 30) [bi]
theorem lpw_128_129 (x2 : Int32) (x3 : Int32) : sm_wp X 128 129 [some (.ref 60), none, some (.int x2), some (.int x3)] [] (sM mo G I J) Q = (sm_wp X 137 0 [some (.ref 60), none, none] [] (sM mo G I J) (fun v M => sm_wp X 128 133 [some (.ref 60), none, some (.int x2), some (.int x3)] (v.toList ++ []) M Q)) := by
  rw [bkw_128_129]
  all_goals (try simp (decide := true) only [bkw_128_0, bkw_128_23, bkw_128_69, bkw_128_73, bkw_128_77, bkw_128_101, bkw_128_104, bkw_128_110, bkw_128_133, bkw_128_140, up2_ne, up2_sn, up2_ss, ne_eq, tl_some, tl_none, zb_0, zb_1, zb_bi, true_and, bi_eq, bi_ne, oz_f, zz_t, if_true, if_false, not_true_eq_false, not_false_eq_true])
  all_goals grind (splits := 30) [bi]
theorem lpw_128_73 (x1 : Int32) (s0 : Int32) : sm_wp X 128 73 [some (.ref 60), some (.int x1), none, none] [.int s0] (sM mo G I J) Q = (if s0 = 0 then (sm_wp X 128 79 [some (.ref 60), none, some (.int 0), none] [] (sM mo G I J) Q) else (Q none (sM mo G I J))) := by
  rw [bkw_128_73]
  all_goals (try simp (decide := true) only [bkw_128_0, bkw_128_23, bkw_128_69, bkw_128_77, bkw_128_101, bkw_128_104, bkw_128_110, bkw_128_129, bkw_128_133, bkw_128_140, up2_ne, up2_sn, up2_ss, ne_eq, tl_some, tl_none, zb_0, zb_1, zb_bi, true_and, bi_eq, bi_ne, oz_f, zz_t, if_true, if_false, not_true_eq_false, not_false_eq_true])
  all_goals grind (splits := 30) [bi]
theorem lpw_128_104 (x2 : Int32) : sm_wp X 128 104 [some (.ref 60), none, some (.int x2), none] [] (sM mo G I J) Q = (sm_wp X 128 79 [some (.ref 60), none, some (.int (x2 + 1)), none] [] (sM mo G I J) Q) := by
  rw [bkw_128_104]
  all_goals (try simp (decide := true) only [bkw_128_0, bkw_128_23, bkw_128_69, bkw_128_73, bkw_128_77, bkw_128_101, bkw_128_110, bkw_128_129, bkw_128_133, bkw_128_140, up2_ne, up2_sn, up2_ss, ne_eq, tl_some, tl_none, zb_0, zb_1, zb_bi, true_and, bi_eq, bi_ne, oz_f, zz_t, if_true, if_false, not_true_eq_false, not_false_eq_true])
  all_goals grind (splits := 30) [bi]
theorem lpw_128_133 (x2 : Int32) (x3 : Int32) (s0 : Int32) : sm_wp X 128 133 [some (.ref 60), none, some (.int x2), some (.int x3)] [.int s0] (sM mo G I J) Q = (sm_wp X 128 114 [some (.ref 60), none, some (.int s0), some (.int (x3 + 1))] [] (sM mo G I J) Q) := by
  rw [bkw_128_133]
  all_goals (try simp (decide := true) only [bkw_128_0, bkw_128_23, bkw_128_69, bkw_128_73, bkw_128_77, bkw_128_101, bkw_128_104, bkw_128_110, bkw_128_129, bkw_128_140, up2_ne, up2_sn, up2_ss, ne_eq, tl_some, tl_none, zb_0, zb_1, zb_bi, true_and, bi_eq, bi_ne, oz_f, zz_t, if_true, if_false, not_true_eq_false, not_false_eq_true])
  all_goals grind (splits := 30) [bi]
theorem lpb_128_0 (b : Nat) (hb : b = 52 ∨ b = 60) (x1 : Int32) : sm_wp X 128 0 [some (.ref b), some (.int x1), none, none] [] (sM mo G I J) Q = (if ¬ I b 3 = x1 then (sm_wp X 129 0 [some (.ref b), some (.int x1), none, none, none] [] (sM mo G (up2 (up2 (up2 (up2 (up2 (up2 I b 3 x1) b 4 (I 1 4)) b 13 0) b 14 0) b 15 0) b 17 (-1)) (up2 J b 16 0)) (fun v M => sm_wp X 128 69 [some (.ref b), some (.int x1), none, none] (v.toList ++ []) M Q)) else (if ¬ I b 4 = I 1 4 then (sm_wp X 129 0 [some (.ref b), some (.int x1), none, none, none] [] (sM mo G (up2 (up2 (up2 (up2 (up2 (up2 I b 3 x1) b 4 (I 1 4)) b 13 0) b 14 0) b 15 0) b 17 (-1)) (up2 J b 16 0)) (fun v M => sm_wp X 128 69 [some (.ref b), some (.int x1), none, none] (v.toList ++ []) M Q)) else (Q none (sM mo G I J)))) := by
  rcases hb with rfl | rfl
  · exact lp_128_0 X mo G I J Q x1
  · exact lpw_128_0 X mo G I J Q x1
theorem lpb_128_79 (b : Nat) (hb : b = 52 ∨ b = 60) (x2 : Int32) : sm_wp X 128 79 [some (.ref b), none, some (.int x2), none] [] (sM mo G I J) Q = (if I b 5 ≤ x2 then (sm_wp X 128 114 [some (.ref b), none, some (.int 1), some (.int 0)] [] (sM mo G I J) Q) else (if 8 ≤ x2 then (sm_wp X 128 114 [some (.ref b), none, some (.int 1), some (.int 0)] [] (sM mo G I J) Q) else (sm_wp X 132 0 [some (.ref b), some (.int x2), some (.int (-1)), none] [] (sM mo G I J) (fun v M => sm_wp X 128 101 [some (.ref b), none, some (.int x2), none] (v.toList ++ [.int x2, .ref b]) M Q)))) := by
  rcases hb with rfl | rfl
  · exact lp_128_79 X mo G I J Q x2
  · exact lpw_128_79 X mo G I J Q x2
theorem lpb_128_114 (b : Nat) (hb : b = 52 ∨ b = 60) (x2 : Int32) (x3 : Int32) : sm_wp X 128 114 [some (.ref b), none, some (.int x2), some (.int x3)] [] (sM mo G I J) Q = (if 6561 ≤ x3 then (Q none (sM mo G I J)) else (if x2 = 0 then (Q none (sM mo G I J)) else (sm_wp X 134 0 [some (.ref b)] [] (sM mo G I J) (fun v M => sm_wp X 128 129 [some (.ref b), none, some (.int x2), some (.int x3)] (v.toList ++ []) M Q)))) := by
  rcases hb with rfl | rfl
  · exact lp_128_114 X mo G I J Q x2 x3
  · exact lpw_128_114 X mo G I J Q x2 x3
theorem lpb_128_69 (b : Nat) (hb : b = 52 ∨ b = 60) (x1 : Int32) : sm_wp X 128 69 [some (.ref b), some (.int x1), none, none] [] (sM mo G I J) Q = (sm_wp X 131 0 [some (.ref b)] [] (sM mo G I J) (fun v M => sm_wp X 128 73 [some (.ref b), some (.int x1), none, none] (v.toList ++ []) M Q)) := by
  rcases hb with rfl | rfl
  · exact lp_128_69 X mo G I J Q x1
  · exact lpw_128_69 X mo G I J Q x1
theorem lpb_128_101 (b : Nat) (hb : b = 52 ∨ b = 60) (x2 : Int32) (s1 : Int32) (s2 : Int32) : sm_wp X 128 101 [some (.ref b), none, some (.int x2), none] [.int s2, .int s1, .ref b] (sM mo G I J) Q = (sm_wp X 133 0 [some (.ref b), some (.int s1), some (.int s2)] [] (sM mo G I J) (fun v M => sm_wp X 128 104 [some (.ref b), none, some (.int x2), none] (v.toList ++ []) M Q)) := by
  rcases hb with rfl | rfl
  · exact lp_128_101 X mo G I J Q x2 s1 s2
  · exact lpw_128_101 X mo G I J Q x2 s1 s2
theorem lpb_128_129 (b : Nat) (hb : b = 52 ∨ b = 60) (x2 : Int32) (x3 : Int32) : sm_wp X 128 129 [some (.ref b), none, some (.int x2), some (.int x3)] [] (sM mo G I J) Q = (sm_wp X 137 0 [some (.ref b), none, none] [] (sM mo G I J) (fun v M => sm_wp X 128 133 [some (.ref b), none, some (.int x2), some (.int x3)] (v.toList ++ []) M Q)) := by
  rcases hb with rfl | rfl
  · exact lp_128_129 X mo G I J Q x2 x3
  · exact lpw_128_129 X mo G I J Q x2 x3
theorem lpb_128_73 (b : Nat) (hb : b = 52 ∨ b = 60) (x1 : Int32) (s0 : Int32) : sm_wp X 128 73 [some (.ref b), some (.int x1), none, none] [.int s0] (sM mo G I J) Q = (if s0 = 0 then (sm_wp X 128 79 [some (.ref b), none, some (.int 0), none] [] (sM mo G I J) Q) else (Q none (sM mo G I J))) := by
  rcases hb with rfl | rfl
  · exact lp_128_73 X mo G I J Q x1 s0
  · exact lpw_128_73 X mo G I J Q x1 s0
theorem lpb_128_104 (b : Nat) (hb : b = 52 ∨ b = 60) (x2 : Int32) : sm_wp X 128 104 [some (.ref b), none, some (.int x2), none] [] (sM mo G I J) Q = (sm_wp X 128 79 [some (.ref b), none, some (.int (x2 + 1)), none] [] (sM mo G I J) Q) := by
  rcases hb with rfl | rfl
  · exact lp_128_104 X mo G I J Q x2
  · exact lpw_128_104 X mo G I J Q x2
theorem lpb_128_133 (b : Nat) (hb : b = 52 ∨ b = 60) (x2 : Int32) (x3 : Int32) (s0 : Int32) : sm_wp X 128 133 [some (.ref b), none, some (.int x2), some (.int x3)] [.int s0] (sM mo G I J) Q = (sm_wp X 128 114 [some (.ref b), none, some (.int s0), some (.int (x3 + 1))] [] (sM mo G I J) Q) := by
  rcases hb with rfl | rfl
  · exact lp_128_133 X mo G I J Q x2 x3 s0
  · exact lpw_128_133 X mo G I J Q x2 x3 s0
theorem lp_129_0 (x1 : Int32) : sm_wp X 129 0 [some (.ref 52), some (.int x1), none, none, none] [] (sM mo G I J) Q = (sm_wp X 129 19 [some (.ref 52), some (.int x1), some (.int 0), some (.int 0), none] [] (sM mo G (up2 (up2 (up2 I 52 2 x1) 52 12 0) 52 5 0) J) Q) := by
  rw [bk_129_0]
  all_goals (try simp (decide := true) only [bk_129_39, bk_129_51, bk_129_86, bk_129_99, bk_129_109, bk_129_115, bk_129_131, bk_129_148, bk_129_162, bk_129_184, bk_129_187, bk_129_193, up2_ne, up2_sn, up2_ss, ne_eq, tl_some, tl_none, zb_0, zb_1, zb_bi, true_and, bi_eq, bi_ne, oz_f, zz_t, if_true, if_false, not_true_eq_false, not_false_eq_true])
  all_goals grind (splits := 30) [bi]
theorem lp_129_19 (x1 : Int32) (x2 : Int32) (x3 : Int32) : sm_wp X 129 19 [some (.ref 52), some (.int x1), some (.int x2), some (.int x3), none] [] (sM mo G I J) Q = (if I 1 0 ≤ x3 then (sm_wp X 129 117 [some (.ref 52), none, some (.int x2), some (.int 0), none] [] (sM mo G I J) Q) else (if (vf_Realm_isDisputed I x3 x1) then (if 8 ≤ I 52 5 then (sm_wp X 129 19 [some (.ref 52), some (.int x1), some (.int x2), some (.int (x3 + 1)), none] [] (sM mo G (up2 I 52 5 ((I 52 5) + 1)) J) Q) else (vp_in (I 52 5) 8 ∧ (sm_wp X 129 19 [some (.ref 52), some (.int x1), some (.int x2), some (.int (x3 + 1)), none] [] (sM mo G (up2 (up2 (up2 (up2 I 53 (I 52 5).toNatClampNeg x3) 54 (I 52 5).toNatClampNeg ((aLand (up2 I 53 (I 52 5).toNatClampNeg x3) 5 0 x3) &&& x1)) 55 (I 52 5).toNatClampNeg (-1)) 52 5 ((I 52 5) + 1)) J) Q))) else (sm_wp X 129 19 [some (.ref 52), some (.int x1), some (.int (x2 ||| ((1 : Int32) <<< (x3 &&& 31)))), some (.int (x3 + 1)), none] [] (sM mo G I J) Q))) := by
  rw [bk_129_19]
  all_goals (try simp (decide := true) only [bk_129_0, bk_129_39, bk_129_51, bk_129_86, bk_129_99, bk_129_109, bk_129_115, bk_129_131, bk_129_148, bk_129_162, bk_129_184, bk_129_187, bk_129_193, ct_Realm_isDisputed, ct_Realm_claimsOf, up2_ne, up2_sn, up2_ss, ne_eq, tl_some, tl_none, zb_0, zb_1, zb_bi, true_and, bi_eq, bi_ne, oz_f, zz_t, if_true, if_false, not_true_eq_false, not_false_eq_true])
  all_goals grind (splits := 30) [bi]
theorem lp_129_117 (x2 : Int32) (x3 : Int32) : sm_wp X 129 117 [some (.ref 52), none, some (.int x2), some (.int x3), none] [] (sM mo G I J) Q = (if 6 ≤ x3 then (Q none (sM mo G I J)) else (sm_wp X 105 0 [some (.ref 1), some (.int x3), none, none] [] (sM mo G I J) (fun v M => sm_wp X 129 131 [some (.ref 52), none, some (.int x2), some (.int x3), none] (v.toList ++ []) M Q))) := by
  rw [bk_129_117]
  all_goals (try simp (decide := true) only [bk_129_0, bk_129_39, bk_129_51, bk_129_86, bk_129_99, bk_129_109, bk_129_115, bk_129_131, bk_129_148, bk_129_162, bk_129_184, bk_129_187, bk_129_193, up2_ne, up2_sn, up2_ss, ne_eq, tl_some, tl_none, zb_0, zb_1, zb_bi, true_and, bi_eq, bi_ne, oz_f, zz_t, if_true, if_false, not_true_eq_false, not_false_eq_true])
  all_goals grind (splits := 30) [bi]
theorem lp_129_131 (x2 : Int32) (x3 : Int32) (s0 : Int32) : sm_wp X 129 131 [some (.ref 52), none, some (.int x2), some (.int x3), none] [.int s0] (sM mo G I J) Q = (sm_wp X 103 0 [some (.ref 1), some (.int x3), some (.int s0), none, none] [] (sM mo G I J) (fun v M => sm_wp X 129 148 [some (.ref 52), none, some (.int x2), some (.int x3), some (.int s0)] (v.toList ++ [.int x3, .ref 57]) M Q)) := by
  rw [bk_129_131]
  all_goals (try simp (decide := true) only [bk_129_0, bk_129_39, bk_129_51, bk_129_86, bk_129_99, bk_129_109, bk_129_115, bk_129_148, bk_129_162, bk_129_184, bk_129_187, bk_129_193, up2_ne, up2_sn, up2_ss, ne_eq, tl_some, tl_none, zb_0, zb_1, zb_bi, true_and, bi_eq, bi_ne, oz_f, zz_t, if_true, if_false, not_true_eq_false, not_false_eq_true])
  all_goals grind (splits := 30) [bi]
theorem lp_129_148 (x2 : Int32) (x3 : Int32) (x4 : Int32) (s1 : Int32) (s2 : Int32) : sm_wp X 129 148 [some (.ref 52), none, some (.int x2), some (.int x3), some (.int x4)] [.int s2, .int s1, .ref 57] (sM mo G I J) Q = (vp_in s1 6 ∧ (vp_in x3 6 ∧ (sm_wp X 103 0 [some (.ref 1), some (.int x3), some (.int (x4 &&& x2)), none, none] [] (sM mo G (up2 (up2 (up2 I 57 s1.toNatClampNeg s2) 58 x3.toNatClampNeg (aState (up2 I 57 s1.toNatClampNeg s2) 12 0 x3)) 56 x3.toNatClampNeg 0) J) (fun v M => sm_wp X 129 184 [some (.ref 52), none, some (.int x2), some (.int x3), some (.int x4)] (v.toList ++ [.int x3, .ref 52]) M Q)))) := by
  rw [bk_129_148]
  all_goals (try simp (decide := true) only [bk_129_0, bk_129_39, bk_129_51, bk_129_86, bk_129_99, bk_129_109, bk_129_115, bk_129_131, bk_129_162, bk_129_184, bk_129_187, bk_129_193, ct_Realm_boundOf, up2_ne, up2_sn, up2_ss, ne_eq, tl_some, tl_none, zb_0, zb_1, zb_bi, true_and, bi_eq, bi_ne, oz_f, zz_t, if_true, if_false, not_true_eq_false, not_false_eq_true])
  all_goals grind (splits := 30) [bi]
theorem lp_129_184 (x2 : Int32) (x3 : Int32) (x4 : Int32) (s1 : Int32) (s2 : Int32) : sm_wp X 129 184 [some (.ref 52), none, some (.int x2), some (.int x3), some (.int x4)] [.int s2, .int s1, .ref 52] (sM mo G I J) Q = (sm_wp X 130 0 [some (.ref 52), some (.int s1), some (.int s2)] [] (sM mo G I J) (fun v M => sm_wp X 129 187 [some (.ref 52), none, some (.int x2), some (.int x3), some (.int x4)] (v.toList ++ []) M Q)) := by
  rw [bk_129_184]
  all_goals (try simp (decide := true) only [bk_129_0, bk_129_39, bk_129_51, bk_129_86, bk_129_99, bk_129_109, bk_129_115, bk_129_131, bk_129_148, bk_129_162, bk_129_187, bk_129_193, up2_ne, up2_sn, up2_ss, ne_eq, tl_some, tl_none, zb_0, zb_1, zb_bi, true_and, bi_eq, bi_ne, oz_f, zz_t, if_true, if_false, not_true_eq_false, not_false_eq_true])
  all_goals grind (splits := 30) [bi]
theorem lp_129_187 (x2 : Int32) (x3 : Int32) (x4 : Int32) : sm_wp X 129 187 [some (.ref 52), none, some (.int x2), some (.int x3), some (.int x4)] [] (sM mo G I J) Q = (sm_wp X 129 117 [some (.ref 52), none, some (.int x2), some (.int (x3 + 1)), none] [] (sM mo G I J) Q) := by
  rw [bk_129_187]
  all_goals (try simp (decide := true) only [bk_129_0, bk_129_39, bk_129_51, bk_129_86, bk_129_99, bk_129_109, bk_129_115, bk_129_131, bk_129_148, bk_129_162, bk_129_184, bk_129_193, up2_ne, up2_sn, up2_ss, ne_eq, tl_some, tl_none, zb_0, zb_1, zb_bi, true_and, bi_eq, bi_ne, oz_f, zz_t, if_true, if_false, not_true_eq_false, not_false_eq_true])
  all_goals grind (splits := 30) [bi]
theorem lpw_129_0 (x1 : Int32) : sm_wp X 129 0 [some (.ref 60), some (.int x1), none, none, none] [] (sM mo G I J) Q = (sm_wp X 129 19 [some (.ref 60), some (.int x1), some (.int 0), some (.int 0), none] [] (sM mo G (up2 (up2 (up2 I 60 2 x1) 60 12 0) 60 5 0) J) Q) := by
  rw [bkw_129_0]
  all_goals (try simp (decide := true) only [bkw_129_39, bkw_129_51, bkw_129_86, bkw_129_99, bkw_129_109, bkw_129_115, bkw_129_131, bkw_129_148, bkw_129_162, bkw_129_184, bkw_129_187, bkw_129_193, up2_ne, up2_sn, up2_ss, ne_eq, tl_some, tl_none, zb_0, zb_1, zb_bi, true_and, bi_eq, bi_ne, oz_f, zz_t, if_true, if_false, not_true_eq_false, not_false_eq_true])
  all_goals grind (splits := 30) [bi]
theorem lpw_129_19 (x1 : Int32) (x2 : Int32) (x3 : Int32) : sm_wp X 129 19 [some (.ref 60), some (.int x1), some (.int x2), some (.int x3), none] [] (sM mo G I J) Q = (if I 1 0 ≤ x3 then (sm_wp X 129 117 [some (.ref 60), none, some (.int x2), some (.int 0), none] [] (sM mo G I J) Q) else (if (vf_Realm_isDisputed I x3 x1) then (if 8 ≤ I 60 5 then (sm_wp X 129 19 [some (.ref 60), some (.int x1), some (.int x2), some (.int (x3 + 1)), none] [] (sM mo G (up2 I 60 5 ((I 60 5) + 1)) J) Q) else (vp_in (I 60 5) 8 ∧ (sm_wp X 129 19 [some (.ref 60), some (.int x1), some (.int x2), some (.int (x3 + 1)), none] [] (sM mo G (up2 (up2 (up2 (up2 I 61 (I 60 5).toNatClampNeg x3) 62 (I 60 5).toNatClampNeg ((aLand (up2 I 61 (I 60 5).toNatClampNeg x3) 5 0 x3) &&& x1)) 63 (I 60 5).toNatClampNeg (-1)) 60 5 ((I 60 5) + 1)) J) Q))) else (sm_wp X 129 19 [some (.ref 60), some (.int x1), some (.int (x2 ||| ((1 : Int32) <<< (x3 &&& 31)))), some (.int (x3 + 1)), none] [] (sM mo G I J) Q))) := by
  rw [bkw_129_19]
  all_goals (try simp (decide := true) only [bkw_129_0, bkw_129_39, bkw_129_51, bkw_129_86, bkw_129_99, bkw_129_109, bkw_129_115, bkw_129_131, bkw_129_148, bkw_129_162, bkw_129_184, bkw_129_187, bkw_129_193, ct_Realm_isDisputed, ct_Realm_claimsOf, up2_ne, up2_sn, up2_ss, ne_eq, tl_some, tl_none, zb_0, zb_1, zb_bi, true_and, bi_eq, bi_ne, oz_f, zz_t, if_true, if_false, not_true_eq_false, not_false_eq_true])
  all_goals grind (splits := 30) [bi]
theorem lpw_129_117 (x2 : Int32) (x3 : Int32) : sm_wp X 129 117 [some (.ref 60), none, some (.int x2), some (.int x3), none] [] (sM mo G I J) Q = (if 6 ≤ x3 then (Q none (sM mo G I J)) else (sm_wp X 105 0 [some (.ref 1), some (.int x3), none, none] [] (sM mo G I J) (fun v M => sm_wp X 129 131 [some (.ref 60), none, some (.int x2), some (.int x3), none] (v.toList ++ []) M Q))) := by
  rw [bkw_129_117]
  all_goals (try simp (decide := true) only [bkw_129_0, bkw_129_39, bkw_129_51, bkw_129_86, bkw_129_99, bkw_129_109, bkw_129_115, bkw_129_131, bkw_129_148, bkw_129_162, bkw_129_184, bkw_129_187, bkw_129_193, up2_ne, up2_sn, up2_ss, ne_eq, tl_some, tl_none, zb_0, zb_1, zb_bi, true_and, bi_eq, bi_ne, oz_f, zz_t, if_true, if_false, not_true_eq_false, not_false_eq_true])
  all_goals grind (splits := 30) [bi]
theorem lpw_129_131 (x2 : Int32) (x3 : Int32) (s0 : Int32) : sm_wp X 129 131 [some (.ref 60), none, some (.int x2), some (.int x3), none] [.int s0] (sM mo G I J) Q = (sm_wp X 103 0 [some (.ref 1), some (.int x3), some (.int s0), none, none] [] (sM mo G I J) (fun v M => sm_wp X 129 148 [some (.ref 60), none, some (.int x2), some (.int x3), some (.int s0)] (v.toList ++ [.int x3, .ref 65]) M Q)) := by
  rw [bkw_129_131]
  all_goals (try simp (decide := true) only [bkw_129_0, bkw_129_39, bkw_129_51, bkw_129_86, bkw_129_99, bkw_129_109, bkw_129_115, bkw_129_148, bkw_129_162, bkw_129_184, bkw_129_187, bkw_129_193, up2_ne, up2_sn, up2_ss, ne_eq, tl_some, tl_none, zb_0, zb_1, zb_bi, true_and, bi_eq, bi_ne, oz_f, zz_t, if_true, if_false, not_true_eq_false, not_false_eq_true])
  all_goals grind (splits := 30) [bi]
theorem lpw_129_148 (x2 : Int32) (x3 : Int32) (x4 : Int32) (s1 : Int32) (s2 : Int32) : sm_wp X 129 148 [some (.ref 60), none, some (.int x2), some (.int x3), some (.int x4)] [.int s2, .int s1, .ref 65] (sM mo G I J) Q = (vp_in s1 6 ∧ (vp_in x3 6 ∧ (sm_wp X 103 0 [some (.ref 1), some (.int x3), some (.int (x4 &&& x2)), none, none] [] (sM mo G (up2 (up2 (up2 I 65 s1.toNatClampNeg s2) 66 x3.toNatClampNeg (aState (up2 I 65 s1.toNatClampNeg s2) 12 0 x3)) 64 x3.toNatClampNeg 0) J) (fun v M => sm_wp X 129 184 [some (.ref 60), none, some (.int x2), some (.int x3), some (.int x4)] (v.toList ++ [.int x3, .ref 60]) M Q)))) := by
  rw [bkw_129_148]
  all_goals (try simp (decide := true) only [bkw_129_0, bkw_129_39, bkw_129_51, bkw_129_86, bkw_129_99, bkw_129_109, bkw_129_115, bkw_129_131, bkw_129_162, bkw_129_184, bkw_129_187, bkw_129_193, ct_Realm_boundOf, up2_ne, up2_sn, up2_ss, ne_eq, tl_some, tl_none, zb_0, zb_1, zb_bi, true_and, bi_eq, bi_ne, oz_f, zz_t, if_true, if_false, not_true_eq_false, not_false_eq_true])
  all_goals grind (splits := 30) [bi]
theorem lpw_129_184 (x2 : Int32) (x3 : Int32) (x4 : Int32) (s1 : Int32) (s2 : Int32) : sm_wp X 129 184 [some (.ref 60), none, some (.int x2), some (.int x3), some (.int x4)] [.int s2, .int s1, .ref 60] (sM mo G I J) Q = (sm_wp X 130 0 [some (.ref 60), some (.int s1), some (.int s2)] [] (sM mo G I J) (fun v M => sm_wp X 129 187 [some (.ref 60), none, some (.int x2), some (.int x3), some (.int x4)] (v.toList ++ []) M Q)) := by
  rw [bkw_129_184]
  all_goals (try simp (decide := true) only [bkw_129_0, bkw_129_39, bkw_129_51, bkw_129_86, bkw_129_99, bkw_129_109, bkw_129_115, bkw_129_131, bkw_129_148, bkw_129_162, bkw_129_187, bkw_129_193, up2_ne, up2_sn, up2_ss, ne_eq, tl_some, tl_none, zb_0, zb_1, zb_bi, true_and, bi_eq, bi_ne, oz_f, zz_t, if_true, if_false, not_true_eq_false, not_false_eq_true])
  all_goals grind (splits := 30) [bi]
theorem lpw_129_187 (x2 : Int32) (x3 : Int32) (x4 : Int32) : sm_wp X 129 187 [some (.ref 60), none, some (.int x2), some (.int x3), some (.int x4)] [] (sM mo G I J) Q = (sm_wp X 129 117 [some (.ref 60), none, some (.int x2), some (.int (x3 + 1)), none] [] (sM mo G I J) Q) := by
  rw [bkw_129_187]
  all_goals (try simp (decide := true) only [bkw_129_0, bkw_129_39, bkw_129_51, bkw_129_86, bkw_129_99, bkw_129_109, bkw_129_115, bkw_129_131, bkw_129_148, bkw_129_162, bkw_129_184, bkw_129_193, up2_ne, up2_sn, up2_ss, ne_eq, tl_some, tl_none, zb_0, zb_1, zb_bi, true_and, bi_eq, bi_ne, oz_f, zz_t, if_true, if_false, not_true_eq_false, not_false_eq_true])
  all_goals grind (splits := 30) [bi]
theorem lpb_129_0 (b : Nat) (hb : b = 52 ∨ b = 60) (x1 : Int32) : sm_wp X 129 0 [some (.ref b), some (.int x1), none, none, none] [] (sM mo G I J) Q = (sm_wp X 129 19 [some (.ref b), some (.int x1), some (.int 0), some (.int 0), none] [] (sM mo G (up2 (up2 (up2 I b 2 x1) b 12 0) b 5 0) J) Q) := by
  rcases hb with rfl | rfl
  · exact lp_129_0 X mo G I J Q x1
  · exact lpw_129_0 X mo G I J Q x1
theorem lpb_129_19 (b : Nat) (hb : b = 52 ∨ b = 60) (x1 : Int32) (x2 : Int32) (x3 : Int32) : sm_wp X 129 19 [some (.ref b), some (.int x1), some (.int x2), some (.int x3), none] [] (sM mo G I J) Q = (if I 1 0 ≤ x3 then (sm_wp X 129 117 [some (.ref b), none, some (.int x2), some (.int 0), none] [] (sM mo G I J) Q) else (if (vf_Realm_isDisputed I x3 x1) then (if 8 ≤ I b 5 then (sm_wp X 129 19 [some (.ref b), some (.int x1), some (.int x2), some (.int (x3 + 1)), none] [] (sM mo G (up2 I b 5 ((I b 5) + 1)) J) Q) else (vp_in (I b 5) 8 ∧ (sm_wp X 129 19 [some (.ref b), some (.int x1), some (.int x2), some (.int (x3 + 1)), none] [] (sM mo G (up2 (up2 (up2 (up2 I (b + 1) (I b 5).toNatClampNeg x3) (b + 2) (I b 5).toNatClampNeg ((aLand (up2 I (b + 1) (I b 5).toNatClampNeg x3) 5 0 x3) &&& x1)) (b + 3) (I b 5).toNatClampNeg (-1)) b 5 ((I b 5) + 1)) J) Q))) else (sm_wp X 129 19 [some (.ref b), some (.int x1), some (.int (x2 ||| ((1 : Int32) <<< (x3 &&& 31)))), some (.int (x3 + 1)), none] [] (sM mo G I J) Q))) := by
  rcases hb with rfl | rfl
  · exact lp_129_19 X mo G I J Q x1 x2 x3
  · exact lpw_129_19 X mo G I J Q x1 x2 x3
theorem lpb_129_117 (b : Nat) (hb : b = 52 ∨ b = 60) (x2 : Int32) (x3 : Int32) : sm_wp X 129 117 [some (.ref b), none, some (.int x2), some (.int x3), none] [] (sM mo G I J) Q = (if 6 ≤ x3 then (Q none (sM mo G I J)) else (sm_wp X 105 0 [some (.ref 1), some (.int x3), none, none] [] (sM mo G I J) (fun v M => sm_wp X 129 131 [some (.ref b), none, some (.int x2), some (.int x3), none] (v.toList ++ []) M Q))) := by
  rcases hb with rfl | rfl
  · exact lp_129_117 X mo G I J Q x2 x3
  · exact lpw_129_117 X mo G I J Q x2 x3
theorem lpb_129_131 (b : Nat) (hb : b = 52 ∨ b = 60) (x2 : Int32) (x3 : Int32) (s0 : Int32) : sm_wp X 129 131 [some (.ref b), none, some (.int x2), some (.int x3), none] [.int s0] (sM mo G I J) Q = (sm_wp X 103 0 [some (.ref 1), some (.int x3), some (.int s0), none, none] [] (sM mo G I J) (fun v M => sm_wp X 129 148 [some (.ref b), none, some (.int x2), some (.int x3), some (.int s0)] (v.toList ++ [.int x3, .ref (b + 5)]) M Q)) := by
  rcases hb with rfl | rfl
  · exact lp_129_131 X mo G I J Q x2 x3 s0
  · exact lpw_129_131 X mo G I J Q x2 x3 s0
end R3
end
section
/-! One turn of each loop, and the stretches between calls, by program. -/
section R3
variable (X : (Nat → Int32) × Nat) (mo : Bool) (G : Nat × Nat) (I : Nat → Nat → Int32) (J : Nat → Nat → Int64) (Q : Option Value → sm_M → Prop)
theorem lpb_129_148 (b : Nat) (hb : b = 52 ∨ b = 60) (x2 : Int32) (x3 : Int32) (x4 : Int32) (s1 : Int32) (s2 : Int32) : sm_wp X 129 148 [some (.ref b), none, some (.int x2), some (.int x3), some (.int x4)] [.int s2, .int s1, .ref (b + 5)] (sM mo G I J) Q = (vp_in s1 6 ∧ (vp_in x3 6 ∧ (sm_wp X 103 0 [some (.ref 1), some (.int x3), some (.int (x4 &&& x2)), none, none] [] (sM mo G (up2 (up2 (up2 I (b + 5) s1.toNatClampNeg s2) (b + 6) x3.toNatClampNeg (aState (up2 I (b + 5) s1.toNatClampNeg s2) 12 0 x3)) (b + 4) x3.toNatClampNeg 0) J) (fun v M => sm_wp X 129 184 [some (.ref b), none, some (.int x2), some (.int x3), some (.int x4)] (v.toList ++ [.int x3, .ref b]) M Q)))) := by
  rcases hb with rfl | rfl
  · exact lp_129_148 X mo G I J Q x2 x3 x4 s1 s2
  · exact lpw_129_148 X mo G I J Q x2 x3 x4 s1 s2
theorem lpb_129_184 (b : Nat) (hb : b = 52 ∨ b = 60) (x2 : Int32) (x3 : Int32) (x4 : Int32) (s1 : Int32) (s2 : Int32) : sm_wp X 129 184 [some (.ref b), none, some (.int x2), some (.int x3), some (.int x4)] [.int s2, .int s1, .ref b] (sM mo G I J) Q = (sm_wp X 130 0 [some (.ref b), some (.int s1), some (.int s2)] [] (sM mo G I J) (fun v M => sm_wp X 129 187 [some (.ref b), none, some (.int x2), some (.int x3), some (.int x4)] (v.toList ++ []) M Q)) := by
  rcases hb with rfl | rfl
  · exact lp_129_184 X mo G I J Q x2 x3 x4 s1 s2
  · exact lpw_129_184 X mo G I J Q x2 x3 x4 s1 s2
theorem lpb_129_187 (b : Nat) (hb : b = 52 ∨ b = 60) (x2 : Int32) (x3 : Int32) (x4 : Int32) : sm_wp X 129 187 [some (.ref b), none, some (.int x2), some (.int x3), some (.int x4)] [] (sM mo G I J) Q = (sm_wp X 129 117 [some (.ref b), none, some (.int x2), some (.int (x3 + 1)), none] [] (sM mo G I J) Q) := by
  rcases hb with rfl | rfl
  · exact lp_129_187 X mo G I J Q x2 x3 x4
  · exact lpw_129_187 X mo G I J Q x2 x3 x4
theorem lp_130_0 (x1 : Int32) (x2 : Int32) : sm_wp X 130 0 [some (.ref 52), some (.int x1), some (.int x2)] [] (sM mo G I J) Q = (if x1 < 0 then (Q none (sM mo G I J)) else (if x1 < 6 then (vp_in x1 6 ∧ (if (up2 I 56 x1.toNatClampNeg ((I 56 (x1.toNatClampNeg)) + x2)) 56 (x1.toNatClampNeg) < I 58 (x1.toNatClampNeg) then (Q none (sM mo G (up2 (up2 I 56 x1.toNatClampNeg ((I 56 (x1.toNatClampNeg)) + x2)) 52 12 ((I 52 12) &&& (((1 : Int32) <<< (x1 &&& 31)) ^^^ (-1)))) J)) else (Q none (sM mo G (up2 (up2 I 56 x1.toNatClampNeg ((I 56 (x1.toNatClampNeg)) + x2)) 52 12 ((I 52 12) ||| ((I 52 2) &&& ((1 : Int32) <<< (x1 &&& 31))))) J)))) else (Q none (sM mo G I J)))) := by
  rw [bk_130_0]
  all_goals (try simp (decide := true) only [bk_130_10, bk_130_11, bk_130_56, bk_130_70, up2_ne, up2_sn, up2_ss, ne_eq, tl_some, tl_none, zb_0, zb_1, zb_bi, true_and, bi_eq, bi_ne, oz_f, zz_t, if_true, if_false, not_true_eq_false, not_false_eq_true])
  all_goals grind (splits := 30) [bi]
theorem lpw_130_0 (x1 : Int32) (x2 : Int32) : sm_wp X 130 0 [some (.ref 60), some (.int x1), some (.int x2)] [] (sM mo G I J) Q = (if x1 < 0 then (Q none (sM mo G I J)) else (if x1 < 6 then (vp_in x1 6 ∧ (if (up2 I 64 x1.toNatClampNeg ((I 64 (x1.toNatClampNeg)) + x2)) 64 (x1.toNatClampNeg) < I 66 (x1.toNatClampNeg) then (Q none (sM mo G (up2 (up2 I 64 x1.toNatClampNeg ((I 64 (x1.toNatClampNeg)) + x2)) 60 12 ((I 60 12) &&& (((1 : Int32) <<< (x1 &&& 31)) ^^^ (-1)))) J)) else (Q none (sM mo G (up2 (up2 I 64 x1.toNatClampNeg ((I 64 (x1.toNatClampNeg)) + x2)) 60 12 ((I 60 12) ||| ((I 60 2) &&& ((1 : Int32) <<< (x1 &&& 31))))) J)))) else (Q none (sM mo G I J)))) := by
  rw [bkw_130_0]
  all_goals (try simp (decide := true) only [bkw_130_10, bkw_130_11, bkw_130_56, bkw_130_70, up2_ne, up2_sn, up2_ss, ne_eq, tl_some, tl_none, zb_0, zb_1, zb_bi, true_and, bi_eq, bi_ne, oz_f, zz_t, if_true, if_false, not_true_eq_false, not_false_eq_true])
  all_goals grind (splits := 30) [bi]
theorem lpb_130_0 (b : Nat) (hb : b = 52 ∨ b = 60) (x1 : Int32) (x2 : Int32) : sm_wp X 130 0 [some (.ref b), some (.int x1), some (.int x2)] [] (sM mo G I J) Q = (if x1 < 0 then (Q none (sM mo G I J)) else (if x1 < 6 then (vp_in x1 6 ∧ (if (up2 I (b + 4) x1.toNatClampNeg ((I (b + 4) (x1.toNatClampNeg)) + x2)) (b + 4) (x1.toNatClampNeg) < I (b + 6) (x1.toNatClampNeg) then (Q none (sM mo G (up2 (up2 I (b + 4) x1.toNatClampNeg ((I (b + 4) (x1.toNatClampNeg)) + x2)) b 12 ((I b 12) &&& (((1 : Int32) <<< (x1 &&& 31)) ^^^ (-1)))) J)) else (Q none (sM mo G (up2 (up2 I (b + 4) x1.toNatClampNeg ((I (b + 4) (x1.toNatClampNeg)) + x2)) b 12 ((I b 12) ||| ((I b 2) &&& ((1 : Int32) <<< (x1 &&& 31))))) J)))) else (Q none (sM mo G I J)))) := by
  rcases hb with rfl | rfl
  · exact lp_130_0 X mo G I J Q x1 x2
  · exact lpw_130_0 X mo G I J Q x1 x2
theorem lp_131_0  : sm_wp X 131 0 [some (.ref 52)] [] (sM mo G I J) Q = (if I 52 5 ≤ 8 then (Q (some (.int 0)) (sM mo G I J)) else (Q (some (.int 1)) (sM mo G I J))) := by
  rw [bk_131_0]
  all_goals (try simp (decide := true) only [bk_131_13, bk_131_14, up2_ne, up2_sn, up2_ss, ne_eq, tl_some, tl_none, zb_0, zb_1, zb_bi, true_and, bi_eq, bi_ne, oz_f, zz_t, if_true, if_false, not_true_eq_false, not_false_eq_true])
  all_goals grind (splits := 30) [bi]
theorem lpw_131_0  : sm_wp X 131 0 [some (.ref 60)] [] (sM mo G I J) Q = (if I 60 5 ≤ 8 then (Q (some (.int 0)) (sM mo G I J)) else (Q (some (.int 1)) (sM mo G I J))) := by
  rw [bkw_131_0]
  all_goals (try simp (decide := true) only [bkw_131_13, bkw_131_14, up2_ne, up2_sn, up2_ss, ne_eq, tl_some, tl_none, zb_0, zb_1, zb_bi, true_and, bi_eq, bi_ne, oz_f, zz_t, if_true, if_false, not_true_eq_false, not_false_eq_true])
  all_goals grind (splits := 30) [bi]
theorem lpb_131_0 (b : Nat) (hb : b = 52 ∨ b = 60)  : sm_wp X 131 0 [some (.ref b)] [] (sM mo G I J) Q = (if I b 5 ≤ 8 then (Q (some (.int 0)) (sM mo G I J)) else (Q (some (.int 1)) (sM mo G I J))) := by
  rcases hb with rfl | rfl
  · exact lp_131_0 X mo G I J Q 
  · exact lpw_131_0 X mo G I J Q 
theorem lp_132_0 (x1 : Int32) (x2 : Int32) : sm_wp X 132 0 [some (.ref 52), some (.int x1), some (.int x2), none] [] (sM mo G I J) Q = (if x1 < 0 then (Q (some (.int (-1))) (sM mo G I J)) else (if x1 < 8 then (sm_wp X 132 16 [some (.ref 52), some (.int x1), none, some (.int (x2 + 1))] [] (sM mo G I J) Q) else (Q (some (.int (-1))) (sM mo G I J)))) := by
  rw [bk_132_0]
  all_goals (try simp (decide := true) only [bk_132_10, bk_132_12, bk_132_37, bk_132_43, up2_ne, up2_sn, up2_ss, ne_eq, tl_some, tl_none, zb_0, zb_1, zb_bi, true_and, bi_eq, bi_ne, oz_f, zz_t, if_true, if_false, not_true_eq_false, not_false_eq_true])
  all_goals grind (splits := 30) [bi]
theorem lp_132_16 (x1 : Int32) (x3 : Int32) : sm_wp X 132 16 [some (.ref 52), some (.int x1), none, some (.int x3)] [] (sM mo G I J) Q = (if 6 ≤ x3 then (Q (some (.int (-1))) (sM mo G I J)) else (vp_in x1 8 ∧ (if ((I 54 (x1.toNatClampNeg)) >>> (x3 &&& 31)) &&& 1 = 0 then (sm_wp X 132 16 [some (.ref 52), some (.int x1), none, some (.int (x3 + 1))] [] (sM mo G I J) Q) else (Q (some (.int x3)) (sM mo G I J))))) := by
  rw [bk_132_16]
  all_goals (try simp (decide := true) only [bk_132_0, bk_132_10, bk_132_12, bk_132_37, bk_132_43, up2_ne, up2_sn, up2_ss, ne_eq, tl_some, tl_none, zb_0, zb_1, zb_bi, true_and, bi_eq, bi_ne, oz_f, zz_t, if_true, if_false, not_true_eq_false, not_false_eq_true])
  all_goals grind (splits := 30) [bi]
theorem lpw_132_0 (x1 : Int32) (x2 : Int32) : sm_wp X 132 0 [some (.ref 60), some (.int x1), some (.int x2), none] [] (sM mo G I J) Q = (if x1 < 0 then (Q (some (.int (-1))) (sM mo G I J)) else (if x1 < 8 then (sm_wp X 132 16 [some (.ref 60), some (.int x1), none, some (.int (x2 + 1))] [] (sM mo G I J) Q) else (Q (some (.int (-1))) (sM mo G I J)))) := by
  rw [bkw_132_0]
  all_goals (try simp (decide := true) only [bkw_132_10, bkw_132_12, bkw_132_37, bkw_132_43, up2_ne, up2_sn, up2_ss, ne_eq, tl_some, tl_none, zb_0, zb_1, zb_bi, true_and, bi_eq, bi_ne, oz_f, zz_t, if_true, if_false, not_true_eq_false, not_false_eq_true])
  all_goals grind (splits := 30) [bi]
theorem lpw_132_16 (x1 : Int32) (x3 : Int32) : sm_wp X 132 16 [some (.ref 60), some (.int x1), none, some (.int x3)] [] (sM mo G I J) Q = (if 6 ≤ x3 then (Q (some (.int (-1))) (sM mo G I J)) else (vp_in x1 8 ∧ (if ((I 62 (x1.toNatClampNeg)) >>> (x3 &&& 31)) &&& 1 = 0 then (sm_wp X 132 16 [some (.ref 60), some (.int x1), none, some (.int (x3 + 1))] [] (sM mo G I J) Q) else (Q (some (.int x3)) (sM mo G I J))))) := by
  rw [bkw_132_16]
  all_goals (try simp (decide := true) only [bkw_132_0, bkw_132_10, bkw_132_12, bkw_132_37, bkw_132_43, up2_ne, up2_sn, up2_ss, ne_eq, tl_some, tl_none, zb_0, zb_1, zb_bi, true_and, bi_eq, bi_ne, oz_f, zz_t, if_true, if_false, not_true_eq_false, not_false_eq_true])
  all_goals grind (splits := 30) [bi]
theorem lpb_132_0 (b : Nat) (hb : b = 52 ∨ b = 60) (x1 : Int32) (x2 : Int32) : sm_wp X 132 0 [some (.ref b), some (.int x1), some (.int x2), none] [] (sM mo G I J) Q = (if x1 < 0 then (Q (some (.int (-1))) (sM mo G I J)) else (if x1 < 8 then (sm_wp X 132 16 [some (.ref b), some (.int x1), none, some (.int (x2 + 1))] [] (sM mo G I J) Q) else (Q (some (.int (-1))) (sM mo G I J)))) := by
  rcases hb with rfl | rfl
  · exact lp_132_0 X mo G I J Q x1 x2
  · exact lpw_132_0 X mo G I J Q x1 x2
theorem lpb_132_16 (b : Nat) (hb : b = 52 ∨ b = 60) (x1 : Int32) (x3 : Int32) : sm_wp X 132 16 [some (.ref b), some (.int x1), none, some (.int x3)] [] (sM mo G I J) Q = (if 6 ≤ x3 then (Q (some (.int (-1))) (sM mo G I J)) else (vp_in x1 8 ∧ (if ((I (b + 2) (x1.toNatClampNeg)) >>> (x3 &&& 31)) &&& 1 = 0 then (sm_wp X 132 16 [some (.ref b), some (.int x1), none, some (.int (x3 + 1))] [] (sM mo G I J) Q) else (Q (some (.int x3)) (sM mo G I J))))) := by
  rcases hb with rfl | rfl
  · exact lp_132_16 X mo G I J Q x1 x3
  · exact lpw_132_16 X mo G I J Q x1 x3
theorem lp_133_0 (x1 : Int32) (x2 : Int32) : sm_wp X 133 0 [some (.ref 52), some (.int x1), some (.int x2)] [] (sM mo G I J) Q = (if x1 < 0 then (Q none (sM mo G I J)) else (if x1 < 8 then (vp_in x1 8 ∧ (sm_wp X 130 0 [some (.ref 52), some (.int (I 55 (x1.toNatClampNeg))), some (.int (-(wof (I 13) (I 55 (x1.toNatClampNeg)) (I 53 (x1.toNatClampNeg)))))] [] (sM mo G I J) (fun v M => sm_wp X 133 41 [some (.ref 52), some (.int x1), some (.int x2)] (v.toList ++ []) M Q))) else (Q none (sM mo G I J)))) := by
  rw [bk_133_0]
  all_goals (try simp (decide := true) only [bk_133_10, bk_133_11, bk_133_37, bk_133_41, bk_133_57, bk_133_60, ct_Realm_worthOf, up2_ne, up2_sn, up2_ss, ne_eq, tl_some, tl_none, zb_0, zb_1, zb_bi, true_and, bi_eq, bi_ne, oz_f, zz_t, if_true, if_false, not_true_eq_false, not_false_eq_true])
  all_goals grind (splits := 30) [bi]
theorem lp_133_41 (x1 : Int32) (x2 : Int32) : sm_wp X 133 41 [some (.ref 52), some (.int x1), some (.int x2)] [] (sM mo G I J) Q = (vp_in x1 8 ∧ (sm_wp X 130 0 [some (.ref 52), some (.int x2), some (.int (wof (I 13) x2 (I 53 (x1.toNatClampNeg))))] [] (sM mo G I J) (fun v M => sm_wp X 133 60 [some (.ref 52), some (.int x1), some (.int x2)] (v.toList ++ []) M Q))) := by
  rw [bk_133_41]
  all_goals (try simp (decide := true) only [bk_133_0, bk_133_10, bk_133_11, bk_133_37, bk_133_57, bk_133_60, ct_Realm_worthOf, up2_ne, up2_sn, up2_ss, ne_eq, tl_some, tl_none, zb_0, zb_1, zb_bi, true_and, bi_eq, bi_ne, oz_f, zz_t, if_true, if_false, not_true_eq_false, not_false_eq_true])
  all_goals grind (splits := 30) [bi]
theorem lp_133_60 (x1 : Int32) (x2 : Int32) : sm_wp X 133 60 [some (.ref 52), some (.int x1), some (.int x2)] [] (sM mo G I J) Q = (vp_in x1 8 ∧ (Q none (sM mo G (up2 I 55 x1.toNatClampNeg x2) J))) := by
  rw [bk_133_60]
  all_goals (try simp (decide := true) only [bk_133_0, bk_133_10, bk_133_11, bk_133_37, bk_133_41, bk_133_57, up2_ne, up2_sn, up2_ss, ne_eq, tl_some, tl_none, zb_0, zb_1, zb_bi, true_and, bi_eq, bi_ne, oz_f, zz_t, if_true, if_false, not_true_eq_false, not_false_eq_true])
  all_goals grind (splits := 30) [bi]
theorem lpw_133_0 (x1 : Int32) (x2 : Int32) : sm_wp X 133 0 [some (.ref 60), some (.int x1), some (.int x2)] [] (sM mo G I J) Q = (if x1 < 0 then (Q none (sM mo G I J)) else (if x1 < 8 then (vp_in x1 8 ∧ (sm_wp X 130 0 [some (.ref 60), some (.int (I 63 (x1.toNatClampNeg))), some (.int (-(wof (I 13) (I 63 (x1.toNatClampNeg)) (I 61 (x1.toNatClampNeg)))))] [] (sM mo G I J) (fun v M => sm_wp X 133 41 [some (.ref 60), some (.int x1), some (.int x2)] (v.toList ++ []) M Q))) else (Q none (sM mo G I J)))) := by
  rw [bkw_133_0]
  all_goals (try simp (decide := true) only [bkw_133_10, bkw_133_11, bkw_133_37, bkw_133_41, bkw_133_57, bkw_133_60, ct_Realm_worthOf, up2_ne, up2_sn, up2_ss, ne_eq, tl_some, tl_none, zb_0, zb_1, zb_bi, true_and, bi_eq, bi_ne, oz_f, zz_t, if_true, if_false, not_true_eq_false, not_false_eq_true])
  all_goals grind (splits := 30) [bi]
theorem lpw_133_41 (x1 : Int32) (x2 : Int32) : sm_wp X 133 41 [some (.ref 60), some (.int x1), some (.int x2)] [] (sM mo G I J) Q = (vp_in x1 8 ∧ (sm_wp X 130 0 [some (.ref 60), some (.int x2), some (.int (wof (I 13) x2 (I 61 (x1.toNatClampNeg))))] [] (sM mo G I J) (fun v M => sm_wp X 133 60 [some (.ref 60), some (.int x1), some (.int x2)] (v.toList ++ []) M Q))) := by
  rw [bkw_133_41]
  all_goals (try simp (decide := true) only [bkw_133_0, bkw_133_10, bkw_133_11, bkw_133_37, bkw_133_57, bkw_133_60, ct_Realm_worthOf, up2_ne, up2_sn, up2_ss, ne_eq, tl_some, tl_none, zb_0, zb_1, zb_bi, true_and, bi_eq, bi_ne, oz_f, zz_t, if_true, if_false, not_true_eq_false, not_false_eq_true])
  all_goals grind (splits := 30) [bi]
theorem lpw_133_60 (x1 : Int32) (x2 : Int32) : sm_wp X 133 60 [some (.ref 60), some (.int x1), some (.int x2)] [] (sM mo G I J) Q = (vp_in x1 8 ∧ (Q none (sM mo G (up2 I 63 x1.toNatClampNeg x2) J))) := by
  rw [bkw_133_60]
  all_goals (try simp (decide := true) only [bkw_133_0, bkw_133_10, bkw_133_11, bkw_133_37, bkw_133_41, bkw_133_57, up2_ne, up2_sn, up2_ss, ne_eq, tl_some, tl_none, zb_0, zb_1, zb_bi, true_and, bi_eq, bi_ne, oz_f, zz_t, if_true, if_false, not_true_eq_false, not_false_eq_true])
  all_goals grind (splits := 30) [bi]
theorem lpb_133_0 (b : Nat) (hb : b = 52 ∨ b = 60) (x1 : Int32) (x2 : Int32) : sm_wp X 133 0 [some (.ref b), some (.int x1), some (.int x2)] [] (sM mo G I J) Q = (if x1 < 0 then (Q none (sM mo G I J)) else (if x1 < 8 then (vp_in x1 8 ∧ (sm_wp X 130 0 [some (.ref b), some (.int (I (b + 3) (x1.toNatClampNeg))), some (.int (-(wof (I 13) (I (b + 3) (x1.toNatClampNeg)) (I (b + 1) (x1.toNatClampNeg)))))] [] (sM mo G I J) (fun v M => sm_wp X 133 41 [some (.ref b), some (.int x1), some (.int x2)] (v.toList ++ []) M Q))) else (Q none (sM mo G I J)))) := by
  rcases hb with rfl | rfl
  · exact lp_133_0 X mo G I J Q x1 x2
  · exact lpw_133_0 X mo G I J Q x1 x2
theorem lpb_133_41 (b : Nat) (hb : b = 52 ∨ b = 60) (x1 : Int32) (x2 : Int32) : sm_wp X 133 41 [some (.ref b), some (.int x1), some (.int x2)] [] (sM mo G I J) Q = (vp_in x1 8 ∧ (sm_wp X 130 0 [some (.ref b), some (.int x2), some (.int (wof (I 13) x2 (I (b + 1) (x1.toNatClampNeg))))] [] (sM mo G I J) (fun v M => sm_wp X 133 60 [some (.ref b), some (.int x1), some (.int x2)] (v.toList ++ []) M Q))) := by
  rcases hb with rfl | rfl
  · exact lp_133_41 X mo G I J Q x1 x2
  · exact lpw_133_41 X mo G I J Q x1 x2
theorem lpb_133_60 (b : Nat) (hb : b = 52 ∨ b = 60) (x1 : Int32) (x2 : Int32) : sm_wp X 133 60 [some (.ref b), some (.int x1), some (.int x2)] [] (sM mo G I J) Q = (vp_in x1 8 ∧ (Q none (sM mo G (up2 I (b + 3) x1.toNatClampNeg x2) J))) := by
  rcases hb with rfl | rfl
  · exact lp_133_60 X mo G I J Q x1 x2
  · exact lpw_133_60 X mo G I J Q x1 x2
theorem lp_134_0  : sm_wp X 134 0 [some (.ref 52)] [] (sM mo G I J) Q = (if I 52 12 = I 52 2 then (sm_wp X 135 0 [some (.ref 52), none, none, none] [] (sM mo G (up2 (up2 I 52 13 ((I 52 13) + 1)) 52 14 ((I 52 14) + 1)) (up2 J 52 16 ((J 52 16) ||| (1 <<< ((I 52 12).toInt64 &&& 63))))) (fun v M => sm_wp X 134 51 [some (.ref 52)] (v.toList ++ []) M Q)) else (Q none (sM mo G (up2 I 52 13 ((I 52 13) + 1)) (up2 J 52 16 ((J 52 16) ||| (1 <<< ((I 52 12).toInt64 &&& 63))))))) := by
  rw [bk_134_0]
  all_goals (try simp (decide := true) only [bk_134_37, bk_134_51, bk_134_68, up2_ne, up2_sn, up2_ss, ne_eq, tl_some, tl_none, zb_0, zb_1, zb_bi, true_and, bi_eq, bi_ne, oz_f, zz_t, if_true, if_false, not_true_eq_false, not_false_eq_true])
  all_goals grind (splits := 30) [bi]
theorem lp_134_51 (s0 : Int32) : sm_wp X 134 51 [some (.ref 52)] [.int s0] (sM mo G I J) Q = (if s0 = 0 then (Q none (sM mo G I J)) else (sm_wp X 136 0 [some (.ref 52), none, none, none, none] [] (sM mo G (up2 I 52 15 ((I 52 15) + 1)) J) (fun v M => sm_wp X 134 68 [some (.ref 52)] (v.toList ++ []) M Q))) := by
  rw [bk_134_51]
  all_goals (try simp (decide := true) only [bk_134_0, bk_134_37, bk_134_68, up2_ne, up2_sn, up2_ss, ne_eq, tl_some, tl_none, zb_0, zb_1, zb_bi, true_and, bi_eq, bi_ne, oz_f, zz_t, if_true, if_false, not_true_eq_false, not_false_eq_true])
  all_goals grind (splits := 30) [bi]
theorem lp_134_68  : sm_wp X 134 68 [some (.ref 52)] [] (sM mo G I J) Q = (Q none (sM mo G I J)) := by
  rw [bk_134_68]
  all_goals (try simp (decide := true) only [bk_134_0, bk_134_37, bk_134_51, up2_ne, up2_sn, up2_ss, ne_eq, tl_some, tl_none, zb_0, zb_1, zb_bi, true_and, bi_eq, bi_ne, oz_f, zz_t, if_true, if_false, not_true_eq_false, not_false_eq_true])
  all_goals grind (splits := 30) [bi]
theorem lpw_134_0  : sm_wp X 134 0 [some (.ref 60)] [] (sM mo G I J) Q = (if I 60 12 = I 60 2 then (sm_wp X 135 0 [some (.ref 60), none, none, none] [] (sM mo G (up2 (up2 I 60 13 ((I 60 13) + 1)) 60 14 ((I 60 14) + 1)) (up2 J 60 16 ((J 60 16) ||| (1 <<< ((I 60 12).toInt64 &&& 63))))) (fun v M => sm_wp X 134 51 [some (.ref 60)] (v.toList ++ []) M Q)) else (Q none (sM mo G (up2 I 60 13 ((I 60 13) + 1)) (up2 J 60 16 ((J 60 16) ||| (1 <<< ((I 60 12).toInt64 &&& 63))))))) := by
  rw [bkw_134_0]
  all_goals (try simp (decide := true) only [bkw_134_37, bkw_134_51, bkw_134_68, up2_ne, up2_sn, up2_ss, ne_eq, tl_some, tl_none, zb_0, zb_1, zb_bi, true_and, bi_eq, bi_ne, oz_f, zz_t, if_true, if_false, not_true_eq_false, not_false_eq_true])
  all_goals grind (splits := 30) [bi]
theorem lpw_134_51 (s0 : Int32) : sm_wp X 134 51 [some (.ref 60)] [.int s0] (sM mo G I J) Q = (if s0 = 0 then (Q none (sM mo G I J)) else (sm_wp X 136 0 [some (.ref 60), none, none, none, none] [] (sM mo G (up2 I 60 15 ((I 60 15) + 1)) J) (fun v M => sm_wp X 134 68 [some (.ref 60)] (v.toList ++ []) M Q))) := by
  rw [bkw_134_51]
  all_goals (try simp (decide := true) only [bkw_134_0, bkw_134_37, bkw_134_68, up2_ne, up2_sn, up2_ss, ne_eq, tl_some, tl_none, zb_0, zb_1, zb_bi, true_and, bi_eq, bi_ne, oz_f, zz_t, if_true, if_false, not_true_eq_false, not_false_eq_true])
  all_goals grind (splits := 30) [bi]
theorem lpw_134_68  : sm_wp X 134 68 [some (.ref 60)] [] (sM mo G I J) Q = (Q none (sM mo G I J)) := by
  rw [bkw_134_68]
  all_goals (try simp (decide := true) only [bkw_134_0, bkw_134_37, bkw_134_51, up2_ne, up2_sn, up2_ss, ne_eq, tl_some, tl_none, zb_0, zb_1, zb_bi, true_and, bi_eq, bi_ne, oz_f, zz_t, if_true, if_false, not_true_eq_false, not_false_eq_true])
  all_goals grind (splits := 30) [bi]
theorem lpb_134_0 (b : Nat) (hb : b = 52 ∨ b = 60)  : sm_wp X 134 0 [some (.ref b)] [] (sM mo G I J) Q = (if I b 12 = I b 2 then (sm_wp X 135 0 [some (.ref b), none, none, none] [] (sM mo G (up2 (up2 I b 13 ((I b 13) + 1)) b 14 ((I b 14) + 1)) (up2 J b 16 ((J b 16) ||| (1 <<< ((I b 12).toInt64 &&& 63))))) (fun v M => sm_wp X 134 51 [some (.ref b)] (v.toList ++ []) M Q)) else (Q none (sM mo G (up2 I b 13 ((I b 13) + 1)) (up2 J b 16 ((J b 16) ||| (1 <<< ((I b 12).toInt64 &&& 63))))))) := by
  rcases hb with rfl | rfl
  · exact lp_134_0 X mo G I J Q 
  · exact lpw_134_0 X mo G I J Q 
theorem lpb_134_51 (b : Nat) (hb : b = 52 ∨ b = 60) (s0 : Int32) : sm_wp X 134 51 [some (.ref b)] [.int s0] (sM mo G I J) Q = (if s0 = 0 then (Q none (sM mo G I J)) else (sm_wp X 136 0 [some (.ref b), none, none, none, none] [] (sM mo G (up2 I b 15 ((I b 15) + 1)) J) (fun v M => sm_wp X 134 68 [some (.ref b)] (v.toList ++ []) M Q))) := by
  rcases hb with rfl | rfl
  · exact lp_134_51 X mo G I J Q s0
  · exact lpw_134_51 X mo G I J Q s0
theorem lpb_134_68 (b : Nat) (hb : b = 52 ∨ b = 60)  : sm_wp X 134 68 [some (.ref b)] [] (sM mo G I J) Q = (Q none (sM mo G I J)) := by
  rcases hb with rfl | rfl
  · exact lp_134_68 X mo G I J Q 
  · exact lpw_134_68 X mo G I J Q 
theorem lp_135_0  : sm_wp X 135 0 [some (.ref 52), none, none, none] [] (sM mo G I J) Q = (sm_wp X 135 2 [some (.ref 52), some (.int 0), none, none] [] (sM mo G I J) Q) := by
  rw [bk_135_0]
  all_goals (try simp (decide := true) only [bk_135_16, bk_135_36, bk_135_42, bk_135_49, bk_135_75, bk_135_78, bk_135_89, bk_135_100, bk_135_124, bk_135_129, bk_135_135, bk_135_141, up2_ne, up2_sn, up2_ss, ne_eq, tl_some, tl_none, zb_0, zb_1, zb_bi, true_and, bi_eq, bi_ne, oz_f, zz_t, if_true, if_false, not_true_eq_false, not_false_eq_true])
  all_goals grind (splits := 30) [bi]
theorem lp_135_2 (x1 : Int32) : sm_wp X 135 2 [some (.ref 52), some (.int x1), none, none] [] (sM mo G I J) Q = (if 6 ≤ x1 then (sm_wp X 145 0 [some (.ref 48), none, none, none] [] (sM mo G I J) (fun v M => sm_wp X 135 49 [some (.ref 52), some (.int x1), none, none] (v.toList ++ []) M Q)) else (if ¬ (hBit (I 52 2) x1) then (sm_wp X 135 2 [some (.ref 52), some (.int (x1 + 1)), none, none] [] (sM mo G I J) Q) else (vp_in x1 6 ∧ (if I 57 (x1.toNatClampNeg) ≤ I 56 (x1.toNatClampNeg) then (sm_wp X 135 2 [some (.ref 52), some (.int (x1 + 1)), none, none] [] (sM mo G I J) Q) else (Q (some (.int 0)) (sM mo G I J)))))) := by
  rw [bk_135_2]
  all_goals (try simp (decide := true) only [bk_135_0, bk_135_16, bk_135_36, bk_135_42, bk_135_49, bk_135_75, bk_135_78, bk_135_89, bk_135_100, bk_135_124, bk_135_129, bk_135_135, bk_135_141, ct_House_hasBit, up2_ne, up2_sn, up2_ss, ne_eq, tl_some, tl_none, zb_0, zb_1, zb_bi, true_and, bi_eq, bi_ne, oz_f, zz_t, if_true, if_false, not_true_eq_false, not_false_eq_true])
  all_goals grind (splits := 30) [bi]
theorem lp_135_52 (x1 : Int32) (x2 : Int32) : sm_wp X 135 52 [some (.ref 52), some (.int x1), some (.int x2), none] [] (sM mo G I J) Q = (if 6 ≤ x2 then (Q (some (.int 1)) (sM mo G I J)) else (if x1 = 0 then (Q (some (.int 1)) (sM mo G I J)) else (sm_wp X 135 64 [some (.ref 52), some (.int x1), some (.int x2), some (.int 0)] [] (sM mo G I J) Q))) := by
  rw [bk_135_52]
  all_goals (try simp (decide := true) only [bk_135_0, bk_135_16, bk_135_36, bk_135_42, bk_135_49, bk_135_75, bk_135_78, bk_135_89, bk_135_100, bk_135_124, bk_135_129, bk_135_135, bk_135_141, up2_ne, up2_sn, up2_ss, ne_eq, tl_some, tl_none, zb_0, zb_1, zb_bi, true_and, bi_eq, bi_ne, oz_f, zz_t, if_true, if_false, not_true_eq_false, not_false_eq_true])
  all_goals grind (splits := 30) [bi]
theorem lp_135_64 (x1 : Int32) (x2 : Int32) (x3 : Int32) : sm_wp X 135 64 [some (.ref 52), some (.int x1), some (.int x2), some (.int x3)] [] (sM mo G I J) Q = (if x2 ≤ x3 then (sm_wp X 135 52 [some (.ref 52), some (.int x1), some (.int (x2 + 1)), none] [] (sM mo G I J) Q) else (sm_wp X 147 0 [some (.int x3), some (.int x2)] [] (sM mo G I J) (fun v M => sm_wp X 135 75 [some (.ref 52), some (.int x1), some (.int x2), some (.int x3)] (v.toList ++ [.int x1]) M Q))) := by
  rw [bk_135_64]
  all_goals (try simp (decide := true) only [bk_135_0, bk_135_16, bk_135_36, bk_135_42, bk_135_49, bk_135_75, bk_135_78, bk_135_89, bk_135_100, bk_135_124, bk_135_129, bk_135_135, bk_135_141, up2_ne, up2_sn, up2_ss, ne_eq, tl_some, tl_none, zb_0, zb_1, zb_bi, true_and, bi_eq, bi_ne, oz_f, zz_t, if_true, if_false, not_true_eq_false, not_false_eq_true])
  all_goals grind (splits := 30) [bi]
theorem lp_135_49 (x1 : Int32) (s0 : Int32) : sm_wp X 135 49 [some (.ref 52), some (.int x1), none, none] [.int s0] (sM mo G I J) Q = (sm_wp X 135 52 [some (.ref 52), some (.int s0), some (.int 1), none] [] (sM mo G I J) Q) := by
  rw [bk_135_49]
  all_goals (try simp (decide := true) only [bk_135_0, bk_135_16, bk_135_36, bk_135_42, bk_135_75, bk_135_78, bk_135_89, bk_135_100, bk_135_124, bk_135_129, bk_135_135, bk_135_141, up2_ne, up2_sn, up2_ss, ne_eq, tl_some, tl_none, zb_0, zb_1, zb_bi, true_and, bi_eq, bi_ne, oz_f, zz_t, if_true, if_false, not_true_eq_false, not_false_eq_true])
  all_goals grind (splits := 30) [bi]
theorem lp_135_75 (x1 : Int32) (x2 : Int32) (x3 : Int32) (s0 : Int32) (s1 : Int32) : sm_wp X 135 75 [some (.ref 52), some (.int x1), some (.int x2), some (.int x3)] [.int s1, .int s0] (sM mo G I J) Q = (if ¬ (hBit s0 s1) then (sm_wp X 135 64 [some (.ref 52), some (.int x1), some (.int x2), some (.int (x3 + 1))] [] (sM mo G I J) Q) else (if ¬ (hBit (I 52 2) x3) then (sm_wp X 135 64 [some (.ref 52), some (.int x1), some (.int x2), some (.int (x3 + 1))] [] (sM mo G I J) Q) else (if ¬ (hBit (I 52 2) x2) then (sm_wp X 135 64 [some (.ref 52), some (.int x1), some (.int x2), some (.int (x3 + 1))] [] (sM mo G I J) Q) else (vp_in x3 6 ∧ (vp_in x2 6 ∧ (sm_wp X 149 0 [some (.ref 48), some (.int x3), some (.int x2), some (.int (I 56 (x3.toNatClampNeg))), some (.int (I 56 (x2.toNatClampNeg))), none, none] [] (sM mo G I J) (fun v M => sm_wp X 135 124 [some (.ref 52), some (.int x1), some (.int x2), some (.int x3)] (v.toList ++ []) M Q))))))) := by
  rw [bk_135_75]
  all_goals (try simp (decide := true) only [bk_135_0, bk_135_16, bk_135_36, bk_135_42, bk_135_49, bk_135_78, bk_135_89, bk_135_100, bk_135_124, bk_135_129, bk_135_135, bk_135_141, ct_House_hasBit, up2_ne, up2_sn, up2_ss, ne_eq, tl_some, tl_none, zb_0, zb_1, zb_bi, true_and, bi_eq, bi_ne, oz_f, zz_t, if_true, if_false, not_true_eq_false, not_false_eq_true])
  all_goals grind (splits := 30) [bi]
theorem lp_135_124 (x1 : Int32) (x2 : Int32) (x3 : Int32) (s0 : Int32) : sm_wp X 135 124 [some (.ref 52), some (.int x1), some (.int x2), some (.int x3)] [.int s0] (sM mo G I J) Q = (if s0 = 0 then (sm_wp X 135 64 [some (.ref 52), some (.int x1), some (.int x2), some (.int (x3 + 1))] [] (sM mo G I J) Q) else (Q (some (.int 0)) (sM mo G I J))) := by
  rw [bk_135_124]
  all_goals (try simp (decide := true) only [bk_135_0, bk_135_16, bk_135_36, bk_135_42, bk_135_49, bk_135_75, bk_135_78, bk_135_89, bk_135_100, bk_135_129, bk_135_135, bk_135_141, up2_ne, up2_sn, up2_ss, ne_eq, tl_some, tl_none, zb_0, zb_1, zb_bi, true_and, bi_eq, bi_ne, oz_f, zz_t, if_true, if_false, not_true_eq_false, not_false_eq_true])
  all_goals grind (splits := 30) [bi]
theorem lpw_135_0  : sm_wp X 135 0 [some (.ref 60), none, none, none] [] (sM mo G I J) Q = (sm_wp X 135 2 [some (.ref 60), some (.int 0), none, none] [] (sM mo G I J) Q) := by
  rw [bkw_135_0]
  all_goals (try simp (decide := true) only [bkw_135_16, bkw_135_36, bkw_135_42, bkw_135_49, bkw_135_75, bkw_135_78, bkw_135_89, bkw_135_100, bkw_135_124, bkw_135_129, bkw_135_135, bkw_135_141, up2_ne, up2_sn, up2_ss, ne_eq, tl_some, tl_none, zb_0, zb_1, zb_bi, true_and, bi_eq, bi_ne, oz_f, zz_t, if_true, if_false, not_true_eq_false, not_false_eq_true])
  all_goals grind (splits := 30) [bi]
theorem lpw_135_2 (x1 : Int32) : sm_wp X 135 2 [some (.ref 60), some (.int x1), none, none] [] (sM mo G I J) Q = (if 6 ≤ x1 then (sm_wp X 145 0 [some (.ref 48), none, none, none] [] (sM mo G I J) (fun v M => sm_wp X 135 49 [some (.ref 60), some (.int x1), none, none] (v.toList ++ []) M Q)) else (if ¬ (hBit (I 60 2) x1) then (sm_wp X 135 2 [some (.ref 60), some (.int (x1 + 1)), none, none] [] (sM mo G I J) Q) else (vp_in x1 6 ∧ (if I 65 (x1.toNatClampNeg) ≤ I 64 (x1.toNatClampNeg) then (sm_wp X 135 2 [some (.ref 60), some (.int (x1 + 1)), none, none] [] (sM mo G I J) Q) else (Q (some (.int 0)) (sM mo G I J)))))) := by
  rw [bkw_135_2]
  all_goals (try simp (decide := true) only [bkw_135_0, bkw_135_16, bkw_135_36, bkw_135_42, bkw_135_49, bkw_135_75, bkw_135_78, bkw_135_89, bkw_135_100, bkw_135_124, bkw_135_129, bkw_135_135, bkw_135_141, ct_House_hasBit, up2_ne, up2_sn, up2_ss, ne_eq, tl_some, tl_none, zb_0, zb_1, zb_bi, true_and, bi_eq, bi_ne, oz_f, zz_t, if_true, if_false, not_true_eq_false, not_false_eq_true])
  all_goals grind (splits := 30) [bi]
theorem lpw_135_52 (x1 : Int32) (x2 : Int32) : sm_wp X 135 52 [some (.ref 60), some (.int x1), some (.int x2), none] [] (sM mo G I J) Q = (if 6 ≤ x2 then (Q (some (.int 1)) (sM mo G I J)) else (if x1 = 0 then (Q (some (.int 1)) (sM mo G I J)) else (sm_wp X 135 64 [some (.ref 60), some (.int x1), some (.int x2), some (.int 0)] [] (sM mo G I J) Q))) := by
  rw [bkw_135_52]
  all_goals (try simp (decide := true) only [bkw_135_0, bkw_135_16, bkw_135_36, bkw_135_42, bkw_135_49, bkw_135_75, bkw_135_78, bkw_135_89, bkw_135_100, bkw_135_124, bkw_135_129, bkw_135_135, bkw_135_141, up2_ne, up2_sn, up2_ss, ne_eq, tl_some, tl_none, zb_0, zb_1, zb_bi, true_and, bi_eq, bi_ne, oz_f, zz_t, if_true, if_false, not_true_eq_false, not_false_eq_true])
  all_goals grind (splits := 30) [bi]
theorem lpw_135_64 (x1 : Int32) (x2 : Int32) (x3 : Int32) : sm_wp X 135 64 [some (.ref 60), some (.int x1), some (.int x2), some (.int x3)] [] (sM mo G I J) Q = (if x2 ≤ x3 then (sm_wp X 135 52 [some (.ref 60), some (.int x1), some (.int (x2 + 1)), none] [] (sM mo G I J) Q) else (sm_wp X 147 0 [some (.int x3), some (.int x2)] [] (sM mo G I J) (fun v M => sm_wp X 135 75 [some (.ref 60), some (.int x1), some (.int x2), some (.int x3)] (v.toList ++ [.int x1]) M Q))) := by
  rw [bkw_135_64]
  all_goals (try simp (decide := true) only [bkw_135_0, bkw_135_16, bkw_135_36, bkw_135_42, bkw_135_49, bkw_135_75, bkw_135_78, bkw_135_89, bkw_135_100, bkw_135_124, bkw_135_129, bkw_135_135, bkw_135_141, up2_ne, up2_sn, up2_ss, ne_eq, tl_some, tl_none, zb_0, zb_1, zb_bi, true_and, bi_eq, bi_ne, oz_f, zz_t, if_true, if_false, not_true_eq_false, not_false_eq_true])
  all_goals grind (splits := 30) [bi]
theorem lpw_135_49 (x1 : Int32) (s0 : Int32) : sm_wp X 135 49 [some (.ref 60), some (.int x1), none, none] [.int s0] (sM mo G I J) Q = (sm_wp X 135 52 [some (.ref 60), some (.int s0), some (.int 1), none] [] (sM mo G I J) Q) := by
  rw [bkw_135_49]
  all_goals (try simp (decide := true) only [bkw_135_0, bkw_135_16, bkw_135_36, bkw_135_42, bkw_135_75, bkw_135_78, bkw_135_89, bkw_135_100, bkw_135_124, bkw_135_129, bkw_135_135, bkw_135_141, up2_ne, up2_sn, up2_ss, ne_eq, tl_some, tl_none, zb_0, zb_1, zb_bi, true_and, bi_eq, bi_ne, oz_f, zz_t, if_true, if_false, not_true_eq_false, not_false_eq_true])
  all_goals grind (splits := 30) [bi]
end R3
end
section
/-! One turn of each loop, and the stretches between calls, by program. -/
section R3
variable (X : (Nat → Int32) × Nat) (mo : Bool) (G : Nat × Nat) (I : Nat → Nat → Int32) (J : Nat → Nat → Int64) (Q : Option Value → sm_M → Prop)
theorem lpw_135_75 (x1 : Int32) (x2 : Int32) (x3 : Int32) (s0 : Int32) (s1 : Int32) : sm_wp X 135 75 [some (.ref 60), some (.int x1), some (.int x2), some (.int x3)] [.int s1, .int s0] (sM mo G I J) Q = (if ¬ (hBit s0 s1) then (sm_wp X 135 64 [some (.ref 60), some (.int x1), some (.int x2), some (.int (x3 + 1))] [] (sM mo G I J) Q) else (if ¬ (hBit (I 60 2) x3) then (sm_wp X 135 64 [some (.ref 60), some (.int x1), some (.int x2), some (.int (x3 + 1))] [] (sM mo G I J) Q) else (if ¬ (hBit (I 60 2) x2) then (sm_wp X 135 64 [some (.ref 60), some (.int x1), some (.int x2), some (.int (x3 + 1))] [] (sM mo G I J) Q) else (vp_in x3 6 ∧ (vp_in x2 6 ∧ (sm_wp X 149 0 [some (.ref 48), some (.int x3), some (.int x2), some (.int (I 64 (x3.toNatClampNeg))), some (.int (I 64 (x2.toNatClampNeg))), none, none] [] (sM mo G I J) (fun v M => sm_wp X 135 124 [some (.ref 60), some (.int x1), some (.int x2), some (.int x3)] (v.toList ++ []) M Q))))))) := by
  rw [bkw_135_75]
  all_goals (try simp (decide := true) only [bkw_135_0, bkw_135_16, bkw_135_36, bkw_135_42, bkw_135_49, bkw_135_78, bkw_135_89, bkw_135_100, bkw_135_124, bkw_135_129, bkw_135_135, bkw_135_141, ct_House_hasBit, up2_ne, up2_sn, up2_ss, ne_eq, tl_some, tl_none, zb_0, zb_1, zb_bi, true_and, bi_eq, bi_ne, oz_f, zz_t, if_true, if_false, not_true_eq_false, not_false_eq_true])
  all_goals grind (splits := 30) [bi]
theorem lpw_135_124 (x1 : Int32) (x2 : Int32) (x3 : Int32) (s0 : Int32) : sm_wp X 135 124 [some (.ref 60), some (.int x1), some (.int x2), some (.int x3)] [.int s0] (sM mo G I J) Q = (if s0 = 0 then (sm_wp X 135 64 [some (.ref 60), some (.int x1), some (.int x2), some (.int (x3 + 1))] [] (sM mo G I J) Q) else (Q (some (.int 0)) (sM mo G I J))) := by
  rw [bkw_135_124]
  all_goals (try simp (decide := true) only [bkw_135_0, bkw_135_16, bkw_135_36, bkw_135_42, bkw_135_49, bkw_135_75, bkw_135_78, bkw_135_89, bkw_135_100, bkw_135_129, bkw_135_135, bkw_135_141, up2_ne, up2_sn, up2_ss, ne_eq, tl_some, tl_none, zb_0, zb_1, zb_bi, true_and, bi_eq, bi_ne, oz_f, zz_t, if_true, if_false, not_true_eq_false, not_false_eq_true])
  all_goals grind (splits := 30) [bi]
theorem lpb_135_0 (b : Nat) (hb : b = 52 ∨ b = 60)  : sm_wp X 135 0 [some (.ref b), none, none, none] [] (sM mo G I J) Q = (sm_wp X 135 2 [some (.ref b), some (.int 0), none, none] [] (sM mo G I J) Q) := by
  rcases hb with rfl | rfl
  · exact lp_135_0 X mo G I J Q 
  · exact lpw_135_0 X mo G I J Q 
theorem lpb_135_2 (b : Nat) (hb : b = 52 ∨ b = 60) (x1 : Int32) : sm_wp X 135 2 [some (.ref b), some (.int x1), none, none] [] (sM mo G I J) Q = (if 6 ≤ x1 then (sm_wp X 145 0 [some (.ref 48), none, none, none] [] (sM mo G I J) (fun v M => sm_wp X 135 49 [some (.ref b), some (.int x1), none, none] (v.toList ++ []) M Q)) else (if ¬ (hBit (I b 2) x1) then (sm_wp X 135 2 [some (.ref b), some (.int (x1 + 1)), none, none] [] (sM mo G I J) Q) else (vp_in x1 6 ∧ (if I (b + 5) (x1.toNatClampNeg) ≤ I (b + 4) (x1.toNatClampNeg) then (sm_wp X 135 2 [some (.ref b), some (.int (x1 + 1)), none, none] [] (sM mo G I J) Q) else (Q (some (.int 0)) (sM mo G I J)))))) := by
  rcases hb with rfl | rfl
  · exact lp_135_2 X mo G I J Q x1
  · exact lpw_135_2 X mo G I J Q x1
theorem lpb_135_52 (b : Nat) (hb : b = 52 ∨ b = 60) (x1 : Int32) (x2 : Int32) : sm_wp X 135 52 [some (.ref b), some (.int x1), some (.int x2), none] [] (sM mo G I J) Q = (if 6 ≤ x2 then (Q (some (.int 1)) (sM mo G I J)) else (if x1 = 0 then (Q (some (.int 1)) (sM mo G I J)) else (sm_wp X 135 64 [some (.ref b), some (.int x1), some (.int x2), some (.int 0)] [] (sM mo G I J) Q))) := by
  rcases hb with rfl | rfl
  · exact lp_135_52 X mo G I J Q x1 x2
  · exact lpw_135_52 X mo G I J Q x1 x2
theorem lpb_135_64 (b : Nat) (hb : b = 52 ∨ b = 60) (x1 : Int32) (x2 : Int32) (x3 : Int32) : sm_wp X 135 64 [some (.ref b), some (.int x1), some (.int x2), some (.int x3)] [] (sM mo G I J) Q = (if x2 ≤ x3 then (sm_wp X 135 52 [some (.ref b), some (.int x1), some (.int (x2 + 1)), none] [] (sM mo G I J) Q) else (sm_wp X 147 0 [some (.int x3), some (.int x2)] [] (sM mo G I J) (fun v M => sm_wp X 135 75 [some (.ref b), some (.int x1), some (.int x2), some (.int x3)] (v.toList ++ [.int x1]) M Q))) := by
  rcases hb with rfl | rfl
  · exact lp_135_64 X mo G I J Q x1 x2 x3
  · exact lpw_135_64 X mo G I J Q x1 x2 x3
theorem lpb_135_49 (b : Nat) (hb : b = 52 ∨ b = 60) (x1 : Int32) (s0 : Int32) : sm_wp X 135 49 [some (.ref b), some (.int x1), none, none] [.int s0] (sM mo G I J) Q = (sm_wp X 135 52 [some (.ref b), some (.int s0), some (.int 1), none] [] (sM mo G I J) Q) := by
  rcases hb with rfl | rfl
  · exact lp_135_49 X mo G I J Q x1 s0
  · exact lpw_135_49 X mo G I J Q x1 s0
theorem lpb_135_75 (b : Nat) (hb : b = 52 ∨ b = 60) (x1 : Int32) (x2 : Int32) (x3 : Int32) (s0 : Int32) (s1 : Int32) : sm_wp X 135 75 [some (.ref b), some (.int x1), some (.int x2), some (.int x3)] [.int s1, .int s0] (sM mo G I J) Q = (if ¬ (hBit s0 s1) then (sm_wp X 135 64 [some (.ref b), some (.int x1), some (.int x2), some (.int (x3 + 1))] [] (sM mo G I J) Q) else (if ¬ (hBit (I b 2) x3) then (sm_wp X 135 64 [some (.ref b), some (.int x1), some (.int x2), some (.int (x3 + 1))] [] (sM mo G I J) Q) else (if ¬ (hBit (I b 2) x2) then (sm_wp X 135 64 [some (.ref b), some (.int x1), some (.int x2), some (.int (x3 + 1))] [] (sM mo G I J) Q) else (vp_in x3 6 ∧ (vp_in x2 6 ∧ (sm_wp X 149 0 [some (.ref 48), some (.int x3), some (.int x2), some (.int (I (b + 4) (x3.toNatClampNeg))), some (.int (I (b + 4) (x2.toNatClampNeg))), none, none] [] (sM mo G I J) (fun v M => sm_wp X 135 124 [some (.ref b), some (.int x1), some (.int x2), some (.int x3)] (v.toList ++ []) M Q))))))) := by
  rcases hb with rfl | rfl
  · exact lp_135_75 X mo G I J Q x1 x2 x3 s0 s1
  · exact lpw_135_75 X mo G I J Q x1 x2 x3 s0 s1
theorem lpb_135_124 (b : Nat) (hb : b = 52 ∨ b = 60) (x1 : Int32) (x2 : Int32) (x3 : Int32) (s0 : Int32) : sm_wp X 135 124 [some (.ref b), some (.int x1), some (.int x2), some (.int x3)] [.int s0] (sM mo G I J) Q = (if s0 = 0 then (sm_wp X 135 64 [some (.ref b), some (.int x1), some (.int x2), some (.int (x3 + 1))] [] (sM mo G I J) Q) else (Q (some (.int 0)) (sM mo G I J))) := by
  rcases hb with rfl | rfl
  · exact lp_135_124 X mo G I J Q x1 x2 x3 s0
  · exact lpw_135_124 X mo G I J Q x1 x2 x3 s0
theorem lp_136_0  : sm_wp X 136 0 [some (.ref 52), none, none, none, none] [] (sM mo G I J) Q = (sm_wp X 136 8 [some (.ref 52), some (.int 1188), some (.int 0), some (.int 0), none] [] (sM mo G I J) Q) := by
  rw [bk_136_0]
  all_goals (try simp (decide := true) only [bk_136_22, bk_136_52, bk_136_58, bk_136_82, bk_136_86, bk_136_87, bk_136_99, bk_136_100, bk_136_140, up2_ne, up2_sn, up2_ss, ne_eq, tl_some, tl_none, zb_0, zb_1, zb_bi, true_and, bi_eq, bi_ne, oz_f, zz_t, if_true, if_false, not_true_eq_false, not_false_eq_true])
  all_goals grind (splits := 30) [bi]
theorem lp_136_8 (x1 : Int32) (x2 : Int32) (x3 : Int32) : sm_wp X 136 8 [some (.ref 52), some (.int x1), some (.int x2), some (.int x3), none] [] (sM mo G I J) Q = (if 6 ≤ x3 then (if I 52 17 < x1 then (if I 52 2 = 0 then (Q none (sM mo G I J)) else (sm_wp X 136 113 [some (.ref 52), none, none, none, some (.int 0)] [] (sM mo G (up2 (up2 I 52 17 x1) 52 18 x2) J) Q)) else (if ¬ x1 = I 52 17 then (if I 52 2 = 0 then (Q none (sM mo G I J)) else (Q none (sM mo G I J))) else (if x2 ≤ I 52 18 then (if I 52 2 = 0 then (Q none (sM mo G I J)) else (Q none (sM mo G I J))) else (if I 52 2 = 0 then (Q none (sM mo G I J)) else (sm_wp X 136 113 [some (.ref 52), none, none, none, some (.int 0)] [] (sM mo G (up2 (up2 I 52 17 x1) 52 18 x2) J) Q))))) else (if ¬ (hBit (I 52 2) x3) then (sm_wp X 136 8 [some (.ref 52), some (.int x1), some (.int x2), some (.int (x3 + 1)), none] [] (sM mo G I J) Q) else (vp_in x3 6 ∧ (sm_wp X 136 8 [some (.ref 52), some (.int (if ((I 56 (x3.toNatClampNeg)) - (I 58 (x3.toNatClampNeg)) : Int32) < x1 then (I 56 (x3.toNatClampNeg)) - (I 58 (x3.toNatClampNeg)) else x1)), some (.int (x2 + (I 56 (x3.toNatClampNeg)))), some (.int (x3 + 1)), none] [] (sM mo G I J) Q)))) := by
  rw [bk_136_8]
  all_goals (try simp (decide := true) only [bk_136_0, bk_136_22, bk_136_52, bk_136_58, bk_136_82, bk_136_86, bk_136_87, bk_136_99, bk_136_100, bk_136_140, ct_House_hasBit, up2_ne, up2_sn, up2_ss, ne_eq, tl_some, tl_none, zb_0, zb_1, zb_bi, true_and, bi_eq, bi_ne, oz_f, zz_t, if_true, if_false, not_true_eq_false, not_false_eq_true])
  all_goals grind (splits := 30) [bi]
theorem lp_136_113 (x4 : Int32) : sm_wp X 136 113 [some (.ref 52), none, none, none, some (.int x4)] [] (sM mo G I J) Q = (if 8 ≤ x4 then (Q none (sM mo G I J)) else (vp_in x4 8 ∧ (sm_wp X 136 113 [some (.ref 52), none, none, none, some (.int (x4 + 1))] [] (sM mo G (up2 I 59 x4.toNatClampNeg (I 55 (x4.toNatClampNeg))) J) Q))) := by
  rw [bk_136_113]
  all_goals (try simp (decide := true) only [bk_136_0, bk_136_22, bk_136_52, bk_136_58, bk_136_82, bk_136_86, bk_136_87, bk_136_99, bk_136_100, bk_136_140, up2_ne, up2_sn, up2_ss, ne_eq, tl_some, tl_none, zb_0, zb_1, zb_bi, true_and, bi_eq, bi_ne, oz_f, zz_t, if_true, if_false, not_true_eq_false, not_false_eq_true])
  all_goals grind (splits := 30) [bi]
theorem lpw_136_0  : sm_wp X 136 0 [some (.ref 60), none, none, none, none] [] (sM mo G I J) Q = (sm_wp X 136 8 [some (.ref 60), some (.int 1188), some (.int 0), some (.int 0), none] [] (sM mo G I J) Q) := by
  rw [bkw_136_0]
  all_goals (try simp (decide := true) only [bkw_136_22, bkw_136_52, bkw_136_58, bkw_136_82, bkw_136_86, bkw_136_87, bkw_136_99, bkw_136_100, bkw_136_140, up2_ne, up2_sn, up2_ss, ne_eq, tl_some, tl_none, zb_0, zb_1, zb_bi, true_and, bi_eq, bi_ne, oz_f, zz_t, if_true, if_false, not_true_eq_false, not_false_eq_true])
  all_goals grind (splits := 30) [bi]
theorem lpw_136_8 (x1 : Int32) (x2 : Int32) (x3 : Int32) : sm_wp X 136 8 [some (.ref 60), some (.int x1), some (.int x2), some (.int x3), none] [] (sM mo G I J) Q = (if 6 ≤ x3 then (if I 60 17 < x1 then (if I 60 2 = 0 then (Q none (sM mo G I J)) else (sm_wp X 136 113 [some (.ref 60), none, none, none, some (.int 0)] [] (sM mo G (up2 (up2 I 60 17 x1) 60 18 x2) J) Q)) else (if ¬ x1 = I 60 17 then (if I 60 2 = 0 then (Q none (sM mo G I J)) else (Q none (sM mo G I J))) else (if x2 ≤ I 60 18 then (if I 60 2 = 0 then (Q none (sM mo G I J)) else (Q none (sM mo G I J))) else (if I 60 2 = 0 then (Q none (sM mo G I J)) else (sm_wp X 136 113 [some (.ref 60), none, none, none, some (.int 0)] [] (sM mo G (up2 (up2 I 60 17 x1) 60 18 x2) J) Q))))) else (if ¬ (hBit (I 60 2) x3) then (sm_wp X 136 8 [some (.ref 60), some (.int x1), some (.int x2), some (.int (x3 + 1)), none] [] (sM mo G I J) Q) else (vp_in x3 6 ∧ (sm_wp X 136 8 [some (.ref 60), some (.int (if ((I 64 (x3.toNatClampNeg)) - (I 66 (x3.toNatClampNeg)) : Int32) < x1 then (I 64 (x3.toNatClampNeg)) - (I 66 (x3.toNatClampNeg)) else x1)), some (.int (x2 + (I 64 (x3.toNatClampNeg)))), some (.int (x3 + 1)), none] [] (sM mo G I J) Q)))) := by
  rw [bkw_136_8]
  all_goals (try simp (decide := true) only [bkw_136_0, bkw_136_22, bkw_136_52, bkw_136_58, bkw_136_82, bkw_136_86, bkw_136_87, bkw_136_99, bkw_136_100, bkw_136_140, ct_House_hasBit, up2_ne, up2_sn, up2_ss, ne_eq, tl_some, tl_none, zb_0, zb_1, zb_bi, true_and, bi_eq, bi_ne, oz_f, zz_t, if_true, if_false, not_true_eq_false, not_false_eq_true])
  all_goals grind (splits := 30) [bi]
theorem lpw_136_113 (x4 : Int32) : sm_wp X 136 113 [some (.ref 60), none, none, none, some (.int x4)] [] (sM mo G I J) Q = (if 8 ≤ x4 then (Q none (sM mo G I J)) else (vp_in x4 8 ∧ (sm_wp X 136 113 [some (.ref 60), none, none, none, some (.int (x4 + 1))] [] (sM mo G (up2 I 67 x4.toNatClampNeg (I 63 (x4.toNatClampNeg))) J) Q))) := by
  rw [bkw_136_113]
  all_goals (try simp (decide := true) only [bkw_136_0, bkw_136_22, bkw_136_52, bkw_136_58, bkw_136_82, bkw_136_86, bkw_136_87, bkw_136_99, bkw_136_100, bkw_136_140, up2_ne, up2_sn, up2_ss, ne_eq, tl_some, tl_none, zb_0, zb_1, zb_bi, true_and, bi_eq, bi_ne, oz_f, zz_t, if_true, if_false, not_true_eq_false, not_false_eq_true])
  all_goals grind (splits := 30) [bi]
theorem lpb_136_0 (b : Nat) (hb : b = 52 ∨ b = 60)  : sm_wp X 136 0 [some (.ref b), none, none, none, none] [] (sM mo G I J) Q = (sm_wp X 136 8 [some (.ref b), some (.int 1188), some (.int 0), some (.int 0), none] [] (sM mo G I J) Q) := by
  rcases hb with rfl | rfl
  · exact lp_136_0 X mo G I J Q 
  · exact lpw_136_0 X mo G I J Q 
theorem lpb_136_8 (b : Nat) (hb : b = 52 ∨ b = 60) (x1 : Int32) (x2 : Int32) (x3 : Int32) : sm_wp X 136 8 [some (.ref b), some (.int x1), some (.int x2), some (.int x3), none] [] (sM mo G I J) Q = (if 6 ≤ x3 then (if I b 17 < x1 then (if I b 2 = 0 then (Q none (sM mo G I J)) else (sm_wp X 136 113 [some (.ref b), none, none, none, some (.int 0)] [] (sM mo G (up2 (up2 I b 17 x1) b 18 x2) J) Q)) else (if ¬ x1 = I b 17 then (if I b 2 = 0 then (Q none (sM mo G I J)) else (Q none (sM mo G I J))) else (if x2 ≤ I b 18 then (if I b 2 = 0 then (Q none (sM mo G I J)) else (Q none (sM mo G I J))) else (if I b 2 = 0 then (Q none (sM mo G I J)) else (sm_wp X 136 113 [some (.ref b), none, none, none, some (.int 0)] [] (sM mo G (up2 (up2 I b 17 x1) b 18 x2) J) Q))))) else (if ¬ (hBit (I b 2) x3) then (sm_wp X 136 8 [some (.ref b), some (.int x1), some (.int x2), some (.int (x3 + 1)), none] [] (sM mo G I J) Q) else (vp_in x3 6 ∧ (sm_wp X 136 8 [some (.ref b), some (.int (if ((I (b + 4) (x3.toNatClampNeg)) - (I (b + 6) (x3.toNatClampNeg)) : Int32) < x1 then (I (b + 4) (x3.toNatClampNeg)) - (I (b + 6) (x3.toNatClampNeg)) else x1)), some (.int (x2 + (I (b + 4) (x3.toNatClampNeg)))), some (.int (x3 + 1)), none] [] (sM mo G I J) Q)))) := by
  rcases hb with rfl | rfl
  · exact lp_136_8 X mo G I J Q x1 x2 x3
  · exact lpw_136_8 X mo G I J Q x1 x2 x3
theorem lpb_136_113 (b : Nat) (hb : b = 52 ∨ b = 60) (x4 : Int32) : sm_wp X 136 113 [some (.ref b), none, none, none, some (.int x4)] [] (sM mo G I J) Q = (if 8 ≤ x4 then (Q none (sM mo G I J)) else (vp_in x4 8 ∧ (sm_wp X 136 113 [some (.ref b), none, none, none, some (.int (x4 + 1))] [] (sM mo G (up2 I (b + 7) x4.toNatClampNeg (I (b + 3) (x4.toNatClampNeg))) J) Q))) := by
  rcases hb with rfl | rfl
  · exact lp_136_113 X mo G I J Q x4
  · exact lpw_136_113 X mo G I J Q x4
theorem lp_137_0  : sm_wp X 137 0 [some (.ref 52), none, none] [] (sM mo G I J) Q = (sm_wp X 137 12 [some (.ref 52), some (.int ((if (8 : Int32) < I 52 5 then 8 else I 52 5) - 1)), none] [] (sM mo G I J) Q) := by
  rw [bk_137_0]
  all_goals (try simp (decide := true) only [bk_137_27, bk_137_39, bk_137_41, bk_137_49, bk_137_52, bk_137_58, up2_ne, up2_sn, up2_ss, ne_eq, tl_some, tl_none, zb_0, zb_1, zb_bi, true_and, bi_eq, bi_ne, oz_f, zz_t, if_true, if_false, not_true_eq_false, not_false_eq_true])
  all_goals grind (splits := 30) [bi]
theorem lp_137_12 (x1 : Int32) : sm_wp X 137 12 [some (.ref 52), some (.int x1), none] [] (sM mo G I J) Q = (if x1 < 0 then (Q (some (.int 0)) (sM mo G I J)) else (vp_in x1 8 ∧ (sm_wp X 132 0 [some (.ref 52), some (.int x1), some (.int (I 55 (x1.toNatClampNeg))), none] [] (sM mo G I J) (fun v M => sm_wp X 137 27 [some (.ref 52), some (.int x1), none] (v.toList ++ []) M Q)))) := by
  rw [bk_137_12]
  all_goals (try simp (decide := true) only [bk_137_0, bk_137_27, bk_137_39, bk_137_41, bk_137_49, bk_137_52, bk_137_58, up2_ne, up2_sn, up2_ss, ne_eq, tl_some, tl_none, zb_0, zb_1, zb_bi, true_and, bi_eq, bi_ne, oz_f, zz_t, if_true, if_false, not_true_eq_false, not_false_eq_true])
  all_goals grind (splits := 30) [bi]
theorem lp_137_27 (x1 : Int32) (s0 : Int32) : sm_wp X 137 27 [some (.ref 52), some (.int x1), none] [.int s0] (sM mo G I J) Q = (if s0 = (-1) then (sm_wp X 132 0 [some (.ref 52), some (.int x1), some (.int (-1)), none] [] (sM mo G I J) (fun v M => sm_wp X 137 49 [some (.ref 52), some (.int x1), some (.int s0)] (v.toList ++ [.int x1, .ref 52]) M Q)) else (sm_wp X 133 0 [some (.ref 52), some (.int x1), some (.int s0)] [] (sM mo G I J) (fun v M => sm_wp X 137 39 [some (.ref 52), some (.int x1), some (.int s0)] (v.toList ++ []) M Q))) := by
  rw [bk_137_27]
  all_goals (try simp (decide := true) only [bk_137_0, bk_137_39, bk_137_41, bk_137_49, bk_137_52, bk_137_58, up2_ne, up2_sn, up2_ss, ne_eq, tl_some, tl_none, zb_0, zb_1, zb_bi, true_and, bi_eq, bi_ne, oz_f, zz_t, if_true, if_false, not_true_eq_false, not_false_eq_true])
  all_goals grind (splits := 30) [bi]
theorem lp_137_39 (x1 : Int32) (x2 : Int32) : sm_wp X 137 39 [some (.ref 52), some (.int x1), some (.int x2)] [] (sM mo G I J) Q = (Q (some (.int 1)) (sM mo G I J)) := by
  rw [bk_137_39]
  all_goals (try simp (decide := true) only [bk_137_0, bk_137_27, bk_137_41, bk_137_49, bk_137_52, bk_137_58, up2_ne, up2_sn, up2_ss, ne_eq, tl_some, tl_none, zb_0, zb_1, zb_bi, true_and, bi_eq, bi_ne, oz_f, zz_t, if_true, if_false, not_true_eq_false, not_false_eq_true])
  all_goals grind (splits := 30) [bi]
theorem lp_137_49 (x1 : Int32) (x2 : Int32) (s1 : Int32) (s2 : Int32) : sm_wp X 137 49 [some (.ref 52), some (.int x1), some (.int x2)] [.int s2, .int s1, .ref 52] (sM mo G I J) Q = (sm_wp X 133 0 [some (.ref 52), some (.int s1), some (.int s2)] [] (sM mo G I J) (fun v M => sm_wp X 137 52 [some (.ref 52), some (.int x1), some (.int x2)] (v.toList ++ []) M Q)) := by
  rw [bk_137_49]
  all_goals (try simp (decide := true) only [bk_137_0, bk_137_27, bk_137_39, bk_137_41, bk_137_52, bk_137_58, up2_ne, up2_sn, up2_ss, ne_eq, tl_some, tl_none, zb_0, zb_1, zb_bi, true_and, bi_eq, bi_ne, oz_f, zz_t, if_true, if_false, not_true_eq_false, not_false_eq_true])
  all_goals grind (splits := 30) [bi]
theorem lp_137_52 (x1 : Int32) (x2 : Int32) : sm_wp X 137 52 [some (.ref 52), some (.int x1), some (.int x2)] [] (sM mo G I J) Q = (sm_wp X 137 12 [some (.ref 52), some (.int (x1 + (-1))), none] [] (sM mo G I J) Q) := by
  rw [bk_137_52]
  all_goals (try simp (decide := true) only [bk_137_0, bk_137_27, bk_137_39, bk_137_41, bk_137_49, bk_137_58, up2_ne, up2_sn, up2_ss, ne_eq, tl_some, tl_none, zb_0, zb_1, zb_bi, true_and, bi_eq, bi_ne, oz_f, zz_t, if_true, if_false, not_true_eq_false, not_false_eq_true])
  all_goals grind (splits := 30) [bi]
theorem lpw_137_0  : sm_wp X 137 0 [some (.ref 60), none, none] [] (sM mo G I J) Q = (sm_wp X 137 12 [some (.ref 60), some (.int ((if (8 : Int32) < I 60 5 then 8 else I 60 5) - 1)), none] [] (sM mo G I J) Q) := by
  rw [bkw_137_0]
  all_goals (try simp (decide := true) only [bkw_137_27, bkw_137_39, bkw_137_41, bkw_137_49, bkw_137_52, bkw_137_58, up2_ne, up2_sn, up2_ss, ne_eq, tl_some, tl_none, zb_0, zb_1, zb_bi, true_and, bi_eq, bi_ne, oz_f, zz_t, if_true, if_false, not_true_eq_false, not_false_eq_true])
  all_goals grind (splits := 30) [bi]
theorem lpw_137_12 (x1 : Int32) : sm_wp X 137 12 [some (.ref 60), some (.int x1), none] [] (sM mo G I J) Q = (if x1 < 0 then (Q (some (.int 0)) (sM mo G I J)) else (vp_in x1 8 ∧ (sm_wp X 132 0 [some (.ref 60), some (.int x1), some (.int (I 63 (x1.toNatClampNeg))), none] [] (sM mo G I J) (fun v M => sm_wp X 137 27 [some (.ref 60), some (.int x1), none] (v.toList ++ []) M Q)))) := by
  rw [bkw_137_12]
  all_goals (try simp (decide := true) only [bkw_137_0, bkw_137_27, bkw_137_39, bkw_137_41, bkw_137_49, bkw_137_52, bkw_137_58, up2_ne, up2_sn, up2_ss, ne_eq, tl_some, tl_none, zb_0, zb_1, zb_bi, true_and, bi_eq, bi_ne, oz_f, zz_t, if_true, if_false, not_true_eq_false, not_false_eq_true])
  all_goals grind (splits := 30) [bi]
theorem lpw_137_27 (x1 : Int32) (s0 : Int32) : sm_wp X 137 27 [some (.ref 60), some (.int x1), none] [.int s0] (sM mo G I J) Q = (if s0 = (-1) then (sm_wp X 132 0 [some (.ref 60), some (.int x1), some (.int (-1)), none] [] (sM mo G I J) (fun v M => sm_wp X 137 49 [some (.ref 60), some (.int x1), some (.int s0)] (v.toList ++ [.int x1, .ref 60]) M Q)) else (sm_wp X 133 0 [some (.ref 60), some (.int x1), some (.int s0)] [] (sM mo G I J) (fun v M => sm_wp X 137 39 [some (.ref 60), some (.int x1), some (.int s0)] (v.toList ++ []) M Q))) := by
  rw [bkw_137_27]
  all_goals (try simp (decide := true) only [bkw_137_0, bkw_137_39, bkw_137_41, bkw_137_49, bkw_137_52, bkw_137_58, up2_ne, up2_sn, up2_ss, ne_eq, tl_some, tl_none, zb_0, zb_1, zb_bi, true_and, bi_eq, bi_ne, oz_f, zz_t, if_true, if_false, not_true_eq_false, not_false_eq_true])
  all_goals grind (splits := 30) [bi]
theorem lpw_137_39 (x1 : Int32) (x2 : Int32) : sm_wp X 137 39 [some (.ref 60), some (.int x1), some (.int x2)] [] (sM mo G I J) Q = (Q (some (.int 1)) (sM mo G I J)) := by
  rw [bkw_137_39]
  all_goals (try simp (decide := true) only [bkw_137_0, bkw_137_27, bkw_137_41, bkw_137_49, bkw_137_52, bkw_137_58, up2_ne, up2_sn, up2_ss, ne_eq, tl_some, tl_none, zb_0, zb_1, zb_bi, true_and, bi_eq, bi_ne, oz_f, zz_t, if_true, if_false, not_true_eq_false, not_false_eq_true])
  all_goals grind (splits := 30) [bi]
theorem lpw_137_49 (x1 : Int32) (x2 : Int32) (s1 : Int32) (s2 : Int32) : sm_wp X 137 49 [some (.ref 60), some (.int x1), some (.int x2)] [.int s2, .int s1, .ref 60] (sM mo G I J) Q = (sm_wp X 133 0 [some (.ref 60), some (.int s1), some (.int s2)] [] (sM mo G I J) (fun v M => sm_wp X 137 52 [some (.ref 60), some (.int x1), some (.int x2)] (v.toList ++ []) M Q)) := by
  rw [bkw_137_49]
  all_goals (try simp (decide := true) only [bkw_137_0, bkw_137_27, bkw_137_39, bkw_137_41, bkw_137_52, bkw_137_58, up2_ne, up2_sn, up2_ss, ne_eq, tl_some, tl_none, zb_0, zb_1, zb_bi, true_and, bi_eq, bi_ne, oz_f, zz_t, if_true, if_false, not_true_eq_false, not_false_eq_true])
  all_goals grind (splits := 30) [bi]
theorem lpw_137_52 (x1 : Int32) (x2 : Int32) : sm_wp X 137 52 [some (.ref 60), some (.int x1), some (.int x2)] [] (sM mo G I J) Q = (sm_wp X 137 12 [some (.ref 60), some (.int (x1 + (-1))), none] [] (sM mo G I J) Q) := by
  rw [bkw_137_52]
  all_goals (try simp (decide := true) only [bkw_137_0, bkw_137_27, bkw_137_39, bkw_137_41, bkw_137_49, bkw_137_58, up2_ne, up2_sn, up2_ss, ne_eq, tl_some, tl_none, zb_0, zb_1, zb_bi, true_and, bi_eq, bi_ne, oz_f, zz_t, if_true, if_false, not_true_eq_false, not_false_eq_true])
  all_goals grind (splits := 30) [bi]
theorem lpb_137_0 (b : Nat) (hb : b = 52 ∨ b = 60)  : sm_wp X 137 0 [some (.ref b), none, none] [] (sM mo G I J) Q = (sm_wp X 137 12 [some (.ref b), some (.int ((if (8 : Int32) < I b 5 then 8 else I b 5) - 1)), none] [] (sM mo G I J) Q) := by
  rcases hb with rfl | rfl
  · exact lp_137_0 X mo G I J Q 
  · exact lpw_137_0 X mo G I J Q 
theorem lpb_137_12 (b : Nat) (hb : b = 52 ∨ b = 60) (x1 : Int32) : sm_wp X 137 12 [some (.ref b), some (.int x1), none] [] (sM mo G I J) Q = (if x1 < 0 then (Q (some (.int 0)) (sM mo G I J)) else (vp_in x1 8 ∧ (sm_wp X 132 0 [some (.ref b), some (.int x1), some (.int (I (b + 3) (x1.toNatClampNeg))), none] [] (sM mo G I J) (fun v M => sm_wp X 137 27 [some (.ref b), some (.int x1), none] (v.toList ++ []) M Q)))) := by
  rcases hb with rfl | rfl
  · exact lp_137_12 X mo G I J Q x1
  · exact lpw_137_12 X mo G I J Q x1
theorem lpb_137_27 (b : Nat) (hb : b = 52 ∨ b = 60) (x1 : Int32) (s0 : Int32) : sm_wp X 137 27 [some (.ref b), some (.int x1), none] [.int s0] (sM mo G I J) Q = (if s0 = (-1) then (sm_wp X 132 0 [some (.ref b), some (.int x1), some (.int (-1)), none] [] (sM mo G I J) (fun v M => sm_wp X 137 49 [some (.ref b), some (.int x1), some (.int s0)] (v.toList ++ [.int x1, .ref b]) M Q)) else (sm_wp X 133 0 [some (.ref b), some (.int x1), some (.int s0)] [] (sM mo G I J) (fun v M => sm_wp X 137 39 [some (.ref b), some (.int x1), some (.int s0)] (v.toList ++ []) M Q))) := by
  rcases hb with rfl | rfl
  · exact lp_137_27 X mo G I J Q x1 s0
  · exact lpw_137_27 X mo G I J Q x1 s0
theorem lpb_137_39 (b : Nat) (hb : b = 52 ∨ b = 60) (x1 : Int32) (x2 : Int32) : sm_wp X 137 39 [some (.ref b), some (.int x1), some (.int x2)] [] (sM mo G I J) Q = (Q (some (.int 1)) (sM mo G I J)) := by
  rcases hb with rfl | rfl
  · exact lp_137_39 X mo G I J Q x1 x2
  · exact lpw_137_39 X mo G I J Q x1 x2
theorem lpb_137_49 (b : Nat) (hb : b = 52 ∨ b = 60) (x1 : Int32) (x2 : Int32) (s1 : Int32) (s2 : Int32) : sm_wp X 137 49 [some (.ref b), some (.int x1), some (.int x2)] [.int s2, .int s1, .ref b] (sM mo G I J) Q = (sm_wp X 133 0 [some (.ref b), some (.int s1), some (.int s2)] [] (sM mo G I J) (fun v M => sm_wp X 137 52 [some (.ref b), some (.int x1), some (.int x2)] (v.toList ++ []) M Q)) := by
  rcases hb with rfl | rfl
  · exact lp_137_49 X mo G I J Q x1 x2 s1 s2
  · exact lpw_137_49 X mo G I J Q x1 x2 s1 s2
theorem lpb_137_52 (b : Nat) (hb : b = 52 ∨ b = 60) (x1 : Int32) (x2 : Int32) : sm_wp X 137 52 [some (.ref b), some (.int x1), some (.int x2)] [] (sM mo G I J) Q = (sm_wp X 137 12 [some (.ref b), some (.int (x1 + (-1))), none] [] (sM mo G I J) Q) := by
  rcases hb with rfl | rfl
  · exact lp_137_52 X mo G I J Q x1 x2
  · exact lpw_137_52 X mo G I J Q x1 x2
theorem lp_138_0 (x1 : Int32) : sm_wp X 138 0 [some (.ref 52), some (.int x1)] [] (sM mo G I J) Q = (sm_wp X 131 0 [some (.ref 52)] [] (sM mo G I J) (fun v M => sm_wp X 138 4 [some (.ref 52), some (.int x1)] (v.toList ++ []) M Q)) := by
  rw [bk_138_0]
  all_goals (try simp (decide := true) only [bk_138_4, bk_138_9, bk_138_36, bk_138_41, bk_138_46, bk_138_51, up2_ne, up2_sn, up2_ss, ne_eq, tl_some, tl_none, zb_0, zb_1, zb_bi, true_and, bi_eq, bi_ne, oz_f, zz_t, if_true, if_false, not_true_eq_false, not_false_eq_true])
  all_goals grind (splits := 30) [bi]
theorem lp_138_4 (x1 : Int32) (s0 : Int32) : sm_wp X 138 4 [some (.ref 52), some (.int x1)] [.int s0] (sM mo G I J) Q = (if s0 = 0 then (if x1 = 1 then (Q (some (.int (I 52 13))) (sM mo G I J)) else (if x1 = 2 then (Q (some (.int (I 52 14))) (sM mo G I J)) else (if x1 = 3 then (Q (some (.int (I 52 15))) (sM mo G I J)) else (Q (some (.int (-1))) (sM mo G I J))))) else (Q (some (.int (-1))) (sM mo G I J))) := by
  rw [bk_138_4]
  all_goals (try simp (decide := true) only [bk_138_0, bk_138_9, bk_138_36, bk_138_41, bk_138_46, bk_138_51, up2_ne, up2_sn, up2_ss, ne_eq, tl_some, tl_none, zb_0, zb_1, zb_bi, true_and, bi_eq, bi_ne, oz_f, zz_t, if_true, if_false, not_true_eq_false, not_false_eq_true])
  all_goals grind (splits := 30) [bi]
theorem lpw_138_0 (x1 : Int32) : sm_wp X 138 0 [some (.ref 60), some (.int x1)] [] (sM mo G I J) Q = (sm_wp X 131 0 [some (.ref 60)] [] (sM mo G I J) (fun v M => sm_wp X 138 4 [some (.ref 60), some (.int x1)] (v.toList ++ []) M Q)) := by
  rw [bkw_138_0]
  all_goals (try simp (decide := true) only [bkw_138_4, bkw_138_9, bkw_138_36, bkw_138_41, bkw_138_46, bkw_138_51, up2_ne, up2_sn, up2_ss, ne_eq, tl_some, tl_none, zb_0, zb_1, zb_bi, true_and, bi_eq, bi_ne, oz_f, zz_t, if_true, if_false, not_true_eq_false, not_false_eq_true])
  all_goals grind (splits := 30) [bi]
theorem lpw_138_4 (x1 : Int32) (s0 : Int32) : sm_wp X 138 4 [some (.ref 60), some (.int x1)] [.int s0] (sM mo G I J) Q = (if s0 = 0 then (if x1 = 1 then (Q (some (.int (I 60 13))) (sM mo G I J)) else (if x1 = 2 then (Q (some (.int (I 60 14))) (sM mo G I J)) else (if x1 = 3 then (Q (some (.int (I 60 15))) (sM mo G I J)) else (Q (some (.int (-1))) (sM mo G I J))))) else (Q (some (.int (-1))) (sM mo G I J))) := by
  rw [bkw_138_4]
  all_goals (try simp (decide := true) only [bkw_138_0, bkw_138_9, bkw_138_36, bkw_138_41, bkw_138_46, bkw_138_51, up2_ne, up2_sn, up2_ss, ne_eq, tl_some, tl_none, zb_0, zb_1, zb_bi, true_and, bi_eq, bi_ne, oz_f, zz_t, if_true, if_false, not_true_eq_false, not_false_eq_true])
  all_goals grind (splits := 30) [bi]
theorem lpb_138_0 (b : Nat) (hb : b = 52 ∨ b = 60) (x1 : Int32) : sm_wp X 138 0 [some (.ref b), some (.int x1)] [] (sM mo G I J) Q = (sm_wp X 131 0 [some (.ref b)] [] (sM mo G I J) (fun v M => sm_wp X 138 4 [some (.ref b), some (.int x1)] (v.toList ++ []) M Q)) := by
  rcases hb with rfl | rfl
  · exact lp_138_0 X mo G I J Q x1
  · exact lpw_138_0 X mo G I J Q x1
theorem lpb_138_4 (b : Nat) (hb : b = 52 ∨ b = 60) (x1 : Int32) (s0 : Int32) : sm_wp X 138 4 [some (.ref b), some (.int x1)] [.int s0] (sM mo G I J) Q = (if s0 = 0 then (if x1 = 1 then (Q (some (.int (I b 13))) (sM mo G I J)) else (if x1 = 2 then (Q (some (.int (I b 14))) (sM mo G I J)) else (if x1 = 3 then (Q (some (.int (I b 15))) (sM mo G I J)) else (Q (some (.int (-1))) (sM mo G I J))))) else (Q (some (.int (-1))) (sM mo G I J))) := by
  rcases hb with rfl | rfl
  · exact lp_138_4 X mo G I J Q x1 s0
  · exact lpw_138_4 X mo G I J Q x1 s0
theorem lp_139_0 (x1 : Int32) : sm_wp X 139 0 [some (.ref 52), some (.int x1)] [] (sM mo G I J) Q = (if ¬ I 52 17 = (-1) then (if ¬ x1 = 12 then (if ¬ x1 = 13 then (sm_wp X 140 0 [some (.ref 52), some (.int x1), none] [] (sM mo G I J) (fun v M => sm_wp X 139 39 [some (.ref 52), some (.int x1)] (v.toList ++ []) M Q)) else (Q (some (.int (I 52 18))) (sM mo G I J))) else (Q (some (.int (I 52 17))) (sM mo G I J))) else (Q (some (.int (-1))) (sM mo G I J))) := by
  rw [bk_139_0]
  all_goals (try simp (decide := true) only [bk_139_10, bk_139_21, bk_139_34, bk_139_39, up2_ne, up2_sn, up2_ss, ne_eq, tl_some, tl_none, zb_0, zb_1, zb_bi, true_and, bi_eq, bi_ne, oz_f, zz_t, if_true, if_false, not_true_eq_false, not_false_eq_true])
  all_goals grind (splits := 30) [bi]
theorem lp_139_39 (x1 : Int32) (s0 : Int32) : sm_wp X 139 39 [some (.ref 52), some (.int x1)] [.int s0] (sM mo G I J) Q = (Q (some (.int s0)) (sM mo G I J)) := by
  rw [bk_139_39]
  all_goals (try simp (decide := true) only [bk_139_0, bk_139_10, bk_139_21, bk_139_34, up2_ne, up2_sn, up2_ss, ne_eq, tl_some, tl_none, zb_0, zb_1, zb_bi, true_and, bi_eq, bi_ne, oz_f, zz_t, if_true, if_false, not_true_eq_false, not_false_eq_true])
  all_goals grind (splits := 30) [bi]
theorem lpw_139_0 (x1 : Int32) : sm_wp X 139 0 [some (.ref 60), some (.int x1)] [] (sM mo G I J) Q = (if ¬ I 60 17 = (-1) then (if ¬ x1 = 12 then (if ¬ x1 = 13 then (sm_wp X 140 0 [some (.ref 60), some (.int x1), none] [] (sM mo G I J) (fun v M => sm_wp X 139 39 [some (.ref 60), some (.int x1)] (v.toList ++ []) M Q)) else (Q (some (.int (I 60 18))) (sM mo G I J))) else (Q (some (.int (I 60 17))) (sM mo G I J))) else (Q (some (.int (-1))) (sM mo G I J))) := by
  rw [bkw_139_0]
  all_goals (try simp (decide := true) only [bkw_139_10, bkw_139_21, bkw_139_34, bkw_139_39, up2_ne, up2_sn, up2_ss, ne_eq, tl_some, tl_none, zb_0, zb_1, zb_bi, true_and, bi_eq, bi_ne, oz_f, zz_t, if_true, if_false, not_true_eq_false, not_false_eq_true])
  all_goals grind (splits := 30) [bi]
end R3
end
section
/-! One turn of each loop, and the stretches between calls, by program. -/
section R3
variable (X : (Nat → Int32) × Nat) (mo : Bool) (G : Nat × Nat) (I : Nat → Nat → Int32) (J : Nat → Nat → Int64) (Q : Option Value → sm_M → Prop)
theorem lpw_139_39 (x1 : Int32) (s0 : Int32) : sm_wp X 139 39 [some (.ref 60), some (.int x1)] [.int s0] (sM mo G I J) Q = (Q (some (.int s0)) (sM mo G I J)) := by
  rw [bkw_139_39]
  all_goals (try simp (decide := true) only [bkw_139_0, bkw_139_10, bkw_139_21, bkw_139_34, up2_ne, up2_sn, up2_ss, ne_eq, tl_some, tl_none, zb_0, zb_1, zb_bi, true_and, bi_eq, bi_ne, oz_f, zz_t, if_true, if_false, not_true_eq_false, not_false_eq_true])
  all_goals grind (splits := 30) [bi]
theorem lpb_139_0 (b : Nat) (hb : b = 52 ∨ b = 60) (x1 : Int32) : sm_wp X 139 0 [some (.ref b), some (.int x1)] [] (sM mo G I J) Q = (if ¬ I b 17 = (-1) then (if ¬ x1 = 12 then (if ¬ x1 = 13 then (sm_wp X 140 0 [some (.ref b), some (.int x1), none] [] (sM mo G I J) (fun v M => sm_wp X 139 39 [some (.ref b), some (.int x1)] (v.toList ++ []) M Q)) else (Q (some (.int (I b 18))) (sM mo G I J))) else (Q (some (.int (I b 17))) (sM mo G I J))) else (Q (some (.int (-1))) (sM mo G I J))) := by
  rcases hb with rfl | rfl
  · exact lp_139_0 X mo G I J Q x1
  · exact lpw_139_0 X mo G I J Q x1
theorem lpb_139_39 (b : Nat) (hb : b = 52 ∨ b = 60) (x1 : Int32) (s0 : Int32) : sm_wp X 139 39 [some (.ref b), some (.int x1)] [.int s0] (sM mo G I J) Q = (Q (some (.int s0)) (sM mo G I J)) := by
  rcases hb with rfl | rfl
  · exact lp_139_39 X mo G I J Q x1 s0
  · exact lpw_139_39 X mo G I J Q x1 s0
theorem lp_140_0 (x1 : Int32) : sm_wp X 140 0 [some (.ref 52), some (.int x1), none] [] (sM mo G I J) Q = (sm_wp X 140 2 [some (.ref 52), some (.int x1), some (.int 0)] [] (sM mo G I J) Q) := by
  rw [bk_140_0]
  all_goals (try simp (decide := true) only [bk_140_33, bk_140_39, bk_140_47, up2_ne, up2_sn, up2_ss, ne_eq, tl_some, tl_none, zb_0, zb_1, zb_bi, true_and, bi_eq, bi_ne, oz_f, zz_t, if_true, if_false, not_true_eq_false, not_false_eq_true])
  all_goals grind (splits := 30) [bi]
theorem lp_140_2 (x1 : Int32) (x2 : Int32) : sm_wp X 140 2 [some (.ref 52), some (.int x1), some (.int x2)] [] (sM mo G I J) Q = (if I 52 5 ≤ x2 then (Q (some (.int (aLand I 4 (-1) x1))) (sM mo G I J)) else (if 8 ≤ x2 then (Q (some (.int (aLand I 4 (-1) x1))) (sM mo G I J)) else (vp_in x2 8 ∧ (if ¬ I 53 (x2.toNatClampNeg) = x1 then (sm_wp X 140 2 [some (.ref 52), some (.int x1), some (.int (x2 + 1))] [] (sM mo G I J) Q) else (Q (some (.int (I 59 (x2.toNatClampNeg)))) (sM mo G I J)))))) := by
  rw [bk_140_2]
  all_goals (try simp (decide := true) only [bk_140_0, bk_140_33, bk_140_39, bk_140_47, ct_Realm_holderOf, up2_ne, up2_sn, up2_ss, ne_eq, tl_some, tl_none, zb_0, zb_1, zb_bi, true_and, bi_eq, bi_ne, oz_f, zz_t, if_true, if_false, not_true_eq_false, not_false_eq_true])
  all_goals grind (splits := 30) [bi]
theorem lpw_140_0 (x1 : Int32) : sm_wp X 140 0 [some (.ref 60), some (.int x1), none] [] (sM mo G I J) Q = (sm_wp X 140 2 [some (.ref 60), some (.int x1), some (.int 0)] [] (sM mo G I J) Q) := by
  rw [bkw_140_0]
  all_goals (try simp (decide := true) only [bkw_140_33, bkw_140_39, bkw_140_47, up2_ne, up2_sn, up2_ss, ne_eq, tl_some, tl_none, zb_0, zb_1, zb_bi, true_and, bi_eq, bi_ne, oz_f, zz_t, if_true, if_false, not_true_eq_false, not_false_eq_true])
  all_goals grind (splits := 30) [bi]
theorem lpw_140_2 (x1 : Int32) (x2 : Int32) : sm_wp X 140 2 [some (.ref 60), some (.int x1), some (.int x2)] [] (sM mo G I J) Q = (if I 60 5 ≤ x2 then (Q (some (.int (aLand I 4 (-1) x1))) (sM mo G I J)) else (if 8 ≤ x2 then (Q (some (.int (aLand I 4 (-1) x1))) (sM mo G I J)) else (vp_in x2 8 ∧ (if ¬ I 61 (x2.toNatClampNeg) = x1 then (sm_wp X 140 2 [some (.ref 60), some (.int x1), some (.int (x2 + 1))] [] (sM mo G I J) Q) else (Q (some (.int (I 67 (x2.toNatClampNeg)))) (sM mo G I J)))))) := by
  rw [bkw_140_2]
  all_goals (try simp (decide := true) only [bkw_140_0, bkw_140_33, bkw_140_39, bkw_140_47, ct_Realm_holderOf, up2_ne, up2_sn, up2_ss, ne_eq, tl_some, tl_none, zb_0, zb_1, zb_bi, true_and, bi_eq, bi_ne, oz_f, zz_t, if_true, if_false, not_true_eq_false, not_false_eq_true])
  all_goals grind (splits := 30) [bi]
theorem lpb_140_0 (b : Nat) (hb : b = 52 ∨ b = 60) (x1 : Int32) : sm_wp X 140 0 [some (.ref b), some (.int x1), none] [] (sM mo G I J) Q = (sm_wp X 140 2 [some (.ref b), some (.int x1), some (.int 0)] [] (sM mo G I J) Q) := by
  rcases hb with rfl | rfl
  · exact lp_140_0 X mo G I J Q x1
  · exact lpw_140_0 X mo G I J Q x1
theorem lpb_140_2 (b : Nat) (hb : b = 52 ∨ b = 60) (x1 : Int32) (x2 : Int32) : sm_wp X 140 2 [some (.ref b), some (.int x1), some (.int x2)] [] (sM mo G I J) Q = (if I b 5 ≤ x2 then (Q (some (.int (aLand I 4 (-1) x1))) (sM mo G I J)) else (if 8 ≤ x2 then (Q (some (.int (aLand I 4 (-1) x1))) (sM mo G I J)) else (vp_in x2 8 ∧ (if ¬ I (b + 1) (x2.toNatClampNeg) = x1 then (sm_wp X 140 2 [some (.ref b), some (.int x1), some (.int (x2 + 1))] [] (sM mo G I J) Q) else (Q (some (.int (I (b + 7) (x2.toNatClampNeg)))) (sM mo G I J)))))) := by
  rcases hb with rfl | rfl
  · exact lp_140_2 X mo G I J Q x1 x2
  · exact lpw_140_2 X mo G I J Q x1 x2
theorem lp_141_0  : sm_wp X 141 0 [some (.ref 52), none, none] [] (sM mo G I J) Q = (sm_wp X 131 0 [some (.ref 52)] [] (sM mo G I J) (fun v M => sm_wp X 141 4 [some (.ref 52), none, none] (v.toList ++ []) M Q)) := by
  rw [bk_141_0]
  all_goals (try simp (decide := true) only [bk_141_4, bk_141_9, bk_141_18, bk_141_38, bk_141_58, bk_141_63, bk_141_69, bk_141_75, up2_ne, up2_sn, up2_ss, ne_eq, tl_some, tl_none, zb_0, zb_1, zb_bi, true_and, bi_eq, bi_ne, oz_f, zz_t, if_true, if_false, not_true_eq_false, not_false_eq_true])
  all_goals grind (splits := 30) [bi]
theorem lp_141_20 (x1 : Int32) : sm_wp X 141 20 [some (.ref 52), some (.int x1), none] [] (sM mo G I J) Q = (if 6 < x1 then (Q (some (.int 0)) (sM mo G I J)) else (sm_wp X 141 28 [some (.ref 52), some (.int x1), some (.int 1)] [] (sM mo G I J) Q)) := by
  rw [bk_141_20]
  all_goals (try simp (decide := true) only [bk_141_0, bk_141_4, bk_141_9, bk_141_18, bk_141_38, bk_141_58, bk_141_63, bk_141_69, bk_141_75, up2_ne, up2_sn, up2_ss, ne_eq, tl_some, tl_none, zb_0, zb_1, zb_bi, true_and, bi_eq, bi_ne, oz_f, zz_t, if_true, if_false, not_true_eq_false, not_false_eq_true])
  all_goals grind (splits := 30) [bi]
theorem lp_141_28 (x1 : Int32) (x2 : Int32) : sm_wp X 141 28 [some (.ref 52), some (.int x1), some (.int x2)] [] (sM mo G I J) Q = (if 64 ≤ x2 then (sm_wp X 141 20 [some (.ref 52), some (.int (x1 + 1)), none] [] (sM mo G I J) Q) else (if ¬ vf_Integer_bitCount x2 = x1 then (sm_wp X 141 28 [some (.ref 52), some (.int x1), some (.int (x2 + 1))] [] (sM mo G I J) Q) else (if ¬ x2 &&& ((I 52 2) ^^^ (-1)) = 0 then (sm_wp X 141 28 [some (.ref 52), some (.int x1), some (.int (x2 + 1))] [] (sM mo G I J) Q) else (sm_wp X 142 0 [some (.ref 52), some (.int x2), none] [] (sM mo G I J) (fun v M => sm_wp X 141 58 [some (.ref 52), some (.int x1), some (.int x2)] (v.toList ++ []) M Q))))) := by
  rw [bk_141_28]
  all_goals (try simp (decide := true) only [bk_141_0, bk_141_4, bk_141_9, bk_141_18, bk_141_38, bk_141_58, bk_141_63, bk_141_69, bk_141_75, ct_Integer_bitCount, up2_ne, up2_sn, up2_ss, ne_eq, tl_some, tl_none, zb_0, zb_1, zb_bi, true_and, bi_eq, bi_ne, oz_f, zz_t, if_true, if_false, not_true_eq_false, not_false_eq_true])
  all_goals grind (splits := 30) [bi]
theorem lp_141_4 (s0 : Int32) : sm_wp X 141 4 [some (.ref 52), none, none] [.int s0] (sM mo G I J) Q = (if s0 = 0 then (if I 52 14 ≤ 0 then (sm_wp X 141 20 [some (.ref 52), some (.int 1), none] [] (sM mo G I J) Q) else (Q (some (.int 0)) (sM mo G I J))) else (Q (some (.int (-1))) (sM mo G I J))) := by
  rw [bk_141_4]
  all_goals (try simp (decide := true) only [bk_141_0, bk_141_9, bk_141_18, bk_141_38, bk_141_58, bk_141_63, bk_141_69, bk_141_75, up2_ne, up2_sn, up2_ss, ne_eq, tl_some, tl_none, zb_0, zb_1, zb_bi, true_and, bi_eq, bi_ne, oz_f, zz_t, if_true, if_false, not_true_eq_false, not_false_eq_true])
  all_goals grind (splits := 30) [bi]
theorem lp_141_58 (x1 : Int32) (x2 : Int32) (s0 : Int32) : sm_wp X 141 58 [some (.ref 52), some (.int x1), some (.int x2)] [.int s0] (sM mo G I J) Q = (if ¬ s0 = 0 then (sm_wp X 141 28 [some (.ref 52), some (.int x1), some (.int (x2 + 1))] [] (sM mo G I J) Q) else (Q (some (.int x2)) (sM mo G I J))) := by
  rw [bk_141_58]
  all_goals (try simp (decide := true) only [bk_141_0, bk_141_4, bk_141_9, bk_141_18, bk_141_38, bk_141_63, bk_141_69, bk_141_75, up2_ne, up2_sn, up2_ss, ne_eq, tl_some, tl_none, zb_0, zb_1, zb_bi, true_and, bi_eq, bi_ne, oz_f, zz_t, if_true, if_false, not_true_eq_false, not_false_eq_true])
  all_goals grind (splits := 30) [bi]
theorem lpw_141_0  : sm_wp X 141 0 [some (.ref 60), none, none] [] (sM mo G I J) Q = (sm_wp X 131 0 [some (.ref 60)] [] (sM mo G I J) (fun v M => sm_wp X 141 4 [some (.ref 60), none, none] (v.toList ++ []) M Q)) := by
  rw [bkw_141_0]
  all_goals (try simp (decide := true) only [bkw_141_4, bkw_141_9, bkw_141_18, bkw_141_38, bkw_141_58, bkw_141_63, bkw_141_69, bkw_141_75, up2_ne, up2_sn, up2_ss, ne_eq, tl_some, tl_none, zb_0, zb_1, zb_bi, true_and, bi_eq, bi_ne, oz_f, zz_t, if_true, if_false, not_true_eq_false, not_false_eq_true])
  all_goals grind (splits := 30) [bi]
theorem lpw_141_20 (x1 : Int32) : sm_wp X 141 20 [some (.ref 60), some (.int x1), none] [] (sM mo G I J) Q = (if 6 < x1 then (Q (some (.int 0)) (sM mo G I J)) else (sm_wp X 141 28 [some (.ref 60), some (.int x1), some (.int 1)] [] (sM mo G I J) Q)) := by
  rw [bkw_141_20]
  all_goals (try simp (decide := true) only [bkw_141_0, bkw_141_4, bkw_141_9, bkw_141_18, bkw_141_38, bkw_141_58, bkw_141_63, bkw_141_69, bkw_141_75, up2_ne, up2_sn, up2_ss, ne_eq, tl_some, tl_none, zb_0, zb_1, zb_bi, true_and, bi_eq, bi_ne, oz_f, zz_t, if_true, if_false, not_true_eq_false, not_false_eq_true])
  all_goals grind (splits := 30) [bi]
theorem lpw_141_28 (x1 : Int32) (x2 : Int32) : sm_wp X 141 28 [some (.ref 60), some (.int x1), some (.int x2)] [] (sM mo G I J) Q = (if 64 ≤ x2 then (sm_wp X 141 20 [some (.ref 60), some (.int (x1 + 1)), none] [] (sM mo G I J) Q) else (if ¬ vf_Integer_bitCount x2 = x1 then (sm_wp X 141 28 [some (.ref 60), some (.int x1), some (.int (x2 + 1))] [] (sM mo G I J) Q) else (if ¬ x2 &&& ((I 60 2) ^^^ (-1)) = 0 then (sm_wp X 141 28 [some (.ref 60), some (.int x1), some (.int (x2 + 1))] [] (sM mo G I J) Q) else (sm_wp X 142 0 [some (.ref 60), some (.int x2), none] [] (sM mo G I J) (fun v M => sm_wp X 141 58 [some (.ref 60), some (.int x1), some (.int x2)] (v.toList ++ []) M Q))))) := by
  rw [bkw_141_28]
  all_goals (try simp (decide := true) only [bkw_141_0, bkw_141_4, bkw_141_9, bkw_141_18, bkw_141_38, bkw_141_58, bkw_141_63, bkw_141_69, bkw_141_75, ct_Integer_bitCount, up2_ne, up2_sn, up2_ss, ne_eq, tl_some, tl_none, zb_0, zb_1, zb_bi, true_and, bi_eq, bi_ne, oz_f, zz_t, if_true, if_false, not_true_eq_false, not_false_eq_true])
  all_goals grind (splits := 30) [bi]
theorem lpw_141_4 (s0 : Int32) : sm_wp X 141 4 [some (.ref 60), none, none] [.int s0] (sM mo G I J) Q = (if s0 = 0 then (if I 60 14 ≤ 0 then (sm_wp X 141 20 [some (.ref 60), some (.int 1), none] [] (sM mo G I J) Q) else (Q (some (.int 0)) (sM mo G I J))) else (Q (some (.int (-1))) (sM mo G I J))) := by
  rw [bkw_141_4]
  all_goals (try simp (decide := true) only [bkw_141_0, bkw_141_9, bkw_141_18, bkw_141_38, bkw_141_58, bkw_141_63, bkw_141_69, bkw_141_75, up2_ne, up2_sn, up2_ss, ne_eq, tl_some, tl_none, zb_0, zb_1, zb_bi, true_and, bi_eq, bi_ne, oz_f, zz_t, if_true, if_false, not_true_eq_false, not_false_eq_true])
  all_goals grind (splits := 30) [bi]
theorem lpw_141_58 (x1 : Int32) (x2 : Int32) (s0 : Int32) : sm_wp X 141 58 [some (.ref 60), some (.int x1), some (.int x2)] [.int s0] (sM mo G I J) Q = (if ¬ s0 = 0 then (sm_wp X 141 28 [some (.ref 60), some (.int x1), some (.int (x2 + 1))] [] (sM mo G I J) Q) else (Q (some (.int x2)) (sM mo G I J))) := by
  rw [bkw_141_58]
  all_goals (try simp (decide := true) only [bkw_141_0, bkw_141_4, bkw_141_9, bkw_141_18, bkw_141_38, bkw_141_63, bkw_141_69, bkw_141_75, up2_ne, up2_sn, up2_ss, ne_eq, tl_some, tl_none, zb_0, zb_1, zb_bi, true_and, bi_eq, bi_ne, oz_f, zz_t, if_true, if_false, not_true_eq_false, not_false_eq_true])
  all_goals grind (splits := 30) [bi]
theorem lpb_141_0 (b : Nat) (hb : b = 52 ∨ b = 60)  : sm_wp X 141 0 [some (.ref b), none, none] [] (sM mo G I J) Q = (sm_wp X 131 0 [some (.ref b)] [] (sM mo G I J) (fun v M => sm_wp X 141 4 [some (.ref b), none, none] (v.toList ++ []) M Q)) := by
  rcases hb with rfl | rfl
  · exact lp_141_0 X mo G I J Q 
  · exact lpw_141_0 X mo G I J Q 
theorem lpb_141_20 (b : Nat) (hb : b = 52 ∨ b = 60) (x1 : Int32) : sm_wp X 141 20 [some (.ref b), some (.int x1), none] [] (sM mo G I J) Q = (if 6 < x1 then (Q (some (.int 0)) (sM mo G I J)) else (sm_wp X 141 28 [some (.ref b), some (.int x1), some (.int 1)] [] (sM mo G I J) Q)) := by
  rcases hb with rfl | rfl
  · exact lp_141_20 X mo G I J Q x1
  · exact lpw_141_20 X mo G I J Q x1
theorem lpb_141_28 (b : Nat) (hb : b = 52 ∨ b = 60) (x1 : Int32) (x2 : Int32) : sm_wp X 141 28 [some (.ref b), some (.int x1), some (.int x2)] [] (sM mo G I J) Q = (if 64 ≤ x2 then (sm_wp X 141 20 [some (.ref b), some (.int (x1 + 1)), none] [] (sM mo G I J) Q) else (if ¬ vf_Integer_bitCount x2 = x1 then (sm_wp X 141 28 [some (.ref b), some (.int x1), some (.int (x2 + 1))] [] (sM mo G I J) Q) else (if ¬ x2 &&& ((I b 2) ^^^ (-1)) = 0 then (sm_wp X 141 28 [some (.ref b), some (.int x1), some (.int (x2 + 1))] [] (sM mo G I J) Q) else (sm_wp X 142 0 [some (.ref b), some (.int x2), none] [] (sM mo G I J) (fun v M => sm_wp X 141 58 [some (.ref b), some (.int x1), some (.int x2)] (v.toList ++ []) M Q))))) := by
  rcases hb with rfl | rfl
  · exact lp_141_28 X mo G I J Q x1 x2
  · exact lpw_141_28 X mo G I J Q x1 x2
theorem lpb_141_4 (b : Nat) (hb : b = 52 ∨ b = 60) (s0 : Int32) : sm_wp X 141 4 [some (.ref b), none, none] [.int s0] (sM mo G I J) Q = (if s0 = 0 then (if I b 14 ≤ 0 then (sm_wp X 141 20 [some (.ref b), some (.int 1), none] [] (sM mo G I J) Q) else (Q (some (.int 0)) (sM mo G I J))) else (Q (some (.int (-1))) (sM mo G I J))) := by
  rcases hb with rfl | rfl
  · exact lp_141_4 X mo G I J Q s0
  · exact lpw_141_4 X mo G I J Q s0
theorem lpb_141_58 (b : Nat) (hb : b = 52 ∨ b = 60) (x1 : Int32) (x2 : Int32) (s0 : Int32) : sm_wp X 141 58 [some (.ref b), some (.int x1), some (.int x2)] [.int s0] (sM mo G I J) Q = (if ¬ s0 = 0 then (sm_wp X 141 28 [some (.ref b), some (.int x1), some (.int (x2 + 1))] [] (sM mo G I J) Q) else (Q (some (.int x2)) (sM mo G I J))) := by
  rcases hb with rfl | rfl
  · exact lp_141_58 X mo G I J Q x1 x2 s0
  · exact lpw_141_58 X mo G I J Q x1 x2 s0
theorem lp_142_0 (x1 : Int32) : sm_wp X 142 0 [some (.ref 52), some (.int x1), none] [] (sM mo G I J) Q = (sm_wp X 142 2 [some (.ref 52), some (.int x1), some (.int 0)] [] (sM mo G I J) Q) := by
  rw [bk_142_0]
  all_goals (try simp (decide := true) only [bk_142_31, bk_142_37, up2_ne, up2_sn, up2_ss, ne_eq, tl_some, tl_none, zb_0, zb_1, zb_bi, true_and, bi_eq, bi_ne, oz_f, zz_t, if_true, if_false, not_true_eq_false, not_false_eq_true])
  all_goals grind (splits := 30) [bi]
theorem lp_142_2 (x1 : Int32) (x2 : Int32) : sm_wp X 142 2 [some (.ref 52), some (.int x1), some (.int x2)] [] (sM mo G I J) Q = (if 64 ≤ x2 then (Q (some (.int 0)) (sM mo G I J)) else (if lg_cmp ((((J 52 16).toUInt64 >>> (x2.toInt64.toUInt64 &&& Int64.toUInt64 63)).toInt64) &&& 1) 0 = 0 then (sm_wp X 142 2 [some (.ref 52), some (.int x1), some (.int (x2 + 1))] [] (sM mo G I J) Q) else (if ¬ x1 &&& (x2 ^^^ (-1)) = 0 then (sm_wp X 142 2 [some (.ref 52), some (.int x1), some (.int (x2 + 1))] [] (sM mo G I J) Q) else (Q (some (.int 1)) (sM mo G I J))))) := by
  rw [bk_142_2]
  all_goals (try simp (decide := true) only [bk_142_0, bk_142_31, bk_142_37, up2_ne, up2_sn, up2_ss, ne_eq, tl_some, tl_none, zb_0, zb_1, zb_bi, true_and, bi_eq, bi_ne, oz_f, zz_t, if_true, if_false, not_true_eq_false, not_false_eq_true])
  all_goals grind (splits := 30) [bi]
theorem lpw_142_0 (x1 : Int32) : sm_wp X 142 0 [some (.ref 60), some (.int x1), none] [] (sM mo G I J) Q = (sm_wp X 142 2 [some (.ref 60), some (.int x1), some (.int 0)] [] (sM mo G I J) Q) := by
  rw [bkw_142_0]
  all_goals (try simp (decide := true) only [bkw_142_31, bkw_142_37, up2_ne, up2_sn, up2_ss, ne_eq, tl_some, tl_none, zb_0, zb_1, zb_bi, true_and, bi_eq, bi_ne, oz_f, zz_t, if_true, if_false, not_true_eq_false, not_false_eq_true])
  all_goals grind (splits := 30) [bi]
theorem lpw_142_2 (x1 : Int32) (x2 : Int32) : sm_wp X 142 2 [some (.ref 60), some (.int x1), some (.int x2)] [] (sM mo G I J) Q = (if 64 ≤ x2 then (Q (some (.int 0)) (sM mo G I J)) else (if lg_cmp ((((J 60 16).toUInt64 >>> (x2.toInt64.toUInt64 &&& Int64.toUInt64 63)).toInt64) &&& 1) 0 = 0 then (sm_wp X 142 2 [some (.ref 60), some (.int x1), some (.int (x2 + 1))] [] (sM mo G I J) Q) else (if ¬ x1 &&& (x2 ^^^ (-1)) = 0 then (sm_wp X 142 2 [some (.ref 60), some (.int x1), some (.int (x2 + 1))] [] (sM mo G I J) Q) else (Q (some (.int 1)) (sM mo G I J))))) := by
  rw [bkw_142_2]
  all_goals (try simp (decide := true) only [bkw_142_0, bkw_142_31, bkw_142_37, up2_ne, up2_sn, up2_ss, ne_eq, tl_some, tl_none, zb_0, zb_1, zb_bi, true_and, bi_eq, bi_ne, oz_f, zz_t, if_true, if_false, not_true_eq_false, not_false_eq_true])
  all_goals grind (splits := 30) [bi]
theorem lpb_142_0 (b : Nat) (hb : b = 52 ∨ b = 60) (x1 : Int32) : sm_wp X 142 0 [some (.ref b), some (.int x1), none] [] (sM mo G I J) Q = (sm_wp X 142 2 [some (.ref b), some (.int x1), some (.int 0)] [] (sM mo G I J) Q) := by
  rcases hb with rfl | rfl
  · exact lp_142_0 X mo G I J Q x1
  · exact lpw_142_0 X mo G I J Q x1
theorem lpb_142_2 (b : Nat) (hb : b = 52 ∨ b = 60) (x1 : Int32) (x2 : Int32) : sm_wp X 142 2 [some (.ref b), some (.int x1), some (.int x2)] [] (sM mo G I J) Q = (if 64 ≤ x2 then (Q (some (.int 0)) (sM mo G I J)) else (if lg_cmp ((((J b 16).toUInt64 >>> (x2.toInt64.toUInt64 &&& Int64.toUInt64 63)).toInt64) &&& 1) 0 = 0 then (sm_wp X 142 2 [some (.ref b), some (.int x1), some (.int (x2 + 1))] [] (sM mo G I J) Q) else (if ¬ x1 &&& (x2 ^^^ (-1)) = 0 then (sm_wp X 142 2 [some (.ref b), some (.int x1), some (.int (x2 + 1))] [] (sM mo G I J) Q) else (Q (some (.int 1)) (sM mo G I J))))) := by
  rcases hb with rfl | rfl
  · exact lp_142_2 X mo G I J Q x1 x2
  · exact lpw_142_2 X mo G I J Q x1 x2
theorem lp_143_0 (x1 : Int32) (x2 : Int32) : sm_wp X 143 0 [some (.ref 52), some (.int x1), some (.int x2), none, none] [] (sM mo G I J) Q = (sm_wp X 129 0 [some (.ref 52), some (.int x1), none, none, none] [] (sM mo G I J) (fun v M => sm_wp X 143 5 [some (.ref 52), some (.int x1), some (.int x2), none, none] (v.toList ++ []) M Q)) := by
  rw [bk_143_0]
  all_goals (try simp (decide := true) only [bk_143_5, bk_143_9, bk_143_14, bk_143_51, bk_143_56, bk_143_63, bk_143_69, bk_143_82, bk_143_86, bk_143_93, bk_143_94, up2_ne, up2_sn, up2_ss, ne_eq, tl_some, tl_none, zb_0, zb_1, zb_bi, true_and, bi_eq, bi_ne, oz_f, zz_t, if_true, if_false, not_true_eq_false, not_false_eq_true])
  all_goals grind (splits := 30) [bi]
theorem lp_143_16 (x2 : Int32) (x3 : Int32) : sm_wp X 143 16 [some (.ref 52), none, some (.int x2), some (.int x3), none] [] (sM mo G I J) Q = (if I 52 5 ≤ x3 then (if I 52 12 = I 52 2 then (sm_wp X 135 0 [some (.ref 52), none, none, none] [] (sM mo G I J) (fun v M => sm_wp X 143 86 [some (.ref 52), none, some (.int x2), some (.int x3), none] (v.toList ++ []) M Q)) else (Q (some (.int 1)) (sM mo G I J))) else (if 8 ≤ x3 then (if I 52 12 = I 52 2 then (sm_wp X 135 0 [some (.ref 52), none, none, none] [] (sM mo G I J) (fun v M => sm_wp X 143 86 [some (.ref 52), none, some (.int x2), some (.int x3), none] (v.toList ++ []) M Q)) else (Q (some (.int 1)) (sM mo G I J))) else (vp_in x3 8 ∧ (if (hBit (I 54 (x3.toNatClampNeg)) (((x2.toUInt32 >>> (((3 : Int32) * x3).toUInt32 &&& Int32.toUInt32 31)).toInt32) &&& 7)) then (sm_wp X 133 0 [some (.ref 52), some (.int x3), some (.int (((x2.toUInt32 >>> (((3 : Int32) * x3).toUInt32 &&& Int32.toUInt32 31)).toInt32) &&& 7))] [] (sM mo G I J) (fun v M => sm_wp X 143 63 [some (.ref 52), none, some (.int x2), some (.int x3), some (.int (((x2.toUInt32 >>> (((3 : Int32) * x3).toUInt32 &&& Int32.toUInt32 31)).toInt32) &&& 7))] (v.toList ++ []) M Q)) else (Q (some (.int 0)) (sM mo G I J)))))) := by
  rw [bk_143_16]
  all_goals (try simp (decide := true) only [bk_143_0, bk_143_5, bk_143_9, bk_143_14, bk_143_51, bk_143_56, bk_143_63, bk_143_69, bk_143_82, bk_143_86, bk_143_93, bk_143_94, ct_House_hasBit, up2_ne, up2_sn, up2_ss, ne_eq, tl_some, tl_none, zb_0, zb_1, zb_bi, true_and, bi_eq, bi_ne, oz_f, zz_t, if_true, if_false, not_true_eq_false, not_false_eq_true])
  all_goals grind (splits := 30) [bi]
theorem lp_143_5 (x1 : Int32) (x2 : Int32) : sm_wp X 143 5 [some (.ref 52), some (.int x1), some (.int x2), none, none] [] (sM mo G I J) Q = (sm_wp X 131 0 [some (.ref 52)] [] (sM mo G I J) (fun v M => sm_wp X 143 9 [some (.ref 52), some (.int x1), some (.int x2), none, none] (v.toList ++ []) M Q)) := by
  rw [bk_143_5]
  all_goals (try simp (decide := true) only [bk_143_0, bk_143_9, bk_143_14, bk_143_51, bk_143_56, bk_143_63, bk_143_69, bk_143_82, bk_143_86, bk_143_93, bk_143_94, up2_ne, up2_sn, up2_ss, ne_eq, tl_some, tl_none, zb_0, zb_1, zb_bi, true_and, bi_eq, bi_ne, oz_f, zz_t, if_true, if_false, not_true_eq_false, not_false_eq_true])
  all_goals grind (splits := 30) [bi]
theorem lp_143_63 (x2 : Int32) (x3 : Int32) (x4 : Int32) : sm_wp X 143 63 [some (.ref 52), none, some (.int x2), some (.int x3), some (.int x4)] [] (sM mo G I J) Q = (sm_wp X 143 16 [some (.ref 52), none, some (.int x2), some (.int (x3 + 1)), none] [] (sM mo G I J) Q) := by
  rw [bk_143_63]
  all_goals (try simp (decide := true) only [bk_143_0, bk_143_5, bk_143_9, bk_143_14, bk_143_51, bk_143_56, bk_143_69, bk_143_82, bk_143_86, bk_143_93, bk_143_94, up2_ne, up2_sn, up2_ss, ne_eq, tl_some, tl_none, zb_0, zb_1, zb_bi, true_and, bi_eq, bi_ne, oz_f, zz_t, if_true, if_false, not_true_eq_false, not_false_eq_true])
  all_goals grind (splits := 30) [bi]
theorem lp_143_86 (x2 : Int32) (x3 : Int32) (s0 : Int32) : sm_wp X 143 86 [some (.ref 52), none, some (.int x2), some (.int x3), none] [.int s0] (sM mo G I J) Q = (if s0 = 0 then (Q (some (.int 2)) (sM mo G I J)) else (Q (some (.int 3)) (sM mo G I J))) := by
  rw [bk_143_86]
  all_goals (try simp (decide := true) only [bk_143_0, bk_143_5, bk_143_9, bk_143_14, bk_143_51, bk_143_56, bk_143_63, bk_143_69, bk_143_82, bk_143_93, bk_143_94, up2_ne, up2_sn, up2_ss, ne_eq, tl_some, tl_none, zb_0, zb_1, zb_bi, true_and, bi_eq, bi_ne, oz_f, zz_t, if_true, if_false, not_true_eq_false, not_false_eq_true])
  all_goals grind (splits := 30) [bi]
theorem lp_143_9 (x1 : Int32) (x2 : Int32) (s0 : Int32) : sm_wp X 143 9 [some (.ref 52), some (.int x1), some (.int x2), none, none] [.int s0] (sM mo G I J) Q = (if s0 = 0 then (sm_wp X 143 16 [some (.ref 52), none, some (.int x2), some (.int 0), none] [] (sM mo G I J) Q) else (Q (some (.int (-1))) (sM mo G I J))) := by
  rw [bk_143_9]
  all_goals (try simp (decide := true) only [bk_143_0, bk_143_5, bk_143_14, bk_143_51, bk_143_56, bk_143_63, bk_143_69, bk_143_82, bk_143_86, bk_143_93, bk_143_94, up2_ne, up2_sn, up2_ss, ne_eq, tl_some, tl_none, zb_0, zb_1, zb_bi, true_and, bi_eq, bi_ne, oz_f, zz_t, if_true, if_false, not_true_eq_false, not_false_eq_true])
  all_goals grind (splits := 30) [bi]
theorem lpw_143_0 (x1 : Int32) (x2 : Int32) : sm_wp X 143 0 [some (.ref 60), some (.int x1), some (.int x2), none, none] [] (sM mo G I J) Q = (sm_wp X 129 0 [some (.ref 60), some (.int x1), none, none, none] [] (sM mo G I J) (fun v M => sm_wp X 143 5 [some (.ref 60), some (.int x1), some (.int x2), none, none] (v.toList ++ []) M Q)) := by
  rw [bkw_143_0]
  all_goals (try simp (decide := true) only [bkw_143_5, bkw_143_9, bkw_143_14, bkw_143_51, bkw_143_56, bkw_143_63, bkw_143_69, bkw_143_82, bkw_143_86, bkw_143_93, bkw_143_94, up2_ne, up2_sn, up2_ss, ne_eq, tl_some, tl_none, zb_0, zb_1, zb_bi, true_and, bi_eq, bi_ne, oz_f, zz_t, if_true, if_false, not_true_eq_false, not_false_eq_true])
  all_goals grind (splits := 30) [bi]
theorem lpw_143_16 (x2 : Int32) (x3 : Int32) : sm_wp X 143 16 [some (.ref 60), none, some (.int x2), some (.int x3), none] [] (sM mo G I J) Q = (if I 60 5 ≤ x3 then (if I 60 12 = I 60 2 then (sm_wp X 135 0 [some (.ref 60), none, none, none] [] (sM mo G I J) (fun v M => sm_wp X 143 86 [some (.ref 60), none, some (.int x2), some (.int x3), none] (v.toList ++ []) M Q)) else (Q (some (.int 1)) (sM mo G I J))) else (if 8 ≤ x3 then (if I 60 12 = I 60 2 then (sm_wp X 135 0 [some (.ref 60), none, none, none] [] (sM mo G I J) (fun v M => sm_wp X 143 86 [some (.ref 60), none, some (.int x2), some (.int x3), none] (v.toList ++ []) M Q)) else (Q (some (.int 1)) (sM mo G I J))) else (vp_in x3 8 ∧ (if (hBit (I 62 (x3.toNatClampNeg)) (((x2.toUInt32 >>> (((3 : Int32) * x3).toUInt32 &&& Int32.toUInt32 31)).toInt32) &&& 7)) then (sm_wp X 133 0 [some (.ref 60), some (.int x3), some (.int (((x2.toUInt32 >>> (((3 : Int32) * x3).toUInt32 &&& Int32.toUInt32 31)).toInt32) &&& 7))] [] (sM mo G I J) (fun v M => sm_wp X 143 63 [some (.ref 60), none, some (.int x2), some (.int x3), some (.int (((x2.toUInt32 >>> (((3 : Int32) * x3).toUInt32 &&& Int32.toUInt32 31)).toInt32) &&& 7))] (v.toList ++ []) M Q)) else (Q (some (.int 0)) (sM mo G I J)))))) := by
  rw [bkw_143_16]
  all_goals (try simp (decide := true) only [bkw_143_0, bkw_143_5, bkw_143_9, bkw_143_14, bkw_143_51, bkw_143_56, bkw_143_63, bkw_143_69, bkw_143_82, bkw_143_86, bkw_143_93, bkw_143_94, ct_House_hasBit, up2_ne, up2_sn, up2_ss, ne_eq, tl_some, tl_none, zb_0, zb_1, zb_bi, true_and, bi_eq, bi_ne, oz_f, zz_t, if_true, if_false, not_true_eq_false, not_false_eq_true])
  all_goals grind (splits := 30) [bi]
theorem lpw_143_5 (x1 : Int32) (x2 : Int32) : sm_wp X 143 5 [some (.ref 60), some (.int x1), some (.int x2), none, none] [] (sM mo G I J) Q = (sm_wp X 131 0 [some (.ref 60)] [] (sM mo G I J) (fun v M => sm_wp X 143 9 [some (.ref 60), some (.int x1), some (.int x2), none, none] (v.toList ++ []) M Q)) := by
  rw [bkw_143_5]
  all_goals (try simp (decide := true) only [bkw_143_0, bkw_143_9, bkw_143_14, bkw_143_51, bkw_143_56, bkw_143_63, bkw_143_69, bkw_143_82, bkw_143_86, bkw_143_93, bkw_143_94, up2_ne, up2_sn, up2_ss, ne_eq, tl_some, tl_none, zb_0, zb_1, zb_bi, true_and, bi_eq, bi_ne, oz_f, zz_t, if_true, if_false, not_true_eq_false, not_false_eq_true])
  all_goals grind (splits := 30) [bi]
theorem lpw_143_63 (x2 : Int32) (x3 : Int32) (x4 : Int32) : sm_wp X 143 63 [some (.ref 60), none, some (.int x2), some (.int x3), some (.int x4)] [] (sM mo G I J) Q = (sm_wp X 143 16 [some (.ref 60), none, some (.int x2), some (.int (x3 + 1)), none] [] (sM mo G I J) Q) := by
  rw [bkw_143_63]
  all_goals (try simp (decide := true) only [bkw_143_0, bkw_143_5, bkw_143_9, bkw_143_14, bkw_143_51, bkw_143_56, bkw_143_69, bkw_143_82, bkw_143_86, bkw_143_93, bkw_143_94, up2_ne, up2_sn, up2_ss, ne_eq, tl_some, tl_none, zb_0, zb_1, zb_bi, true_and, bi_eq, bi_ne, oz_f, zz_t, if_true, if_false, not_true_eq_false, not_false_eq_true])
  all_goals grind (splits := 30) [bi]
theorem lpw_143_86 (x2 : Int32) (x3 : Int32) (s0 : Int32) : sm_wp X 143 86 [some (.ref 60), none, some (.int x2), some (.int x3), none] [.int s0] (sM mo G I J) Q = (if s0 = 0 then (Q (some (.int 2)) (sM mo G I J)) else (Q (some (.int 3)) (sM mo G I J))) := by
  rw [bkw_143_86]
  all_goals (try simp (decide := true) only [bkw_143_0, bkw_143_5, bkw_143_9, bkw_143_14, bkw_143_51, bkw_143_56, bkw_143_63, bkw_143_69, bkw_143_82, bkw_143_93, bkw_143_94, up2_ne, up2_sn, up2_ss, ne_eq, tl_some, tl_none, zb_0, zb_1, zb_bi, true_and, bi_eq, bi_ne, oz_f, zz_t, if_true, if_false, not_true_eq_false, not_false_eq_true])
  all_goals grind (splits := 30) [bi]
theorem lpw_143_9 (x1 : Int32) (x2 : Int32) (s0 : Int32) : sm_wp X 143 9 [some (.ref 60), some (.int x1), some (.int x2), none, none] [.int s0] (sM mo G I J) Q = (if s0 = 0 then (sm_wp X 143 16 [some (.ref 60), none, some (.int x2), some (.int 0), none] [] (sM mo G I J) Q) else (Q (some (.int (-1))) (sM mo G I J))) := by
  rw [bkw_143_9]
  all_goals (try simp (decide := true) only [bkw_143_0, bkw_143_5, bkw_143_14, bkw_143_51, bkw_143_56, bkw_143_63, bkw_143_69, bkw_143_82, bkw_143_86, bkw_143_93, bkw_143_94, up2_ne, up2_sn, up2_ss, ne_eq, tl_some, tl_none, zb_0, zb_1, zb_bi, true_and, bi_eq, bi_ne, oz_f, zz_t, if_true, if_false, not_true_eq_false, not_false_eq_true])
  all_goals grind (splits := 30) [bi]
theorem lpb_143_0 (b : Nat) (hb : b = 52 ∨ b = 60) (x1 : Int32) (x2 : Int32) : sm_wp X 143 0 [some (.ref b), some (.int x1), some (.int x2), none, none] [] (sM mo G I J) Q = (sm_wp X 129 0 [some (.ref b), some (.int x1), none, none, none] [] (sM mo G I J) (fun v M => sm_wp X 143 5 [some (.ref b), some (.int x1), some (.int x2), none, none] (v.toList ++ []) M Q)) := by
  rcases hb with rfl | rfl
  · exact lp_143_0 X mo G I J Q x1 x2
  · exact lpw_143_0 X mo G I J Q x1 x2
theorem lpb_143_16 (b : Nat) (hb : b = 52 ∨ b = 60) (x2 : Int32) (x3 : Int32) : sm_wp X 143 16 [some (.ref b), none, some (.int x2), some (.int x3), none] [] (sM mo G I J) Q = (if I b 5 ≤ x3 then (if I b 12 = I b 2 then (sm_wp X 135 0 [some (.ref b), none, none, none] [] (sM mo G I J) (fun v M => sm_wp X 143 86 [some (.ref b), none, some (.int x2), some (.int x3), none] (v.toList ++ []) M Q)) else (Q (some (.int 1)) (sM mo G I J))) else (if 8 ≤ x3 then (if I b 12 = I b 2 then (sm_wp X 135 0 [some (.ref b), none, none, none] [] (sM mo G I J) (fun v M => sm_wp X 143 86 [some (.ref b), none, some (.int x2), some (.int x3), none] (v.toList ++ []) M Q)) else (Q (some (.int 1)) (sM mo G I J))) else (vp_in x3 8 ∧ (if (hBit (I (b + 2) (x3.toNatClampNeg)) (((x2.toUInt32 >>> (((3 : Int32) * x3).toUInt32 &&& Int32.toUInt32 31)).toInt32) &&& 7)) then (sm_wp X 133 0 [some (.ref b), some (.int x3), some (.int (((x2.toUInt32 >>> (((3 : Int32) * x3).toUInt32 &&& Int32.toUInt32 31)).toInt32) &&& 7))] [] (sM mo G I J) (fun v M => sm_wp X 143 63 [some (.ref b), none, some (.int x2), some (.int x3), some (.int (((x2.toUInt32 >>> (((3 : Int32) * x3).toUInt32 &&& Int32.toUInt32 31)).toInt32) &&& 7))] (v.toList ++ []) M Q)) else (Q (some (.int 0)) (sM mo G I J)))))) := by
  rcases hb with rfl | rfl
  · exact lp_143_16 X mo G I J Q x2 x3
  · exact lpw_143_16 X mo G I J Q x2 x3
theorem lpb_143_5 (b : Nat) (hb : b = 52 ∨ b = 60) (x1 : Int32) (x2 : Int32) : sm_wp X 143 5 [some (.ref b), some (.int x1), some (.int x2), none, none] [] (sM mo G I J) Q = (sm_wp X 131 0 [some (.ref b)] [] (sM mo G I J) (fun v M => sm_wp X 143 9 [some (.ref b), some (.int x1), some (.int x2), none, none] (v.toList ++ []) M Q)) := by
  rcases hb with rfl | rfl
  · exact lp_143_5 X mo G I J Q x1 x2
  · exact lpw_143_5 X mo G I J Q x1 x2
end R3
end
section
/-! One turn of each loop, and the stretches between calls, by program. -/
section R3
variable (X : (Nat → Int32) × Nat) (mo : Bool) (G : Nat × Nat) (I : Nat → Nat → Int32) (J : Nat → Nat → Int64) (Q : Option Value → sm_M → Prop)
theorem lpb_143_63 (b : Nat) (hb : b = 52 ∨ b = 60) (x2 : Int32) (x3 : Int32) (x4 : Int32) : sm_wp X 143 63 [some (.ref b), none, some (.int x2), some (.int x3), some (.int x4)] [] (sM mo G I J) Q = (sm_wp X 143 16 [some (.ref b), none, some (.int x2), some (.int (x3 + 1)), none] [] (sM mo G I J) Q) := by
  rcases hb with rfl | rfl
  · exact lp_143_63 X mo G I J Q x2 x3 x4
  · exact lpw_143_63 X mo G I J Q x2 x3 x4
theorem lpb_143_86 (b : Nat) (hb : b = 52 ∨ b = 60) (x2 : Int32) (x3 : Int32) (s0 : Int32) : sm_wp X 143 86 [some (.ref b), none, some (.int x2), some (.int x3), none] [.int s0] (sM mo G I J) Q = (if s0 = 0 then (Q (some (.int 2)) (sM mo G I J)) else (Q (some (.int 3)) (sM mo G I J))) := by
  rcases hb with rfl | rfl
  · exact lp_143_86 X mo G I J Q x2 x3 s0
  · exact lpw_143_86 X mo G I J Q x2 x3 s0
theorem lpb_143_9 (b : Nat) (hb : b = 52 ∨ b = 60) (x1 : Int32) (x2 : Int32) (s0 : Int32) : sm_wp X 143 9 [some (.ref b), some (.int x1), some (.int x2), none, none] [.int s0] (sM mo G I J) Q = (if s0 = 0 then (sm_wp X 143 16 [some (.ref b), none, some (.int x2), some (.int 0), none] [] (sM mo G I J) Q) else (Q (some (.int (-1))) (sM mo G I J))) := by
  rcases hb with rfl | rfl
  · exact lp_143_9 X mo G I J Q x1 x2 s0
  · exact lpw_143_9 X mo G I J Q x1 x2 s0
end R3
end
section
/-! One turn of each loop, and the stretches between calls, by program. -/
section R3
variable (X : (Nat → Int32) × Nat) (mo : Bool) (G : Nat × Nat) (I : Nat → Nat → Int32) (J : Nat → Nat → Int64) (Q : Option Value → sm_M → Prop)
theorem lp_151_0 (x1 : Int32) (x2 : Int32) : sm_wp X 151 0 [some (.ref 26), some (.int x1), some (.int x2), none, none] [] (sM mo G I J) Q = (sm_wp X 151 5 [some (.ref 26), some (.int x1), some (.int x2), some (.int 0), some (.int 0)] [] (sM mo G I J) Q) := by
  rw [bk_151_0]
  all_goals (try simp (decide := true) only [bk_151_66, bk_151_72, up2_ne, up2_sn, up2_ss, ne_eq, tl_some, tl_none, zb_0, zb_1, zb_bi, true_and, bi_eq, bi_ne, oz_f, zz_t, if_true, if_false, not_true_eq_false, not_false_eq_true])
  all_goals grind (splits := 30) [bi]
theorem lp_151_5 (x1 : Int32) (x2 : Int32) (x3 : Int32) (x4 : Int32) : sm_wp X 151 5 [some (.ref 26), some (.int x1), some (.int x2), some (.int x3), some (.int x4)] [] (sM mo G I J) Q = (if I 26 0 ≤ x4 then (Q (some (.int x3)) (sM mo G I J)) else (if 20 ≤ x4 then (Q (some (.int x3)) (sM mo G I J)) else (vp_in x4 20 ∧ (if ¬ I 28 (x4.toNatClampNeg) = x1 then (sm_wp X 151 5 [some (.ref 26), some (.int x1), some (.int x2), some (.int x3), some (.int (x4 + 1))] [] (sM mo G I J) Q) else (if x2 < I 29 (x4.toNatClampNeg) then (sm_wp X 151 5 [some (.ref 26), some (.int x1), some (.int x2), some (.int x3), some (.int (x4 + 1))] [] (sM mo G I J) Q) else (if I 30 (x4.toNatClampNeg) < x2 then (sm_wp X 151 5 [some (.ref 26), some (.int x1), some (.int x2), some (.int x3), some (.int (x4 + 1))] [] (sM mo G I J) Q) else (sm_wp X 151 5 [some (.ref 26), some (.int x1), some (.int x2), some (.int (x3 ||| ((1 : Int32) <<< ((I 27 (x4.toNatClampNeg)) &&& 31)))), some (.int (x4 + 1))] [] (sM mo G I J) Q))))))) := by
  rw [bk_151_5]
  all_goals (try simp (decide := true) only [bk_151_0, bk_151_66, bk_151_72, up2_ne, up2_sn, up2_ss, ne_eq, tl_some, tl_none, zb_0, zb_1, zb_bi, true_and, bi_eq, bi_ne, oz_f, zz_t, if_true, if_false, not_true_eq_false, not_false_eq_true])
  all_goals grind (splits := 30) [bi]
end R3
end
section
/-! One turn of each loop, and the stretches between calls, by program. -/
section R3
variable (X : (Nat → Int32) × Nat) (mo : Bool) (G : Nat × Nat) (I : Nat → Nat → Int32) (J : Nat → Nat → Int64) (Q : Option Value → sm_M → Prop)
theorem lp_154_0 (x1 : Int32) : sm_wp X 154 0 [some (.ref 14), some (.int x1), none] [] (sM mo G I J) Q = (sm_wp X 154 3 [some (.ref 14), some (.int x1), some (.int 24)] [] (sM mo G I J) Q) := by
  rw [bk_154_0]
  all_goals (try simp (decide := true) only [bk_154_47, bk_154_53, up2_ne, up2_sn, up2_ss, ne_eq, tl_some, tl_none, zb_0, zb_1, zb_bi, true_and, bi_eq, bi_ne, oz_f, zz_t, if_true, if_false, not_true_eq_false, not_false_eq_true])
  all_goals grind (splits := 30) [bi]
theorem lp_154_3 (x1 : Int32) (x2 : Int32) : sm_wp X 154 3 [some (.ref 14), some (.int x1), some (.int x2)] [] (sM mo G I J) Q = (if x2 < 0 then (Q none (sM mo G I J)) else (if I 14 0 < 0 then (sm_wp X 154 3 [some (.ref 14), some (.int x1), some (.int (x2 + (-8)))] [] (sM mo G I J) Q) else (if 400 ≤ I 14 0 then (sm_wp X 154 3 [some (.ref 14), some (.int x1), some (.int (x2 + (-8)))] [] (sM mo G I J) Q) else (vp_in (I 14 0) 400 ∧ (sm_wp X 154 3 [some (.ref 14), some (.int x1), some (.int (x2 + (-8)))] [] (sM mo G (up2 (up2 I 15 (I 14 0).toNatClampNeg (vp_nar .byte (((x1.toUInt32 >>> (x2.toUInt32 &&& Int32.toUInt32 31)).toInt32).toInt8.toInt32))) 14 0 ((I 14 0) + 1)) J) Q))))) := by
  rw [bk_154_3]
  all_goals (try simp (decide := true) only [bk_154_0, bk_154_47, bk_154_53, up2_ne, up2_sn, up2_ss, ne_eq, tl_some, tl_none, zb_0, zb_1, zb_bi, true_and, bi_eq, bi_ne, oz_f, zz_t, if_true, if_false, not_true_eq_false, not_false_eq_true])
  all_goals grind (splits := 30) [bi]
theorem lp_156_0  : sm_wp X 156 0 [some (.ref 14), none] [] (sM mo G I J) Q = (if I 14 4 ≤ I 14 5 then (if I 14 5 < I 14 4 then (if ¬ (vf_Tape_isLetter (vf_Tape_byteAt (up2 I 14 1 (I 14 5)) (I 14 5))) then (if ¬ (vf_Tape_isDigit (vf_Tape_byteAt (up2 I 14 1 (I 14 5)) (I 14 5))) then (if vf_Tape_byteAt (up2 I 14 1 (I 14 5)) (I 14 5) = 37 then (Q (some (.int 23)) (sM mo G (up2 (up2 I 14 1 (I 14 5)) 14 5 ((I 14 5) + 1)) J)) else (if vf_Tape_byteAt (up2 I 14 1 (I 14 5)) (I 14 5) = 40 then (Q (some (.int 30)) (sM mo G (up2 (up2 I 14 1 (I 14 5)) 14 5 ((I 14 5) + 1)) J)) else (if vf_Tape_byteAt (up2 I 14 1 (I 14 5)) (I 14 5) = 41 then (Q (some (.int 31)) (sM mo G (up2 (up2 I 14 1 (I 14 5)) 14 5 ((I 14 5) + 1)) J)) else (if vf_Tape_byteAt (up2 I 14 1 (I 14 5)) (I 14 5) = 42 then (Q (some (.int 21)) (sM mo G (up2 (up2 I 14 1 (I 14 5)) 14 5 ((I 14 5) + 1)) J)) else (if vf_Tape_byteAt (up2 I 14 1 (I 14 5)) (I 14 5) = 43 then (Q (some (.int 19)) (sM mo G (up2 (up2 I 14 1 (I 14 5)) 14 5 ((I 14 5) + 1)) J)) else (if vf_Tape_byteAt (up2 I 14 1 (I 14 5)) (I 14 5) = 45 then (Q (some (.int 20)) (sM mo G (up2 (up2 I 14 1 (I 14 5)) 14 5 ((I 14 5) + 1)) J)) else (if vf_Tape_byteAt (up2 I 14 1 (I 14 5)) (I 14 5) = 47 then (Q (some (.int 22)) (sM mo G (up2 (up2 I 14 1 (I 14 5)) 14 5 ((I 14 5) + 1)) J)) else (if vf_Tape_byteAt (up2 I 14 1 (I 14 5)) (I 14 5) = 59 then (Q (some (.int 32)) (sM mo G (up2 (up2 I 14 1 (I 14 5)) 14 5 ((I 14 5) + 1)) J)) else (if vf_Tape_byteAt (up2 I 14 1 (I 14 5)) (I 14 5) = 60 then (if I 14 4 ≤ (I 14 5) + 1 then (Q (some (.int 24)) (sM mo G (up2 (up2 I 14 1 (I 14 5)) 14 5 ((I 14 5) + 1)) J)) else (if vf_Tape_byteAt (up2 (up2 I 14 1 (I 14 5)) 14 5 ((I 14 5) + 1)) ((I 14 5) + 1) = 61 then (Q (some (.int 25)) (sM mo G (up2 (up2 (up2 I 14 1 (I 14 5)) 14 5 ((I 14 5) + 1)) 14 5 (((I 14 5) + 1) + 1)) J)) else (if vf_Tape_byteAt (up2 (up2 I 14 1 (I 14 5)) 14 5 ((I 14 5) + 1)) ((I 14 5) + 1) = 62 then (Q (some (.int 27)) (sM mo G (up2 (up2 (up2 I 14 1 (I 14 5)) 14 5 ((I 14 5) + 1)) 14 5 (((I 14 5) + 1) + 1)) J)) else (Q (some (.int 24)) (sM mo G (up2 (up2 I 14 1 (I 14 5)) 14 5 ((I 14 5) + 1)) J))))) else (if vf_Tape_byteAt (up2 I 14 1 (I 14 5)) (I 14 5) = 61 then (Q (some (.int 26)) (sM mo G (up2 (up2 I 14 1 (I 14 5)) 14 5 ((I 14 5) + 1)) J)) else (if vf_Tape_byteAt (up2 I 14 1 (I 14 5)) (I 14 5) = 62 then (if I 14 4 ≤ (I 14 5) + 1 then (Q (some (.int 29)) (sM mo G (up2 (up2 I 14 1 (I 14 5)) 14 5 ((I 14 5) + 1)) J)) else (if vf_Tape_byteAt (up2 (up2 I 14 1 (I 14 5)) 14 5 ((I 14 5) + 1)) ((I 14 5) + 1) = 61 then (Q (some (.int 28)) (sM mo G (up2 (up2 (up2 I 14 1 (I 14 5)) 14 5 ((I 14 5) + 1)) 14 5 (((I 14 5) + 1) + 1)) J)) else (Q (some (.int 29)) (sM mo G (up2 (up2 I 14 1 (I 14 5)) 14 5 ((I 14 5) + 1)) J)))) else (Q (some (.int 35)) (sM mo G (up2 (up2 I 14 1 (I 14 5)) 14 5 ((I 14 5) + 1)) J))))))))))))) else (sm_wp X 162 0 [some (.ref 14)] [] (sM mo G (up2 I 14 1 (I 14 5)) J) (fun v M => sm_wp X 156 92 [some (.ref 14), some (.int (vf_Tape_byteAt (up2 I 14 1 (I 14 5)) (I 14 5)))] (v.toList ++ []) M Q))) else (sm_wp X 160 0 [some (.ref 14), none, none, none, none, none] [] (sM mo G (up2 I 14 1 (I 14 5)) J) (fun v M => sm_wp X 156 80 [some (.ref 14), some (.int (vf_Tape_byteAt (up2 I 14 1 (I 14 5)) (I 14 5)))] (v.toList ++ []) M Q))) else (Q (some (.int 34)) (sM mo G (up2 I 14 1 (I 14 5)) J))) else (if ¬ (vf_Tape_isBlank (vf_Tape_byteAt I (I 14 5))) then (if I 14 5 < I 14 4 then (if ¬ (vf_Tape_isLetter (vf_Tape_byteAt (up2 I 14 1 (I 14 5)) (I 14 5))) then (if ¬ (vf_Tape_isDigit (vf_Tape_byteAt (up2 I 14 1 (I 14 5)) (I 14 5))) then (if vf_Tape_byteAt (up2 I 14 1 (I 14 5)) (I 14 5) = 37 then (Q (some (.int 23)) (sM mo G (up2 (up2 I 14 1 (I 14 5)) 14 5 ((I 14 5) + 1)) J)) else (if vf_Tape_byteAt (up2 I 14 1 (I 14 5)) (I 14 5) = 40 then (Q (some (.int 30)) (sM mo G (up2 (up2 I 14 1 (I 14 5)) 14 5 ((I 14 5) + 1)) J)) else (if vf_Tape_byteAt (up2 I 14 1 (I 14 5)) (I 14 5) = 41 then (Q (some (.int 31)) (sM mo G (up2 (up2 I 14 1 (I 14 5)) 14 5 ((I 14 5) + 1)) J)) else (if vf_Tape_byteAt (up2 I 14 1 (I 14 5)) (I 14 5) = 42 then (Q (some (.int 21)) (sM mo G (up2 (up2 I 14 1 (I 14 5)) 14 5 ((I 14 5) + 1)) J)) else (if vf_Tape_byteAt (up2 I 14 1 (I 14 5)) (I 14 5) = 43 then (Q (some (.int 19)) (sM mo G (up2 (up2 I 14 1 (I 14 5)) 14 5 ((I 14 5) + 1)) J)) else (if vf_Tape_byteAt (up2 I 14 1 (I 14 5)) (I 14 5) = 45 then (Q (some (.int 20)) (sM mo G (up2 (up2 I 14 1 (I 14 5)) 14 5 ((I 14 5) + 1)) J)) else (if vf_Tape_byteAt (up2 I 14 1 (I 14 5)) (I 14 5) = 47 then (Q (some (.int 22)) (sM mo G (up2 (up2 I 14 1 (I 14 5)) 14 5 ((I 14 5) + 1)) J)) else (if vf_Tape_byteAt (up2 I 14 1 (I 14 5)) (I 14 5) = 59 then (Q (some (.int 32)) (sM mo G (up2 (up2 I 14 1 (I 14 5)) 14 5 ((I 14 5) + 1)) J)) else (if vf_Tape_byteAt (up2 I 14 1 (I 14 5)) (I 14 5) = 60 then (if I 14 4 ≤ (I 14 5) + 1 then (Q (some (.int 24)) (sM mo G (up2 (up2 I 14 1 (I 14 5)) 14 5 ((I 14 5) + 1)) J)) else (if vf_Tape_byteAt (up2 (up2 I 14 1 (I 14 5)) 14 5 ((I 14 5) + 1)) ((I 14 5) + 1) = 61 then (Q (some (.int 25)) (sM mo G (up2 (up2 (up2 I 14 1 (I 14 5)) 14 5 ((I 14 5) + 1)) 14 5 (((I 14 5) + 1) + 1)) J)) else (if vf_Tape_byteAt (up2 (up2 I 14 1 (I 14 5)) 14 5 ((I 14 5) + 1)) ((I 14 5) + 1) = 62 then (Q (some (.int 27)) (sM mo G (up2 (up2 (up2 I 14 1 (I 14 5)) 14 5 ((I 14 5) + 1)) 14 5 (((I 14 5) + 1) + 1)) J)) else (Q (some (.int 24)) (sM mo G (up2 (up2 I 14 1 (I 14 5)) 14 5 ((I 14 5) + 1)) J))))) else (if vf_Tape_byteAt (up2 I 14 1 (I 14 5)) (I 14 5) = 61 then (Q (some (.int 26)) (sM mo G (up2 (up2 I 14 1 (I 14 5)) 14 5 ((I 14 5) + 1)) J)) else (if vf_Tape_byteAt (up2 I 14 1 (I 14 5)) (I 14 5) = 62 then (if I 14 4 ≤ (I 14 5) + 1 then (Q (some (.int 29)) (sM mo G (up2 (up2 I 14 1 (I 14 5)) 14 5 ((I 14 5) + 1)) J)) else (if vf_Tape_byteAt (up2 (up2 I 14 1 (I 14 5)) 14 5 ((I 14 5) + 1)) ((I 14 5) + 1) = 61 then (Q (some (.int 28)) (sM mo G (up2 (up2 (up2 I 14 1 (I 14 5)) 14 5 ((I 14 5) + 1)) 14 5 (((I 14 5) + 1) + 1)) J)) else (Q (some (.int 29)) (sM mo G (up2 (up2 I 14 1 (I 14 5)) 14 5 ((I 14 5) + 1)) J)))) else (Q (some (.int 35)) (sM mo G (up2 (up2 I 14 1 (I 14 5)) 14 5 ((I 14 5) + 1)) J))))))))))))) else (sm_wp X 162 0 [some (.ref 14)] [] (sM mo G (up2 I 14 1 (I 14 5)) J) (fun v M => sm_wp X 156 92 [some (.ref 14), some (.int (vf_Tape_byteAt (up2 I 14 1 (I 14 5)) (I 14 5)))] (v.toList ++ []) M Q))) else (sm_wp X 160 0 [some (.ref 14), none, none, none, none, none] [] (sM mo G (up2 I 14 1 (I 14 5)) J) (fun v M => sm_wp X 156 80 [some (.ref 14), some (.int (vf_Tape_byteAt (up2 I 14 1 (I 14 5)) (I 14 5)))] (v.toList ++ []) M Q))) else (Q (some (.int 34)) (sM mo G (up2 I 14 1 (I 14 5)) J))) else (sm_wp X 156 0 [some (.ref 14), none] [] (sM mo G (up2 I 14 5 ((I 14 5) + 1)) J) Q))) := by
  rw [bk_156_0]
  all_goals (try simp (decide := true) only [bk_156_19, bk_156_22, bk_156_38, bk_156_60, bk_156_68, bk_156_73, bk_156_80, bk_156_81, bk_156_85, bk_156_92, bk_156_95, bk_156_100, ct_Tape_byteAt, ct_Tape_isLetter, ct_Tape_isDigit, ct_Tape_readSign, ct_Tape_isBlank, up2_ne, up2_sn, up2_ss, ne_eq, tl_some, tl_none, zb_0, zb_1, zb_bi, true_and, bi_eq, bi_ne, oz_f, zz_t, if_true, if_false, not_true_eq_false, not_false_eq_true])
  all_goals grind (splits := 30) [bi]
theorem lp_156_80 (x1 : Int32) (s0 : Int32) : sm_wp X 156 80 [some (.ref 14), some (.int x1)] [.int s0] (sM mo G I J) Q = (Q (some (.int s0)) (sM mo G I J)) := by
  rw [bk_156_80]
  all_goals (try simp (decide := true) only [bk_156_19, bk_156_22, bk_156_38, bk_156_60, bk_156_68, bk_156_73, bk_156_81, bk_156_85, bk_156_92, bk_156_95, bk_156_100, up2_ne, up2_sn, up2_ss, ne_eq, tl_some, tl_none, zb_0, zb_1, zb_bi, true_and, bi_eq, bi_ne, oz_f, zz_t, if_true, if_false, not_true_eq_false, not_false_eq_true])
  all_goals grind (splits := 30) [bi]
theorem lp_156_92 (x1 : Int32) (s0 : Int32) : sm_wp X 156 92 [some (.ref 14), some (.int x1)] [.int s0] (sM mo G I J) Q = (Q (some (.int s0)) (sM mo G I J)) := by
  rw [bk_156_92]
  all_goals (try simp (decide := true) only [bk_156_19, bk_156_22, bk_156_38, bk_156_60, bk_156_68, bk_156_73, bk_156_80, bk_156_81, bk_156_85, bk_156_95, bk_156_100, up2_ne, up2_sn, up2_ss, ne_eq, tl_some, tl_none, zb_0, zb_1, zb_bi, true_and, bi_eq, bi_ne, oz_f, zz_t, if_true, if_false, not_true_eq_false, not_false_eq_true])
  all_goals grind (splits := 30) [bi]
theorem lp_160_0  : sm_wp X 160 0 [some (.ref 14), none, none, none, none, none] [] (sM mo G I J) Q = (if I 14 4 ≤ I 14 5 then (sm_wp X 160 50 [some (.ref 14), some (.int 0), some (.int (I 14 1)), some (.int 1), some (.int 0), none] [] (sM mo G I J) Q) else (if ¬ (vf_Tape_isLetter (vf_Tape_byteAt I (I 14 5))) then (sm_wp X 160 50 [some (.ref 14), some (.int 0), some (.int (I 14 1)), some (.int 1), some (.int 0), none] [] (sM mo G I J) Q) else (sm_wp X 160 0 [some (.ref 14), none, none, none, none, none] [] (sM mo G (up2 I 14 5 ((I 14 5) + 1)) J) Q))) := by
  rw [bk_160_0]
  all_goals (try simp (decide := true) only [bk_160_19, bk_160_22, bk_160_38, bk_160_93, bk_160_102, bk_160_103, bk_160_110, bk_160_124, bk_160_134, bk_160_140, ct_Tape_byteAt, ct_Tape_isLetter, up2_ne, up2_sn, up2_ss, ne_eq, tl_some, tl_none, zb_0, zb_1, zb_bi, true_and, bi_eq, bi_ne, oz_f, zz_t, if_true, if_false, not_true_eq_false, not_false_eq_true])
  all_goals grind (splits := 30) [bi]
theorem lp_160_50 (x1 : Int32) (x2 : Int32) (x3 : Int32) (x4 : Int32) : sm_wp X 160 50 [some (.ref 14), some (.int x1), some (.int x2), some (.int x3), some (.int x4), none] [] (sM mo G I J) Q = (if 95 ≤ x4 then (Q (some (.int 35)) (sM mo G I J)) else (vp_in x4 95 ∧ (if sm_words.getD x4.toNatClampNeg 0 = 32 then (if x3 = 0 then (sm_wp X 160 50 [some (.ref 14), some (.int (x1 + 1)), some (.int (I 14 1)), some (.int 1), some (.int (x4 + 1)), none] [] (sM mo G I J) Q) else (if ¬ x2 = I 14 5 then (sm_wp X 160 50 [some (.ref 14), some (.int (x1 + 1)), some (.int (I 14 1)), some (.int 1), some (.int (x4 + 1)), none] [] (sM mo G I J) Q) else (Q (some (.int x1)) (sM mo G I J)))) else (if x3 = 0 then (sm_wp X 160 50 [some (.ref 14), some (.int x1), some (.int (x2 + 1)), some (.int 0), some (.int (x4 + 1)), none] [] (sM mo G I J) Q) else (if I 14 5 ≤ x2 then (sm_wp X 160 50 [some (.ref 14), some (.int x1), some (.int (x2 + 1)), some (.int 0), some (.int (x4 + 1)), none] [] (sM mo G I J) Q) else (if ¬ vf_Tape_byteAt I x2 = sm_words.getD x4.toNatClampNeg 0 then (sm_wp X 160 50 [some (.ref 14), some (.int x1), some (.int (x2 + 1)), some (.int 0), some (.int (x4 + 1)), none] [] (sM mo G I J) Q) else (sm_wp X 160 50 [some (.ref 14), some (.int x1), some (.int (x2 + 1)), some (.int 1), some (.int (x4 + 1)), none] [] (sM mo G I J) Q))))))) := by
  rw [bk_160_50]
  all_goals (try simp (decide := true) only [bk_160_19, bk_160_22, bk_160_38, bk_160_93, bk_160_102, bk_160_103, bk_160_110, bk_160_124, bk_160_134, bk_160_140, ct_Tape_byteAt, up2_ne, up2_sn, up2_ss, ne_eq, tl_some, tl_none, zb_0, zb_1, zb_bi, true_and, bi_eq, bi_ne, oz_f, zz_t, if_true, if_false, not_true_eq_false, not_false_eq_true])
  all_goals grind (splits := 30) [bi]
theorem lp_162_0  : sm_wp X 162 0 [some (.ref 14)] [] (sM mo G I J) Q = (sm_wp X 162 5 [some (.ref 14)] [] (sM mo G (up2 I 14 2 0) J) Q) := by
  rw [bk_162_0]
  all_goals (try simp (decide := true) only [bk_162_24, bk_162_27, bk_162_46, bk_162_71, up2_ne, up2_sn, up2_ss, ne_eq, tl_some, tl_none, zb_0, zb_1, zb_bi, true_and, bi_eq, bi_ne, oz_f, zz_t, if_true, if_false, not_true_eq_false, not_false_eq_true])
  all_goals grind (splits := 30) [bi]
theorem lp_162_5  : sm_wp X 162 5 [some (.ref 14)] [] (sM mo G I J) Q = (if I 14 4 ≤ I 14 5 then (Q (some (.int 36)) (sM mo G I J)) else (if ¬ (vf_Tape_isDigit (vf_Tape_byteAt I (I 14 5))) then (Q (some (.int 36)) (sM mo G I J)) else (sm_wp X 162 5 [some (.ref 14)] [] (sM mo G (up2 (up2 I 14 2 (if (100000 : Int32) < (((I 14 2) * 10) + (vf_Tape_byteAt I (I 14 5))) - 48 then 100000 else (((I 14 2) * 10) + (vf_Tape_byteAt I (I 14 5))) - 48)) 14 5 ((I 14 5) + 1)) J) Q))) := by
  rw [bk_162_5]
  all_goals (try simp (decide := true) only [bk_162_0, bk_162_24, bk_162_27, bk_162_46, bk_162_71, ct_Tape_byteAt, ct_Tape_isDigit, up2_ne, up2_sn, up2_ss, ne_eq, tl_some, tl_none, zb_0, zb_1, zb_bi, true_and, bi_eq, bi_ne, oz_f, zz_t, if_true, if_false, not_true_eq_false, not_false_eq_true])
  all_goals grind (splits := 30) [bi]
end R3
end
section
/-! Small numbers, counted loops, bits. -/
def zI (n : Nat) : Int32 := Int32.ofNat n
theorem zI_ti {a : Nat} (h : a < 2147483648) : (zI a).toInt = a := Int32.toInt_ofNat_of_lt h
theorem zI_lt {a b : Nat} (ha : a < 2147483648) (hb : b < 2147483648) : (zI a < zI b) = (a < b) := propext (Int32.ofNat_lt_iff_lt ha hb)
theorem zI_le {a b : Nat} (ha : a < 2147483648) (hb : b < 2147483648) : (zI a ≤ zI b) = (a ≤ b) := propext (Int32.ofNat_le_iff_le ha hb)
theorem zI_eq {a b : Nat} (ha : a < 2147483648) (hb : b < 2147483648) : (zI a = zI b) = (a = b) := propext ⟨fun h => by
  have h2 := congrArg Int32.toInt h
  rw [zI_ti ha, zI_ti hb] at h2
  omega, fun h => by rw [h]⟩
theorem zI_cn {a : Nat} (ha : a < 2147483648) : (zI a).toNatClampNeg = a := Int32.toNatClampNeg_ofNat_of_lt ha
theorem zI_vp {a n : Nat} (ha : a < 2147483648) : vp_in (zI a) n = (a < n) := propext (by rw [vp_in_iff, zI_ti ha]; omega)
theorem zI_add (a b : Nat) : zI a + zI b = zI (a + b) := (Int32.ofNat_add a b).symm
theorem zI_mul (a b : Nat) : zI a * zI b = zI (a * b) := (Int32.ofNat_mul a b).symm
theorem zI_sub {a b : Nat} (h : b ≤ a) : zI a - zI b = zI (a - b) := (Int32.ofNat_sub a b h).symm
theorem zI_lit (c : Nat) : (no_index (OfNat.ofNat c) : Int32) = zI c := rfl
theorem zIl_add (c a : Nat) : (no_index (OfNat.ofNat c) : Int32) + zI a = zI ((OfNat.ofNat c : Nat) + a) := zI_add c a
theorem zIr_add (c a : Nat) : zI a + (no_index (OfNat.ofNat c) : Int32) = zI (a + (OfNat.ofNat c : Nat)) := zI_add a c
theorem zIl_mul (c a : Nat) : (no_index (OfNat.ofNat c) : Int32) * zI a = zI ((OfNat.ofNat c : Nat) * a) := zI_mul c a
theorem zIr_mul (c a : Nat) : zI a * (no_index (OfNat.ofNat c) : Int32) = zI (a * (OfNat.ofNat c : Nat)) := zI_mul a c
theorem zIr_sub {c a : Nat} (h : (OfNat.ofNat c : Nat) ≤ a) : zI a - (no_index (OfNat.ofNat c) : Int32) = zI (a - (OfNat.ofNat c : Nat)) := zI_sub h
theorem zIl_sub {c a : Nat} (h : a ≤ (OfNat.ofNat c : Nat)) : (no_index (OfNat.ofNat c) : Int32) - zI a = zI ((OfNat.ofNat c : Nat) - a) := zI_sub h
theorem zIl_lt {c a : Nat} (hc : (OfNat.ofNat c : Nat) < 2147483648) (ha : a < 2147483648) : ((no_index (OfNat.ofNat c) : Int32) < zI a) = ((OfNat.ofNat c : Nat) < a) := zI_lt hc ha
theorem zIr_lt {c a : Nat} (hc : (OfNat.ofNat c : Nat) < 2147483648) (ha : a < 2147483648) : (zI a < (no_index (OfNat.ofNat c) : Int32)) = (a < (OfNat.ofNat c : Nat)) := zI_lt ha hc
theorem zIl_le {c a : Nat} (hc : (OfNat.ofNat c : Nat) < 2147483648) (ha : a < 2147483648) : ((no_index (OfNat.ofNat c) : Int32) ≤ zI a) = ((OfNat.ofNat c : Nat) ≤ a) := zI_le hc ha
theorem zIr_le {c a : Nat} (hc : (OfNat.ofNat c : Nat) < 2147483648) (ha : a < 2147483648) : (zI a ≤ (no_index (OfNat.ofNat c) : Int32)) = (a ≤ (OfNat.ofNat c : Nat)) := zI_le ha hc
theorem zIl_eq {c a : Nat} (hc : (OfNat.ofNat c : Nat) < 2147483648) (ha : a < 2147483648) : ((no_index (OfNat.ofNat c) : Int32) = zI a) = ((OfNat.ofNat c : Nat) = a) := zI_eq hc ha
theorem zIr_eq {c a : Nat} (hc : (OfNat.ofNat c : Nat) < 2147483648) (ha : a < 2147483648) : (zI a = (no_index (OfNat.ofNat c) : Int32)) = (a = (OfNat.ofNat c : Nat)) := zI_eq ha hc
theorem zI_m1 {a : Nat} (ha : a < 2147483648) : (zI a = -1) = False := eq_false (fun h => by
  have h2 := congrArg Int32.toInt h
  rw [zI_ti ha] at h2
  have e : (-1 : Int32).toInt = -1 := by decide
  omega)
theorem zI_m1' {a : Nat} (ha : a < 2147483648) : (-1 = zI a) = False := by
  rw [show (-1 = zI a) = (zI a = -1) from propext ⟨Eq.symm, Eq.symm⟩]
  exact zI_m1 ha
theorem zI_ltm1 {a : Nat} (ha : a < 2147483648) : (zI a < -1) = False := eq_false (fun h => by
  rw [Int32.lt_iff_toInt_lt, zI_ti ha] at h
  have e : (-1 : Int32).toInt = -1 := by decide
  omega)
/-- a number that isn't negative is one of these -/
theorem zI_of {x : Int32} (h : ¬ x < 0) : ∃ a, a < 2147483648 ∧ x = zI a := by
  refine ⟨x.toNatClampNeg, Int32.toNatClampNeg_lt x, (Int32.ofNat_toNatClampNeg x ?_).symm⟩
  rw [Int32.lt_iff_toInt_lt] at h
  rw [Int32.le_iff_toInt_le]
  omega
/-- n turns of a counted loop -/
def up {α : Type} (f : Nat → α → α) : Nat → α → α
  | 0, a => a
  | n + 1, a => f n (up f n a)
theorem up_0 {α : Type} (f : Nat → α → α) (a : α) : up f 0 a = a := rfl
theorem up_s {α : Type} (f : Nat → α → α) (n : Nat) (a : α) : up f (n + 1) a = f n (up f n a) := rfl
theorem cnt {α : Type} (P : Nat → α → Prop) (f : Nat → α → α) (a : α) (N : Nat) (h : ∀ k, k < N → P k (up f k a) = P (k + 1) (f k (up f k a))) : P 0 a = P N (up f N a) := by
  induction N with
  | zero => rfl
  | succ n ih => rw [ih (fun k hk => h k (by omega)), h n (by omega)]; rfl
theorem up_ind {α : Type} {f : Nat → α → α} {a : α} {N : Nat} (R : Nat → α → Prop) (h0 : R 0 a) (hs : ∀ k, k < N → ∀ x, R k x → R (k + 1) (f k x)) : ∀ k, k ≤ N → R k (up f k a) := by
  intro k
  induction k with
  | zero => exact fun _ => h0
  | succ k ih => exact fun hk => hs k (by omega) _ (ih (by omega))
theorem up_rel {α β : Type} {f : Nat → α → α} {g : Nat → β → β} {a : α} {b : β} {N : Nat} (R : Nat → α → β → Prop) (h0 : R 0 a b) (hs : ∀ k, k < N → ∀ x y, R k x y → R (k + 1) (f k x) (g k y)) : ∀ k, k ≤ N → R k (up f k a) (up g k b) := by
  intro k
  induction k with
  | zero => exact fun _ => h0
  | succ k ih => exact fun hk => hs k (by omega) _ _ (ih (by omega))
theorem up_congr {α : Type} {f g : Nat → α → α} {a : α} {N : Nat} (h : ∀ k, k < N → ∀ x, f k x = g k x) : up f N a = up g N a := by
  induction N with
  | zero => rfl
  | succ n ih => rw [up_s, up_s, ih (fun k hk => h k (by omega)), h n (by omega)]
/-- rows over writes -/
theorem up2_ra {α : Type} (I : Nat → Nat → α) (a k : Nat) (v : α) : up2 I a k v a = va_up (I a) k v := by
  funext j
  rw [up2_ap, if_pos rfl]
  unfold va_up
  rfl
theorem up2_rn {α : Type} (I : Nat → Nat → α) (a k : Nat) (v : α) (c : Nat) (h : c ≠ a) : up2 I a k v c = I c := by
  funext j
  rw [up2_ap, if_neg h]
theorem va_ap {α : Type} (f : Nat → α) (k : Nat) (v : α) (j : Nat) : va_up f k v j = if j = k then v else f j := rfl
/-- bits -/
def bt (b : Int32) (k : Nat) : Bool := b.toBitVec.getLsbD k
def b1 (k : Nat) : Int32 := (1 : Int32) <<< (zI k &&& 31)
theorem bt_ext {a b : Int32} (h : ∀ k, k < 32 → bt a k = bt b k) : a = b := Int32.toBitVec_inj.mp (BitVec.eq_of_getLsbD_eq fun i hi => h i hi)
theorem bt_or (a b : Int32) (k : Nat) : bt (a ||| b) k = (bt a k || bt b k) := by simp [bt]
theorem bt_and (a b : Int32) (k : Nat) : bt (a &&& b) k = (bt a k && bt b k) := by simp [bt]
theorem bt_xor (a b : Int32) (k : Nat) : bt (a ^^^ b) k = (bt a k ^^ bt b k) := by simp [bt]
theorem bt_not (a : Int32) (k : Nat) (h : k < 32) : bt (~~~ a) k = !(bt a k) := by simp [bt, h]
theorem bt_0 (k : Nat) : bt 0 k = false := by simp [bt]
theorem bt_big (a : Int32) (k : Nat) (h : 32 ≤ k) : bt a k = false := BitVec.getLsbD_of_ge _ _ h
theorem bt_eq0 (a : Int32) : a = 0 ↔ ∀ k, k < 32 → bt a k = false := ⟨fun h k _ => by rw [h]; exact bt_0 k, fun h => bt_ext fun k hk => by rw [h k hk, bt_0]⟩
theorem sh_k : ∀ k : Fin 32, ((zI k.val &&& 31).toBitVec.smod 32) = BitVec.ofNat 32 k.val := by decide
theorem bt_b1 (k j : Nat) (hk : k < 32) (hj : j < 32) : bt (b1 k) j = decide (j = k) := by
  have h := (by decide : ∀ k j : Fin 32, bt (b1 k.val) j.val = decide (j.val = k.val))
  exact h ⟨k, hk⟩ ⟨j, hj⟩
theorem shr_bt (b : Int32) (k : Nat) (h : k < 32) : (b >>> (zI k &&& 31)) &&& 1 = if bt b k = true then 1 else 0 := by
  apply bt_ext
  intro i hi
  rw [bt_and]
  have e1 : bt (b >>> (zI k &&& 31)) i = if k + i < 32 then bt b (k + i) else b.toBitVec.msb := by
    unfold bt
    rw [Int32.toBitVec_shiftRight, sh_k ⟨k, h⟩]
    simp only [BitVec.sshiftRight', BitVec.toNat_ofNat, BitVec.getLsbD_sshiftRight]
    have : k % 2 ^ 32 = k := Nat.mod_eq_of_lt (by omega)
    rw [this]
    simp [hi]
  have e2 : bt 1 i = decide (i = 0) := by
    have h := (by decide : ∀ i : Fin 32, bt 1 i.val = decide (i.val = 0))
    exact h ⟨i, hi⟩
  rw [e1, e2]
  by_cases h0 : i = 0
  · subst h0
    simp only [Nat.add_zero, h, if_true, decide_true, Bool.and_true]
    cases bt b k with
    | true => rfl
    | false => rfl
  · simp only [h0, decide_false, Bool.and_false]
    split
    · rw [e2]; simp [h0]
    · rw [bt_0]
theorem sb_1 (b : Int32) (k : Nat) (h : k < 32) : ((b >>> (zI k &&& 31)) &&& 1 = 1) = (bt b k = true) := by
  rw [shr_bt b k h]
  cases bt b k with
  | true => simp
  | false => exact propext ⟨fun h => absurd h (by decide), fun h => by cases h⟩
theorem sb_0 (b : Int32) (k : Nat) (h : k < 32) : ((b >>> (zI k &&& 31)) &&& 1 = 0) = (bt b k = false) := by
  rw [shr_bt b k h]
  cases bt b k with
  | true => exact propext ⟨fun h => absurd h (by decide), fun h => by cases h⟩
  | false => simp
theorem hb_bt (b : Int32) (k : Nat) (h : k < 31) : hBit b (zI k) = (bt b k = true) := by
  unfold hBit
  rw [sb_0 b k (by omega)]
  rw [zIr_lt (c := 0) (a := k) (by decide) (by omega), zIl_le (c := 31) (a := k) (by decide) (by omega)]
  show (¬ k < 0 ∧ ¬ 31 ≤ k ∧ _) = _
  cases bt b k <;> simp <;> omega
/-- a memory with one row changed -/
def rw2 {α : Type} (I : Nat → Nat → α) (c : Nat) (r : Nat → α) : Nat → Nat → α := fun d => if d = c then r else I d
theorem rw2_a {α : Type} (I : Nat → Nat → α) (c : Nat) (r : Nat → α) : rw2 I c r c = r := if_pos rfl
theorem rw2_n {α : Type} (I : Nat → Nat → α) (c : Nat) (r : Nat → α) (d : Nat) (h : d ≠ c) : rw2 I c r d = I d := if_neg h
theorem up2_rw {α : Type} (I : Nat → Nat → α) (c k : Nat) (v : α) : up2 I c k v = rw2 I c (va_up (I c) k v) := by
  funext d
  by_cases h : d = c
  · subst h; rw [up2_ra, rw2_a]
  · rw [up2_rn _ _ _ _ _ h, rw2_n _ _ _ _ h]
theorem rw2_rw {α : Type} (I : Nat → Nat → α) (c : Nat) (r q : Nat → α) : rw2 (rw2 I c r) c q = rw2 I c q := by
  funext d
  by_cases h : d = c
  · subst h; rw [rw2_a, rw2_a]
  · rw [rw2_n _ _ _ _ h, rw2_n _ _ _ _ h, rw2_n _ _ _ _ h]
theorem rw2_self {α : Type} (I : Nat → Nat → α) (c : Nat) : rw2 I c (I c) = I := by
  funext d
  by_cases h : d = c
  · subst h; rw [rw2_a]
  · rw [rw2_n _ _ _ _ h]
abbrev sIn (x : Int32) (n : Nat) : Prop := ¬ x < 0 ∧ ¬ zI n ≤ x
theorem sIn_ti {x : Int32} {n : Nat} (hn : n < 2147483648) : sIn x n ↔ 0 ≤ x.toInt ∧ x.toInt < n := by
  unfold sIn
  rw [Int32.lt_iff_toInt_lt, Int32.le_iff_toInt_le, zI_ti hn]
  have e : (0 : Int32).toInt = 0 := by decide
  omega
theorem zI_sIn {a n : Nat} (ha : a < 2147483648) (hn : n < 2147483648) : sIn (zI a) n = (a < n) := by
  apply propext
  rw [sIn_ti hn, zI_ti ha]
  omega
theorem sIn_vp {x : Int32} {n c : Nat} (hn : n < 2147483648) (h : n ≤ c) (hx : sIn x n) : vp_in x c := by
  rw [sIn_ti hn] at hx
  rw [vp_in_iff]
  omega
theorem sIn_ex {x : Int32} {n : Nat} (h : sIn x n) : ∃ k, k < n ∧ k < 2147483648 ∧ x = zI k := by
  obtain ⟨k, hk, rfl⟩ := zI_of h.1
  refine ⟨k, ?_, hk, rfl⟩
  by_cases hn : n < 2147483648
  · rw [zI_sIn hk hn] at h
    exact h
  · omega
theorem vp_lt {x : Int32} {n : Nat} (hn : n < 2147483648) : (¬ x < 0 ∧ ¬ zI n ≤ x) = sIn x n := rfl
theorem vp_lt2 {x : Int32} {n c : Nat} (hn : n ≤ c) (hc : c < 2147483648) : (¬ x < 0 ∧ ¬ zI n ≤ x ∧ ¬ (no_index (OfNat.ofNat c) : Int32) ≤ x) = sIn x n := by
  rw [show (OfNat.ofNat c : Int32) = zI c from rfl]
  apply propext
  rw [sIn_ti (by omega), Int32.lt_iff_toInt_lt, Int32.le_iff_toInt_le, Int32.le_iff_toInt_le, zI_ti (show n < 2147483648 by omega), zI_ti hc]
  have e : (0 : Int32).toInt = 0 := by decide
  omega
end
section
/-! Contracts of the simple loops. -/
/-- the lands that s holds, as bits -/
def hlds (h : Nat → Int32) (s : Int32) (n : Nat) : Int32 := up (fun l b => if h l = s then b ||| b1 l else b) n 0
def wsum (W : Nat → Int32) (s set : Int32) (n : Nat) : Int32 := up (fun l a => if bt set l = true then a + wof W s (zI l) else a) n 0
def ssum (S : Nat → Int32) (set : Int32) (n : Nat) : Int32 := up (fun l a => if bt set l = true then a + S l else a) n 0
def cnear (N : Nat → Int32) (set oth : Int32) (n : Nat) : Int32 := up (fun l a => if bt set l = true then (if N l &&& oth = 0 then a else a + 1) else a) n 0
def popc (x : Int32) : Int32 := up (fun k a => a + (if bt x k = true then 1 else 0)) 12 0
section L1
variable (X : (Nat → Int32) × Nat) (mo : Bool) (G : Nat × Nat) (I : Nat → Nat → Int32) (J : Nat → Nat → Int64) (Q : Option Value → sm_M → Prop)
theorem ct_landsHeld {n : Nat} (hn : I 1 0 = zI n) (h12 : n ≤ 12) (s : Int32) :
    sm_wp X 105 0 [some (.ref 1), some (.int s), none, none] [] (sM mo G I J) Q = Q (some (.int (hlds (I 4) s n))) (sM mo G I J) := by
  rw [lp_105_0]
  refine (cnt (fun k b => sm_wp X 105 4 [some (.ref 1), some (.int s), some (.int b), some (.int (zI k))] [] (sM mo G I J) Q) (fun l b => if I 4 l = s then b ||| b1 l else b) 0 n ?_).trans ?_
  · intro k hk
    rw [lp_105_4, hn]
    simp (disch := first | omega | decide) only [zI_lt, zI_le, zI_eq, zI_cn, zI_vp, zI_add, zI_mul, zI_sub, zIl_add, zIr_add, zIl_mul, zIr_mul, zIr_sub, zIl_lt, zIr_lt, zIl_le, zIr_le, zIl_eq, zIr_eq, zI_sIn, zI_m1, zI_m1', Int32.add_zero, Int32.or_zero]
    grind [b1]
  · rw [lp_105_4, hn]
    simp (disch := first | omega | decide) only [zI_lt, zI_le, zI_eq, zI_cn, zI_vp, zI_add, zI_mul, zI_sub, zIl_add, zIr_add, zIl_mul, zIr_mul, zIr_sub, zIl_lt, zIr_lt, zIl_le, zIr_le, zIl_eq, zIr_eq, zI_sIn, zI_m1, zI_m1', Int32.add_zero, Int32.or_zero]
    grind [hlds]
theorem ct_worthOfLands {n : Nat} (hn : I 1 0 = zI n) (h12 : n ≤ 12) (s set : Int32) :
    sm_wp X 103 0 [some (.ref 1), some (.int s), some (.int set), none, none] [] (sM mo G I J) Q = Q (some (.int (wsum (I 13) s set n))) (sM mo G I J) := by
  rw [lp_103_0]
  refine (cnt (fun k b => sm_wp X 103 5 [some (.ref 1), some (.int s), some (.int set), some (.int b), some (.int (zI k))] [] (sM mo G I J) Q) (fun l a => if bt set l = true then a + wof (I 13) s (zI l) else a) 0 n ?_).trans ?_
  · intro k hk
    rw [lp_103_5, hn]
    simp (disch := first | omega | decide) only [zI_lt, zI_le, zI_eq, zI_cn, zI_vp, zI_add, zI_mul, zI_sub, zIl_add, zIr_add, zIl_mul, zIr_mul, zIr_sub, zIl_lt, zIr_lt, zIl_le, zIr_le, zIl_eq, zIr_eq, zI_sIn, zI_m1, zI_m1', Int32.add_zero, Int32.or_zero, hb_bt]
    grind
  · rw [lp_103_5, hn]
    simp (disch := first | omega | decide) only [zI_lt, zI_le, zI_eq, zI_cn, zI_vp, zI_add, zI_mul, zI_sub, zIl_add, zIr_add, zIl_mul, zIr_mul, zIr_sub, zIl_lt, zIr_lt, zIl_le, zIr_le, zIl_eq, zIr_eq, zI_sIn, zI_m1, zI_m1', Int32.add_zero, Int32.or_zero]
    grind [wsum]
theorem ct_soulsOfLands {n : Nat} (hn : I 1 0 = zI n) (h12 : n ≤ 12) (set : Int32) :
    sm_wp X 106 0 [some (.ref 1), some (.int set), none, none] [] (sM mo G I J) Q = Q (some (.int (ssum (I 2) set n))) (sM mo G I J) := by
  rw [lp_106_0]
  refine (cnt (fun k b => sm_wp X 106 4 [some (.ref 1), some (.int set), some (.int b), some (.int (zI k))] [] (sM mo G I J) Q) (fun l a => if bt set l = true then a + I 2 l else a) 0 n ?_).trans ?_
  · intro k hk
    rw [lp_106_4, hn]
    simp (disch := first | omega | decide) only [zI_lt, zI_le, zI_eq, zI_cn, zI_vp, zI_add, zI_mul, zI_sub, zIl_add, zIr_add, zIl_mul, zIr_mul, zIr_sub, zIl_lt, zIr_lt, zIl_le, zIr_le, zIl_eq, zIr_eq, zI_sIn, zI_m1, zI_m1', Int32.add_zero, Int32.or_zero, hb_bt]
    grind
  · rw [lp_106_4, hn]
    simp (disch := first | omega | decide) only [zI_lt, zI_le, zI_eq, zI_cn, zI_vp, zI_add, zI_mul, zI_sub, zIl_add, zIr_add, zIl_mul, zIr_mul, zIr_sub, zIl_lt, zIr_lt, zIl_le, zIr_le, zIl_eq, zIr_eq, zI_sIn, zI_m1, zI_m1', Int32.add_zero, Int32.or_zero]
    grind [ssum]
theorem ct_countNear {n : Nat} (hn : I 1 0 = zI n) (h12 : n ≤ 12) (set oth : Int32) :
    sm_wp X 107 0 [some (.ref 1), some (.int set), some (.int oth), none, none] [] (sM mo G I J) Q = Q (some (.int (cnear (I 3) set oth n))) (sM mo G I J) := by
  rw [lp_107_0]
  refine (cnt (fun k b => sm_wp X 107 5 [some (.ref 1), some (.int set), some (.int oth), some (.int b), some (.int (zI k))] [] (sM mo G I J) Q) (fun l a => if bt set l = true then (if I 3 l &&& oth = 0 then a else a + 1) else a) 0 n ?_).trans ?_
  · intro k hk
    rw [lp_107_5, hn]
    simp (disch := first | omega | decide) only [zI_lt, zI_le, zI_eq, zI_cn, zI_vp, zI_add, zI_mul, zI_sub, zIl_add, zIr_add, zIl_mul, zIr_mul, zIr_sub, zIl_lt, zIr_lt, zIl_le, zIr_le, zIl_eq, zIr_eq, zI_sIn, zI_m1, zI_m1', Int32.add_zero, Int32.or_zero, hb_bt]
    grind
  · rw [lp_107_5, hn]
    simp (disch := first | omega | decide) only [zI_lt, zI_le, zI_eq, zI_cn, zI_vp, zI_add, zI_mul, zI_sub, zIl_add, zIr_add, zIl_mul, zIr_mul, zIr_sub, zIl_lt, zIr_lt, zIl_le, zIr_le, zIl_eq, zIr_eq, zI_sIn, zI_m1, zI_m1', Int32.add_zero, Int32.or_zero]
    grind [cnear]
theorem ct_Mbits (x : Int32) :
    sm_wp X 219 0 [some (.int x), none, none] [] (sM mo G I J) Q = Q (some (.int (popc x))) (sM mo G I J) := by
  rw [lp_219_0]
  refine (cnt (fun k b => sm_wp X 219 4 [some (.int x), some (.int b), some (.int (zI k))] [] (sM mo G I J) Q) (fun k a => a + (if bt x k = true then 1 else 0)) 0 12 ?_).trans ?_
  · intro k hk
    rw [lp_219_4]
    simp (disch := first | omega | decide) only [zI_lt, zI_le, zI_eq, zI_cn, zI_vp, zI_add, zI_mul, zI_sub, zIl_add, zIr_add, zIl_mul, zIr_mul, zIr_sub, zIl_lt, zIr_lt, zIl_le, zIr_le, zIl_eq, zIr_eq, zI_sIn, zI_m1, zI_m1', Int32.add_zero, Int32.or_zero, shr_bt]
    grind
  · rw [lp_219_4]
    simp (disch := first | omega | decide) only [zI_lt, zI_le, zI_eq, zI_cn, zI_vp, zI_add, zI_mul, zI_sub, zIl_add, zIr_add, zIl_mul, zIr_mul, zIr_sub, zIl_lt, zIr_lt, zIl_le, zIr_le, zIl_eq, zIr_eq, zI_sIn, zI_m1, zI_m1', Int32.add_zero, Int32.or_zero]
    grind [popc]
theorem ct_Mholdings {n : Nat} (hn : I 81 3 = zI n) (h12 : n ≤ 12) (s : Int32) :
    sm_wp X 223 0 [some (.ref 81), some (.int s), none, none] [] (sM mo G I J) Q = Q (some (.int (hlds (I 85) s n))) (sM mo G I J) := by
  rw [lp_223_0]
  refine (cnt (fun k b => sm_wp X 223 4 [some (.ref 81), some (.int s), some (.int b), some (.int (zI k))] [] (sM mo G I J) Q) (fun l b => if I 85 l = s then b ||| b1 l else b) 0 n ?_).trans ?_
  · intro k hk
    rw [lp_223_4, hn]
    simp (disch := first | omega | decide) only [zI_lt, zI_le, zI_eq, zI_cn, zI_vp, zI_add, zI_mul, zI_sub, zIl_add, zIr_add, zIl_mul, zIr_mul, zIr_sub, zIl_lt, zIr_lt, zIl_le, zIr_le, zIl_eq, zIr_eq, zI_sIn, zI_m1, zI_m1', Int32.add_zero, Int32.or_zero]
    grind [b1]
  · rw [lp_223_4, hn]
    simp (disch := first | omega | decide) only [zI_lt, zI_le, zI_eq, zI_cn, zI_vp, zI_add, zI_mul, zI_sub, zIl_add, zIr_add, zIl_mul, zIr_mul, zIr_sub, zIl_lt, zIr_lt, zIl_le, zIr_le, zIl_eq, zIr_eq, zI_sIn, zI_m1, zI_m1', Int32.add_zero, Int32.or_zero]
    grind [hlds]
theorem wof_nI (W : Nat → Int32) {s l : Nat} (hs : s < 6) (hl : l < 12) : wof W (zI s) (zI l) = W (12 * s + l) := by
  unfold wof
  simp (disch := first | omega | decide) only [zI_lt, zI_le, zI_eq, zI_cn, zI_vp, zI_add, zI_mul, zI_sub, zIl_add, zIr_add, zIl_mul, zIr_mul, zIr_sub, zIl_lt, zIr_lt, zIl_le, zIr_le, zIl_eq, zIr_eq, zI_sIn, zI_m1, zI_m1', Int32.add_zero, Int32.or_zero]
  have : s * 12 + l = 12 * s + l := by omega
  rw [this]
  grind
theorem ct_MworthOf {n s : Nat} (hn : I 81 3 = zI n) (h12 : n ≤ 12) (hs : s < 6) (set : Int32) :
    sm_wp X 224 0 [some (.ref 81), some (.int (zI s)), some (.int set), none, none] [] (sM mo G I J) Q = Q (some (.int (wsum (I 91) (zI s) set n))) (sM mo G I J) := by
  rw [lp_224_0]
  refine (cnt (fun k b => sm_wp X 224 5 [some (.ref 81), some (.int (zI s)), some (.int set), some (.int b), some (.int (zI k))] [] (sM mo G I J) Q) (fun l a => if bt set l = true then a + wof (I 91) (zI s) (zI l) else a) 0 n ?_).trans ?_
  · intro k hk
    rw [lp_224_5, hn]
    simp (disch := first | omega | decide) only [zI_lt, zI_le, zI_eq, zI_cn, zI_vp, zI_add, zI_mul, zI_sub, zIl_add, zIr_add, zIl_mul, zIr_mul, zIr_sub, zIl_lt, zIr_lt, zIl_le, zIr_le, zIl_eq, zIr_eq, zI_sIn, zI_m1, zI_m1', Int32.add_zero, Int32.or_zero, sb_1, wof_nI]
    grind
  · rw [lp_224_5, hn]
    simp (disch := first | omega | decide) only [zI_lt, zI_le, zI_eq, zI_cn, zI_vp, zI_add, zI_mul, zI_sub, zIl_add, zIr_add, zIl_mul, zIr_mul, zIr_sub, zIl_lt, zIr_lt, zIl_le, zIr_le, zIl_eq, zIr_eq, zI_sIn, zI_m1, zI_m1', Int32.add_zero, Int32.or_zero]
    grind [wsum]
theorem ct_MsoulsOf {n : Nat} (hn : I 81 3 = zI n) (h12 : n ≤ 12) (set : Int32) :
    sm_wp X 258 0 [some (.ref 81), some (.int set), none, none] [] (sM mo G I J) Q = Q (some (.int (ssum (I 83) set n))) (sM mo G I J) := by
  rw [lp_258_0]
  refine (cnt (fun k b => sm_wp X 258 4 [some (.ref 81), some (.int set), some (.int b), some (.int (zI k))] [] (sM mo G I J) Q) (fun l a => if bt set l = true then a + I 83 l else a) 0 n ?_).trans ?_
  · intro k hk
    rw [lp_258_4, hn]
    simp (disch := first | omega | decide) only [zI_lt, zI_le, zI_eq, zI_cn, zI_vp, zI_add, zI_mul, zI_sub, zIl_add, zIr_add, zIl_mul, zIr_mul, zIr_sub, zIl_lt, zIr_lt, zIl_le, zIr_le, zIl_eq, zIr_eq, zI_sIn, zI_m1, zI_m1', Int32.add_zero, Int32.or_zero, sb_1]
    grind
  · rw [lp_258_4, hn]
    simp (disch := first | omega | decide) only [zI_lt, zI_le, zI_eq, zI_cn, zI_vp, zI_add, zI_mul, zI_sub, zIl_add, zIr_add, zIl_mul, zIr_mul, zIr_sub, zIl_lt, zIr_lt, zIl_le, zIr_le, zIl_eq, zIr_eq, zI_sIn, zI_m1, zI_m1', Int32.add_zero, Int32.or_zero]
    grind [ssum]
end L1
end
section
/-! What is meant: shares, settlements, rings. -/
/-- how many of the first six bits -/
def pc6 (x : Int32) : Nat := up (fun k a => if bt x k = true then a + 1 else a) 6 0
def ww (W : Nat → Int32) (s l : Nat) : Nat := (W (12 * s + l)).toNatClampNeg
def wA (W : Nat → Int32) (s : Nat) (A : Int32) (k : Nat) : Nat := up (fun l a => if bt A l = true then a + ww W s l else a) k 0
def okW (W : Nat → Int32) : Prop := ∀ j, ∃ w, w ≤ 99 ∧ W j = zI w
def rst (S A : Int32) : Int32 := S &&& (A ^^^ (-1))
def rv (B : Nat) (P : Nat → Prop) (x : Int32) : Prop := (x = -1 ∧ ∀ y, ¬ P y) ∨ ∃ z, z ≤ B ∧ x = zI z ∧ ∀ y, P y ↔ y ≤ z
def rch (W : Nat → Int32) (S : Int32) (a b k v y : Nat) : Prop := ∃ A : Int32, (∀ l, bt A l = true → bt S l = true) ∧ wA W a A k = v ∧ y ≤ wA W b (rst S A) k
def pr2 (a b : Nat) : Nat := b * (b - 1) / 2 + a
def sfp (W : Nat → Int32) (S : Int32) (a b v y : Nat) : Prop := ∃ u, v ≤ u ∧ rch W S a b 12 u y
def bth (r4 : Nat → Int32) (n a b : Nat) : Int32 := hlds r4 (zI a) n ||| hlds r4 (zI b) n
def cB (r4 W : Nat → Int32) (n a b x y : Nat) : Prop := ∃ A : Int32, (∀ l, bt A l = true → bt (bth r4 n a b) l = true) ∧ x < wA W a A 12 ∧ y < wA W b (rst (bth r4 n a b) A) 12
def nowN (r4 W : Nat → Int32) (n s : Nat) : Nat := wA W s (hlds r4 (zI s) n) n
def shP (r4 W r49 r50 r143 : Nat → Int32) (n a b T : Nat) : Prop := ∃ F, r49 (pr2 a b) = zI F ∧ r50 (pr2 a b) = zI (wA W a (bth r4 n a b) n) ∧ F + wA W a (bth r4 n a b) n < T ∧ ∀ v, v ≤ wA W a (bth r4 n a b) n → rv 1188 (sfp W (bth r4 n a b) a b v) (r143 (F + v))
def shT (r4 W : Nat → Int32) (v : Int32) (r49 r50 r143 : Nat → Int32) (n m : Nat) : Prop := (∀ c d, c < d → d < m → shP r4 W r49 r50 r143 n c d 5955) ∧ ∀ c d, c < d → d < 6 → (bt v (pr2 c d) = true ↔ d < m ∧ cB r4 W n c d (nowN r4 W n c) (nowN r4 W n d))
def cN (P : Nat → Bool) (k : Nat) : Nat := up (fun l a => if P l = true then a + 1 else a) k 0
def nt (P : Nat → Bool) (n j : Nat) : Nat := up (fun l a => if P l = true ∧ cN P l = j then l else a) n 0
def rp (c : Nat → Nat) (K k : Nat) : Nat := up (fun i a => a * c (K - 1 - i)) (K - k) 1
def dg (c : Nat → Nat) (K v k : Nat) : Nat := v / rp c K (k + 1) % c k
noncomputable def pB (p : Prop) : Bool := @decide p (Classical.propDecidable p)
def stD (r5 : Nat → Int32) (pr : Int32) (l : Nat) : Bool := decide (2 ≤ pc6 (r5 l &&& pr))
def dK (n : Nat) (r5 : Nat → Int32) (pr : Int32) : Nat := cN (stD r5 pr) n
def dl (n : Nat) (r5 : Nat → Int32) (pr : Int32) (j : Nat) : Nat := nt (stD r5 pr) n j
def clB (n : Nat) (r5 : Nat → Int32) (pr : Int32) (j : Nat) : Int32 := r5 (dl n r5 pr j) &&& pr
def rd (n : Nat) (r5 : Nat → Int32) (pr : Int32) (j : Nat) : Nat := cN (bt (clB n r5 pr j)) 6
def bdN (m : Nat) (r12 : Nat → Int32) (s : Nat) : Nat := if s < m then (r12 s).toNatClampNeg else 0
def fxd (r5 : Nat → Int32) (pr : Int32) (n : Nat) : Int32 := up (fun l b => if stD r5 pr l = true then b else b ||| b1 l) n 0
def sur (n : Nat) (r4 r5 W : Nat → Int32) (pr : Int32) (s : Nat) : Nat := wA W s (hlds r4 (zI s) n &&& fxd r5 pr n) n
def gsm (n : Nat) (r5 W : Nat → Int32) (pr : Int32) (ch : Nat → Int32) (K s : Nat) : Nat := up (fun k a => if ch k = zI s then a + ww W s (dl n r5 pr k) else a) K 0
def gtC (n : Nat) (r4 r5 W : Nat → Int32) (pr : Int32) (ch : Nat → Int32) (s : Nat) : Nat := sur n r4 r5 W pr s + gsm n r5 W pr ch (min 8 (dK n r5 pr)) s
def sv (n : Nat) (r5 : Nat → Int32) (pr : Int32) (v k : Nat) : Nat := nt (bt (clB n r5 pr k)) 6 (dg (rd n r5 pr) (dK n r5 pr) v k)
def svC (n : Nat) (r5 : Nat → Int32) (pr : Int32) (v : Nat) : Nat → Int32 := fun k => zI (sv n r5 pr v k)
def gv (n : Nat) (r4 r5 W : Nat → Int32) (pr : Int32) (v : Nat) : Nat → Nat := gtC n r4 r5 W pr (svC n r5 pr v)
def rws (n : Nat) (r5 : Nat → Int32) (pr : Int32) : Nat := rp (rd n r5 pr) (dK n r5 pr) 0
def frC (m : Nat) (r12 : Nat → Int32) (pr : Int32) (g : Nat → Nat) : Prop := ∀ s, s < 6 → bt pr s = true → bdN m r12 s ≤ g s
def stbC (n : Nat) (r4 W : Nat → Int32) (pr : Int32) (g : Nat → Nat) : Prop := (∀ s, s < 6 → bt pr s = true → nowN r4 W n s ≤ g s) ∧ ∀ a b, a < b → b < 6 → bt pr a = true → bt pr b = true → ¬ cB r4 W n a b (g a) (g b)
def lsG (m : Nat) (r12 : Nat → Int32) (pr : Int32) (g : Nat → Nat) (k : Nat) : Nat := up (fun s a => if bt pr s = true then (if g s - bdN m r12 s < a then g s - bdN m r12 s else a) else a) k 1188
def smG (pr : Int32) (g : Nat → Nat) (k : Nat) : Nat := up (fun s a => if bt pr s = true then a + g s else a) k 0
def kpI (pr : Int32) (bd g : Nat → Nat) (k : Nat) : Int32 := up (fun s b => if bt pr s = true ∧ bd s ≤ g s then b ||| b1 s else b) k 0
def bttr (ls sm : Nat → Nat) (o : Option Nat) (v : Nat) : Prop := match o with
  | none => True
  | some u => ls u < ls v ∨ (ls v = ls u ∧ sm u < sm v)
noncomputable def bst (P : Nat → Prop) (ls sm : Nat → Nat) : Nat → Option Nat
  | 0 => none
  | v + 1 => if pB (P v ∧ bttr ls sm (bst P ls sm v) v) = true then some v else bst P ls sm v
def lb (x : Int64) (k : Nat) : Bool := x.toBitVec.getLsbD k
def bsI (n m : Nat) (r4 r5 r12 W : Nat → Int32) (pr : Int32) (o : Option Nat) (a b : Int32) (r59 : Nat → Int32) : Prop := match o with
  | none => a = -1
  | some u => a = zI (lsG m r12 pr (gv n r4 r5 W pr u) 6) ∧ b = zI (smG pr (gv n r4 r5 W pr u) 6) ∧ ∀ j, j < dK n r5 pr → r59 j = svC n r5 pr u j
def isB (n m : Nat) (r4 r5 r12 W : Nat → Int32) (pr : Int32) (u : Nat) : Prop := ¬ pr = 0 ∧ frC m r12 pr (gv n r4 r5 W pr u) ∧ stbC n r4 W pr (gv n r4 r5 W pr u)
noncomputable def bstS (n m : Nat) (r4 r5 r12 W : Nat → Int32) (pr : Int32) (v : Nat) : Option Nat := bst (isB n m r4 r5 r12 W pr) (fun u => lsG m r12 pr (gv n r4 r5 W pr u) 6) (fun u => smG pr (gv n r4 r5 W pr u) 6) v
noncomputable def nFr (n m : Nat) (r4 r5 r12 W : Nat → Int32) (pr : Int32) (v : Nat) : Nat := cN (fun u => pB (frC m r12 pr (gv n r4 r5 W pr u))) v
noncomputable def nSt (n m : Nat) (r4 r5 r12 W : Nat → Int32) (pr : Int32) (v : Nat) : Nat := cN (fun u => pB (frC m r12 pr (gv n r4 r5 W pr u) ∧ stbC n r4 W pr (gv n r4 r5 W pr u))) v
def RI (n m : Nat) (r4 r5 r12 W : Nat → Int32) (pr : Int32) (v : Nat) (r52 r59 : Nat → Int32) (j : Int64) : Prop := r52 13 = zI v ∧ r52 14 = zI (nFr n m r4 r5 r12 W pr v) ∧ r52 15 = zI (nSt n m r4 r5 r12 W pr v) ∧
  (∀ k, k < 64 → (lb j k = true ↔ ∃ u, u < v ∧ kpI pr (bdN m r12) (gv n r4 r5 W pr u) 6 = zI k)) ∧ bsI n m r4 r5 r12 W pr (bstS n m r4 r5 r12 W pr v) (r52 17) (r52 18) r59
def srD (n m : Nat) (r4 r5 r12 W : Nat → Int32) (pr : Int32) (r52 r53 r59 : Nat → Int32) (j : Int64) : Prop := r52 2 = pr ∧ r52 5 = zI (dK n r5 pr) ∧ (∀ k, k < 8 → k < dK n r5 pr → r53 k = zI (dl n r5 pr k)) ∧ (8 < dK n r5 pr → r52 14 = 0 ∧ r52 17 = -1) ∧ (dK n r5 pr ≤ 8 → RI n m r4 r5 r12 W pr (rws n r5 pr) r52 r59 j)
/-- the first of two rows by its places -/
def lxL (N : Nat) (x y : Nat → Nat) : Prop := ∃ i, i < N ∧ (∀ j, j < i → x j = y j) ∧ x i < y i
def rgM (pr : Int32) (N : Nat) (M : Nat → Nat) : Prop := (∀ i, i < N → M i < 6 ∧ bt pr (M i) = true) ∧ (∀ i, i < N → 0 < i → M 0 < M i) ∧ ∀ i j, i < N → j < i → ¬ M i = M j
def rgL (n : Nat) (r4 W : Nat → Int32) (N : Nat) (M L : Nat → Nat) : Prop := (∀ i, i < N → L i < n ∧ r4 (L i) = zI (M i)) ∧ (∀ i, i < N → 0 < i → ww W (M i) (L i) < ww W (M i) (L (i - 1))) ∧ ww W (M 0) (L 0) < ww W (M 0) (L (N - 1))
/-- the first ring of a length -/
def rgF (n : Nat) (r4 W : Nat → Int32) (pr : Int32) (N : Nat) (M L : Nat → Nat) : Prop := rgM pr N M ∧ rgL n r4 W N M L ∧ (∀ M' L', rgM pr N M' → rgL n r4 W N M' L' → ¬ lxL N M' M) ∧ ∀ L', rgL n r4 W N M L' → ¬ lxL N L' L
def rgN (n : Nat) (r4 W : Nat → Int32) (pr : Int32) (N : Nat) : Prop := ∀ M L, rgM pr N M → ¬ rgL n r4 W N M L
def rgR (n : Nat) (r4 W : Nat → Int32) (pr : Int32) (len : Nat) (M L : Nat → Nat) : Prop := (len = 0 ∧ ∀ N, 2 ≤ N → N ≤ 4 → rgN n r4 W pr N) ∨ (2 ≤ len ∧ len ≤ 4 ∧ (∀ N, 2 ≤ N → N < len → rgN n r4 W pr N) ∧ rgF n r4 W pr len M L)
/-! What is meant: orders, as codes behind what they work on. -/
/-- how much a code works on -/
def ar (c : Nat) : Nat := if 100 ≤ c ∨ (7 ≤ c ∧ c < 19) then 0 else if c = 4 ∨ c = 33 then 1 else 2
/-- how high the stack is after k codes from place f; which nodes stand there -/
def hg (c : Nat → Nat) (f : Nat) : Nat → Nat
  | 0 => 0
  | k + 1 => hg c f k - ar (c (f + k)) + 1
def hs (c gb : Nat → Nat) (f : Nat) : Nat → Nat → Nat
  | 0 => fun _ => 0
  | k + 1 => va_up (hs c gb f k) (hg c f k - ar (c (f + k))) (gb (f + k))
/-- there is enough for each code -/
def pL (c : Nat → Nat) (f e : Nat) : Prop := ∀ k, f + k < e → ar (c (f + k)) ≤ hg c f k
/-- where a line starts -/
def ls (le : Nat → Nat) (i : Nat) : Nat := if i = 0 then 0 else le (i - 1)
def vcd (c : Nat) : Prop := (100 ≤ c ∧ c ≤ 100099) ∨ (7 ≤ c ∧ c < 19) ∨ c = 33 ∨ c = 4 ∨ c = 5 ∨ c = 6 ∨ (19 ≤ c ∧ c ≤ 29)
/-- a code as the reference has it -/
def kdc (c : Nat) : Nat := if 100 ≤ c then 0 else if 7 ≤ c ∧ c < 19 then 16 else if c = 33 then 12 else if c = 4 then 13 else if c = 5 then 14 else if c = 6 then 15 else if c < 24 then c - 12 else c - 23
def amc (c : Nat) : Nat := if 100 ≤ c then c - 100 else if 7 ≤ c ∧ c < 19 then c - 7 else 0
/-- the links of the nodes, b behind the rows' start -/
def rL (b f e : Nat) (c gb : Nat → Nat) (r95 r96 : Nat → Int32) : Prop := ∀ k, f + k < e → (ar (c (f + k)) = 1 → r95 (b + gb (f + k)) = zI (b + hs c gb f k (hg c f k - 1))) ∧
  (ar (c (f + k)) = 2 → r96 (b + gb (f + k)) = zI (b + hs c gb f k (hg c f k - 1)) ∧ r95 (b + gb (f + k)) = zI (b + hs c gb f k (hg c f k - 2)))
def bkL (s : Nat) (c gb vb le : Nat → Nat) (T : Nat) (r24 r25 q95 q96 q99 q100 q101 : Nat → Int32) (i : Nat) : Prop := r24 (16 * s + i) = zI (vb i) ∧ q99 (16 * s + i) = zI (vb i) ∧ vb i ≤ 3 ∧ r25 (16 * s + i) = zI (le i) ∧ q100 (16 * s + i) = zI (ls le i) ∧ q101 (16 * s + i) = zI (le i - ls le i) ∧
  ls le i ≤ le i ∧ le i ≤ T ∧ pL c (ls le i) (le i) ∧ hg c (ls le i) (le i - ls le i) = 1 ∧ rL (64 * s) (ls le i) (le i) c gb q95 q96
def bkC (s T : Nat) (c gb : Nat → Nat) (r23 q94 q97 q98 : Nat → Int32) : Prop := T ≤ 64 ∧ (∀ i, i < T → r23 (64 * s + i) = zI (c i) ∧ vcd (c i) ∧ q98 (64 * s + i) = zI (64 * s + gb i) ∧ gb i < 64 ∧ q94 (64 * s + gb i) = zI (kdc (c i)) ∧ q97 (64 * s + gb i) = zI (amc (c i))) ∧ ∀ i k, i < T → k < T → gb i = gb k → i = k
/-- the book of one state -/
def bkS (s : Nat) (r22 r23 r24 r25 q94 q95 q96 q97 q98 q99 q100 q101 q102 : Nat → Int32) : Prop := ∃ (m : Nat) (c gb vb le : Nat → Nat), r22 s = zI m ∧ q102 s = zI m ∧ m ≤ 16 ∧ bkC s (ls le m) c gb r23 q94 q97 q98 ∧ ∀ i, i < m → bkL s c gb vb le (ls le m) r24 r25 q95 q96 q99 q100 q101 i
end
section
/-! What holds between two calls of the law: the two sides side by side. -/
def ivN (n m t : Nat) (a0 a1 a2 a3 b0 b1 b2 b3 : Int32) : Prop := a0 = zI n ∧ b0 = zI n ∧ n ≤ 12 ∧ a1 = zI m ∧ b1 = zI m ∧ m ≤ 6 ∧ b2 = a2 ∧ (∀ k, m ≤ k → bt a2 k = false) ∧ a3 = zI t ∧ b3 = zI t ∧ t ≤ 300
def ivE (r2 r4 r5 r6 r10 r11 r12 r13 q2 q4 q5 q6 q10 q11 q12 q13 : Nat → Int32) : Prop := q2 = r2 ∧ q4 = r4 ∧ q5 = r5 ∧ q6 = r6 ∧ q10 = r10 ∧ q11 = r11 ∧ q12 = r12 ∧ q13 = r13
def ivV (n m : Nat) (r2 r4 r5 r10 r11 r12 r13 : Nat → Int32) : Prop :=
  (∀ l, l < n → r4 l = -1 ∨ ∃ s, s < m ∧ r4 l = zI s) ∧ (∀ l k, m ≤ k → bt (r5 l) k = false) ∧ (∀ l, pc6 (r5 l) ≤ 3) ∧ (∀ l, n ≤ l → r5 l = 0) ∧
  (∀ j, ∃ w, w ≤ 9999 ∧ r2 j = zI w) ∧ (∀ j, ∃ w, w ≤ 99 ∧ r10 j = zI w) ∧ (∀ j, ∃ w, w ≤ 9 ∧ r11 j = zI w) ∧ (∀ j, ∃ w, w ≤ 999 ∧ r12 j = zI w) ∧ (∀ j, ∃ w, w ≤ 99 ∧ r13 j = zI w)
/-- how many papers are carried out -/
def nBound (p : Nat) (r42 : Nat → Int32) : Nat := up (fun k a => if r42 k = 5 then a + 1 else a) p 0
def ivY (n p : Nat) (r42 r6 r7 r8 r9 q88 : Nat → Int32) : Prop := (∀ l, n ≤ l → r6 l = 0) ∧ (∀ l, ∃ w, r6 l = zI w ∧ w ≤ 20 + nBound p r42) ∧
  ∀ l, l < 12 → ∀ k, k < 80 → r7 (80 * l + k) = q88 (300 * l + 3 * k) ∧ r8 (80 * l + k) = q88 (300 * l + 3 * k + 1) ∧ r9 (80 * l + k) = q88 (300 * l + 3 * k + 2)
def ivG (r3 q84 : Nat → Int32) : Prop := (∀ j, q84 j = 0 ∨ q84 j = 1) ∧ ∀ a, a < 12 → ∀ b, b < 12 → (bt (r3 a) b = true ↔ q84 (12 * a + b) = 1)
def ivK (c t ch : Nat) (a4 : Int32) : Prop := a4 = zI ch ∧ ch ≤ c + 86400 * t
/-- of the lines by which papers were answered nothing is kept: the two sides differ there -/
def lnE (q r : Nat → Int32) : Prop := True
def ivP (p n m t : Nat) (a0 b0 : Int32) (r32 r33 r34 r35 r36 r37 r38 r39 r40 r41 r42 r43 r44 q107 q108 q109 q110 q111 q112 q113 q114 q115 q116 q117 q118 q119 : Nat → Int32) : Prop :=
  a0 = zI p ∧ b0 = zI p ∧ p ≤ 60 ∧ (q108 = r32 ∧ q109 = r33 ∧ q110 = r34 ∧ q111 = r37 ∧ q112 = r38 ∧ q113 = r39 ∧ q115 = r35 ∧ q116 = r36 ∧ q117 = r42 ∧ lnE q118 r43 ∧ q119 = r44) ∧
  (∀ k, p ≤ k → q107 k = 0 ∧ r35 k = 0 ∧ r36 k = 0) ∧
  (∀ k, k < p → (∃ s, s < m ∧ r32 k = zI s) ∧ (∃ s, s < m ∧ r33 k = zI s) ∧ (∃ d, d ≤ t ∧ r34 k = zI d)) ∧
  (∀ k, k < p → (r42 k = -1 ∧ q107 k = 1 ∧ r40 k = -1 ∧ r41 k = -1) ∨
    (q107 k = 0 ∧ (∃ f, f ≤ 6 ∧ r42 k = zI f) ∧ r35 k = 0 ∧ r36 k = 0 ∧ (∀ j, n ≤ j → bt (r37 k) j = false) ∧ (∀ j, n ≤ j → bt (r38 k) j = false) ∧ r37 k &&& r38 k = 0 ∧ (∃ d, d ≤ 300 ∧ r39 k = zI d) ∧ q114 k = r40 k ∧
      ((r40 k = -1 ∧ r41 k = zI k) ∨ ∃ j, j < k ∧ r40 k = zI j ∧ ¬ r42 j = -1 ∧ r41 k = r41 j) ∧ (∃ j, j ≤ k ∧ r41 k = zI j)))
def ivS (q : Nat) (a0 b0 : Int32) (r27 r28 r29 r30 q120 : Nat → Int32) : Prop := a0 = zI q ∧ b0 = zI q ∧ q ≤ 20 ∧ ∀ k, k < 20 → q120 (4 * k) = r27 k ∧ q120 (4 * k + 1) = r28 k ∧ q120 (4 * k + 2) = r29 k ∧ q120 (4 * k + 3) = r30 k
def ivA (r : Nat) (a0 b0 : Int32) (r72 r73 r74 r75 q135 q136 q137 q138 : Nat → Int32) : Prop := a0 = zI r ∧ b0 = zI r ∧ r ≤ 8 ∧ q135 = r72 ∧ q136 = r73 ∧ q138 = r75 ∧ (∀ j, ∃ w, w ≤ 8 ∧ r72 j = zI w) ∧ (∀ j, q137 j = 0 ∨ q137 j = 1) ∧
  (∀ a, a < 8 → ∀ b, b < 8 → (bt (r74 a) b = true ↔ q137 (8 * a + b) = 1)) ∧ ∀ a b, r ≤ b → bt (r74 a) b = false
def ivT (ln : Nat) (a0 b0 : Int32) (r15 q82 : Nat → Int32) : Prop := a0 = zI ln ∧ b0 = zI ln ∧ ln ≤ 400 ∧ ∀ j, (∃ w, w < 256 ∧ q82 j = zI w) ∧ r15 j = (q82 j).toInt8.toInt32
def ivF (a0 a1 b0 b1 : Int32) : Prop := b0 = a0 ∧ b1 = a1
/-- the books of orders -/
def ivB (r22 r23 r24 r25 q94 q95 q96 q97 q98 q99 q100 q101 q102 : Nat → Int32) : Prop := ∀ s, s < 6 → bkS s r22 r23 r24 r25 q94 q95 q96 q97 q98 q99 q100 q101 q102
/-- a search's stamp -/
def stp (ch : Nat) (a : Int32) : Prop := a = -1 ∨ ∃ k, k ≤ ch ∧ a = zI k
def ivC (ch n m : Nat) (pr : Int32) (r4 r5 r12 r13 : Nat → Int32) (mo : Bool) (r48 r49 r50 r143 r68 r69 r70 : Nat → Int32) : Prop := stp ch (r48 1) ∧ stp ch (r68 4) ∧
  (ch < 100000000 → r48 1 = zI ch → mo = true ∧ shT r4 r13 (r48 2) r49 r50 r143 n m) ∧
  (ch < 100000000 → r68 4 = zI ch → ∃ len M L, r68 3 = zI len ∧ (∀ i, i < len → r69 i = zI (M i) ∧ r70 i = zI (L i)) ∧ rgR n r4 r13 pr len M L)
def ivD (w : Bool) (ch n m : Nat) (pr : Int32) (r4 r5 r12 r13 r52 r53 r54 r55 r56 r57 r58 r59 : Nat → Int32) (j52 : Nat → Int64) : Prop := stp ch (r52 4) ∧
  (ch < 100000000 → r52 4 = zI ch → srD n m r4 r5 r12 r13 (r52 3) r52 r53 r59 (j52 16)) ∧ (ch < 100000000 → w = true → r52 4 = zI ch → r52 3 = pr)
/-- the words of the reference -/
def rf_words : List Int32 := [116, 97, 107, 101, 32, 114, 101, 102, 117, 115, 101, 32, 97, 115, 107, 32, 104, 111, 109, 101, 32, 111, 114, 32, 97, 110, 100, 32, 110, 111, 116, 32, 103, 97, 105, 110, 32, 103, 111, 116, 32, 108, 111, 115, 116, 32, 115, 111, 117, 108, 115, 32, 110, 101, 97, 114, 32, 109, 105, 110, 101, 32, 98, 111, 117, 110, 100, 32, 114, 97, 110, 107, 32, 111, 116, 104, 101, 114, 32, 100, 97, 121, 32, 108, 101, 102, 116, 32, 108, 105, 110, 107, 101, 100, 32]
def ivX (q93 : Nat → Int32) : Prop := ∀ j, j < 95 → q93 j = rf_words.getD j 0
def ivZ (c : Nat) (G : Nat × Nat) : Prop := G.1 ≤ c ∧ G.2 ≤ 6 * c
def inv (c : Nat) (mo : Bool) (G : Nat × Nat) (I : Nat → Nat → Int32) (J : Nat → Nat → Int64) : Prop := ∃ n m t p q r ch ln : Nat,
  ivN n m t (I 1 0) (I 1 1) (I 1 2) (I 1 3) (I 81 3) (I 81 10) (I 81 15) (I 81 16) ∧
  ivE (I 2) (I 4) (I 5) (I 6) (I 10) (I 11) (I 12) (I 13) (I 83) (I 85) (I 86) (I 87) (I 89) (I 90) (I 92) (I 91) ∧
  ivV n m (I 2) (I 4) (I 5) (I 10) (I 11) (I 12) (I 13) ∧
  ivY n p (I 42) (I 6) (I 7) (I 8) (I 9) (I 88) ∧
  ivG (I 3) (I 84) ∧
  ivK c t ch (I 1 4) ∧
  ivP p n m t (I 31 0) (I 81 46) (I 32) (I 33) (I 34) (I 35) (I 36) (I 37) (I 38) (I 39) (I 40) (I 41) (I 42) (I 43) (I 44) (I 107) (I 108) (I 109) (I 110) (I 111) (I 112) (I 113) (I 114) (I 115) (I 116) (I 117) (I 118) (I 119) ∧
  ivS q (I 26 0) (I 81 60) (I 27) (I 28) (I 29) (I 30) (I 120) ∧
  ivA r (I 71 0) (I 81 81) (I 72) (I 73) (I 74) (I 75) (I 135) (I 136) (I 137) (I 138) ∧
  ivT ln (I 14 0) (I 81 1) (I 15) (I 82) ∧
  ivF (I 16 0) (I 16 1) (I 81 18) (I 81 19) ∧
  ivB (I 22) (I 23) (I 24) (I 25) (I 94) (I 95) (I 96) (I 97) (I 98) (I 99) (I 100) (I 101) (I 102) ∧
  ivC ch n m (I 1 2) (I 4) (I 5) (I 12) (I 13) mo (I 48) (I 49) (I 50) (I 143) (I 68) (I 69) (I 70) ∧
  ivD true ch n m (I 1 2) (I 4) (I 5) (I 12) (I 13) (I 52) (I 53) (I 54) (I 55) (I 56) (I 57) (I 58) (I 59) (J 52) ∧
  ivD false ch n m (I 1 2) (I 4) (I 5) (I 12) (I 13) (I 60) (I 61) (I 62) (I 63) (I 64) (I 65) (I 66) (I 67) (J 60) ∧
  ivX (I 93) ∧ ivZ c G
def Inv (c : Nat) (M : sm_M) : Prop := ∃ mo G I J, M = sM mo G I J ∧ inv c mo G I J
/-- the class does its part, the reference does its part, and they answer alike -/
def Agr (X : (Nat → Int32) × Nat) (h : Nat) (La : sm_L) (m : Nat) (Lb : sm_L) (M : sm_M) (R : sm_M → Prop) : Prop :=
  sm_wp X h 0 La [] M (fun v M1 => sm_wp X m 0 Lb [] M1 (fun w M2 => w = v ∧ R M2))
/-- the two do their parts, whatever they answer -/
def AgW (X : (Nat → Int32) × Nat) (h : Nat) (La : sm_L) (m : Nat) (Lb : sm_L) (M : sm_M) (R : sm_M → Prop) : Prop :=
  sm_wp X h 0 La [] M (fun _ M1 => sm_wp X m 0 Lb [] M1 (fun _ M2 => R M2))
theorem ivK_s {c t ch : Nat} {a : Int32} (h : ivK c t ch a) : ivK (c + 1) t ch a := ⟨h.1, by have := h.2; omega⟩
theorem ivK_u {c t ch : Nat} {a : Int32} (h : ivK c t ch a) : ivK (c + 1) t (ch + 1) (a + 1) := ⟨by rw [h.1]; exact zI_add ch 1, by have := h.2; omega⟩
theorem ivZ_s {c : Nat} {G : Nat × Nat} (h : ivZ c G) : ivZ (c + 1) G := ⟨by have := h.1; omega, by have := h.2; omega⟩
theorem stp_u {ch : Nat} {a : Int32} (h : stp ch a) : stp (ch + 1) a := by
  rcases h with h | ⟨k, hk, h⟩
  · exact Or.inl h
  · exact Or.inr ⟨k, by omega, h⟩
theorem stp_n {ch : Nat} {a : Int32} (h : stp ch a) (hc : ch + 1 < 100000000) (e : a = zI (ch + 1)) : False := by
  rcases h with h | ⟨k, hk, h⟩
  · rw [h, zI_m1' (by omega)] at e
    exact e
  · rw [h, zI_eq (by omega) (by omega)] at e
    omega
theorem ivC_u {ch n m n' m' : Nat} {pr pr' : Int32} {r4 r5 r12 r13 r4' r5' r12' r13' r48 r49 r50 r143 r68 r69 r70 : Nat → Int32} {mo : Bool} (h : ivC ch n m pr r4 r5 r12 r13 mo r48 r49 r50 r143 r68 r69 r70) : ivC (ch + 1) n' m' pr' r4' r5' r12' r13' mo r48 r49 r50 r143 r68 r69 r70 :=
  ⟨stp_u h.1, stp_u h.2.1, fun b e => (stp_n h.1 b e).elim, fun b e => (stp_n h.2.1 b e).elim⟩
theorem ivD_u {w : Bool} {ch n m n' m' : Nat} {pr pr' : Int32} {r4 r5 r12 r13 r4' r5' r12' r13' r52 r53 r54 r55 r56 r57 r58 r59 : Nat → Int32} {j52 : Nat → Int64} (h : ivD w ch n m pr r4 r5 r12 r13 r52 r53 r54 r55 r56 r57 r58 r59 j52) : ivD w (ch + 1) n' m' pr' r4' r5' r12' r13' r52 r53 r54 r55 r56 r57 r58 r59 j52 := ⟨stp_u h.1, fun b e => (stp_n h.1 b e).elim, fun b _ e => (stp_n h.1 b e).elim⟩
/-- a call that changes nothing but the reference's note of what it threw -/
theorem inv_t {c : Nat} {mo : Bool} {G : Nat × Nat} {I : Nat → Nat → Int32} {J : Nat → Nat → Int64} (v : Int32) (h : inv c mo G I J) : Inv (c + 1) (sM mo G (up2 I 81 2 v) J) := by
  obtain ⟨n, m, t, p, q, r, ch, ln, hN, hE, hV, hY, hG, hK, hP, hS, hA, hT, hF, hB, hC, hD, hD2, hX, hZ⟩ := h
  refine ⟨mo, G, _, _, rfl, n, m, t, p, q, r, ch, ln, ?_⟩
  simp (decide := true) only [up2_ra, up2_rn, va_ap, ne_eq, if_false, not_false_eq_true]
  exact ⟨hN, hE, hV, hY, hG, ivK_s hK, hP, hS, hA, hT, hF, hB, hC, hD, hD2, hX, ivZ_s hZ⟩
/-! the tests of the two sides -/
theorem hLand_vp {I : Nat → Nat → Int32} {n : Nat} (h : I 1 0 = zI n) (hn : n ≤ 12) (x : Int32) : hLand I x = sIn x n := by
  unfold hLand
  rw [h]
  exact vp_lt2 hn (by decide)
theorem hState_vp {I : Nat → Nat → Int32} {n : Nat} (h : I 1 1 = zI n) (hn : n ≤ 6) (x : Int32) : hState I x = sIn x n := by
  unfold hState
  rw [h]
  exact vp_lt2 hn (by decide)
theorem hPres_vp {I : Nat → Nat → Int32} {n : Nat} (h : I 1 1 = zI n) (hn : n ≤ 6) (x : Int32) : hPres I x = (sIn x n ∧ bt (I 1 2) x.toNatClampNeg = true) := by
  unfold hPres
  rw [hState_vp h hn]
  apply propext
  constructor
  · rintro ⟨a, b⟩
    obtain ⟨k, hk, hk2, rfl⟩ := sIn_ex a
    rw [hb_bt _ _ (by omega)] at b
    rw [zI_cn hk2]
    exact ⟨a, b⟩
  · rintro ⟨a, b⟩
    obtain ⟨k, hk, hk2, rfl⟩ := sIn_ex a
    rw [hb_bt _ _ (by omega)]
    rw [zI_cn hk2] at b
    exact ⟨a, b⟩
theorem hPap_vp {I : Nat → Nat → Int32} {n : Nat} (h : I 31 0 = zI n) (hn : n ≤ 60) (x : Int32) : hPap I x = sIn x n := by
  unfold hPap
  rw [h]
  exact vp_lt2 hn (by decide)
theorem hArt_vp {I : Nat → Nat → Int32} {n : Nat} (h : I 71 0 = zI n) (hn : n ≤ 8) (x : Int32) : hArt I x = sIn x n := by
  unfold hArt
  rw [h]
  exact vp_lt2 hn (by decide)
theorem mLand_vp {I : Nat → Nat → Int32} {n : Nat} (h : I 81 3 = zI n) (hn : n ≤ 12) (x : Int32) : vf_Model_isLand I x = sIn x n := by
  unfold vf_Model_isLand
  rw [h]
theorem mState_vp {I : Nat → Nat → Int32} {n : Nat} (h : I 81 10 = zI n) (hn : n ≤ 6) (x : Int32) : vf_Model_isState I x = sIn x n := by
  unfold vf_Model_isState
  rw [h]
theorem mPres_vp {I : Nat → Nat → Int32} {n : Nat} (h : I 81 10 = zI n) (hn : n ≤ 6) (x : Int32) : vf_Model_isPresent I x = (sIn x n ∧ bt (I 81 15) x.toNatClampNeg = true) := by
  unfold vf_Model_isPresent
  rw [mState_vp h hn]
  apply propext
  constructor
  · rintro ⟨a, b⟩
    obtain ⟨k, hk, hk2, rfl⟩ := sIn_ex a
    rw [sb_1 _ _ (by omega)] at b
    rw [zI_cn hk2]
    exact ⟨a, b⟩
  · rintro ⟨a, b⟩
    obtain ⟨k, hk, hk2, rfl⟩ := sIn_ex a
    rw [sb_1 _ _ (by omega)]
    rw [zI_cn hk2] at b
    exact ⟨a, b⟩
theorem mArt_vp {I : Nat → Nat → Int32} {n : Nat} (h : I 81 81 = zI n) (hn : n ≤ 8) (x : Int32) : vf_Model_isArticle I x = sIn x n := by
  unfold vf_Model_isArticle
  rw [h]
theorem mL0 {I : Nat → Nat → Int32} {n : Nat} (h : I 81 3 = zI n) (hn : n ≤ 12) (x : Int32) : vf_Model_isLand (up2 I 81 2 0) x = sIn x n := mLand_vp (by simp (decide := true) only [up2_ra, up2_rn, va_ap, ne_eq, if_false, if_true, not_false_eq_true]; exact h) hn x
theorem mS0 {I : Nat → Nat → Int32} {n : Nat} (h : I 81 10 = zI n) (hn : n ≤ 6) (x : Int32) : vf_Model_isState (up2 I 81 2 0) x = sIn x n := mState_vp (by simp (decide := true) only [up2_ra, up2_rn, va_ap, ne_eq, if_false, if_true, not_false_eq_true]; exact h) hn x
theorem mP0 {I : Nat → Nat → Int32} {n : Nat} (h : I 81 10 = zI n) (hn : n ≤ 6) (x : Int32) : vf_Model_isPresent (up2 I 81 2 0) x = (sIn x n ∧ bt (I 81 15) x.toNatClampNeg = true) := by
  rw [mPres_vp (I := up2 I 81 2 0) (n := n) (by simp (decide := true) only [up2_ra, up2_rn, va_ap, ne_eq, if_false, if_true, not_false_eq_true]; exact h) hn x]
  simp (decide := true) only [up2_ra, up2_rn, va_ap, ne_eq, if_false, if_true, not_false_eq_true]
theorem mA0 {I : Nat → Nat → Int32} {n : Nat} (h : I 81 81 = zI n) (hn : n ≤ 8) (x : Int32) : vf_Model_isArticle (up2 I 81 2 0) x = sIn x n := mArt_vp (by simp (decide := true) only [up2_ra, up2_rn, va_ap, ne_eq, if_false, if_true, not_false_eq_true]; exact h) hn x
end
section
/-! Calls without loops. -/
section O1
variable (X : (Nat → Int32) × Nat) (mo : Bool) (G : Nat × Nat) (I : Nat → Nat → Int32) (J : Nat → Nat → Int64) (Q : Option Value → sm_M → Prop)
theorem nH_land {n : Nat} (hn : I 1 0 = zI n) (h12 : n ≤ 12) (x : Int32) : sm_wp X 171 0 [some (.ref 0), some (.int x)] [] (sM mo G I J) Q = if ¬ x < 1 ∧ ¬ 9999 < x ∧ n < 12 then Q (some (.int (zI n))) (sM mo G (up2 (up2 (up2 (up2 I 2 n x) 4 n (-1)) 1 0 (zI (n + 1))) 1 4 (I 1 4 + 1)) J) else Q (some (.int (-1))) (sM mo G I J) := by
  rw [ct_House_land, hn]
  simp (disch := first | omega | decide) only [zI_lt, zI_le, zI_eq, zI_cn, zI_vp, zI_add, zI_mul, zI_sub, zIl_add, zIr_add, zIl_mul, zIr_mul, zIr_sub, zIl_lt, zIr_lt, zIl_le, zIr_le, zIl_eq, zIr_eq, zI_sIn, zI_m1, zI_m1', Int32.add_zero, Int32.or_zero, Nat.add_sub_cancel]
  grind
theorem nM_land {n : Nat} (hn : I 81 3 = zI n) (h12 : n ≤ 12) (x : Int32) : sm_wp X 209 0 [some (.ref 81), some (.int x)] [] (sM mo G I J) Q = if ¬ x < 1 ∧ ¬ 9999 < x ∧ n < 12 then Q (some (.int (zI n))) (sM mo G (up2 (up2 (up2 (up2 (up2 (up2 I 81 2 0) 83 n x) 85 n (-1)) 86 n 0) 87 n 0) 81 3 (zI (n + 1))) J) else Q (some (.int (-1))) (sM mo G (up2 I 81 2 0) J) := by
  rw [ct_Model_land, hn]
  simp (disch := first | omega | decide) only [zI_lt, zI_le, zI_eq, zI_cn, zI_vp, zI_add, zI_mul, zI_sub, zIl_add, zIr_add, zIl_mul, zIr_mul, zIr_sub, zIl_lt, zIr_lt, zIl_le, zIr_le, zIl_eq, zIr_eq, zI_sIn, zI_m1, zI_m1', Int32.add_zero, Int32.or_zero, Nat.add_sub_cancel]
  grind
theorem nH_state {m : Nat} (hm : I 1 1 = zI m) (h6 : m ≤ 6) (x y : Int32) : sm_wp X 173 0 [some (.ref 0), some (.int x), some (.int y)] [] (sM mo G I J) Q = if ¬ x < 0 ∧ ¬ 99 < x ∧ ¬ y < 0 ∧ ¬ 9 < y ∧ m < 6 then Q (some (.int (zI m))) (sM mo G (up2 (up2 (up2 (up2 (up2 I 10 m x) 11 m y) 1 2 (I 1 2 ||| b1 m)) 1 1 (zI (m + 1))) 1 4 (I 1 4 + 1)) J) else Q (some (.int (-1))) (sM mo G I J) := by
  rw [ct_House_state, hm]
  simp (disch := first | omega | decide) only [zI_lt, zI_le, zI_eq, zI_cn, zI_vp, zI_add, zI_mul, zI_sub, zIl_add, zIr_add, zIl_mul, zIr_mul, zIr_sub, zIl_lt, zIr_lt, zIl_le, zIr_le, zIl_eq, zIr_eq, zI_sIn, zI_m1, zI_m1', Int32.add_zero, Int32.or_zero, Nat.add_sub_cancel]
  grind [b1]
theorem nM_state {m : Nat} (hm : I 81 10 = zI m) (h6 : m ≤ 6) (x y : Int32) : sm_wp X 213 0 [some (.ref 81), some (.int x), some (.int y)] [] (sM mo G I J) Q = if ¬ x < 0 ∧ ¬ 99 < x ∧ ¬ y < 0 ∧ ¬ 9 < y ∧ m < 6 then Q (some (.int (zI m))) (sM mo G (up2 (up2 (up2 (up2 (up2 I 81 2 0) 89 m x) 90 m y) 81 15 (I 81 15 ||| b1 m)) 81 10 (zI (m + 1))) J) else Q (some (.int (-1))) (sM mo G (up2 I 81 2 0) J) := by
  rw [ct_Model_state, hm]
  simp (disch := first | omega | decide) only [zI_lt, zI_le, zI_eq, zI_cn, zI_vp, zI_add, zI_mul, zI_sub, zIl_add, zIr_add, zIl_mul, zIr_mul, zIr_sub, zIl_lt, zIr_lt, zIl_le, zIr_le, zIl_eq, zIr_eq, zI_sIn, zI_m1, zI_m1', Int32.add_zero, Int32.or_zero, Nat.add_sub_cancel]
  grind [b1]
theorem nH_bound {m : Nat} (hm : I 1 1 = zI m) (h6 : m ≤ 6) (x y : Int32) : sm_wp X 177 0 [some (.ref 0), some (.int x), some (.int y)] [] (sM mo G I J) Q = if sIn x m ∧ ¬ y < 0 ∧ ¬ 999 < y then Q (some (.int 1)) (sM mo G (up2 (up2 I 12 x.toNatClampNeg y) 1 4 (I 1 4 + 1)) J) else Q (some (.int 0)) (sM mo G I J) := by
  rw [ct_House_bound]
  simp only [hState_vp hm h6]
  have : sIn x m → vp_in x 6 := sIn_vp (by omega) h6
  grind
theorem nM_bound {m : Nat} (hm : I 81 10 = zI m) (h6 : m ≤ 6) (x y : Int32) : sm_wp X 221 0 [some (.ref 81), some (.int x), some (.int y)] [] (sM mo G I J) Q = if sIn x m ∧ ¬ y < 0 ∧ ¬ 999 < y then Q (some (.int 1)) (sM mo G (up2 (up2 I 81 2 0) 92 x.toNatClampNeg y) J) else Q (some (.int 0)) (sM mo G (up2 I 81 2 0) J) := by
  rw [ct_Model_bound]
  simp only [mS0 hm h6]
  have : sIn x m → vp_in x 6 := sIn_vp (by omega) h6
  grind
end O1
section O2
variable {X : (Nat → Int32) × Nat} {c : Nat} {mo : Bool} {G : Nat × Nat} {I : Nat → Nat → Int32} {J : Nat → Nat → Int64}
theorem op_land (h : inv c mo G I J) (x : Int32) : Agr X 171 [some (.ref 0), some (.int x)] 209 [some (.ref 81), some (.int x)] (sM mo G I J) (Inv (c + 1)) := by
  have h0 := h
  obtain ⟨n, m, t, p, q, r, ch, ln, ⟨hn, hn', h12, hN⟩, ⟨e2, e4, e5, e6, e10, e11, e12, e13⟩, hV, hY, hG, hK, hP, hS, hA, hT, hF, hB, hC, hD, hD2, hX, hZ⟩ := h
  unfold Agr
  rw [nH_land _ _ _ _ _ _ hn h12]
  by_cases g : ¬ x < 1 ∧ ¬ 9999 < x ∧ n < 12
  · rw [if_pos g, nM_land _ _ _ _ _ _ (n := n) (by simp (decide := true) only [up2_ra, up2_rn, va_ap, ne_eq, if_false, if_true, not_false_eq_true]; exact hn') h12, if_pos g]
    refine ⟨rfl, mo, G, _, _, rfl, n + 1, m, t, p, q, r, ch + 1, ln, ?_⟩
    simp (decide := true) only [up2_ra, up2_rn, va_ap, ne_eq, if_false, if_true, not_false_eq_true]
    refine ⟨⟨rfl, rfl, by omega, hN⟩, ⟨by rw [e2], by rw [e4], ?_, ?_, e10, e11, e12, e13⟩, ?_, ?_, hG, ivK_u hK, ?_, hS, hA, hT, hF, hB, ivC_u hC, ivD_u hD, ivD_u hD2, hX, ivZ_s hZ⟩
    · funext j
      rw [va_ap, e5]
      split
      · rename_i hj; subst hj; exact (hV.2.2.2.1 _ (Nat.le_refl _)).symm
      · rfl
    · funext j
      rw [va_ap, e6]
      split
      · rename_i hj; subst hj; exact (hY.1 _ (Nat.le_refl _)).symm
      · rfl
    · obtain ⟨v1, v2, v3, v4, v5, v6⟩ := hV
      refine ⟨fun l hl => ?_, v2, v3, fun l hl => v4 l (by omega), fun j => ?_, v6⟩
      · rw [va_ap]
        split
        · exact Or.inl rfl
        · exact v1 l (by omega)
      · rw [va_ap]
        split
        · obtain ⟨k, hk, rfl⟩ := zI_of (x := x) (by intro hh; exact g.1 (by grind))
          exact ⟨k, by have := g.2.1; rw [zIl_lt (by omega) hk] at this; omega, rfl⟩
        · exact v5 j
    · exact ⟨fun l hl => hY.1 l (by omega), hY.2⟩
    · obtain ⟨p1, p2, p3, p4, p5, p6, p7⟩ := hP
      refine ⟨p1, p2, p3, p4, p5, p6, fun k hk => ?_⟩
      rcases p7 k hk with p7 | ⟨a1, a2, a3, a4, a5, a6, a7⟩
      · exact Or.inl p7
      · exact Or.inr ⟨a1, a2, a3, a4, fun j hj => a5 j (by omega), fun j hj => a6 j (by omega), a7⟩
  · rw [if_neg g, nM_land _ _ _ _ _ _ hn' h12, if_neg g]
    exact ⟨rfl, inv_t 0 h0⟩
theorem op_bound (h : inv c mo G I J) (x y : Int32) : Agr X 177 [some (.ref 0), some (.int x), some (.int y)] 221 [some (.ref 81), some (.int x), some (.int y)] (sM mo G I J) (Inv (c + 1)) := by
  have h0 := h
  obtain ⟨n, m, t, p, q, r, ch, ln, hN, ⟨e2, e4, e5, e6, e10, e11, e12, e13⟩, hV, hY, hG, hK, hP, hS, hA, hT, hF, hB, hC, hD, hD2, hX, hZ⟩ := h
  have hN0 := hN
  obtain ⟨hn, hn', h12, hm, hm', h6, -⟩ := hN0
  unfold Agr
  rw [nH_bound _ _ _ _ _ _ hm h6]
  by_cases g : sIn x m ∧ ¬ y < 0 ∧ ¬ 999 < y
  · rw [if_pos g, nM_bound _ _ _ _ _ _ (m := m) (by simp (decide := true) only [up2_ra, up2_rn, va_ap, ne_eq, if_false, if_true, not_false_eq_true]; exact hm') h6, if_pos g]
    refine ⟨rfl, mo, G, _, _, rfl, n, m, t, p, q, r, ch + 1, ln, ?_⟩
    simp (decide := true) only [up2_ra, up2_rn, va_ap, ne_eq, if_false, if_true, not_false_eq_true]
    refine ⟨hN, ⟨e2, e4, e5, e6, e10, e11, by rw [e12], e13⟩, ?_, hY, hG, ivK_u hK, hP, hS, hA, hT, hF, hB, ivC_u hC, ivD_u hD, ivD_u hD2, hX, ivZ_s hZ⟩
    obtain ⟨v1, v2, v3, v4, v5, v6, v7, v8, v9⟩ := hV
    refine ⟨v1, v2, v3, v4, v5, v6, v7, fun j => ?_, v9⟩
    rw [va_ap]
    split
    · obtain ⟨k, hk, rfl⟩ := zI_of (x := y) g.2.1
      exact ⟨k, by have := g.2.2; rw [zIl_lt (by omega) hk] at this; omega, rfl⟩
    · exact v8 j
  · rw [if_neg g, nM_bound _ _ _ _ _ _ hm' h6, if_neg g]
    exact ⟨rfl, inv_t 0 h0⟩
end O2
end
section
/-! More calls without loops. -/
theorem vp_mono {x : Int32} {a b : Nat} (h : a ≤ b) (hx : vp_in x a) : vp_in x b := by
  rw [vp_in_iff] at hx ⊢
  omega
theorem nar_1 : vp_nar .boolean 1 = 1 := by decide
theorem nar_0 : vp_nar .boolean 0 = 0 := by decide
theorem bt_b1' (k j : Nat) (hk : k < 32) : bt (b1 k) j = decide (j = k) := by
  by_cases hj : j < 32
  · exact bt_b1 k j hk hj
  · rw [bt_big _ _ (by omega)]
    exact (decide_eq_false (by omega)).symm
section O1
variable (X : (Nat → Int32) × Nat) (mo : Bool) (G : Nat × Nat) (I : Nat → Nat → Int32) (J : Nat → Nat → Int64) (Q : Option Value → sm_M → Prop)
theorem nH_worth {n m : Nat} (hn : I 1 0 = zI n) (h12 : n ≤ 12) (hm : I 1 1 = zI m) (h6 : m ≤ 6) (x y z : Int32) : sm_wp X 176 0 [some (.ref 0), some (.int x), some (.int y), some (.int z)] [] (sM mo G I J) Q = if sIn x m ∧ sIn y n ∧ ¬ z < 0 ∧ ¬ 99 < z then Q (some (.int 1)) (sM mo G (up2 (up2 I 13 (x * 12 + y).toNatClampNeg z) 1 4 (I 1 4 + 1)) J) else Q (some (.int 0)) (sM mo G I J) := by
  rw [ct_House_worth]
  simp only [hState_vp hm h6, hLand_vp hn h12]
  have : sIn x m → sIn y n → vp_in (x * 12 + y) 72 := by
    intro a b
    obtain ⟨i, hi, hi2, rfl⟩ := sIn_ex a
    obtain ⟨j, hj, hj2, rfl⟩ := sIn_ex b
    simp (disch := first | omega | decide) only [zI_lt, zI_le, zI_eq, zI_cn, zI_vp, zI_add, zI_mul, zI_sub, zIl_add, zIr_add, zIl_mul, zIr_mul, zIr_sub, zIl_lt, zIr_lt, zIl_le, zIr_le, zIl_eq, zIr_eq, zI_sIn, zI_m1, zI_m1', Int32.add_zero, Int32.or_zero]
    omega
  grind
theorem nM_worth {n m : Nat} (hn : I 81 3 = zI n) (h12 : n ≤ 12) (hm : I 81 10 = zI m) (h6 : m ≤ 6) (x y z : Int32) : sm_wp X 220 0 [some (.ref 81), some (.int x), some (.int y), some (.int z)] [] (sM mo G I J) Q = if sIn x m ∧ sIn y n ∧ ¬ z < 0 ∧ ¬ 99 < z then Q (some (.int 1)) (sM mo G (up2 (up2 I 81 2 0) 91 (x * 12 + y).toNatClampNeg z) J) else Q (some (.int 0)) (sM mo G (up2 I 81 2 0) J) := by
  rw [ct_Model_worth]
  simp only [mS0 hm h6, mL0 hn h12]
  rw [Int32.mul_comm 12 x]
  have : sIn x m → sIn y n → vp_in (x * 12 + y) 72 := by
    intro a b
    obtain ⟨i, hi, hi2, rfl⟩ := sIn_ex a
    obtain ⟨j, hj, hj2, rfl⟩ := sIn_ex b
    simp (disch := first | omega | decide) only [zI_lt, zI_le, zI_eq, zI_cn, zI_vp, zI_add, zI_mul, zI_sub, zIl_add, zIr_add, zIl_mul, zIr_mul, zIr_sub, zIl_lt, zIr_lt, zIl_le, zIr_le, zIl_eq, zIr_eq, zI_sIn, zI_m1, zI_m1', Int32.add_zero, Int32.or_zero]
    omega
  grind
theorem nH_near {n : Nat} (hn : I 1 0 = zI n) (h12 : n ≤ 12) (x y : Int32) : sm_wp X 172 0 [some (.ref 0), some (.int x), some (.int y)] [] (sM mo G I J) Q = if sIn x n ∧ sIn y n ∧ ¬ x = y ∧ ¬ bt (I 3 x.toNatClampNeg) y.toNatClampNeg = true then Q (some (.int 1)) (sM mo G (up2 (up2 I 3 x.toNatClampNeg (I 3 x.toNatClampNeg ||| b1 y.toNatClampNeg)) 3 y.toNatClampNeg (I 3 y.toNatClampNeg ||| b1 x.toNatClampNeg)) J) else Q (some (.int 0)) (sM mo G I J) := by
  rw [ct_House_near]
  simp only [vf_Realm_areNear, hLand_vp hn h12]
  by_cases a : sIn x n
  · obtain ⟨i, hi, hi2, rfl⟩ := sIn_ex a
    by_cases b : sIn y n
    · obtain ⟨j, hj, hj2, rfl⟩ := sIn_ex b
      simp (disch := first | omega | decide) only [zI_lt, zI_le, zI_eq, zI_cn, zI_vp, zI_add, zI_mul, zI_sub, zIl_add, zIr_add, zIl_mul, zIr_mul, zIr_sub, zIl_lt, zIr_lt, zIl_le, zIr_le, zIl_eq, zIr_eq, zI_sIn, zI_m1, zI_m1', Int32.add_zero, Int32.or_zero, hb_bt]
      by_cases e : i = j
      · grind
      · rw [up2_sn (Ne.symm e)]
        grind [b1]
    · simp [a, b]
  · simp [a]
theorem nM_near {n : Nat} (hn : I 81 3 = zI n) (h12 : n ≤ 12) (x y : Int32) : sm_wp X 211 0 [some (.ref 81), some (.int x), some (.int y)] [] (sM mo G I J) Q = if sIn x n ∧ sIn y n ∧ ¬ x = y ∧ I 84 (12 * x.toNatClampNeg + y.toNatClampNeg) = 0 then Q (some (.int 1)) (sM mo G (up2 (up2 (up2 I 81 2 0) 84 (12 * x.toNatClampNeg + y.toNatClampNeg) 1) 84 (12 * y.toNatClampNeg + x.toNatClampNeg) 1) J) else Q (some (.int 0)) (sM mo G (up2 I 81 2 0) J) := by
  rw [ct_Model_near]
  simp only [mL0 hn h12, nar_1]
  by_cases a : sIn x n
  · obtain ⟨i, hi, hi2, rfl⟩ := sIn_ex a
    by_cases b : sIn y n
    · obtain ⟨j, hj, hj2, rfl⟩ := sIn_ex b
      simp (disch := first | omega | decide) only [zI_lt, zI_le, zI_eq, zI_cn, zI_vp, zI_add, zI_mul, zI_sub, zIl_add, zIr_add, zIl_mul, zIr_mul, zIr_sub, zIl_lt, zIr_lt, zIl_le, zIr_le, zIl_eq, zIr_eq, zI_sIn, zI_m1, zI_m1', Int32.add_zero, Int32.or_zero]
      grind
    · simp [a, b]
  · simp [a]
theorem nH_art {r : Nat} (hr : I 71 0 = zI r) (h8 : r ≤ 8) : sm_wp X 195 0 [some (.ref 0)] [] (sM mo G I J) Q = if r < 8 then Q (some (.int (zI r))) (sM mo G (up2 I 71 0 (zI (r + 1))) J) else Q (some (.int (-1))) (sM mo G I J) := by
  rw [ct_House_article, hr]
  simp (disch := first | omega | decide) only [zI_lt, zI_le, zI_eq, zI_cn, zI_vp, zI_add, zI_mul, zI_sub, zIl_add, zIr_add, zIl_mul, zIr_mul, zIr_sub, zIl_lt, zIr_lt, zIl_le, zIr_le, zIl_eq, zIr_eq, zI_sIn, zI_m1, zI_m1', Int32.add_zero, Int32.or_zero, Nat.add_sub_cancel]
theorem nM_art {r : Nat} (hr : I 81 81 = zI r) (h8 : r ≤ 8) : sm_wp X 291 0 [some (.ref 81)] [] (sM mo G I J) Q = if r < 8 then Q (some (.int (zI r))) (sM mo G (up2 (up2 I 81 2 0) 81 81 (zI (r + 1))) J) else Q (some (.int (-1))) (sM mo G (up2 I 81 2 0) J) := by
  rw [ct_Model_article, hr]
  simp (disch := first | omega | decide) only [zI_lt, zI_le, zI_eq, zI_cn, zI_vp, zI_add, zI_mul, zI_sub, zIl_add, zIr_add, zIl_mul, zIr_mul, zIr_sub, zIl_lt, zIr_lt, zIl_le, zIr_le, zIl_eq, zIr_eq, zI_sIn, zI_m1, zI_m1', Int32.add_zero, Int32.or_zero, Nat.add_sub_cancel]
  grind
theorem nH_spy {m t q : Nat} (hm : I 1 1 = zI m) (h6 : m ≤ 6) (ht : I 1 3 = zI t) (hq : I 26 0 = zI q) (h20 : q ≤ 20) (x y z u : Int32) : sm_wp X 181 0 [some (.ref 0), some (.int x), some (.int y), some (.int z), some (.int u)] [] (sM mo G I J) Q = if sIn x m ∧ sIn y m ∧ ¬ x = y ∧ ¬ z < zI t ∧ ¬ u < z ∧ ¬ 300 < u ∧ q < 20 then Q (some (.int 1)) (sM mo G (up2 (up2 (up2 (up2 (up2 I 27 q x) 28 q y) 29 q z) 30 q u) 26 0 (zI (q + 1))) J) else Q (some (.int 0)) (sM mo G I J) := by
  rw [ct_House_spy]
  simp only [hState_vp hm h6]
  rw [hq, ht]
  simp (disch := first | omega | decide) only [zI_lt, zI_le, zI_eq, zI_cn, zI_vp, zI_add, zI_mul, zI_sub, zIl_add, zIr_add, zIl_mul, zIr_mul, zIr_sub, zIl_lt, zIr_lt, zIl_le, zIr_le, zIl_eq, zIr_eq, zI_sIn, zI_m1, zI_m1', Int32.add_zero, Int32.or_zero]
  grind
theorem nM_spy {m t q : Nat} (hm : I 81 10 = zI m) (h6 : m ≤ 6) (ht : I 81 16 = zI t) (hq : I 81 60 = zI q) (h20 : q ≤ 20) (x y z u : Int32) : sm_wp X 250 0 [some (.ref 81), some (.int x), some (.int y), some (.int z), some (.int u)] [] (sM mo G I J) Q = if sIn x m ∧ sIn y m ∧ ¬ x = y ∧ ¬ z < zI t ∧ ¬ u < z ∧ ¬ 300 < u ∧ q < 20 then Q (some (.int 1)) (sM mo G (up2 (up2 (up2 (up2 (up2 (up2 I 81 2 0) 120 (4 * q) x) 120 (4 * q + 1) y) 120 (4 * q + 2) z) 120 (4 * q + 3) u) 81 60 (zI (q + 1))) J) else Q (some (.int 0)) (sM mo G (up2 I 81 2 0) J) := by
  rw [ct_Model_spy]
  simp only [mS0 hm h6]
  rw [hq, ht]
  simp (disch := first | omega | decide) only [zI_lt, zI_le, zI_eq, zI_cn, zI_vp, zI_add, zI_mul, zI_sub, zIl_add, zIr_add, zIl_mul, zIr_mul, zIr_sub, zIl_lt, zIr_lt, zIl_le, zIr_le, zIl_eq, zIr_eq, zI_sIn, zI_m1, zI_m1', Int32.add_zero, Int32.or_zero]
  grind
end O1
section O2
variable {X : (Nat → Int32) × Nat} {c : Nat} {mo : Bool} {G : Nat × Nat} {I : Nat → Nat → Int32} {J : Nat → Nat → Int64}
theorem op_worth (h : inv c mo G I J) (x y z : Int32) : Agr X 176 [some (.ref 0), some (.int x), some (.int y), some (.int z)] 220 [some (.ref 81), some (.int x), some (.int y), some (.int z)] (sM mo G I J) (Inv (c + 1)) := by
  have h0 := h
  obtain ⟨n, m, t, p, q, r, ch, ln, hN, ⟨e2, e4, e5, e6, e10, e11, e12, e13⟩, hV, hY, hG, hK, hP, hS, hA, hT, hF, hB, hC, hD, hD2, hX, hZ⟩ := h
  have hN0 := hN
  obtain ⟨hn, hn', h12, hm, hm', h6, -⟩ := hN0
  unfold Agr
  rw [nH_worth _ _ _ _ _ _ hn h12 hm h6]
  by_cases g : sIn x m ∧ sIn y n ∧ ¬ z < 0 ∧ ¬ 99 < z
  · rw [if_pos g, nM_worth _ _ _ _ _ _ (m := m) (n := n) (by simp (decide := true) only [up2_ra, up2_rn, va_ap, ne_eq, if_false, if_true, not_false_eq_true]; exact hn') h12 (by simp (decide := true) only [up2_ra, up2_rn, va_ap, ne_eq, if_false, if_true, not_false_eq_true]; exact hm') h6, if_pos g]
    refine ⟨rfl, mo, G, _, _, rfl, n, m, t, p, q, r, ch + 1, ln, ?_⟩
    simp (decide := true) only [up2_ra, up2_rn, va_ap, ne_eq, if_false, if_true, not_false_eq_true]
    refine ⟨hN, ⟨e2, e4, e5, e6, e10, e11, e12, by rw [e13]⟩, ?_, hY, hG, ivK_u hK, hP, hS, hA, hT, hF, hB, ivC_u hC, ivD_u hD, ivD_u hD2, hX, ivZ_s hZ⟩
    obtain ⟨v1, v2, v3, v4, v5, v6, v7, v8, v9⟩ := hV
    refine ⟨v1, v2, v3, v4, v5, v6, v7, v8, fun j => ?_⟩
    rw [va_ap]
    split
    · obtain ⟨k, hk, rfl⟩ := zI_of (x := z) g.2.2.1
      exact ⟨k, by have := g.2.2.2; rw [zIl_lt (by omega) hk] at this; omega, rfl⟩
    · exact v9 j
  · rw [if_neg g, nM_worth _ _ _ _ _ _ hn' h12 hm' h6, if_neg g]
    exact ⟨rfl, inv_t 0 h0⟩
theorem op_near (h : inv c mo G I J) (x y : Int32) : Agr X 172 [some (.ref 0), some (.int x), some (.int y)] 211 [some (.ref 81), some (.int x), some (.int y)] (sM mo G I J) (Inv (c + 1)) := by
  have h0 := h
  obtain ⟨n, m, t, p, q, r, ch, ln, hN, hE, hV, hY, ⟨g1, g2⟩, hK, hP, hS, hA, hT, hF, hB, hC, hD, hD2, hX, hZ⟩ := h
  have hN0 := hN
  obtain ⟨hn, hn', h12, -⟩ := hN0
  unfold Agr
  rw [nH_near _ _ _ _ _ _ hn h12]
  by_cases a : sIn x n ∧ sIn y n
  · obtain ⟨i, hi, hi2, rfl⟩ := sIn_ex a.1
    obtain ⟨j, hj, hj2, rfl⟩ := sIn_ex a.2
    have hb := g2 i (by omega) j (by omega)
    have hb2 := g1 (12 * i + j)
    by_cases g : sIn (zI i) n ∧ sIn (zI j) n ∧ ¬ zI i = zI j ∧ ¬ bt (I 3 (zI i).toNatClampNeg) (zI j).toNatClampNeg = true
    · rw [if_pos g, nM_near _ _ _ _ _ _ (n := n) (by simp (decide := true) only [up2_ra, up2_rn, va_ap, ne_eq, if_false, if_true, not_false_eq_true]; exact hn') h12, if_pos]
      · rw [zI_cn hi2, zI_cn hj2]
        refine ⟨rfl, mo, G, _, _, rfl, n, m, t, p, q, r, ch, ln, ?_⟩
        simp (decide := true) only [up2_ra, up2_rn, va_ap, ne_eq, if_false, if_true, not_false_eq_true]
        refine ⟨hN, hE, hV, hY, ⟨fun k => ?_, fun a2 ha b2 hb2 => ?_⟩, ivK_s hK, hP, hS, hA, hT, hF, hB, hC, hD, hD2, hX, ivZ_s hZ⟩
        · rw [va_ap, va_ap]
          have := g1 k
          grind
        · have hh := g2 a2 ha b2 hb2
          have hij : ¬ i = j := fun e => g.2.2.1 (by rw [e])
          rw [va_ap, va_ap, va_ap, va_ap]
          have q1 : (12 * a2 + b2 = 12 * j + i) = (a2 = j ∧ b2 = i) := by apply propext; omega
          have q2 : (12 * a2 + b2 = 12 * i + j) = (a2 = i ∧ b2 = j) := by apply propext; omega
          simp only [q1, q2]
          have w1 := bt_or (I 3 j) (b1 i) b2
          have w2 := bt_or (I 3 i) (b1 j) b2
          rw [bt_b1' _ _ (by omega)] at w1 w2
          grind
      · simp (decide := true) only [up2_ra, up2_rn, va_ap, ne_eq, if_false, if_true, not_false_eq_true]
        rw [zI_cn hi2, zI_cn hj2] at g ⊢
        grind
    · rw [if_neg g, nM_near _ _ _ _ _ _ hn' h12, if_neg]
      · exact ⟨rfl, inv_t 0 h0⟩
      · rw [zI_cn hi2, zI_cn hj2] at g ⊢
        grind
  · rw [if_neg (fun g => a ⟨g.1, g.2.1⟩), nM_near _ _ _ _ _ _ hn' h12, if_neg (fun g => a ⟨g.1, g.2.1⟩)]
    exact ⟨rfl, inv_t 0 h0⟩
theorem op_article (h : inv c mo G I J) : Agr X 195 [some (.ref 0)] 291 [some (.ref 81)] (sM mo G I J) (Inv (c + 1)) := by
  have h0 := h
  obtain ⟨n, m, t, p, q, r, ch, ln, hN, hE, hV, hY, hG, hK, hP, hS, ⟨hr, hr', h8, a1, a2, a3, a4, a5, a6, a7⟩, hT, hF, hB, hC, hD, hD2, hX, hZ⟩ := h
  unfold Agr
  rw [nH_art _ _ _ _ _ _ hr h8]
  by_cases g : r < 8
  · rw [if_pos g, nM_art _ _ _ _ _ _ (r := r) (by simp (decide := true) only [up2_ra, up2_rn, va_ap, ne_eq, if_false, if_true, not_false_eq_true]; exact hr') h8, if_pos g]
    refine ⟨rfl, mo, G, _, _, rfl, n, m, t, p, q, r + 1, ch, ln, ?_⟩
    simp (decide := true) only [up2_ra, up2_rn, va_ap, ne_eq, if_false, if_true, not_false_eq_true]
    exact ⟨hN, hE, hV, hY, hG, ivK_s hK, hP, hS, ⟨rfl, rfl, by omega, a1, a2, a3, a4, a5, a6, fun a b hb => a7 a b (by omega)⟩, hT, hF, hB, hC, hD, hD2, hX, ivZ_s hZ⟩
  · rw [if_neg g, nM_art _ _ _ _ _ _ hr' h8, if_neg g]
    exact ⟨rfl, inv_t 0 h0⟩
theorem op_spy (h : inv c mo G I J) (x y z u : Int32) : Agr X 181 [some (.ref 0), some (.int x), some (.int y), some (.int z), some (.int u)] 250 [some (.ref 81), some (.int x), some (.int y), some (.int z), some (.int u)] (sM mo G I J) (Inv (c + 1)) := by
  have h0 := h
  obtain ⟨n, m, t, p, q, r, ch, ln, hN, hE, hV, hY, hG, hK, hP, ⟨hq, hq', h20, hS⟩, hA, hT, hF, hB, hC, hD, hD2, hX, hZ⟩ := h
  have hN0 := hN
  obtain ⟨hn, hn', h12, hm, hm', h6, -, -, ht, ht', -⟩ := hN0
  unfold Agr
  rw [nH_spy _ _ _ _ _ _ hm h6 ht hq h20]
  by_cases g : sIn x m ∧ sIn y m ∧ ¬ x = y ∧ ¬ z < zI t ∧ ¬ u < z ∧ ¬ 300 < u ∧ q < 20
  · rw [if_pos g, nM_spy _ _ _ _ _ _ (m := m) (t := t) (q := q) (by simp (decide := true) only [up2_ra, up2_rn, va_ap, ne_eq, if_false, if_true, not_false_eq_true]; exact hm') h6 (by simp (decide := true) only [up2_ra, up2_rn, va_ap, ne_eq, if_false, if_true, not_false_eq_true]; exact ht') (by simp (decide := true) only [up2_ra, up2_rn, va_ap, ne_eq, if_false, if_true, not_false_eq_true]; exact hq') h20, if_pos g]
    refine ⟨rfl, mo, G, _, _, rfl, n, m, t, p, q + 1, r, ch, ln, ?_⟩
    simp (decide := true) only [up2_ra, up2_rn, va_ap, ne_eq, if_false, if_true, not_false_eq_true]
    refine ⟨hN, hE, hV, hY, hG, ivK_s hK, hP, ⟨rfl, rfl, by omega, fun k hk => ?_⟩, hA, hT, hF, hB, hC, hD, hD2, hX, ivZ_s hZ⟩
    have := hS k hk
    simp only [va_ap]
    grind
  · rw [if_neg g, nM_spy _ _ _ _ _ _ hm' h6 ht' hq' h20, if_neg g]
    exact ⟨rfl, inv_t 0 h0⟩
theorem op_fault (h : inv c mo G I J) (x : Int32) : Agr X 170 [some (.ref 0), some (.int x)] 246 [some (.ref 81), some (.int x)] (sM mo G I J) (Inv (c + 1)) := by
  have h0 := h
  obtain ⟨n, m, t, p, q, r, ch, ln, hN, hE, hV, hY, hG, hK, hP, hS, hA, hT, ⟨f1, f2⟩, hB, hC, hD, hD2, hX, hZ⟩ := h
  unfold Agr
  have hi := inv_t 0 h0
  rw [ct_House_fault]
  simp only [ct_Model_fault, f1, f2]
  grind
end O2
end
section
/-! More calls: state, hold, and those that only read. -/
theorem zI_in {x : Int32} {c : Nat} (hc : c < 2147483648) (h1 : ¬ x < 0) (h2 : ¬ zI c < x) : ∃ k, k ≤ c ∧ x = zI k := by
  obtain ⟨k, hk, rfl⟩ := zI_of h1
  rw [zI_lt hc hk] at h2
  exact ⟨k, by omega, rfl⟩
section O2
variable {X : (Nat → Int32) × Nat} {c : Nat} {mo : Bool} {G : Nat × Nat} {I : Nat → Nat → Int32} {J : Nat → Nat → Int64}
theorem op_state (h : inv c mo G I J) (x y : Int32) : Agr X 173 [some (.ref 0), some (.int x), some (.int y)] 213 [some (.ref 81), some (.int x), some (.int y)] (sM mo G I J) (Inv (c + 1)) := by
  have h0 := h
  obtain ⟨n, m, t, p, q, r, ch, ln, ⟨hn, hn', h12, hm, hm', h6, hp, hpb, ht⟩, ⟨e2, e4, e5, e6, e10, e11, e12, e13⟩, hV, hY, hG, hK, hP, hS, hA, hT, hF, hB, hC, hD, hD2, hX, hZ⟩ := h
  unfold Agr
  rw [nH_state _ _ _ _ _ _ hm h6]
  by_cases g : ¬ x < 0 ∧ ¬ 99 < x ∧ ¬ y < 0 ∧ ¬ 9 < y ∧ m < 6
  · rw [if_pos g, nM_state _ _ _ _ _ _ (m := m) (by simp (decide := true) only [up2_ra, up2_rn, va_ap, ne_eq, if_false, if_true, not_false_eq_true]; exact hm') h6, if_pos g]
    refine ⟨rfl, mo, G, _, _, rfl, n, m + 1, t, p, q, r, ch + 1, ln, ?_⟩
    simp (decide := true) only [up2_ra, up2_rn, va_ap, ne_eq, if_false, if_true, not_false_eq_true]
    refine ⟨⟨hn, hn', h12, rfl, rfl, by omega, by rw [hp], fun k hk => ?_, ht⟩, ⟨e2, e4, e5, e6, by rw [e10], by rw [e11], e12, e13⟩, ?_, hY, hG, ivK_u hK, ?_, hS, hA, hT, hF, hB, ivC_u hC, ivD_u hD, ivD_u hD2, hX, ivZ_s hZ⟩
    · rw [bt_or, hpb k (by omega), bt_b1' _ _ (by omega), Bool.false_or]
      exact decide_eq_false (by omega)
    · obtain ⟨v1, v2, v3, v4, v5, v6, v7, v8, v9⟩ := hV
      refine ⟨fun l hl => ?_, fun l k hk => v2 l k (by omega), v3, v4, v5, fun j => ?_, fun j => ?_, v8, v9⟩
      · rcases v1 l hl with v | ⟨s, hs, v⟩
        · exact Or.inl v
        · exact Or.inr ⟨s, by omega, v⟩
      · rw [va_ap]
        split
        · exact zI_in (c := 99) (by decide) g.1 g.2.1
        · exact v6 j
      · rw [va_ap]
        split
        · exact zI_in (c := 9) (by decide) g.2.2.1 g.2.2.2.1
        · exact v7 j
    · obtain ⟨p1, p2, p3, p4, p5, p6, p7⟩ := hP
      refine ⟨p1, p2, p3, p4, p5, fun k hk => ?_, p7⟩
      obtain ⟨⟨s, a1, a2⟩, ⟨u, b1, b2⟩, d⟩ := p6 k hk
      exact ⟨⟨s, by omega, a2⟩, ⟨u, by omega, b2⟩, d⟩
  · rw [if_neg g, nM_state _ _ _ _ _ _ hm' h6, if_neg g]
    exact ⟨rfl, inv_t 0 h0⟩
theorem op_paper (h : inv c mo G I J) (e43 : I 118 = I 43) (x y : Int32) : Agr X 183 [some (.ref 0), some (.int x), some (.int y)] 268 [some (.ref 81), some (.int x), some (.int y)] (sM mo G I J) (Inv (c + 1)) := by
  have hv := inv_t 0 h
  obtain ⟨n, m, t, p, q, r, ch, ln, hN, hE, hV, hY, hG, hK, ⟨p1, p2, p3, ⟨f1, f2, f3, f4, f5, f6, f7, f8, f9, f10, f11⟩, p5, p6, p7⟩, hS, hA, hT, hF, hB, hC, hD, hD2, hX, hZ⟩ := h
  unfold Agr
  by_cases a : sIn x p
  · obtain ⟨i, hi, hi2, rfl⟩ := sIn_ex a
    have v60 : vp_in (zI i) 60 := sIn_vp (by omega) p3 a
    have hh := p7 i hi
    have hq : (I 42 i = -1 ∧ I 107 i = 1) ∨ (¬ I 42 i = -1 ∧ I 107 i = 0) := by
      rcases hh with hh | ⟨h1, ⟨f, hf, hf2⟩, -⟩
      · exact Or.inl ⟨hh.1, hh.2.1⟩
      · exact Or.inr ⟨by rw [hf2, zI_m1 (by omega)]; exact fun h => h, h1⟩
    have k2 : (¬ y < 0 ∧ ¬ 6 < y) → y = 0 ∨ y = 1 ∨ y = 2 ∨ y = 3 ∨ y = 4 ∨ y = 5 ∨ y = 6 := by
      intro hz
      obtain ⟨k, hk, rfl⟩ := zI_in (c := 6) (by decide) hz.1 hz.2
      have := (by decide : ∀ k : Fin 7, zI k.val = 0 ∨ zI k.val = 1 ∨ zI k.val = 2 ∨ zI k.val = 3 ∨ zI k.val = 4 ∨ zI k.val = 5 ∨ zI k.val = 6)
      exact this ⟨k, by omega⟩
    by_cases g : ¬ y < 0 ∧ ¬ 6 < y
    · rcases k2 g with rfl | rfl | rfl | rfl | rfl | rfl | rfl
      · rw [ct_House_paper]
        simp (decide := true) only [hPap_vp p1 p3, a, eq_true a, v60, if_true, if_false, true_and, ct_Model_paper, p2, vf_Model_isIn, zI_cn hi2]
        rcases hq with ⟨h1, h2⟩ | ⟨h1, h2⟩
        · simp (decide := true) only [h1, h2, if_true, if_false, hv, and_self]
        · simp (decide := true) only [h1, h2, if_true, if_false, hv, and_self]
      all_goals
        rw [ct_House_paper]
        simp (decide := true) only [hPap_vp p1 p3, a, eq_true a, v60, if_true, if_false, true_and, ct_Model_paper, p2, vf_Model_isIn, f1, f2, f3, f9, e43, f11, hv, and_self]
    · have n0 : ¬ y = 0 := fun e => g (by subst e; decide)
      have n1 : ¬ y = 1 := fun e => g (by subst e; decide)
      have n2 : ¬ y = 2 := fun e => g (by subst e; decide)
      have n3 : ¬ y = 3 := fun e => g (by subst e; decide)
      have n4 : ¬ y = 4 := fun e => g (by subst e; decide)
      have n5 : ¬ y = 5 := fun e => g (by subst e; decide)
      have n6 : ¬ y = 6 := fun e => g (by subst e; decide)
      rw [ct_House_paper]
      simp only [hPap_vp p1 p3, a, eq_true a, n0, n1, n2, n3, n4, n5, n6, if_true, if_false, ct_Model_paper, p2, vf_Model_isIn, g, not_true_eq_false, hv, and_self]
  · have : x < 0 ∨ zI p ≤ x := by
      rcases Classical.em (x < 0) with h | h
      · exact Or.inl h
      · rcases Classical.em (zI p ≤ x) with h2 | h2
        · exact Or.inr h2
        · exact absurd ⟨h, h2⟩ a
    rw [ct_House_paper]
    simp only [hPap_vp p1 p3, eq_false a, if_false, ct_Model_paper, p2]
    rcases this with e | e
    · simp only [e, if_true, hv, and_self]
    · simp only [e, if_true, hv, and_self]
      split <;> trivial
theorem op_paperW (h : inv c mo G I J) (x y : Int32) : AgW X 183 [some (.ref 0), some (.int x), some (.int y)] 268 [some (.ref 81), some (.int x), some (.int y)] (sM mo G I J) (Inv (c + 1)) := by
  have hv := inv_t 0 h
  obtain ⟨n, m, t, p, q, r, ch, ln, hN, hE, hV, hY, hG, hK, ⟨p1, p2, p3, ⟨f1, f2, f3, f4, f5, f6, f7, f8, f9, f10, f11⟩, p5, p6, p7⟩, hS, hA, hT, hF, hB, hC, hD, hD2, hX, hZ⟩ := h
  unfold AgW
  by_cases a : sIn x p
  · obtain ⟨i, hi, hi2, rfl⟩ := sIn_ex a
    have v60 : vp_in (zI i) 60 := sIn_vp (by omega) p3 a
    have hh := p7 i hi
    have hq : (I 42 i = -1 ∧ I 107 i = 1) ∨ (¬ I 42 i = -1 ∧ I 107 i = 0) := by
      rcases hh with hh | ⟨h1, ⟨f, hf, hf2⟩, -⟩
      · exact Or.inl ⟨hh.1, hh.2.1⟩
      · exact Or.inr ⟨by rw [hf2, zI_m1 (by omega)]; exact fun h => h, h1⟩
    have k2 : (¬ y < 0 ∧ ¬ 6 < y) → y = 0 ∨ y = 1 ∨ y = 2 ∨ y = 3 ∨ y = 4 ∨ y = 5 ∨ y = 6 := by
      intro hz
      obtain ⟨k, hk, rfl⟩ := zI_in (c := 6) (by decide) hz.1 hz.2
      have := (by decide : ∀ k : Fin 7, zI k.val = 0 ∨ zI k.val = 1 ∨ zI k.val = 2 ∨ zI k.val = 3 ∨ zI k.val = 4 ∨ zI k.val = 5 ∨ zI k.val = 6)
      exact this ⟨k, by omega⟩
    by_cases g : ¬ y < 0 ∧ ¬ 6 < y
    · rcases k2 g with rfl | rfl | rfl | rfl | rfl | rfl | rfl
      · rw [ct_House_paper]
        simp (decide := true) only [hPap_vp p1 p3, a, eq_true a, v60, if_true, if_false, true_and, ct_Model_paper, p2, vf_Model_isIn, zI_cn hi2]
        rcases hq with ⟨h1, h2⟩ | ⟨h1, h2⟩
        · simp (decide := true) only [h1, h2, if_true, if_false, hv, and_self]
        · simp (decide := true) only [h1, h2, if_true, if_false, hv, and_self]
      all_goals
        rw [ct_House_paper]
        simp (decide := true) only [hPap_vp p1 p3, a, eq_true a, v60, if_true, if_false, true_and, ct_Model_paper, p2, vf_Model_isIn, f1, f2, f3, f9, f10, f11, hv, and_self]
    · have n0 : ¬ y = 0 := fun e => g (by subst e; decide)
      have n1 : ¬ y = 1 := fun e => g (by subst e; decide)
      have n2 : ¬ y = 2 := fun e => g (by subst e; decide)
      have n3 : ¬ y = 3 := fun e => g (by subst e; decide)
      have n4 : ¬ y = 4 := fun e => g (by subst e; decide)
      have n5 : ¬ y = 5 := fun e => g (by subst e; decide)
      have n6 : ¬ y = 6 := fun e => g (by subst e; decide)
      rw [ct_House_paper]
      simp only [hPap_vp p1 p3, a, eq_true a, n0, n1, n2, n3, n4, n5, n6, if_true, if_false, ct_Model_paper, p2, vf_Model_isIn, g, not_true_eq_false, hv, and_self]
  · have : x < 0 ∨ zI p ≤ x := by
      rcases Classical.em (x < 0) with h | h
      · exact Or.inl h
      · rcases Classical.em (zI p ≤ x) with h2 | h2
        · exact Or.inr h2
        · exact absurd ⟨h, h2⟩ a
    rw [ct_House_paper]
    simp only [hPap_vp p1 p3, eq_false a, if_false, ct_Model_paper, p2]
    rcases this with e | e
    · simp only [e, if_true, hv, and_self]
    · simp only [e, if_true, hv, and_self]
      split <;> trivial
theorem kn_eq {p i j : Nat} (hp : I 31 0 = zI p) (h60 : p ≤ 60) (hi : i < p) (hj : j < 31) (f1 : I 108 = I 32) (f2 : I 109 = I 33) (f3 : I 110 = I 34) (f8 : I 116 = I 36) (hq : I 107 i = 1 ∨ (I 107 i = 0 ∧ I 36 i = 0)) : vf_Model_knownFrom (up2 I 81 2 0) (zI i) (zI j) = vf_Pap_knownDay I (zI i) (zI j) ∧ vc_Model_knownFrom (up2 I 81 2 0) (zI i) (zI j) := by
  have c60 : i < 60 := by omega
  unfold vf_Model_knownFrom vf_Pap_knownDay vc_Model_knownFrom
  simp (decide := true) only [up2_ra, up2_rn, va_ap, ne_eq, if_false, if_true, not_false_eq_true, f1, f2, f3, f8]
  simp (disch := first | omega | decide) only [zI_lt, zI_le, zI_eq, zI_cn, zI_vp, zI_add, zI_mul, zI_sub, zIl_add, zIr_add, zIl_mul, zIr_mul, zIr_sub, zIl_lt, zIr_lt, zIl_le, zIr_le, zIl_eq, zIr_eq, zI_sIn, zI_m1, zI_m1', Int32.add_zero, Int32.or_zero, hb_bt, sb_1, hPap_vp hp h60, hi, c60, if_true, true_and]
  have b0 := bt_0 j
  rcases hq with h | ⟨h, h2⟩
  · simp (decide := true) only [h, if_true, if_false]
    grind
  · simp (decide := true) only [h, h2, b0, if_true, if_false]
    grind
theorem ivP_q {p n m t : Nat} {a0 b0 : Int32} {r32 r33 r34 r35 r36 r37 r38 r39 r40 r41 r42 r43 r44 q107 q108 q109 q110 q111 q112 q113 q114 q115 q116 q117 q118 q119 : Nat → Int32} (h : ivP p n m t a0 b0 r32 r33 r34 r35 r36 r37 r38 r39 r40 r41 r42 r43 r44 q107 q108 q109 q110 q111 q112 q113 q114 q115 q116 q117 q118 q119) {i : Nat} (hi : i < p) : (r42 i = -1 ∧ q107 i = 1) ∨ (¬ r42 i = -1 ∧ q107 i = 0 ∧ r36 i = 0 ∧ r35 i = 0) := by
  rcases h.2.2.2.2.2.2 i hi with hh | ⟨h1, ⟨f, hf, hf2⟩, h3, h4, -⟩
  · exact Or.inl ⟨hh.1, hh.2.1⟩
  · exact Or.inr ⟨by rw [hf2, zI_m1 (by omega)]; exact fun h => h, h1, h4, h3⟩
theorem op_known (h : inv c mo G I J) (x y : Int32) : Agr X 186 [some (.ref 0), some (.int x), some (.int y), none] 271 [some (.ref 81), some (.int x), some (.int y), none] (sM mo G I J) (Inv (c + 1)) := by
  have hv := inv_t 0 h
  obtain ⟨n, m, t, p, q, r, ch, ln, ⟨hn, hn', h12, hm, hm', h6, hp, hpb, ht, ht', h300⟩, hE, hV, hY, hG, hK, hP, hS, hA, hT, hF, hB, hC, hD, hD2, hX, hZ⟩ := h
  have hP0 := hP
  obtain ⟨p1, p2, p3, ⟨f1, f2, f3, f4, f5, f6, f7, f8, f9, f10, f11⟩, p5, p6, p7⟩ := hP0
  unfold Agr
  rw [ct_House_known]
  simp only [hPap_vp p1 p3, hState_vp hm h6]
  by_cases a : sIn x p
  · obtain ⟨i, hi, hi2, rfl⟩ := sIn_ex a
    by_cases b : sIn y m
    · obtain ⟨j, hj, hj2, rfl⟩ := sIn_ex b
      have hq : I 107 i = 1 ∨ (I 107 i = 0 ∧ I 36 i = 0) := by
        rcases ivP_q hP hi with w | w
        · exact Or.inl w.2
        · exact Or.inr ⟨w.2.1, w.2.2.1⟩
      obtain ⟨k1, k2⟩ := kn_eq (j := j) p1 p3 hi (by omega) f1 f2 f3 f8 hq
      simp only [a, b, eq_true a, eq_true b, not_true_eq_false, if_true, if_false, ct_Model_known, mS0 hm' h6, p2, k1, eq_true k2, true_and, ht, ht']
      by_cases g : zI t < vf_Pap_knownDay I (zI i) (zI j)
      · have g2 : ¬ vf_Pap_knownDay I (zI i) (zI j) ≤ zI t := by grind
        simp only [g, g2, if_true, if_false, hv, and_self]
      · have g2 : vf_Pap_knownDay I (zI i) (zI j) ≤ zI t := by grind
        simp only [g, g2, if_true, if_false, hv, and_self]
    · simp only [a, eq_true a, eq_false b, not_true_eq_false, if_true, if_false, ct_Model_known, mS0 hm' h6, p2, hv, and_self]
  · have : x < 0 ∨ zI p ≤ x := by
      rcases Classical.em (x < 0) with h | h
      · exact Or.inl h
      · rcases Classical.em (zI p ≤ x) with h2 | h2
        · exact Or.inr h2
        · exact absurd ⟨h, h2⟩ a
    simp only [eq_false a, not_false_eq_true, if_true, ct_Model_known, p2]
    rcases this with e | e
    · simp only [e, if_true, hv, and_self]
    · simp only [e, if_true, hv, and_self]
      split <;> trivial
end O2
end
section
/-! Lands that change hands: hold, way; claims; articles' words. -/
def gvC (I : Nat → Nat → Int32) (l w : Nat) (y z : Int32) : Nat → Nat → Int32 := up2 (up2 (up2 (up2 (up2 (up2 I 7 (l * 80 + w) y) 8 (l * 80 + w) (I 1 3)) 9 (l * 80 + w) z) 6 l (zI (w + 1))) 4 l y) 1 4 (I 1 4 + 1)
def gvM (I : Nat → Nat → Int32) (l w : Nat) (y z : Int32) : Nat → Nat → Int32 := up2 (up2 (up2 (up2 (up2 I 85 l y) 88 (300 * l + 3 * w) y) 88 (300 * l + 3 * w + 1) (I 81 16)) 88 (300 * l + 3 * w + 2) z) 87 l (zI (w + 1))
theorem nBound_le (p : Nat) (f : Nat → Int32) : nBound p f ≤ p := by
  unfold nBound
  exact up_ind (fun k a => a ≤ k) (Nat.le_refl _) (fun k _ x hx => by split <;> omega) p (Nat.le_refl _)
section O1
variable (X : (Nat → Int32) × Nat) (mo : Bool) (G : Nat × Nat) (I : Nat → Nat → Int32) (J : Nat → Nat → Int64) (Q : Option Value → sm_M → Prop)
theorem ct_give {n l w : Nat} (hn : I 1 0 = zI n) (h12 : n ≤ 12) (hl : l < n) (hw : I 6 l = zI w) (h80 : w < 80) (y z : Int32) : sm_wp X 97 0 [some (.ref 1), some (.int (zI l)), some (.int y), some (.int z), none, none] [] (sM mo G I J) Q = Q none (sM mo G (gvC I l w y z) J) := by
  rw [ct_Realm_giveLand]
  simp only [hLand_vp hn h12]
  simp (disch := first | omega | decide) only [zI_lt, zI_le, zI_eq, zI_cn, zI_vp, zI_add, zI_mul, zI_sub, zIl_add, zIr_add, zIl_mul, zIr_mul, zIr_sub, zIl_lt, zIr_lt, zIl_le, zIr_le, zIl_eq, zIr_eq, zI_sIn, zI_m1, zI_m1', Int32.add_zero, Int32.or_zero, hw]
  have a : ¬ 80 ≤ w := by omega
  have b : l * 80 + w < 960 := by omega
  have d : l < 12 := by omega
  simp only [a, b, d, hl, Nat.not_lt_zero, if_true, if_false, true_and]
  rfl
theorem ct_comes {l w : Nat} (hl : l < 12) (hw : I 87 l = zI w) (h80 : w < 100) (y z : Int32) : sm_wp X 217 0 [some (.ref 81), some (.int (zI l)), some (.int y), some (.int z), none] [] (sM mo G I J) Q = Q none (sM mo G (gvM I l w y z) J) := by
  rw [ct_Model_comesTo]
  simp (disch := first | omega | decide) only [zI_lt, zI_le, zI_eq, zI_cn, zI_vp, zI_add, zI_mul, zI_sub, zIl_add, zIr_add, zIl_mul, zIr_mul, zIr_sub, zIl_lt, zIr_lt, zIl_le, zIr_le, zIl_eq, zIr_eq, zI_sIn, zI_m1, zI_m1', Int32.add_zero, Int32.or_zero, hw]
  have a : 300 * l + 3 * w < 3600 := by omega
  have b : 300 * l + 3 * w + 1 < 3600 := by omega
  have d : 300 * l + 3 * w + 2 < 3600 := by omega
  simp only [a, b, d, hl, true_and]
  rfl
theorem nH_hold {n m l w : Nat} (hn : I 1 0 = zI n) (h12 : n ≤ 12) (hm : I 1 1 = zI m) (h6 : m ≤ 6) (hl : l < n) (hw : I 6 l = zI w) (h80 : w ≤ 80) (y : Int32) : sm_wp X 174 0 [some (.ref 0), some (.int (zI l)), some (.int y)] [] (sM mo G I J) Q = if (y = -1 ∨ (sIn y m ∧ bt (I 1 2) y.toNatClampNeg = true)) ∧ ¬ I 4 l = y ∧ w < 20 then Q (some (.int 1)) (sM mo G (gvC I l w y (-1)) J) else Q (some (.int 0)) (sM mo G I J) := by
  rw [ct_House_hold]
  simp only [aLand, hLand_vp hn h12, hPres_vp hm h6]
  have d : l < 12 := by omega
  simp (disch := first | omega | decide) only [zI_lt, zI_le, zI_eq, zI_cn, zI_vp, zI_add, zI_mul, zI_sub, zIl_add, zIr_add, zIl_mul, zIr_mul, zIr_sub, zIl_lt, zIr_lt, zIl_le, zIr_le, zIl_eq, zIr_eq, zI_sIn, zI_m1, zI_m1', Int32.add_zero, Int32.or_zero, hw, hl, d, if_true, not_true_eq_false, if_false, true_and]
  by_cases k : w < 20
  · have a : ¬ 80 ≤ w := by omega
    have b : l * 80 + w < 960 := by omega
    simp only [a, b, k, Nat.not_lt_zero, if_true, if_false, true_and, and_true]
    by_cases k1 : y = -1
    · subst k1
      simp only [if_true, true_or, true_and, gvC]
      grind
    · simp only [k1, if_false, false_or, gvC]
      grind
  · simp only [k, if_false, and_false, ite_self]
theorem nM_hold {n m l w : Nat} (hn : I 81 3 = zI n) (h12 : n ≤ 12) (hm : I 81 10 = zI m) (h6 : m ≤ 6) (hl : l < n) (hw : I 87 l = zI w) (h80 : w ≤ 80) (y : Int32) : sm_wp X 214 0 [some (.ref 81), some (.int (zI l)), some (.int y)] [] (sM mo G I J) Q = if (y = -1 ∨ (sIn y m ∧ bt (I 81 15) y.toNatClampNeg = true)) ∧ ¬ I 85 l = y ∧ w < 20 then Q (some (.int 1)) (sM mo G (gvM (up2 I 81 2 0) l w y (-1)) J) else Q (some (.int 0)) (sM mo G (up2 I 81 2 0) J) := by
  rw [ct_Model_hold]
  simp only [mL0 hn h12, mP0 hm h6]
  have a : 300 * l + 3 * w < 3600 := by omega
  have b : 300 * l + 3 * w + 1 < 3600 := by omega
  have d : 300 * l + 3 * w + 2 < 3600 := by omega
  have e : l < 12 := by omega
  simp (disch := first | omega | decide) only [zI_lt, zI_le, zI_eq, zI_cn, zI_vp, zI_add, zI_mul, zI_sub, zIl_add, zIr_add, zIl_mul, zIr_mul, zIr_sub, zIl_lt, zIr_lt, zIl_le, zIr_le, zIl_eq, zIr_eq, zI_sIn, zI_m1, zI_m1', Int32.add_zero, Int32.or_zero, hw, hl, a, b, d, e, if_true, not_true_eq_false, if_false, true_and]
  simp (decide := true) only [gvM, up2_ra, up2_rn, va_ap, ne_eq, if_false, if_true, not_false_eq_true]
  by_cases k1 : y = -1
  · subst k1
    simp only [if_true, true_or, true_and]
    grind
  · simp only [k1, if_false, false_or]
    grind
end O1
section O2
variable {X : (Nat → Int32) × Nat} {c : Nat} {mo : Bool} {G : Nat × Nat} {I : Nat → Nat → Int32} {J : Nat → Nat → Int64}
theorem op_hold (h : inv c mo G I J) (x y : Int32) : Agr X 174 [some (.ref 0), some (.int x), some (.int y)] 214 [some (.ref 81), some (.int x), some (.int y)] (sM mo G I J) (Inv (c + 1)) := by
  have h0 := h
  obtain ⟨n, m, t, p, q, r, ch, ln, hN, ⟨e2, e4, e5, e6, e10, e11, e12, e13⟩, hV, ⟨y1, y2, y3⟩, hG, hK, hP, hS, hA, hT, hF, hB, hC, hD, hD2, hX, hZ⟩ := h
  have hN0 := hN
  obtain ⟨hn, hn', h12, hm, hm', h6, hp, hpb, ht, ht', h300⟩ := hN0
  unfold Agr
  by_cases a : sIn x n
  · obtain ⟨i, hi, hi2, rfl⟩ := sIn_ex a
    obtain ⟨w, hw, hw2⟩ := y2 i
    have hb := nBound_le p (I 42)
    have hp60 := hP.2.2.1
    have e4i : I 85 i = I 4 i := by rw [e4]
    rw [nH_hold _ _ _ _ _ _ hn h12 hm h6 hi hw (by omega)]
    by_cases g : (y = -1 ∨ (sIn y m ∧ bt (I 1 2) y.toNatClampNeg = true)) ∧ ¬ I 4 i = y ∧ w < 20
    · rw [if_pos g, nM_hold _ _ _ _ _ _ (n := n) (m := m) (w := w) (by simp (decide := true) only [gvC, up2_ra, up2_rn, va_ap, ne_eq, if_false, if_true, not_false_eq_true]; exact hn') h12 (by simp (decide := true) only [gvC, up2_ra, up2_rn, va_ap, ne_eq, if_false, if_true, not_false_eq_true]; exact hm') h6 hi (by simp (decide := true) only [gvC, up2_ra, up2_rn, va_ap, ne_eq, if_false, if_true, not_false_eq_true]; rw [e6, hw]) (by omega), if_pos (by simp (decide := true) only [gvC, up2_ra, up2_rn, va_ap, ne_eq, if_false, if_true, not_false_eq_true]; rw [hp, e4]; exact g)]
      refine ⟨rfl, mo, G, _, _, rfl, n, m, t, p, q, r, ch + 1, ln, ?_⟩
      simp (decide := true) only [gvC, gvM, up2_ra, up2_rn, va_ap, ne_eq, if_false, if_true, not_false_eq_true]
      refine ⟨hN, ⟨e2, by rw [e4], e5, by rw [e6], e10, e11, e12, e13⟩, ?_, ?_, hG, ivK_u hK, hP, hS, hA, hT, hF, hB, ivC_u hC, ivD_u hD, ivD_u hD2, hX, ivZ_s hZ⟩
      · obtain ⟨v1, v2⟩ := hV
        refine ⟨fun l hl => ?_, v2⟩
        rw [va_ap]
        split
        · rcases g.1 with rfl | ⟨g1, -⟩
          · exact Or.inl rfl
          · obtain ⟨s, hs, -, rfl⟩ := sIn_ex g1
            exact Or.inr ⟨s, hs, rfl⟩
        · exact v1 l hl
      · refine ⟨fun l hl => ?_, fun l => ?_, fun l hl k hk => ?_⟩
        · rw [va_ap, if_neg (by omega)]
          exact y1 l hl
        · rw [va_ap]
          split
          · exact ⟨w + 1, rfl, by omega⟩
          · exact y2 l
        · have := y3 l hl k hk
          simp only [va_ap]
          have c1 : (80 * l + k = i * 80 + w) = (l = i ∧ k = w) := by apply propext; omega
          have c2 : (300 * l + 3 * k = 300 * i + 3 * w) = (l = i ∧ k = w) := by apply propext; omega
          have c3 : (300 * l + 3 * k = 300 * i + 3 * w + 1) = False := eq_false (by omega)
          have c4 : (300 * l + 3 * k = 300 * i + 3 * w + 2) = False := eq_false (by omega)
          have c5 : (300 * l + 3 * k + 1 = 300 * i + 3 * w) = False := eq_false (by omega)
          have c6 : (300 * l + 3 * k + 1 = 300 * i + 3 * w + 1) = (l = i ∧ k = w) := by apply propext; omega
          have c7 : (300 * l + 3 * k + 1 = 300 * i + 3 * w + 2) = False := eq_false (by omega)
          have c8 : (300 * l + 3 * k + 2 = 300 * i + 3 * w) = False := eq_false (by omega)
          have c9 : (300 * l + 3 * k + 2 = 300 * i + 3 * w + 1) = False := eq_false (by omega)
          have c0 : (300 * l + 3 * k + 2 = 300 * i + 3 * w + 2) = (l = i ∧ k = w) := by apply propext; omega
          simp only [c1, c2, c3, c4, c5, c6, c7, c8, c9, c0, if_false, ht, ht']
          grind
    · rw [if_neg g, nM_hold _ _ _ _ _ _ (n := n) (m := m) (w := w) hn' h12 hm' h6 hi (by rw [e6, hw]) (by omega), if_neg (by rw [hp, e4]; exact g)]
      exact ⟨rfl, inv_t 0 h0⟩
  · rw [ct_House_hold, if_pos (by rw [hLand_vp hn h12]; exact a), ct_Model_hold, if_pos (by rw [mL0 hn' h12]; exact a)]
    exact ⟨rfl, inv_t 0 h0⟩
theorem op_way (h : inv c mo G I J) (x y z : Int32) : Agr X 203 [some (.ref 0), some (.int x), some (.int y), some (.int z)] 307 [some (.ref 81), some (.int x), some (.int y), some (.int z)] (sM mo G I J) (Inv (c + 1)) := by
  have hv := inv_t 0 h
  obtain ⟨n, m, t, p, q, r, ch, ln, ⟨hn, hn', h12, -⟩, ⟨-, -, -, e6, -⟩, hV, ⟨y1, y2, y3⟩, hG, hK, hP, hS, hA, hT, hF, hB, hC, hD, hD2, hX, hZ⟩ := h
  unfold Agr
  rw [ct_House_way]
  simp only [ct_Model_way, hLand_vp hn h12, mL0 hn' h12, e6]
  by_cases a : sIn x n
  · obtain ⟨i, hi, hi2, rfl⟩ := sIn_ex a
    obtain ⟨w, hw, hw2⟩ := y2 i
    have hb := nBound_le p (I 42)
    have hp60 := hP.2.2.1
    have h12' : i < 12 := by omega
    by_cases y0 : y < 0
    · simp only [y0, if_true]
      grind
    · obtain ⟨k, hk, rfl⟩ := zI_of y0
      by_cases kw : k < w
      · have hy := y3 i h12' k (by omega)
        have z1 : (¬ z < 0 ∧ ¬ 2 < z) = (z = 0 ∨ z = 1 ∨ z = 2) := by
          apply propext
          constructor
          · intro g
            obtain ⟨s, hs, rfl⟩ := zI_in (c := 2) (by decide) g.1 g.2
            match s, hs with
            | 0, _ => exact Or.inl rfl
            | 1, _ => exact Or.inr (Or.inl rfl)
            | 2, _ => exact Or.inr (Or.inr rfl)
          · rintro (rfl | rfl | rfl) <;> decide
        have b0 : i * 80 + k = 80 * i + k := by omega
        have b1 : ¬ w ≤ k := by omega
        have b2 : k < 80 := by omega
        have b3 : 80 * i + k < 960 := by omega
        have b4 : 300 * i + 3 * k < 3600 := by omega
        have b5 : 300 * i + 3 * k + 1 < 3600 := by omega
        have b6 : 300 * i + 3 * k + 2 < 3600 := by omega
        simp (disch := first | omega | decide) only [zI_lt, zI_le, zI_eq, zI_cn, zI_vp, zI_add, zI_mul, zI_sub, zIl_add, zIr_add, zIl_mul, zIr_mul, zIr_sub, zIl_lt, zIr_lt, zIl_le, zIr_le, zIl_eq, zIr_eq, zI_sIn, zI_m1, zI_m1', Int32.add_zero, Int32.or_zero, hw, vf_Model_isIn, z1, b0, b1, b2, b3, hi, h12', if_true, if_false, true_and, not_true_eq_false, Nat.not_lt_zero]
        by_cases g : z = 0 ∨ z = 1 ∨ z = 2
        · rcases g with rfl | rfl | rfl
          · simp (decide := true) (disch := first | omega | decide) only [zI_lt, zI_le, zI_eq, zI_cn, zI_vp, zI_add, zI_mul, zI_sub, zIl_add, zIr_add, zIl_mul, zIr_mul, zIr_sub, zIl_lt, zIr_lt, zIl_le, zIr_le, zIl_eq, zIr_eq, zI_sIn, zI_m1, zI_m1', Int32.add_zero, Int32.or_zero, Nat.add_zero, b4, hy, hv, if_true, true_and, true_or, and_self]
          · simp (decide := true) (disch := first | omega | decide) only [zI_lt, zI_le, zI_eq, zI_cn, zI_vp, zI_add, zI_mul, zI_sub, zIl_add, zIr_add, zIl_mul, zIr_mul, zIr_sub, zIl_lt, zIr_lt, zIl_le, zIr_le, zIl_eq, zIr_eq, zI_sIn, zI_m1, zI_m1', Int32.add_zero, Int32.or_zero, b5, hy, hv, if_true, if_false, true_and, true_or, or_true, and_self]
          · simp (decide := true) (disch := first | omega | decide) only [zI_lt, zI_le, zI_eq, zI_cn, zI_vp, zI_add, zI_mul, zI_sub, zIl_add, zIr_add, zIl_mul, zIr_mul, zIr_sub, zIl_lt, zIr_lt, zIl_le, zIr_le, zIl_eq, zIr_eq, zI_sIn, zI_m1, zI_m1', Int32.add_zero, Int32.or_zero, b6, hy, hv, if_true, if_false, true_and, true_or, or_true, and_self]
        · grind
      · have b1 : w ≤ k := by omega
        simp (disch := first | omega | decide) only [zI_lt, zI_le, zI_eq, zI_cn, zI_vp, zI_add, zI_mul, zI_sub, zIl_add, zIr_add, zIl_mul, zIr_mul, zIr_sub, zIl_lt, zIr_lt, zIl_le, zIr_le, zIl_eq, zIr_eq, zI_sIn, zI_m1, zI_m1', Int32.add_zero, Int32.or_zero, hw, b1, hi, h12', if_true, if_false, true_and, not_true_eq_false, Nat.not_lt_zero]
        exact hv
  · rw [if_pos a, if_pos a]
    exact ⟨trivial, hv⟩
end O2
end
section
/-! Claims and articles. -/
theorem bt_nat {x : Int32} {m : Nat} (hm : m ≤ 31) (h : ∀ k, m ≤ k → bt x k = false) : ∃ k, k < 2 ^ m ∧ x = zI k := by
  refine ⟨(x.toBitVec.setWidth m).toNat, BitVec.isLt _, ?_⟩
  apply bt_ext
  intro i hi
  have e : bt (zI (x.toBitVec.setWidth m).toNat) i = (decide (i < 32) && (x.toBitVec.setWidth m).toNat.testBit i) := by
    unfold bt zI
    exact BitVec.getLsbD_ofNat _ _ _
  rw [e, BitVec.testBit_toNat, BitVec.getLsbD_setWidth]
  by_cases g : i < m
  · simp [hi, g, bt]
  · rw [h i (by omega)]
    simp [g]
theorem bc_64 : ∀ k : Fin 64, vf_Integer_bitCount (zI k.val) = zI (pc6 (zI k.val)) ∧ popc (zI k.val) = zI (pc6 (zI k.val)) ∧ pc6 (zI k.val) ≤ 6 := by decide +kernel
theorem bx_64 : ∀ (k : Fin 64) (j : Fin 6), (bt (zI k.val) j.val = true → pc6 (zI k.val ^^^ b1 j.val) ≤ pc6 (zI k.val)) ∧ pc6 (zI k.val ^^^ b1 j.val) ≤ pc6 (zI k.val) + 1 := by decide +kernel
theorem bc_6 {x : Int32} (h : ∀ k, 6 ≤ k → bt x k = false) : vf_Integer_bitCount x = zI (pc6 x) ∧ popc x = zI (pc6 x) ∧ pc6 x ≤ 6 := by
  obtain ⟨k, hk, rfl⟩ := bt_nat (by decide) h
  exact bc_64 ⟨k, hk⟩
theorem bx_6 {x : Int32} (h : ∀ k, 6 ≤ k → bt x k = false) {j : Nat} (hj : j < 6) : (bt x j = true → pc6 (x ^^^ b1 j) ≤ pc6 x) ∧ pc6 (x ^^^ b1 j) ≤ pc6 x + 1 := by
  obtain ⟨k, hk, rfl⟩ := bt_nat (by decide) h
  exact bx_64 ⟨k, hk⟩ ⟨j, hj⟩
theorem nar_z {z : Int32} (h : z = 0 ∨ z = 1) : vp_nar .boolean z = z := by
  rcases h with rfl | rfl <;> decide
section O1
variable (X : (Nat → Int32) × Nat) (mo : Bool) (G : Nat × Nat) (I : Nat → Nat → Int32) (J : Nat → Nat → Int64) (Q : Option Value → sm_M → Prop)
theorem nH_claim {n m i j : Nat} (hn : I 1 0 = zI n) (h12 : n ≤ 12) (hm : I 1 1 = zI m) (h6 : m ≤ 6) (hi : i < n) (hj : j < m) (hb : ∀ k, 6 ≤ k → bt (I 5 i) k = false) (z : Int32) (hz : z = 0 ∨ z = 1) : sm_wp X 175 0 [some (.ref 0), some (.int (zI i)), some (.int (zI j)), some (.int z), none] [] (sM mo G I J) Q = if bi (bt (I 5 i) j = true) = z ∨ (z = 1 ∧ ¬ pc6 (I 5 i) < 3) then Q (some (.int 0)) (sM mo G I J) else Q (some (.int 1)) (sM mo G (up2 (up2 I 5 i (I 5 i ^^^ b1 j)) 1 4 (I 1 4 + 1)) J) := by
  rw [ct_House_claim]
  obtain ⟨b1', b2, b3⟩ := bc_6 hb
  simp only [aLand, hLand_vp hn h12, hState_vp hm h6]
  simp (disch := first | omega | decide) only [zI_lt, zI_le, zI_eq, zI_cn, zI_vp, zI_add, zI_mul, zI_sub, zIl_add, zIr_add, zIl_mul, zIr_mul, zIr_sub, zIl_lt, zIr_lt, zIl_le, zIr_le, zIl_eq, zIr_eq, zI_sIn, zI_m1, zI_m1', Int32.add_zero, Int32.or_zero, hi, hj, if_true, not_true_eq_false, if_false, hb_bt, b1']
  have d : i < 12 := by omega
  simp only [d, true_and]
  rcases hz with rfl | rfl <;> simp (decide := true) only [if_true, if_false, b1] <;> grind
theorem nM_claim {n m i j : Nat} (hn : I 81 3 = zI n) (h12 : n ≤ 12) (hm : I 81 10 = zI m) (h6 : m ≤ 6) (hi : i < n) (hj : j < m) (hb : ∀ k, 6 ≤ k → bt (I 86 i) k = false) (h3 : pc6 (I 86 i) ≤ 3) (z : Int32) (hz : z = 0 ∨ z = 1) : sm_wp X 218 0 [some (.ref 81), some (.int (zI i)), some (.int (zI j)), some (.int z)] [] (sM mo G I J) Q = if bi (bt (I 86 i) j = true) = z ∨ (z = 1 ∧ ¬ pc6 (I 86 i) < 3) then Q (some (.int 0)) (sM mo G (up2 I 81 2 0) J) else Q (some (.int 1)) (sM mo G (up2 (up2 I 81 2 0) 86 i (I 86 i ^^^ b1 j)) J) := by
  rw [lp_218_0]
  obtain ⟨b1', b2, b3⟩ := bc_6 hb
  simp only [mL0 hn h12, mS0 hm h6, ct_Mbits, tl_some, lp_218_57]
  simp (disch := first | omega | decide) only [zI_lt, zI_le, zI_eq, zI_cn, zI_vp, zI_add, zI_mul, zI_sub, zIl_add, zIr_add, zIl_mul, zIr_mul, zIr_sub, zIl_lt, zIr_lt, zIl_le, zIr_le, zIl_eq, zIr_eq, zI_sIn, zI_m1, zI_m1', Int32.add_zero, Int32.or_zero, hi, hj, if_true, not_true_eq_false, if_false, sb_1, b2]
  have d : i < 12 := by omega
  simp (decide := true) only [up2_ra, up2_rn, va_ap, ne_eq, if_false, if_true, not_false_eq_true]
  simp only [d, true_and]
  rcases hz with rfl | rfl <;> simp (decide := true) only [if_true, if_false, b1] <;> unfold bi <;> grind
end O1
section O2
variable {X : (Nat → Int32) × Nat} {c : Nat} {mo : Bool} {G : Nat × Nat} {I : Nat → Nat → Int32} {J : Nat → Nat → Int64}
theorem op_claim (h : inv c mo G I J) (x y z : Int32) (hz : z = 0 ∨ z = 1) : Agr X 175 [some (.ref 0), some (.int x), some (.int y), some (.int z), none] 218 [some (.ref 81), some (.int x), some (.int y), some (.int z)] (sM mo G I J) (Inv (c + 1)) := by
  have hv := inv_t 0 h
  obtain ⟨n, m, t, p, q, r, ch, ln, hN, ⟨e2, e4, e5, e6, e10, e11, e12, e13⟩, hV, hY, hG, hK, hP, hS, hA, hT, hF, hB, hC, hD, hD2, hX, hZ⟩ := h
  have hN0 := hN
  obtain ⟨hn, hn', h12, hm, hm', h6, -⟩ := hN0
  obtain ⟨v1, v2, v3, v4, v5⟩ := hV
  unfold Agr
  by_cases a : sIn x n
  · obtain ⟨i, hi, hi2, rfl⟩ := sIn_ex a
    by_cases b : sIn y m
    · obtain ⟨j, hj, hj2, rfl⟩ := sIn_ex b
      have hb : ∀ k, 6 ≤ k → bt (I 5 i) k = false := fun k hk => v2 i k (by omega)
      rw [nH_claim _ _ _ _ _ _ hn h12 hm h6 hi hj hb z hz]
      by_cases g : bi (bt (I 5 i) j = true) = z ∨ (z = 1 ∧ ¬ pc6 (I 5 i) < 3)
      · rw [if_pos g, nM_claim _ _ _ _ _ _ hn' h12 hm' h6 hi hj (by rw [e5]; exact hb) (by rw [e5]; exact v3 i) z hz, if_pos (by rw [e5]; exact g)]
        exact ⟨rfl, hv⟩
      · rw [if_neg g, nM_claim _ _ _ _ _ _ (n := n) (m := m) (by simp (decide := true) only [up2_ra, up2_rn, va_ap, ne_eq, if_false, if_true, not_false_eq_true]; exact hn') h12 (by simp (decide := true) only [up2_ra, up2_rn, va_ap, ne_eq, if_false, if_true, not_false_eq_true]; exact hm') h6 hi hj (by simp (decide := true) only [up2_ra, up2_rn, va_ap, ne_eq, if_false, if_true, not_false_eq_true]; rw [e5]; exact hb) (by simp (decide := true) only [up2_ra, up2_rn, va_ap, ne_eq, if_false, if_true, not_false_eq_true]; rw [e5]; exact v3 i) z hz, if_neg (by simp (decide := true) only [up2_ra, up2_rn, va_ap, ne_eq, if_false, if_true, not_false_eq_true]; rw [e5]; exact g)]
        refine ⟨rfl, mo, G, _, _, rfl, n, m, t, p, q, r, ch + 1, ln, ?_⟩
        simp (decide := true) only [up2_ra, up2_rn, va_ap, ne_eq, if_false, if_true, not_false_eq_true]
        refine ⟨hN, ⟨e2, e4, by rw [e5], e6, e10, e11, e12, e13⟩, ⟨v1, fun l k hk => ?_, fun l => ?_, fun l hl => ?_, v5⟩, hY, hG, ivK_u hK, hP, hS, hA, hT, hF, hB, ivC_u hC, ivD_u hD, ivD_u hD2, hX, ivZ_s hZ⟩
        · rw [va_ap]
          split
          · rw [bt_xor, v2 i k hk, bt_b1' _ _ (by omega), Bool.false_xor]
            exact decide_eq_false (by omega)
          · exact v2 l k hk
        · rw [va_ap]
          split
          · obtain ⟨w1, w2⟩ := bx_6 hb (j := j) (by omega)
            have := v3 i
            cases hbt : bt (I 5 i) j with
            | true =>
              have := w1 hbt
              omega
            | false =>
              have z1 : z = 1 := by
                rcases hz with rfl | rfl
                · exact absurd (Or.inl (bi_f (by rw [hbt]; decide))) g
                · rfl
              have : pc6 (I 5 i) < 3 := by
                apply Classical.byContradiction
                intro hh
                exact g (Or.inr ⟨z1, hh⟩)
              omega
          · exact v3 l
        · rw [va_ap, if_neg (by omega)]
          exact v4 l hl
    · rw [ct_House_claim, lp_218_0]
      simp only [hLand_vp hn h12, hState_vp hm h6, mL0 hn' h12, mS0 hm' h6, eq_true a, eq_false b, not_true_eq_false, not_false_eq_true, if_true, if_false]
      exact ⟨trivial, hv⟩
  · rw [ct_House_claim, lp_218_0]
    simp only [hLand_vp hn h12, mL0 hn' h12, eq_false a, not_false_eq_true, if_true]
    exact ⟨trivial, hv⟩
theorem op_reserve (h : inv c mo G I J) (x y z : Int32) (hz : z = 0 ∨ z = 1) : Agr X 198 [some (.ref 0), some (.int x), some (.int y), some (.int z)] 295 [some (.ref 81), some (.int x), some (.int y), some (.int z)] (sM mo G I J) (Inv (c + 1)) := by
  have hv := inv_t 0 h
  obtain ⟨n, m, t, p, q, r, ch, ln, hN, hE, hV, hY, hG, hK, hP, hS, ⟨hr, hr', h8, a1, a2, a3, a4⟩, hT, hF, hB, hC, hD, hD2, hX, hZ⟩ := h
  have hN0 := hN
  obtain ⟨hn, hn', h12, hm, hm', h6, hp, -⟩ := hN0
  unfold Agr
  have w : ∀ i j : Nat, i < 8 → Inv (c + 1) (sM mo G (up2 (up2 (up2 I 75 i (I 75 i ^^^ b1 j)) 81 2 0) 138 i (I 75 i ^^^ b1 j)) J) := by
    intro i j hi
    refine ⟨mo, G, _, _, rfl, n, m, t, p, q, r, ch, ln, ?_⟩
    simp (decide := true) only [up2_ra, up2_rn, va_ap, ne_eq, if_false, if_true, not_false_eq_true]
    exact ⟨hN, hE, hV, hY, hG, ivK_s hK, hP, hS, ⟨hr, hr', h8, a1, a2, by rw [a3], a4⟩, hT, hF, hB, hC, hD, hD2, hX, ivZ_s hZ⟩
  rw [ct_House_reserve]
  simp only [ct_Model_reserve, hArt_vp hr h8, hPres_vp hm h6]
  by_cases a : sIn x r
  · obtain ⟨i, hi, hi2, rfl⟩ := sIn_ex a
    have d : i < 8 := by omega
    by_cases b : sIn y m
    · obtain ⟨j, hj, hj2, rfl⟩ := sIn_ex b
      have w2 := w i j d
      simp only [mA0 hr' h8, mP0 hm' h6, mArt_vp (I := up2 (up2 I 75 (zI i).toNatClampNeg (I 75 (zI i).toNatClampNeg ^^^ (1 : Int32) <<< (zI j &&& 31))) 81 2 0) (n := r) (by simp (decide := true) only [up2_ra, up2_rn, va_ap, ne_eq, if_false, if_true, not_false_eq_true]; exact hr') h8, mPres_vp (I := up2 (up2 I 75 (zI i).toNatClampNeg (I 75 (zI i).toNatClampNeg ^^^ (1 : Int32) <<< (zI j &&& 31))) 81 2 0) (n := m) (by simp (decide := true) only [up2_ra, up2_rn, va_ap, ne_eq, if_false, if_true, not_false_eq_true]; exact hm') h6]
      simp (decide := true) only [up2_ra, up2_rn, va_ap, ne_eq, if_false, if_true, not_false_eq_true, hp, a3]
      simp (disch := first | omega | decide) only [zI_lt, zI_le, zI_eq, zI_cn, zI_vp, zI_add, zI_mul, zI_sub, zIl_add, zIr_add, zIl_mul, zIr_mul, zIr_sub, zIl_lt, zIr_lt, zIl_le, zIr_le, zIl_eq, zIr_eq, zI_sIn, zI_m1, zI_m1', Int32.add_zero, Int32.or_zero, hi, hj, d, if_true, not_true_eq_false, if_false, hb_bt, sb_1, true_and]
      unfold b1 at w2
      rcases hz with rfl | rfl <;> simp (decide := true) only [if_true, if_false, bi] <;> grind
    · simp only [mA0 hr' h8, mP0 hm' h6, eq_true a, eq_false b, not_true_eq_false, not_false_eq_true, if_true, if_false, false_and]
      exact ⟨trivial, hv⟩
  · simp only [mA0 hr' h8, a, not_false_eq_true, if_true]
    exact ⟨trivial, hv⟩
end O2
end
section
/-! draft, hang, has, count. -/
theorem wd_in {z : Int32} (z0 : ¬ z = 0) : vf_Model_isIn z 0 99 = (¬ z < 1 ∧ ¬ 99 < z) := by
  unfold vf_Model_isIn
  apply propext
  constructor
  · rintro ⟨h1, h2⟩
    exact ⟨fun h => z0 (by grind), h2⟩
  · rintro ⟨h1, h2⟩
    exact ⟨fun h => h1 (by grind), h2⟩
section O1
variable (X : (Nat → Int32) × Nat) (mo : Bool) (G : Nat × Nat) (I : Nat → Nat → Int32) (J : Nat → Nat → Int64) (Q : Option Value → sm_M → Prop)
theorem nH_draft {r m i j w : Nat} (hr : I 71 0 = zI r) (h8 : r ≤ 8) (hm : I 1 1 = zI m) (h6 : m ≤ 6) (hi : i < r) (hj : j < m) (hb : bt (I 1 2) j = true) (hw : I 72 (6 * i + j) = zI w) (hw8 : w ≤ 8) (z : Int32) : sm_wp X 196 0 [some (.ref 0), some (.int (zI i)), some (.int (zI j)), some (.int z)] [] (sM mo G I J) Q = if z = 0 then Q (some (.int 0)) (sM mo G (up2 I 72 (6 * i + j) 0) J) else if (¬ z < 1 ∧ ¬ 99 < z) ∧ w < 8 then Q (some (.int (zI (w + 1)))) (sM mo G (up2 (up2 I 73 (8 * (6 * i + j) + w) z) 72 (6 * i + j) (zI (w + 1))) J) else Q (some (.int (-1))) (sM mo G I J) := by
  rw [ct_House_draft]
  simp only [hArt_vp hr h8, hPres_vp hm h6, hState_vp hm h6]
  have hat : i * 6 + j = 6 * i + j := by omega
  have h48 : 6 * i + j < 48 := by omega
  have c1 : (6 * i + j) * 8 + w = 8 * (6 * i + j) + w := by omega
  simp (disch := first | omega | decide) only [zI_lt, zI_le, zI_eq, zI_cn, zI_vp, zI_add, zI_mul, zI_sub, zIl_add, zIr_add, zIl_mul, zIr_mul, zIr_sub, zIl_lt, zIr_lt, zIl_le, zIr_le, zIl_eq, zIr_eq, zI_sIn, zI_m1, zI_m1', Int32.add_zero, Int32.or_zero, hat, hw, c1, hi, hj, hb, h48, if_true, not_true_eq_false, if_false, true_and, and_self, Nat.not_lt_zero]
  by_cases z0 : z = 0
  · simp only [z0, not_true_eq_false, if_true, if_false]
  · by_cases zw : ¬ z < 1 ∧ ¬ 99 < z
    · by_cases w8 : w < 8
      · have c2 : 8 * (6 * i + j) + w < 384 := by omega
        simp only [z0, eq_true zw, w8, c2, not_true_eq_false, not_false_eq_true, if_true, if_false, true_and]
      · simp only [z0, eq_true zw, w8, not_true_eq_false, not_false_eq_true, if_true, if_false, true_and]
    · simp only [z0, eq_false zw, not_false_eq_true, if_true, if_false, false_and]
theorem nM_draft {r m i j w : Nat} (hr : I 81 81 = zI r) (h8 : r ≤ 8) (hm : I 81 10 = zI m) (h6 : m ≤ 6) (hi : i < r) (hj : j < m) (hb : bt (I 81 15) j = true) (hw : I 135 (6 * i + j) = zI w) (hw8 : w ≤ 8) (z : Int32) : sm_wp X 292 0 [some (.ref 81), some (.int (zI i)), some (.int (zI j)), some (.int z), none] [] (sM mo G I J) Q = if z = 0 then Q (some (.int 0)) (sM mo G (up2 (up2 I 81 2 0) 135 (6 * i + j) 0) J) else if (¬ z < 1 ∧ ¬ 99 < z) ∧ w < 8 then Q (some (.int (zI (w + 1)))) (sM mo G (up2 (up2 (up2 I 81 2 0) 136 (8 * (6 * i + j) + w) z) 135 (6 * i + j) (zI (w + 1))) J) else Q (some (.int (-1))) (sM mo G (up2 I 81 2 0) J) := by
  rw [ct_Model_draft]
  simp only [mA0 hr h8, mP0 hm h6]
  have h48 : 6 * i + j < 48 := by omega
  simp (disch := first | omega | decide) only [zI_lt, zI_le, zI_eq, zI_cn, zI_vp, zI_add, zI_mul, zI_sub, zIl_add, zIr_add, zIl_mul, zIr_mul, zIr_sub, zIl_lt, zIr_lt, zIl_le, zIr_le, zIl_eq, zIr_eq, zI_sIn, zI_m1, zI_m1', Int32.add_zero, Int32.or_zero, hw, hi, hj, hb, h48, if_true, not_true_eq_false, if_false, true_and, and_self, Nat.not_lt_zero]
  by_cases z0 : z = 0
  · subst z0
    simp (decide := true) only [vf_Model_isIn, if_true, if_false]
  · simp only [wd_in z0]
    by_cases zw : ¬ z < 1 ∧ ¬ 99 < z
    · by_cases w8 : w < 8
      · have c2 : 8 * (6 * i + j) + w < 384 := by omega
        have c3 : ¬ w = 8 := by omega
        simp only [z0, eq_true zw, w8, c2, c3, not_false_eq_true, if_true, if_false, true_and, up2_ra, va_ap]
      · have c3 : w = 8 := by omega
        simp only [z0, eq_true zw, w8, c3, Nat.lt_irrefl, not_true_eq_false, not_false_eq_true, if_true, if_false, true_and, and_false]
    · simp only [z0, eq_false zw, not_false_eq_true, if_true, if_false, false_and]
end O1
section O2
variable {X : (Nat → Int32) × Nat} {c : Nat} {mo : Bool} {G : Nat × Nat} {I : Nat → Nat → Int32} {J : Nat → Nat → Int64}
theorem op_hang (h : inv c mo G I J) (x y z : Int32) (hz : z = 0 ∨ z = 1) : Agr X 197 [some (.ref 0), some (.int x), some (.int y), some (.int z)] 294 [some (.ref 81), some (.int x), some (.int y), some (.int z)] (sM mo G I J) (Inv (c + 1)) := by
  have hv := inv_t 0 h
  obtain ⟨n, m, t, p, q, r, ch, ln, hN, hE, hV, hY, hG, hK, hP, hS, ⟨hr, hr', h8, a1, a2, a3, a4, a5, a6, a7⟩, hT, hF, hB, hC, hD, hD2, hX, hZ⟩ := h
  unfold Agr
  rw [ct_House_hang]
  simp only [ct_Model_hang, hArt_vp hr h8, nar_z hz]
  by_cases a : sIn x r
  · obtain ⟨i, hi, hi2, rfl⟩ := sIn_ex a
    have d : i < 8 := by omega
    by_cases b : sIn y r
    · obtain ⟨j, hj, hj2, rfl⟩ := sIn_ex b
      have d2 : j < 8 := by omega
      have d3 : 8 * i + j < 64 := by omega
      have hh := a6 i d j d2
      have h01 := a5 (8 * i + j)
      have w2 : bi (bt (I 74 i) j = true) ≠ z → Inv (c + 1) (sM mo G (up2 (up2 (up2 I 74 i (I 74 i ^^^ b1 j)) 81 2 0) 137 (8 * i + j) z) J) := by
        intro hne
        refine ⟨mo, G, _, _, rfl, n, m, t, p, q, r, ch, ln, ?_⟩
        simp (decide := true) only [up2_ra, up2_rn, va_ap, ne_eq, if_false, if_true, not_false_eq_true]
        refine ⟨hN, hE, hV, hY, hG, ivK_s hK, hP, hS, ⟨hr, hr', h8, a1, a2, a3, a4, fun k => ?_, fun e he f hf => ?_, fun e f hf => ?_⟩, hT, hF, hB, hC, hD, hD2, hX, ivZ_s hZ⟩
        · rw [va_ap]
          split
          · exact hz
          · exact a5 k
        · rw [va_ap, va_ap]
          have q1 : (8 * e + f = 8 * i + j) = (e = i ∧ f = j) := by apply propext; omega
          simp only [q1]
          have w1 := bt_xor (I 74 i) (b1 j) f
          rw [bt_b1' _ _ (by omega)] at w1
          have w3 := a6 e he f hf
          unfold bi at hne
          grind
        · rw [va_ap]
          have w1 := bt_xor (I 74 i) (b1 j) f
          rw [bt_b1' _ _ (by omega), a7 i f hf] at w1
          have := a7 e f hf
          grind
      simp only [mA0 hr' h8, mArt_vp (I := up2 (up2 I 74 (zI i).toNatClampNeg (I 74 (zI i).toNatClampNeg ^^^ (1 : Int32) <<< (zI j &&& 31))) 81 2 0) (n := r) (by simp (decide := true) only [up2_ra, up2_rn, va_ap, ne_eq, if_false, if_true, not_false_eq_true]; exact hr') h8]
      simp (decide := true) only [up2_ra, up2_rn, va_ap, ne_eq, if_false, if_true, not_false_eq_true]
      simp (disch := first | omega | decide) only [zI_lt, zI_le, zI_eq, zI_cn, zI_vp, zI_add, zI_mul, zI_sub, zIl_add, zIr_add, zIl_mul, zIr_mul, zIr_sub, zIl_lt, zIr_lt, zIl_le, zIr_le, zIl_eq, zIr_eq, zI_sIn, zI_m1, zI_m1', Int32.add_zero, Int32.or_zero, hi, hj, d, d2, d3, if_true, not_true_eq_false, if_false, hb_bt, true_and]
      unfold b1 at w2
      unfold bi at *
      grind
    · simp only [mA0 hr' h8, eq_true a, eq_false b, not_true_eq_false, not_false_eq_true, if_true, if_false]
      exact ⟨trivial, hv⟩
  · simp only [mA0 hr' h8, a, not_false_eq_true, if_true]
    exact ⟨trivial, hv⟩
theorem op_draft (h : inv c mo G I J) (x y z : Int32) : Agr X 196 [some (.ref 0), some (.int x), some (.int y), some (.int z)] 292 [some (.ref 81), some (.int x), some (.int y), some (.int z), none] (sM mo G I J) (Inv (c + 1)) := by
  have hv := inv_t 0 h
  obtain ⟨n, m, t, p, q, r, ch, ln, hN, hE, hV, hY, hG, hK, hP, hS, ⟨hr, hr', h8, a1, a2, a3, a4, a5⟩, hT, hF, hB, hC, hD, hD2, hX, hZ⟩ := h
  have hN0 := hN
  obtain ⟨hn, hn', h12, hm, hm', h6, hp, -⟩ := hN0
  unfold Agr
  by_cases g : sIn x r ∧ sIn y m ∧ bt (I 1 2) y.toNatClampNeg = true
  · obtain ⟨i, hi, hi2, rfl⟩ := sIn_ex g.1
    obtain ⟨j, hj, hj2, rfl⟩ := sIn_ex g.2.1
    have hb := g.2.2
    rw [zI_cn hj2] at hb
    obtain ⟨w, hw8, hw⟩ := a4 (6 * i + j)
    rw [nH_draft _ _ _ _ _ _ hr h8 hm h6 hi hj hb hw hw8]
    by_cases z0 : z = 0
    · rw [if_pos z0, nM_draft _ _ _ _ _ _ (r := r) (m := m) (i := i) (j := j) (w := w) (by simp (decide := true) only [up2_ra, up2_rn, va_ap, ne_eq, if_false, if_true, not_false_eq_true]; exact hr') h8 (by simp (decide := true) only [up2_ra, up2_rn, va_ap, ne_eq, if_false, if_true, not_false_eq_true]; exact hm') h6 hi hj (by simp (decide := true) only [up2_ra, up2_rn, va_ap, ne_eq, if_false, if_true, not_false_eq_true]; rw [hp]; exact hb) (by simp (decide := true) only [up2_ra, up2_rn, va_ap, ne_eq, if_false, if_true, not_false_eq_true]; rw [a1]; exact hw) hw8, if_pos z0]
      refine ⟨rfl, mo, G, _, _, rfl, n, m, t, p, q, r, ch, ln, ?_⟩
      simp (decide := true) only [up2_ra, up2_rn, va_ap, ne_eq, if_false, if_true, not_false_eq_true]
      refine ⟨hN, hE, hV, hY, hG, ivK_s hK, hP, hS, ⟨hr, hr', h8, by rw [a1], a2, a3, fun k => ?_, a5⟩, hT, hF, hB, hC, hD, hD2, hX, ivZ_s hZ⟩
      rw [va_ap]
      split
      · exact ⟨0, by omega, rfl⟩
      · exact a4 k
    · by_cases zw : (¬ z < 1 ∧ ¬ 99 < z) ∧ w < 8
      · rw [if_neg z0, if_pos zw, nM_draft _ _ _ _ _ _ (r := r) (m := m) (i := i) (j := j) (w := w) (by simp (decide := true) only [up2_ra, up2_rn, va_ap, ne_eq, if_false, if_true, not_false_eq_true]; exact hr') h8 (by simp (decide := true) only [up2_ra, up2_rn, va_ap, ne_eq, if_false, if_true, not_false_eq_true]; exact hm') h6 hi hj (by simp (decide := true) only [up2_ra, up2_rn, va_ap, ne_eq, if_false, if_true, not_false_eq_true]; rw [hp]; exact hb) (by simp (decide := true) only [up2_ra, up2_rn, va_ap, ne_eq, if_false, if_true, not_false_eq_true]; rw [a1]; exact hw) hw8, if_neg z0, if_pos zw]
        refine ⟨rfl, mo, G, _, _, rfl, n, m, t, p, q, r, ch, ln, ?_⟩
        simp (decide := true) only [up2_ra, up2_rn, va_ap, ne_eq, if_false, if_true, not_false_eq_true]
        refine ⟨hN, hE, hV, hY, hG, ivK_s hK, hP, hS, ⟨hr, hr', h8, by rw [a1], by rw [a2], a3, fun k => ?_, a5⟩, hT, hF, hB, hC, hD, hD2, hX, ivZ_s hZ⟩
        rw [va_ap]
        split
        · exact ⟨w + 1, by omega, rfl⟩
        · exact a4 k
      · rw [if_neg z0, if_neg zw, nM_draft _ _ _ _ _ _ hr' h8 hm' h6 hi hj (by rw [hp]; exact hb) (by rw [a1]; exact hw) hw8, if_neg z0, if_neg zw]
        exact ⟨rfl, hv⟩
  · have e : sm_wp X 196 0 [some (.ref 0), some (.int x), some (.int y), some (.int z)] [] (sM mo G I J) (fun v M1 => sm_wp X 292 0 [some (.ref 81), some (.int x), some (.int y), some (.int z), none] [] M1 (fun w M2 => w = v ∧ Inv (c + 1) M2)) = sm_wp X 292 0 [some (.ref 81), some (.int x), some (.int y), some (.int z), none] [] (sM mo G I J) (fun w M2 => w = some (.int (-1)) ∧ Inv (c + 1) M2) := by
      rw [ct_House_draft]
      simp only [hArt_vp hr h8, hPres_vp hm h6]
      by_cases a : sIn x r
      · by_cases b : sIn y m ∧ bt (I 1 2) y.toNatClampNeg = true
        · exact absurd ⟨a, b⟩ g
        · simp only [eq_true a, eq_false b, not_true_eq_false, if_false]
      · simp only [eq_false a, not_false_eq_true, if_true]
    rw [e, ct_Model_draft]
    simp only [mA0 hr' h8, mP0 hm' h6, hp]
    by_cases a : sIn x r
    · by_cases b : sIn y m ∧ bt (I 1 2) y.toNatClampNeg = true
      · exact absurd ⟨a, b⟩ g
      · simp only [eq_true a, eq_false b, not_true_eq_false, not_false_eq_true, if_true, if_false, hv, and_self]
    · simp only [eq_false a, not_false_eq_true, if_true, hv, and_self]
end O2
end
section
/-! has, count, heard, leave. -/
def nKn (I : Nat → Nat → Int32) (s d w : Int32) (n : Nat) : Int32 := up (fun k a => if I 42 k = -1 ∧ I 35 k = w ∧ ¬ vf_Pap_knownDay I (zI k) s < 0 ∧ ¬ d < vf_Pap_knownDay I (zI k) s then a + 1 else a) n 0
section O1
variable (X : (Nat → Int32) × Nat) (mo : Bool) (G : Nat × Nat) (I : Nat → Nat → Int32) (J : Nat → Nat → Int64) (Q : Option Value → sm_M → Prop)
theorem ct_worthHeld {n : Nat} (hn : I 1 0 = zI n) (h12 : n ≤ 12) (s : Int32) : sm_wp X 111 0 [some (.ref 1), some (.int s)] [] (sM mo G I J) Q = Q (some (.int (wsum (I 13) s (hlds (I 4) s n) n))) (sM mo G I J) := by
  rw [lp_111_0, ct_landsHeld _ _ _ _ _ _ hn h12]
  simp only [tl_some]
  rw [lp_111_7, ct_worthOfLands _ _ _ _ _ _ hn h12]
  simp only [tl_some]
  rw [lp_111_10]
theorem nH_has {n m : Nat} (hn : I 1 0 = zI n) (h12 : n ≤ 12) (hm : I 1 1 = zI m) (h6 : m ≤ 6) (s : Int32) : sm_wp X 188 0 [some (.ref 0), some (.int s)] [] (sM mo G I J) Q = if sIn s m then Q (some (.int (wsum (I 13) s (hlds (I 4) s n) n))) (sM mo G I J) else Q (some (.int (-1))) (sM mo G I J) := by
  rw [lp_188_0, ct_worthHeld _ _ _ _ _ _ hn h12]
  simp only [tl_some, lp_188_19, hState_vp hm h6]
  by_cases g : sIn s m
  · simp only [eq_true g, not_true_eq_false, if_true, if_false]
  · simp only [eq_false g, not_false_eq_true, if_true, if_false]
theorem nM_has {n m : Nat} (hn : I 81 3 = zI n) (h12 : n ≤ 12) (hm : I 81 10 = zI m) (h6 : m ≤ 6) (s : Int32) : sm_wp X 222 0 [some (.ref 81), some (.int s)] [] (sM mo G I J) Q = if sIn s m then Q (some (.int (wsum (I 91) s (hlds (I 85) s n) n))) (sM mo G (up2 I 81 2 0) J) else Q (some (.int (-1))) (sM mo G (up2 I 81 2 0) J) := by
  rw [lp_222_0]
  simp only [mS0 hm h6]
  by_cases g : sIn s m
  · obtain ⟨k, hk, hk2, rfl⟩ := sIn_ex g
    simp only [eq_true g, not_true_eq_false, if_true, if_false]
    rw [ct_Mholdings _ _ _ _ _ _ (n := n) (by simp (decide := true) only [up2_ra, up2_rn, va_ap, ne_eq, if_false, if_true, not_false_eq_true]; exact hn) h12]
    simp only [tl_some]
    rw [lp_222_20, ct_MworthOf _ _ _ _ _ _ (n := n) (by simp (decide := true) only [up2_ra, up2_rn, va_ap, ne_eq, if_false, if_true, not_false_eq_true]; exact hn) h12 (by omega)]
    simp only [tl_some]
    rw [lp_222_23]
    simp (decide := true) only [up2_ra, up2_rn, va_ap, ne_eq, if_false, if_true, not_false_eq_true]
  · simp only [eq_false g, not_false_eq_true, if_true, if_false]
theorem ct_notes {p : Nat} (hp : I 31 0 = zI p) (h60 : p ≤ 60) (hk : ∀ k, k < p → ∃ j, I 34 k = zI j ∧ j ≤ 300) (s d w : Int32) : sm_wp X 85 0 [some (.ref 31), some (.int s), some (.int d), some (.int w), none, none, none] [] (sM mo G I J) Q = Q (some (.int (nKn I s d w p))) (sM mo G I J) := by
  rw [lp_85_0]
  have hd : ∀ k, k < p → (vf_Pap_knownDay I (zI k) s = -1) = (vf_Pap_knownDay I (zI k) s < 0) := by
    intro k hk1
    obtain ⟨j, hj, hj2⟩ := hk k hk1
    have z0 : ∀ e : Nat, e ≤ 301 → (zI e = -1) = (zI e < 0) := by
      intro e he
      simp (disch := first | omega | decide) only [zI_lt, zI_le, zI_eq, zI_cn, zI_vp, zI_add, zI_mul, zI_sub, zIl_add, zIr_add, zIl_mul, zIr_mul, zIr_sub, zIl_lt, zIr_lt, zIl_le, zIr_le, zIl_eq, zIr_eq, zI_sIn, zI_m1, zI_m1', Int32.add_zero, Int32.or_zero, Nat.not_lt_zero]
    have z1 : ((-1 : Int32) = -1) = ((-1 : Int32) < 0) := by decide
    have z2 := z0 j (by omega)
    have z3 := z0 (j + 1) (by omega)
    unfold vf_Pap_knownDay
    simp (disch := first | omega | decide) only [zI_lt, zI_le, zI_eq, zI_cn, zI_vp, zI_add, zI_mul, zI_sub, zIl_add, zIr_add, zIl_mul, zIr_mul, zIr_sub, zIl_lt, zIr_lt, zIl_le, zIr_le, zIl_eq, zIr_eq, zI_sIn, zI_m1, zI_m1', Int32.add_zero, Int32.or_zero, hj]
    grind
  refine (cnt (fun k b => sm_wp X 85 6 [some (.ref 31), some (.int s), some (.int d), some (.int w), some (.int b), some (.int (zI k)), none] [] (sM mo G I J) Q) (fun k a => if I 42 k = -1 ∧ I 35 k = w ∧ ¬ vf_Pap_knownDay I (zI k) s < 0 ∧ ¬ d < vf_Pap_knownDay I (zI k) s then a + 1 else a) 0 p ?_).trans ?_
  · intro k hk1
    have c60 : k < 60 := by omega
    have c61 : ¬ 60 ≤ k := by omega
    have c62 : ¬ p ≤ k := by omega
    rw [lp_85_6]
    simp only [hPap_vp hp h60, hd k hk1, hp]
    simp (disch := first | omega | decide) only [zI_lt, zI_le, zI_eq, zI_cn, zI_vp, zI_add, zI_mul, zI_sub, zIl_add, zIr_add, zIl_mul, zIr_mul, zIr_sub, zIl_lt, zIr_lt, zIl_le, zIr_le, zIl_eq, zIr_eq, zI_sIn, zI_m1, zI_m1', Int32.add_zero, Int32.or_zero, hk1, c60, c61, c62, if_true, if_false, true_and]
    grind
  · rw [lp_85_6]
    simp (disch := first | omega | decide) only [hp, zI_lt, zI_le, zI_eq, zI_cn, zI_vp, zI_add, zI_mul, zI_sub, zIl_add, zIr_add, zIl_mul, zIr_mul, zIr_sub, zIl_lt, zIr_lt, zIl_le, zIr_le, zIl_eq, zIr_eq, zI_sIn, zI_m1, zI_m1', Int32.add_zero, Int32.or_zero, Nat.le_refl, if_true]
    rfl
end O1
section O2
variable {X : (Nat → Int32) × Nat} {c : Nat} {mo : Bool} {G : Nat × Nat} {I : Nat → Nat → Int32} {J : Nat → Nat → Int64}
theorem op_has (h : inv c mo G I J) (x : Int32) : Agr X 188 [some (.ref 0), some (.int x)] 222 [some (.ref 81), some (.int x)] (sM mo G I J) (Inv (c + 1)) := by
  have hv := inv_t 0 h
  obtain ⟨n, m, t, p, q, r, ch, ln, hN, ⟨e2, e4, e5, e6, e10, e11, e12, e13⟩, hV, hY, hG, hK, hP, hS, hA, hT, hF, hB, hC, hD, hD2, hX, hZ⟩ := h
  obtain ⟨hn, hn', h12, hm, hm', h6, -⟩ := hN
  unfold Agr
  rw [nH_has _ _ _ _ _ _ hn h12 hm h6, nM_has _ _ _ _ _ _ hn' h12 hm' h6, nM_has _ _ _ _ _ _ hn' h12 hm' h6, e4, e13]
  by_cases g : sIn x m
  · simp only [eq_true g, if_true, hv, and_self]
  · simp only [eq_false g, if_false, hv, and_self]
theorem op_heard (h : inv c mo G I J) (x y z : Int32) : Agr X 187 [some (.ref 0), some (.int x), some (.int y), some (.int z)] 273 [some (.ref 81), some (.int x), some (.int y), some (.int z), none, none, none] (sM mo G I J) (Inv (c + 1)) := by
  have hv := inv_t 0 h
  obtain ⟨n, m, t, p, q, r, ch, ln, ⟨hn, hn', h12, hm, hm', h6, hp, hpb, ht, ht', h300⟩, hE, hV, hY, hG, hK, hP, hS, hA, hT, hF, hB, hC, hD, hD2, hX, hZ⟩ := h
  have hP0 := hP
  obtain ⟨p1, p2, p3, ⟨f1, f2, f3, f4, f5, f6, f7, f8, f9, f10, f11⟩, p5, p6, p7⟩ := hP0
  unfold Agr
  have hk : ∀ k, k < p → ∃ j, I 34 k = zI j ∧ j ≤ 300 := fun k hk => by
    obtain ⟨-, -, d, hd, e⟩ := p6 k hk
    exact ⟨d, e, by omega⟩
  have hM : sIn x m → ∀ Q : Option Value → sm_M → Prop, sm_wp X 273 43 [some (.ref 81), some (.int x), some (.int y), some (.int z), some (.int 0), some (.int 0), none] [] (sM mo G (up2 I 81 2 0) J) Q = Q (some (.int (nKn I x y z p))) (sM mo G (up2 I 81 2 0) J) := by
    intro gx Q
    obtain ⟨j, hj, hj2, rfl⟩ := sIn_ex gx
    refine (cnt (fun k b => sm_wp X 273 43 [some (.ref 81), some (.int (zI j)), some (.int y), some (.int z), some (.int b), some (.int (zI k)), none] [] (sM mo G (up2 I 81 2 0) J) Q) (fun k a => if I 42 k = -1 ∧ I 35 k = z ∧ ¬ vf_Pap_knownDay I (zI k) (zI j) < 0 ∧ ¬ y < vf_Pap_knownDay I (zI k) (zI j) then a + 1 else a) 0 p ?_).trans ?_
    · intro k hk1
      have c60 : k < 60 := by omega
      have c62 : ¬ p ≤ k := by omega
      have hw := ivP_q hP hk1
      have hq : I 107 k = 1 ∨ (I 107 k = 0 ∧ I 36 k = 0) := by
        rcases hw with w | w
        · exact Or.inl w.2
        · exact Or.inr ⟨w.2.1, w.2.2.1⟩
      obtain ⟨k1, k2⟩ := kn_eq (j := j) p1 p3 hk1 (by omega) f1 f2 f3 f8 hq
      rw [lp_273_43]
      simp only [k1, eq_true k2, true_and]
      simp (decide := true) only [up2_ra, up2_rn, va_ap, ne_eq, if_false, if_true, not_false_eq_true, p2, f7]
      simp (disch := first | omega | decide) only [zI_lt, zI_le, zI_eq, zI_cn, zI_vp, zI_add, zI_mul, zI_sub, zIl_add, zIr_add, zIl_mul, zIr_mul, zIr_sub, zIl_lt, zIr_lt, zIl_le, zIr_le, zIl_eq, zIr_eq, zI_sIn, zI_m1, zI_m1', Int32.add_zero, Int32.or_zero, c60, c62, if_false, true_and]
      rcases hw with ⟨w1, w2⟩ | ⟨w1, w2, -⟩
      · simp (decide := true) only [w1, w2, if_false, true_and]
        grind
      · simp (decide := true) only [w1, w2, if_true, if_false, false_and]
    · rw [lp_273_43]
      simp (decide := true) only [up2_ra, up2_rn, va_ap, ne_eq, if_false, if_true, not_false_eq_true, p2]
      simp (disch := first | omega | decide) only [zI_lt, zI_le, zI_eq, zI_cn, zI_vp, zI_add, zI_mul, zI_sub, zIl_add, zIr_add, zIl_mul, zIr_mul, zIr_sub, zIl_lt, zIr_lt, zIl_le, zIr_le, zIl_eq, zIr_eq, zI_sIn, zI_m1, zI_m1', Int32.add_zero, Int32.or_zero, Nat.le_refl, if_true]
      rfl
  rw [lp_187_0, ct_notes _ _ _ _ _ _ p1 p3 hk]
  simp only [tl_some, lp_187_45, lp_273_0, hState_vp hm h6, mS0 hm' h6, ht, ht', vf_Model_isIn]
  by_cases gx : sIn x m
  · simp only [eq_true gx, not_true_eq_false, if_false, hM gx]
    grind
  · simp only [eq_false gx, not_false_eq_true, if_true, hv, and_self]
theorem op_count (h : inv c mo G I J) (x : Int32) : Agr X 204 [some (.ref 0), some (.int x)] 310 [some (.ref 81), some (.int x), none, none] (sM mo G I J) (Inv (c + 1)) := by
  have hv := inv_t 0 h
  obtain ⟨n, m, t, p, q, r, ch, ln, ⟨hn, hn', h12, hm, hm', h6, hp, hpb, ht, ht', h300⟩, ⟨e2, e4, e5, e6, e10, e11, e12, e13⟩, hV, hY, hG, hK, hP, hS, hA, hT, hF, hB, hC, hD, hD2, hX, hZ⟩ := h
  unfold Agr
  have hb : ∀ l, bt (((1 : Int32) <<< (zI n &&& 31)) - 1) l = decide (l < n) := by
    have hh := (by decide +kernel : ∀ n : Fin 13, ∀ l : Fin 32, bt (((1 : Int32) <<< (zI n.val &&& 31)) - 1) l.val = decide (l.val < n.val))
    intro l
    by_cases hl : l < 32
    · exact hh ⟨n, by omega⟩ ⟨l, hl⟩
    · rw [bt_big _ _ (by omega)]
      exact (decide_eq_false (by omega)).symm
  have hH : ∀ k, k ≤ n → ∀ l, bt (up (fun l b => if I 4 l = -1 then b ||| b1 l else b) k 0) l = decide (l < k ∧ I 4 l = -1) := by
    apply up_ind (fun k b => ∀ l, bt b l = decide (l < k ∧ I 4 l = -1))
    · intro l
      rw [bt_0]
      exact (decide_eq_false (by omega)).symm
    · intro k hk b ih l
      have e := bt_b1' k l (by omega)
      have e2 := bt_or b (b1 k) l
      have e3 := ih l
      by_cases hl : l = k
      · subst hl
        grind
      · grind
  have hM : ∀ Q : Option Value → sm_M → Prop, sm_wp X 310 93 [some (.ref 81), none, some (.int 0), some (.int 0)] [] (sM mo G (up2 I 81 2 0) J) Q = Q (some (.int (ssum (I 2) ((((1 : Int32) <<< (zI n &&& 31)) - 1) &&& (hlds (I 4) (-1) n ^^^ (-1))) n))) (sM mo G (up2 I 81 2 0) J) := by
    intro Q
    have hs : ∀ l, l < n → (bt ((((1 : Int32) <<< (zI n &&& 31)) - 1) &&& (hlds (I 4) (-1) n ^^^ (-1))) l = true) = ¬ I 4 l = -1 := by
      intro l hl
      have m1 : bt (-1) l = true := by
        have hh := (by decide +kernel : ∀ l : Fin 32, bt (-1) l.val = true)
        exact hh ⟨l, by omega⟩
      rw [bt_and, bt_xor, hb, m1]
      unfold hlds
      rw [hH n (Nat.le_refl _) l]
      simp [hl]
    refine (cnt (fun k b => sm_wp X 310 93 [some (.ref 81), none, some (.int b), some (.int (zI k))] [] (sM mo G (up2 I 81 2 0) J) Q) (fun l a => if bt ((((1 : Int32) <<< (zI n &&& 31)) - 1) &&& (hlds (I 4) (-1) n ^^^ (-1))) l = true then a + I 2 l else a) 0 n ?_).trans ?_
    · intro k hk1
      have c12 : k < 12 := by omega
      have c62 : ¬ n ≤ k := by omega
      rw [lp_310_93]
      simp (decide := true) only [up2_ra, up2_rn, va_ap, ne_eq, if_false, if_true, not_false_eq_true, hn', e2, e4]
      simp (disch := first | omega | decide) only [zI_lt, zI_le, zI_eq, zI_cn, zI_vp, zI_add, zI_mul, zI_sub, zIl_add, zIr_add, zIl_mul, zIr_mul, zIr_sub, zIl_lt, zIr_lt, zIl_le, zIr_le, zIl_eq, zIr_eq, zI_sIn, zI_m1, zI_m1', Int32.add_zero, Int32.or_zero, c12, c62, if_false, true_and, hs k hk1]
      grind
    · rw [lp_310_93]
      simp (decide := true) only [up2_ra, up2_rn, va_ap, ne_eq, if_false, if_true, not_false_eq_true, hn']
      simp (disch := first | omega | decide) only [zI_lt, zI_le, zI_eq, zI_cn, zI_vp, zI_add, zI_mul, zI_sub, zIl_add, zIr_add, zIl_mul, zIr_mul, zIr_sub, zIl_lt, zIr_lt, zIl_le, zIr_le, zIl_eq, zIr_eq, zI_sIn, zI_m1, zI_m1', Int32.add_zero, Int32.or_zero, Nat.le_refl, if_true]
      rfl
  have hC' : ∀ Q : Option Value → sm_M → Prop, sm_wp X 116 0 [some (.ref 1)] [] (sM mo G I J) Q = Q (some (.int (ssum (I 2) ((((1 : Int32) <<< (zI n &&& 31)) - 1) &&& (hlds (I 4) (-1) n ^^^ (-1))) n))) (sM mo G I J) := by
    intro Q
    rw [lp_116_0, ct_landsHeld _ _ _ _ _ _ hn h12]
    simp only [tl_some]
    rw [lp_116_10, ct_soulsOfLands _ _ _ _ _ _ hn h12]
    simp only [tl_some]
    rw [lp_116_16, hn]
  rw [lp_204_0, hC']
  simp only [tl_some, lp_204_111, lp_310_0, hM, hn, hn', hm, hm', hp, ht, ht', hP.1, hP.2.1, hA.1, hA.2.1, hS.1, hS.2.1]
  grind
end O2
end
section
/-! leave, note. -/
def uE (v : Int32) : Prop := v = 0 ∨ v = 1 ∨ v = 2
theorem uE_6 : ∀ f : Fin 7, (zI f.val = 0 ∨ zI f.val = 1 ∨ zI f.val = 2) = ¬ 2 < zI f.val := by decide
theorem uE_z {f : Nat} (h : f ≤ 6) : (zI f = 0 ∨ zI f = 1 ∨ zI f = 2) = ¬ 2 < zI f := uE_6 ⟨f, by omega⟩
theorem nBound_c {p : Nat} {f g : Nat → Int32} (h : ∀ k, k < p → (f k = 5 ↔ g k = 5)) : nBound p f = nBound p g := by
  unfold nBound
  apply up_congr
  intro k hk x
  have := h k hk
  grind
theorem nBound_s {p : Nat} {f : Nat → Int32} {v : Int32} (h : ¬ v = 5) : nBound (p + 1) (va_up f p v) = nBound p f := by
  have e : nBound (p + 1) (va_up f p v) = nBound p (va_up f p v) := by
    unfold nBound
    rw [up_s, va_ap, if_pos rfl, if_neg h]
  rw [e]
  apply nBound_c
  intro k hk
  rw [va_ap, if_neg (by omega)]
theorem ivP_set {p n m t : Nat} {a0 b0 : Int32} {r32 r33 r34 r35 r36 r37 r38 r39 r40 r41 r42 r43 r44 q107 q108 q109 q110 q111 q112 q113 q114 q115 q116 q117 q118 q119 row r43' r44' q118' q119' : Nat → Int32} (h : ivP p n m t a0 b0 r32 r33 r34 r35 r36 r37 r38 r39 r40 r41 r42 r43 r44 q107 q108 q109 q110 q111 q112 q113 q114 q115 q116 q117 q118 q119) (hr : ∀ k, row k = r42 k ∨ (¬ r42 k = -1 ∧ ∃ f, f ≤ 6 ∧ row k = zI f)) (h43 : lnE q118' r43') (h44 : q119' = r44') : ivP p n m t a0 b0 r32 r33 r34 r35 r36 r37 r38 r39 r40 r41 row r43' r44' q107 q108 q109 q110 q111 q112 q113 q114 q115 q116 row q118' q119' := by
  obtain ⟨p1, p2, p3, ⟨f1, f2, f3, f4, f5, f6, f7, f8, f9, f10, f11⟩, p5, p6, p7⟩ := h
  have hne : ∀ k, ¬ r42 k = -1 → ¬ row k = -1 := by
    intro k hk
    rcases hr k with e | ⟨-, f, hf, e⟩
    · rw [e]; exact hk
    · rw [e, zI_m1 (by omega)]; exact fun h => h
  refine ⟨p1, p2, p3, ⟨f1, f2, f3, f4, f5, f6, f7, f8, rfl, h43, h44⟩, p5, p6, fun k hk => ?_⟩
  rcases p7 k hk with ⟨a1, a2⟩ | ⟨a1, ⟨f, hf, ef⟩, a3, a4, a5, a6, a7, a8, a9, a10, a11⟩
  · refine Or.inl ⟨?_, a2⟩
    rcases hr k with e | ⟨e, -⟩
    · rw [e]; exact a1
    · exact absurd a1 e
  · refine Or.inr ⟨a1, ?_, a3, a4, a5, a6, a7, a8, a9, ?_, a11⟩
    · rcases hr k with e | ⟨-, g, hg, e⟩
      · exact ⟨f, hf, by rw [e]; exact ef⟩
      · exact ⟨g, hg, e⟩
    · rcases a10 with b | ⟨j, j1, j2, j3, j4⟩
      · exact Or.inl b
      · exact Or.inr ⟨j, j1, j2, hne j j3, j4⟩
/-- the standings when a state goes -/
def lvF (f t : Nat → Int32) (s : Int32) (k : Nat) (a : Int32 × (Nat → Int32)) : Int32 × (Nat → Int32) := if (a.2 k = 0 ∨ a.2 k = 1 ∨ a.2 k = 2) ∧ (f k = s ∨ t k = s) then (a.1 + 1, va_up a.2 k 4) else a
section O1
variable (X : (Nat → Int32) × Nat) (mo : Bool) (G : Nat × Nat) (I : Nat → Nat → Int32) (J : Nat → Nat → Int64) (Q : Option Value → sm_M → Prop)
theorem ct_lapse {p : Nat} (hp : I 31 0 = zI p) (h60 : p ≤ 60) (s : Int32) : sm_wp X 86 0 [some (.ref 31), some (.int s), none, none] [] (sM mo G I J) Q = Q (some (.int (up (lvF (I 32) (I 33) s) p (0, I 42)).1)) (sM mo G (rw2 I 42 (up (lvF (I 32) (I 33) s) p (0, I 42)).2) J) := by
  rw [lp_86_0]
  refine Eq.trans ?_ ((cnt (fun k a => sm_wp X 86 4 [some (.ref 31), some (.int s), some (.int a.1), some (.int (zI k))] [] (sM mo G (rw2 I 42 a.2) J) Q) (lvF (I 32) (I 33) s) (0, I 42) p ?_).trans ?_)
  · rw [rw2_self]; rfl
  · intro k hk
    have c60 : k < 60 := by omega
    have c62 : ¬ p ≤ k := by omega
    rw [lp_86_4]
    have hp2 : rw2 I 42 (up (lvF (I 32) (I 33) s) k (0, I 42)).2 31 0 = zI p := by rw [rw2_n _ _ _ _ (by decide)]; exact hp
    simp only [vf_Pap_isUnended, aPap, hPap_vp hp2 h60, hp2]
    simp (decide := true) (disch := first | omega | decide) only [rw2_a, rw2_n, ne_eq, not_false_eq_true, up2_rw, rw2_rw]
    simp (disch := first | omega | decide) only [zI_lt, zI_le, zI_eq, zI_cn, zI_vp, zI_add, zI_mul, zI_sub, zIl_add, zIr_add, zIl_mul, zIr_mul, zIr_sub, zIl_lt, zIr_lt, zIl_le, zIr_le, zIl_eq, zIr_eq, zI_sIn, zI_m1, zI_m1', Int32.add_zero, Int32.or_zero, hk, c60, c62, if_true, if_false, true_and, not_true_eq_false]
    unfold lvF
    grind
  · rw [lp_86_4]
    have hp2 : rw2 I 42 (up (lvF (I 32) (I 33) s) p (0, I 42)).2 31 0 = zI p := by rw [rw2_n _ _ _ _ (by decide)]; exact hp
    simp (disch := first | omega | decide) only [hp2, zI_lt, zI_le, zI_eq, zI_cn, zI_vp, zI_add, zI_mul, zI_sub, zIl_add, zIr_add, zIl_mul, zIr_mul, zIr_sub, zIl_lt, zIr_lt, zIl_le, zIr_le, zIl_eq, zIr_eq, zI_sIn, zI_m1, zI_m1', Int32.add_zero, Int32.or_zero, Nat.le_refl, if_true]
theorem nH_leave {m p : Nat} (hm : I 1 1 = zI m) (h6 : m ≤ 6) (hp : I 31 0 = zI p) (h60 : p ≤ 60) (s : Int32) : sm_wp X 202 0 [some (.ref 0), some (.int s)] [] (sM mo G I J) Q = if sIn s m ∧ bt (I 1 2) s.toNatClampNeg = true then Q (some (.int (up (lvF (I 32) (I 33) s) p (0, I 42)).1)) (sM mo G (rw2 (up2 (up2 I 1 2 (I 1 2 &&& ((1 : Int32) <<< (s &&& 31) ^^^ (-1)))) 1 4 (I 1 4 + 1)) 42 (up (lvF (I 32) (I 33) s) p (0, I 42)).2) J) else Q (some (.int (-1))) (sM mo G I J) := by
  rw [lp_202_0]
  simp only [hPres_vp hm h6, hState_vp hm h6]
  by_cases g : sIn s m ∧ bt (I 1 2) s.toNatClampNeg = true
  · simp only [eq_true g, eq_true g.1, not_true_eq_false, if_true, if_false]
    rw [ct_lapse _ _ _ _ _ _ (p := p) (by simp (decide := true) only [up2_ra, up2_rn, va_ap, ne_eq, if_false, if_true, not_false_eq_true]; exact hp) h60]
    simp only [tl_some, lp_202_29]
    simp (decide := true) only [up2_ra, up2_rn, va_ap, ne_eq, if_false, if_true, not_false_eq_true]
  · simp only [eq_false g, if_false]
theorem nM_leave {m p : Nat} (hm : I 81 10 = zI m) (h6 : m ≤ 6) (hp : I 81 46 = zI p) (h60 : p ≤ 60) (hq : ∀ k, k < p → (I 117 k = -1 ∧ I 107 k = 1) ∨ (I 107 k = 0 ∧ ∃ f, f ≤ 6 ∧ I 117 k = zI f)) (s : Int32) : sm_wp X 306 0 [some (.ref 81), some (.int s), none, none] [] (sM mo G I J) Q = if sIn s m ∧ bt (I 81 15) s.toNatClampNeg = true then Q (some (.int (up (lvF (I 108) (I 109) s) p (0, I 117)).1)) (sM mo G (rw2 (up2 (up2 I 81 2 0) 81 15 (I 81 15 ^^^ (1 : Int32) <<< (s &&& 31))) 117 (up (lvF (I 108) (I 109) s) p (0, I 117)).2) J) else Q (some (.int (-1))) (sM mo G (up2 I 81 2 0) J) := by
  rw [lp_306_0]
  simp only [mP0 hm h6]
  by_cases g : sIn s m ∧ bt (I 81 15) s.toNatClampNeg = true
  · simp only [eq_true g, if_true]
    generalize hK : up2 (up2 I 81 2 0) 81 15 (I 81 15 ^^^ (1 : Int32) <<< (s &&& 31)) = K
    have k1 : ∀ c, c ≠ 81 → K c = I c := by
      intro c hc
      rw [← hK, up2_rn _ _ _ _ _ hc, up2_rn _ _ _ _ _ hc]
    have k2 : K 81 46 = zI p := by
      rw [← hK]
      simp (decide := true) only [up2_ra, up2_rn, va_ap, ne_eq, if_false, if_true, not_false_eq_true]
      exact hp
    have hu : ∀ k, k ≤ p → ∀ j, j < p → ((up (lvF (I 108) (I 109) s) k (0, I 117)).2 j = -1 ∧ I 107 j = 1) ∨ (I 107 j = 0 ∧ ∃ f, f ≤ 6 ∧ (up (lvF (I 108) (I 109) s) k (0, I 117)).2 j = zI f) := by
      refine up_ind (fun k (a : Int32 × (Nat → Int32)) => ∀ j, j < p → (a.2 j = -1 ∧ I 107 j = 1) ∨ (I 107 j = 0 ∧ ∃ f, f ≤ 6 ∧ a.2 j = zI f)) hq ?_
      intro k hk a ih j hj
      unfold lvF
      split
      · rename_i hh
        simp only [va_ap]
        split
        · rename_i e
          subst e
          rcases ih j hj with ⟨i1, i2⟩ | ⟨i1, -⟩
          · rw [i1] at hh
            exact absurd hh.1 (by decide)
          · exact Or.inr ⟨i1, 4, by decide, rfl⟩
        · exact ih j hj
      · exact ih j hj
    refine Eq.trans ?_ ((cnt (fun k a => sm_wp X 306 31 [some (.ref 81), some (.int s), some (.int a.1), some (.int (zI k))] [] (sM mo G (rw2 K 117 a.2) J) Q) (lvF (I 108) (I 109) s) (0, I 117) p ?_).trans ?_)
    · rw [← k1 117 (by decide), rw2_self]; rfl
    · intro k hk
      have c60 : k < 60 := by omega
      have c62 : ¬ p ≤ k := by omega
      have hh := hu k (by omega) k hk
      rw [lp_306_31]
      have hp2 : rw2 K 117 (up (lvF (I 108) (I 109) s) k (0, I 117)).2 81 46 = zI p := by rw [rw2_n _ _ _ _ (by decide)]; exact k2
      simp only [hp2]
      simp (decide := true) (disch := first | omega | decide) only [rw2_a, rw2_n, ne_eq, not_false_eq_true, up2_rw, rw2_rw, k1]
      simp (disch := first | omega | decide) only [zI_lt, zI_le, zI_eq, zI_cn, zI_vp, zI_add, zI_mul, zI_sub, zIl_add, zIr_add, zIl_mul, zIr_mul, zIr_sub, zIl_lt, zIr_lt, zIl_le, zIr_le, zIl_eq, zIr_eq, zI_sIn, zI_m1, zI_m1', Int32.add_zero, Int32.or_zero, hk, c60, c62, if_true, if_false, true_and, not_true_eq_false]
      generalize up (lvF (I 108) (I 109) s) k (0, I 117) = A at hh ⊢
      unfold lvF
      rcases hh with ⟨h1, h2⟩ | ⟨h1, f, hf, h2⟩
      · simp (decide := true) only [h1, h2, if_true, if_false, or_self, false_and]
      · have hz := uE_z hf
        simp only [h1, h2, hz, if_true, if_false, not_true_eq_false]
        grind
    · rw [lp_306_31]
      have hp2 : rw2 K 117 (up (lvF (I 108) (I 109) s) p (0, I 117)).2 81 46 = zI p := by rw [rw2_n _ _ _ _ (by decide)]; exact k2
      simp (disch := first | omega | decide) only [hp2, zI_lt, zI_le, zI_eq, zI_cn, zI_vp, zI_add, zI_mul, zI_sub, zIl_add, zIr_add, zIl_mul, zIr_mul, zIr_sub, zIl_lt, zIr_lt, zIl_le, zIr_le, zIl_eq, zIr_eq, zI_sIn, zI_m1, zI_m1', Int32.add_zero, Int32.or_zero, Nat.le_refl, if_true]
  · simp only [eq_false g, if_false]
end O1
section O2
variable {X : (Nat → Int32) × Nat} {c : Nat} {mo : Bool} {G : Nat × Nat} {I : Nat → Nat → Int32} {J : Nat → Nat → Int64}
theorem pr_off (b : Int32) (s : Nat) (hs : s < 32) (h : bt b s = true) : b ^^^ (1 : Int32) <<< (zI s &&& 31) = b &&& ((1 : Int32) <<< (zI s &&& 31) ^^^ (-1)) := by
  have m1 : ∀ l : Fin 32, bt (-1) l.val = true := by decide +kernel
  apply bt_ext
  intro k hk
  have e := bt_b1 s k hs hk
  unfold b1 at e
  rw [bt_xor, bt_and, bt_xor, e, m1 ⟨k, hk⟩]
  by_cases hks : k = s
  · subst hks
    rw [h]
    simp
  · simp [hks]
theorem op_leave (h : inv c mo G I J) (x : Int32) : Agr X 202 [some (.ref 0), some (.int x)] 306 [some (.ref 81), some (.int x), none, none] (sM mo G I J) (Inv (c + 1)) := by
  have hv := inv_t 0 h
  obtain ⟨n, m, t, p, q, r, ch, ln, ⟨hn, hn', h12, hm, hm', h6, hp, hpb, ht, ht', h300⟩, hE, hV, hY, hG, hK, hP, hS, hA, hT, hF, hB, hC, hD, hD2, hX, hZ⟩ := h
  have hP0 := hP
  obtain ⟨p1, p2, p3, ⟨f1, f2, f3, f4, f5, f6, f7, f8, f9, f10, f11⟩, p5, p6, p7⟩ := hP0
  have hq : ∀ k, k < p → (I 42 k = -1 ∧ I 107 k = 1) ∨ (I 107 k = 0 ∧ ∃ f, f ≤ 6 ∧ I 42 k = zI f) := by
    intro k hk
    rcases p7 k hk with a | ⟨a1, a2, -⟩
    · exact Or.inl ⟨a.1, a.2.1⟩
    · exact Or.inr ⟨a1, a2⟩
  unfold Agr
  rw [nH_leave _ _ _ _ _ _ hm h6 p1 p3]
  by_cases g : sIn x m ∧ bt (I 1 2) x.toNatClampNeg = true
  · obtain ⟨s, hs, hs2, rfl⟩ := sIn_ex g.1
    have hb := g.2
    rw [zI_cn hs2] at hb
    rw [if_pos g, nM_leave _ _ _ _ _ _ (m := m) (p := p) (by simp (decide := true) only [up2_ra, up2_rn, va_ap, ne_eq, if_false, if_true, not_false_eq_true, rw2_n]; exact hm') h6 (by simp (decide := true) only [up2_ra, up2_rn, va_ap, ne_eq, if_false, if_true, not_false_eq_true, rw2_n]; exact p2) p3 (by simp (decide := true) only [up2_ra, up2_rn, va_ap, ne_eq, if_false, if_true, not_false_eq_true, rw2_n]; rw [f9]; exact hq), if_pos (by simp (decide := true) only [up2_ra, up2_rn, va_ap, ne_eq, if_false, if_true, not_false_eq_true, rw2_n]; rw [hp]; exact g)]
    simp (decide := true) only [up2_ra, up2_rn, va_ap, ne_eq, if_false, if_true, not_false_eq_true, rw2_n, f1, f2, f9]
    refine ⟨trivial, mo, G, _, _, rfl, n, m, t, p, q, r, ch + 1, ln, ?_⟩
    simp (decide := true) only [up2_ra, up2_rn, va_ap, ne_eq, if_false, if_true, not_false_eq_true, rw2_n, rw2_a]
    have hrow : ∀ k, (up (lvF (I 32) (I 33) (zI s)) p (0, I 42)).2 k = I 42 k ∨ ((I 42 k = 0 ∨ I 42 k = 1 ∨ I 42 k = 2) ∧ (up (lvF (I 32) (I 33) (zI s)) p (0, I 42)).2 k = 4) := by
      refine up_ind (fun k (a : Int32 × (Nat → Int32)) => ∀ k, a.2 k = I 42 k ∨ ((I 42 k = 0 ∨ I 42 k = 1 ∨ I 42 k = 2) ∧ a.2 k = 4)) (fun k => Or.inl rfl) ?_ p (Nat.le_refl _)
      intro k hk a ih j
      unfold lvF
      split
      · rename_i hh
        simp only [va_ap]
        split
        · rename_i e
          subst e
          rcases ih j with i1 | ⟨i1, i2⟩
          · rw [i1] at hh
            exact Or.inr ⟨hh.1, rfl⟩
          · exact Or.inr ⟨i1, rfl⟩
        · exact ih j
      · exact ih j
    refine ⟨⟨hn, hn', h12, hm, hm', h6, by rw [hp]; exact pr_off _ _ (by omega) hb, fun k hk => by rw [bt_and, hpb k hk, Bool.false_and], ht, ht', h300⟩, hE, hV, ?_, hG, ivK_u hK, ?_, hS, hA, hT, hF, hB, ivC_u hC, ivD_u hD, ivD_u hD2, hX, ivZ_s hZ⟩
    · have e : nBound p (up (lvF (I 32) (I 33) (zI s)) p (0, I 42)).2 = nBound p (I 42) := by
        apply nBound_c
        intro k hk
        rcases hrow k with e | ⟨e1, e2⟩
        · rw [e]
        · rw [e2]
          rcases e1 with e1 | e1 | e1 <;> rw [e1] <;> decide
      obtain ⟨y1, y2, y3⟩ := hY
      exact ⟨y1, fun l => by rw [e]; exact y2 l, y3⟩
    · refine ivP_set hP ?_ f10 f11
      intro k
      rcases hrow k with e | ⟨e1, e2⟩
      · exact Or.inl e
      · refine Or.inr ⟨?_, 4, by decide, e2⟩
        rcases e1 with e1 | e1 | e1 <;> rw [e1] <;> decide
  · rw [if_neg g, nM_leave _ _ _ _ _ _ hm' h6 p2 p3 (by rw [f9]; exact hq), if_neg (by rw [hp]; exact g)]
    exact ⟨rfl, hv⟩
end O2
end
section
/-! note, offer. -/
def opn (I : Nat → Nat → Int32) (s d : Int32) (q : Nat) : Int32 := up (fun k b => if I 28 k = s ∧ ¬ d < I 29 k ∧ ¬ I 30 k < d then b ||| ((1 : Int32) <<< (I 27 k &&& 31)) else b) q 0
def adC (I : Nat → Nat → Int32) (p : Nat) (x y : Int32) : Nat → Nat → Int32 := up2 (up2 (up2 (up2 (up2 (up2 (up2 (up2 (up2 I 32 p x) 33 p y) 34 p (I 1 3)) 40 p (-1)) 41 p (-1)) 42 p (-1)) 43 p (-1)) 44 p (-1)) 31 0 (zI (p + 1))
def ntM (I : Nat → Nat → Int32) (p : Nat) (x y w o : Int32) : Nat → Nat → Int32 := up2 (up2 (up2 (up2 (up2 (up2 (up2 (up2 (up2 (up2 (up2 I 81 2 0) 107 p 1) 108 p x) 109 p y) 110 p (I 81 16)) 115 p w) 116 p o) 117 p (-1)) 118 p (-1)) 119 p (-1)) 81 46 (zI (p + 1))
section O1
variable (X : (Nat → Int32) × Nat) (mo : Bool) (G : Nat × Nat) (I : Nat → Nat → Int32) (J : Nat → Nat → Int64) (Q : Option Value → sm_M → Prop)
theorem ct_openers {q : Nat} (hq : I 26 0 = zI q) (h20 : q ≤ 20) (s d : Int32) : sm_wp X 151 0 [some (.ref 26), some (.int s), some (.int d), none, none] [] (sM mo G I J) Q = Q (some (.int (opn I s d q))) (sM mo G I J) := by
  rw [lp_151_0]
  refine (cnt (fun k b => sm_wp X 151 5 [some (.ref 26), some (.int s), some (.int d), some (.int b), some (.int (zI k))] [] (sM mo G I J) Q) (fun k b => if I 28 k = s ∧ ¬ d < I 29 k ∧ ¬ I 30 k < d then b ||| ((1 : Int32) <<< (I 27 k &&& 31)) else b) 0 q ?_).trans ?_
  · intro k hk
    have c20 : k < 20 := by omega
    have c21 : ¬ 20 ≤ k := by omega
    have c22 : ¬ q ≤ k := by omega
    rw [lp_151_5]
    simp (disch := first | omega | decide) only [hq, zI_lt, zI_le, zI_eq, zI_cn, zI_vp, zI_add, zI_mul, zI_sub, zIl_add, zIr_add, zIl_mul, zIr_mul, zIr_sub, zIl_lt, zIr_lt, zIl_le, zIr_le, zIl_eq, zIr_eq, zI_sIn, zI_m1, zI_m1', Int32.add_zero, Int32.or_zero, c20, c21, c22, if_false, true_and]
    grind
  · rw [lp_151_5]
    simp (disch := first | omega | decide) only [hq, zI_lt, zI_le, zI_eq, zI_cn, zI_vp, zI_add, zI_mul, zI_sub, zIl_add, zIr_add, zIl_mul, zIr_mul, zIr_sub, zIl_lt, zIr_lt, zIl_le, zIr_le, zIl_eq, zIr_eq, zI_sIn, zI_m1, zI_m1', Int32.add_zero, Int32.or_zero, Nat.le_refl, if_true]
    rfl
theorem nH_note {m t p q : Nat} (hm : I 1 1 = zI m) (h6 : m ≤ 6) (hp : I 31 0 = zI p) (h60 : p ≤ 60) (ht : I 1 3 = zI t) (hq : I 26 0 = zI q) (h20 : q ≤ 20) (x y w : Int32) : sm_wp X 179 0 [some (.ref 0), some (.int x), some (.int y), some (.int w), none] [] (sM mo G I J) Q = if ((sIn x m ∧ bt (I 1 2) x.toNatClampNeg = true) ∧ (sIn y m ∧ bt (I 1 2) y.toNatClampNeg = true) ∧ (¬ w < 1 ∧ ¬ 99 < w)) ∧ p < 60 then Q (some (.int (zI p))) (sM mo G (up2 (up2 (adC I p x y) 35 p w) 36 p (if x = y then opn I x (zI t) q else 0)) J) else Q (some (.int (-1))) (sM mo G I J) := by
  rw [lp_179_0]
  simp only [hPres_vp hm h6, ht, hp]
  by_cases a : sIn x m ∧ bt (I 1 2) x.toNatClampNeg = true
  · by_cases b : sIn y m ∧ bt (I 1 2) y.toNatClampNeg = true
    · by_cases w1 : ¬ w < 1 ∧ ¬ 99 < w
      · simp only [eq_true a, eq_true b, eq_true w1, not_true_eq_false, if_false, true_and]
        by_cases hp6 : p < 60
        · have hp7 : ¬ 60 ≤ p := by omega
          simp (disch := first | omega | decide) only [zI_lt, zI_le, zI_eq, zI_cn, zI_vp, zI_add, zI_mul, zI_sub, zIl_add, zIr_add, zIl_mul, zIr_mul, zIr_sub, zIl_lt, zIr_lt, zIl_le, zIr_le, zIl_eq, zIr_eq, zI_sIn, zI_m1, zI_m1', Int32.add_zero, Int32.or_zero, hp6, hp7, not_false_eq_true, if_true, true_and, Nat.add_sub_cancel]
          have e : ∀ K, up2 K 31 0 (zI (p + 1)) 31 0 = zI (p + 1) := fun K => by simp (decide := true) only [up2_ra, up2_rn, va_ap, ne_eq, if_false, if_true, not_false_eq_true]
          simp only [hPap_vp (e _) (show p + 1 ≤ 60 by omega)]
          simp (disch := first | omega | decide) only [zI_lt, zI_le, zI_eq, zI_cn, zI_vp, zI_add, zI_mul, zI_sub, zIl_add, zIr_add, zIl_mul, zIr_mul, zIr_sub, zIl_lt, zIr_lt, zIl_le, zIr_le, zIl_eq, zIr_eq, zI_sIn, zI_m1, zI_m1', Int32.add_zero, Int32.or_zero, Nat.lt_succ_self, not_true_eq_false, if_false]
          rw [ct_openers _ _ _ _ _ _ (q := q) (by simp (decide := true) only [up2_ra, up2_rn, va_ap, ne_eq, if_false, if_true, not_false_eq_true]; exact hq) h20]
          simp only [tl_some, lp_179_86, hPap_vp (e _) (show p + 1 ≤ 60 by omega)]
          simp (disch := first | omega | decide) only [zI_lt, zI_le, zI_eq, zI_cn, zI_vp, zI_add, zI_mul, zI_sub, zIl_add, zIr_add, zIl_mul, zIr_mul, zIr_sub, zIl_lt, zIr_lt, zIl_le, zIr_le, zIl_eq, zIr_eq, zI_sIn, zI_m1, zI_m1', Int32.add_zero, Int32.or_zero, Nat.lt_succ_self, not_true_eq_false, if_false, hp6, true_and]
          have eo : opn (up2 (up2 (up2 (up2 (up2 (up2 (up2 (up2 (up2 I 32 p x) 33 p y) 34 p (zI t)) 40 p (-1)) 41 p (-1)) 42 p (-1)) 43 p (-1)) 44 p (-1)) 31 0 (zI (p + 1))) x (zI t) q = opn I x (zI t) q := by
            unfold opn
            simp (decide := true) only [up2_ra, up2_rn, va_ap, ne_eq, if_false, if_true, not_false_eq_true]
          rw [eo]
          unfold adC
          rw [ht]
          by_cases hxy : x = y
          · simp only [hxy, not_true_eq_false, if_true, if_false]
          · simp only [hxy, not_false_eq_true, if_true, if_false]
        · have hp7 : 60 ≤ p := by omega
          simp (disch := first | omega | decide) only [zI_lt, zI_le, zI_eq, zI_cn, zI_vp, zI_add, zI_mul, zI_sub, zIl_add, zIr_add, zIl_mul, zIr_mul, zIr_sub, zIl_lt, zIr_lt, zIl_le, zIr_le, zIl_eq, zIr_eq, zI_sIn, zI_m1, zI_m1', Int32.add_zero, Int32.or_zero, hp6, hp7, not_true_eq_false, if_false]
      · simp only [eq_true a, eq_true b, eq_false w1, not_true_eq_false, not_false_eq_true, if_true, if_false, false_and, and_false]
    · simp only [eq_true a, eq_false b, not_true_eq_false, not_false_eq_true, if_true, if_false, false_and, and_false]
  · simp only [eq_false a, not_false_eq_true, if_true, if_false, false_and]
theorem nM_note {m t p q : Nat} (hm : I 81 10 = zI m) (h6 : m ≤ 6) (hp : I 81 46 = zI p) (h60 : p ≤ 60) (ht : I 81 16 = zI t) (hq : I 81 60 = zI q) (h20 : q ≤ 20) (hs : ∀ k, k < 20 → I 120 (4 * k) = I 27 k ∧ I 120 (4 * k + 1) = I 28 k ∧ I 120 (4 * k + 2) = I 29 k ∧ I 120 (4 * k + 3) = I 30 k) (x y w : Int32) : sm_wp X 249 0 [some (.ref 81), some (.int x), some (.int y), some (.int w), none, none] [] (sM mo G I J) Q = if ((sIn x m ∧ bt (I 81 15) x.toNatClampNeg = true) ∧ (sIn y m ∧ bt (I 81 15) y.toNatClampNeg = true) ∧ (¬ w < 1 ∧ ¬ 99 < w)) ∧ p < 60 then Q (some (.int (zI p))) (sM mo G (ntM I p x y w (if x = y then opn I x (zI t) q else 0)) J) else Q (some (.int (-1))) (sM mo G (up2 I 81 2 0) J) := by
  rw [lp_249_0]
  simp only [mP0 hm h6, hp, ht, vf_Model_isIn, nar_1]
  by_cases hp6 : p < 60
  · have hp7 : ¬ p = 60 := by omega
    by_cases a : sIn x m ∧ bt (I 81 15) x.toNatClampNeg = true
    · by_cases b : sIn y m ∧ bt (I 81 15) y.toNatClampNeg = true
      · by_cases w1 : ¬ w < 1 ∧ ¬ 99 < w
        · simp only [eq_true a, eq_true b, eq_true w1, not_true_eq_false, if_false, if_true, true_and]
          simp (disch := first | omega | decide) only [zI_lt, zI_le, zI_eq, zI_cn, zI_vp, zI_add, zI_mul, zI_sub, zIl_add, zIr_add, zIl_mul, zIr_mul, zIr_sub, zIl_lt, zIr_lt, zIl_le, zIr_le, zIl_eq, zIr_eq, zI_sIn, zI_m1, zI_m1', Int32.add_zero, Int32.or_zero, hp6, hp7, if_false, if_true, true_and]
          generalize hK : up2 (up2 (up2 (up2 (up2 (up2 I 81 2 0) 107 p 1) 108 p x) 109 p y) 110 p (zI t)) 115 p w = K
          have k1 : ∀ c, c < 81 ∨ c = 120 → K c = I c := by
            intro c hc
            rw [← hK]
            simp (disch := first | omega | decide) only [up2_rn]
          have k2 : K 81 46 = zI p ∧ K 81 60 = zI q ∧ K 81 16 = zI t := by
            rw [← hK]
            simp (decide := true) only [up2_ra, up2_rn, va_ap, ne_eq, if_false, if_true, not_false_eq_true]
            exact ⟨hp, hq, ht⟩
          have hl : ∀ Q : Option Value → sm_M → Prop, sm_wp X 249 108 [some (.ref 81), some (.int x), some (.int y), none, some (.int 0), none] [] (sM mo G (up2 K 116 p 0) J) Q = sm_wp X 249 108 [some (.ref 81), some (.int x), some (.int y), none, some (.int (zI q)), none] [] (sM mo G (up2 K 116 p (if x = y then opn I x (zI t) q else 0)) J) Q := by
            intro Q
            by_cases hxy : x = y
            · subst hxy
              simp only [if_true]
              refine (cnt (fun k b => sm_wp X 249 108 [some (.ref 81), some (.int x), some (.int x), none, some (.int (zI k)), none] [] (sM mo G (up2 K 116 p b) J) Q) (fun k b => if I 28 k = x ∧ ¬ zI t < I 29 k ∧ ¬ I 30 k < zI t then b ||| ((1 : Int32) <<< (I 27 k &&& 31)) else b) 0 q ?_).trans ?_
              · intro k hk
                have c20 : ¬ q ≤ k := by omega
                obtain ⟨s0, s1, s2, s3⟩ := hs k (by omega)
                have d0 : 4 * k < 80 := by omega
                have d1 : 4 * k + 1 < 80 := by omega
                have d2 : 4 * k + 2 < 80 := by omega
                have d3 : 4 * k + 3 < 80 := by omega
                rw [lp_249_108]
                simp (decide := true) only [up2_ra, up2_rn, va_ap, ne_eq, if_false, if_true, not_false_eq_true, k2, k1]
                simp (disch := first | omega | decide) only [zI_lt, zI_le, zI_eq, zI_cn, zI_vp, zI_add, zI_mul, zI_sub, zIl_add, zIr_add, zIl_mul, zIr_mul, zIr_sub, zIl_lt, zIr_lt, zIl_le, zIr_le, zIl_eq, zIr_eq, zI_sIn, zI_m1, zI_m1', Int32.add_zero, Int32.or_zero, vf_Model_isIn, s0, s1, s2, s3, d0, d1, d2, d3, c20, hp6, not_true_eq_false, if_false, if_true, true_and, va_ap]
                have e : ∀ u v : Int32, up2 (up2 K 116 p u) 116 p v = up2 K 116 p v := by
                  intro u v
                  funext c j
                  simp only [up2_ap]
                  grind
                simp only [e]
                grind
              · rfl
            · simp only [hxy, if_false]
              refine (cnt (fun k (b : Int32) => sm_wp X 249 108 [some (.ref 81), some (.int x), some (.int y), none, some (.int (zI k)), none] [] (sM mo G (up2 K 116 p 0) J) Q) (fun k b => b) 0 q ?_).trans ?_
              · intro k hk
                have c20 : ¬ q ≤ k := by omega
                rw [lp_249_108]
                simp (decide := true) only [up2_ra, up2_rn, va_ap, ne_eq, if_false, if_true, not_false_eq_true, k2, k1]
                simp (disch := first | omega | decide) only [zI_lt, zI_le, zI_eq, zI_cn, zI_vp, zI_add, zI_mul, zI_sub, zIl_add, zIr_add, zIl_mul, zIr_mul, zIr_sub, zIl_lt, zIr_lt, zIl_le, zIr_le, zIl_eq, zIr_eq, zI_sIn, zI_m1, zI_m1', Int32.add_zero, Int32.or_zero, c20, hxy, not_false_eq_true, if_false, if_true]
              · rfl
          rw [hl, lp_249_108]
          simp (decide := true) only [up2_ra, up2_rn, va_ap, ne_eq, if_false, if_true, not_false_eq_true, k2]
          simp (disch := first | omega | decide) only [zI_lt, zI_le, zI_eq, zI_cn, zI_vp, zI_add, zI_mul, zI_sub, zIl_add, zIr_add, zIl_mul, zIr_mul, zIr_sub, zIl_lt, zIr_lt, zIl_le, zIr_le, zIl_eq, zIr_eq, zI_sIn, zI_m1, zI_m1', Int32.add_zero, Int32.or_zero, Nat.le_refl, if_true, hp6, true_and, Nat.add_sub_cancel]
          unfold ntM
          rw [← hK, ht]
        · simp only [eq_true a, eq_true b, eq_false w1, not_true_eq_false, if_false, false_and, and_false, ite_self]
      · simp only [eq_true a, eq_false b, not_true_eq_false, not_false_eq_true, if_true, if_false, false_and, and_false, ite_self]
    · simp only [eq_false a, not_false_eq_true, if_true, if_false, false_and, ite_self]
  · have hp7 : p = 60 := by omega
    simp (disch := first | omega | decide) only [zI_lt, zI_le, zI_eq, zI_cn, zI_vp, zI_add, zI_mul, zI_sub, zIl_add, zIr_add, zIl_mul, zIr_mul, zIr_sub, zIl_lt, zIr_lt, zIl_le, zIr_le, zIl_eq, zIr_eq, zI_sIn, zI_m1, zI_m1', Int32.add_zero, Int32.or_zero, hp7, if_true, Nat.lt_irrefl, and_false, if_false]
end O1
end
section
/-! note agrees; offer. -/
section O2
variable {X : (Nat → Int32) × Nat} {c : Nat} {mo : Bool} {G : Nat × Nat} {I : Nat → Nat → Int32} {J : Nat → Nat → Int64}
theorem op_note (h : inv c mo G I J) (x y w : Int32) : Agr X 179 [some (.ref 0), some (.int x), some (.int y), some (.int w), none] 249 [some (.ref 81), some (.int x), some (.int y), some (.int w), none, none] (sM mo G I J) (Inv (c + 1)) := by
  have hv := inv_t 0 h
  obtain ⟨n, m, t, p, q, r, ch, ln, ⟨hn, hn', h12, hm, hm', h6, hp, hpb, ht, ht', h300⟩, hE, hV, hY, hG, hK, hP, ⟨hq, hq', h20, hs⟩, hA, hT, hF, hB, hC, hD, hD2, hX, hZ⟩ := h
  obtain ⟨p1, p2, p3, ⟨f1, f2, f3, f4, f5, f6, f7, f8, f9, f10, f11⟩, p5, p6, p7⟩ := hP
  unfold Agr
  rw [nH_note _ _ _ _ _ _ hm h6 p1 p3 ht hq h20]
  by_cases g : ((sIn x m ∧ bt (I 1 2) x.toNatClampNeg = true) ∧ (sIn y m ∧ bt (I 1 2) y.toNatClampNeg = true) ∧ (¬ w < 1 ∧ ¬ 99 < w)) ∧ p < 60
  · rw [if_pos g, nM_note _ _ _ _ _ _ (m := m) (t := t) (p := p) (q := q) (by simp (decide := true) only [adC, up2_ra, up2_rn, va_ap, ne_eq, if_false, if_true, not_false_eq_true]; exact hm') h6 (by simp (decide := true) only [adC, up2_ra, up2_rn, va_ap, ne_eq, if_false, if_true, not_false_eq_true]; exact p2) p3 (by simp (decide := true) only [adC, up2_ra, up2_rn, va_ap, ne_eq, if_false, if_true, not_false_eq_true]; exact ht') (by simp (decide := true) only [adC, up2_ra, up2_rn, va_ap, ne_eq, if_false, if_true, not_false_eq_true]; exact hq') h20 (by simp (decide := true) only [adC, up2_ra, up2_rn, va_ap, ne_eq, if_false, if_true, not_false_eq_true]; exact hs), if_pos (by simp (decide := true) only [adC, up2_ra, up2_rn, va_ap, ne_eq, if_false, if_true, not_false_eq_true]; rw [hp]; exact g)]
    have eo : opn (up2 (up2 (adC I p x y) 35 p w) 36 p (if x = y then opn I x (zI t) q else 0)) x (zI t) q = opn I x (zI t) q := by
      unfold opn
      simp (decide := true) only [adC, up2_ra, up2_rn, va_ap, ne_eq, if_false, if_true, not_false_eq_true]
    rw [eo]
    generalize (if x = y then opn I x (zI t) q else 0) = o
    obtain ⟨sx, hsx, -, rfl⟩ := sIn_ex g.1.1.1
    obtain ⟨sy, hsy, -, rfl⟩ := sIn_ex g.1.2.1.1
    refine ⟨rfl, mo, G, _, _, rfl, n, m, t, p + 1, q, r, ch, ln, ?_⟩
    simp (decide := true) only [adC, ntM, up2_ra, up2_rn, va_ap, ne_eq, if_false, if_true, not_false_eq_true]
    refine ⟨⟨hn, hn', h12, hm, hm', h6, hp, hpb, ht, ht', h300⟩, hE, hV, ?_, hG, ivK_s hK, ⟨rfl, rfl, by omega, ⟨by rw [f1], by rw [f2], by rw [f3, ht, ht'], f4, f5, f6, by rw [f7], by rw [f8], by rw [f9], trivial, by rw [f11]⟩, fun k hk => ?_, fun k hk => ?_, fun k hk => ?_⟩, ⟨hq, hq', h20, hs⟩, hA, hT, hF, hB, hC, hD, hD2, hX, ivZ_s hZ⟩
    · obtain ⟨y1, y2, y3⟩ := hY
      exact ⟨y1, fun l => by rw [nBound_s (by decide)]; exact y2 l, y3⟩
    · have e : ¬ k = p := by omega
      simp only [va_ap, e, if_false]
      exact p5 k (by omega)
    · by_cases e : k = p
      · simp only [va_ap, e, if_true]
        exact ⟨⟨sx, hsx, rfl⟩, ⟨sy, hsy, rfl⟩, t, Nat.le_refl _, ht⟩
      · simp only [va_ap, e, if_false]
        exact p6 k (by omega)
    · by_cases e : k = p
      · simp only [va_ap, e, if_true]
        exact Or.inl ⟨trivial, trivial, trivial, trivial⟩
      · simp only [va_ap, e, if_false]
        rcases p7 k (by omega) with a | ⟨a1, a2, a3, a4, a5, a6, a7, a8, a9, a10, a11⟩
        · exact Or.inl a
        · refine Or.inr ⟨a1, a2, a3, a4, a5, a6, a7, a8, a9, ?_, a11⟩
          rcases a10 with b | ⟨j, j1, j2, j3, j4⟩
          · exact Or.inl b
          · have e2 : ¬ j = p := by omega
            exact Or.inr ⟨j, j1, j2, by rw [if_neg e2]; exact j3, by rw [if_neg e2]; exact j4⟩
  · rw [if_neg g, nM_note _ _ _ _ _ _ hm' h6 p2 p3 ht' hq' h20 hs, if_neg (by rw [hp]; exact g)]
    exact ⟨rfl, hv⟩
end O2
theorem bt_z (k j : Nat) (hj : j < 32) : bt (zI k) j = k.testBit j := by
  unfold bt zI
  rw [show (Int32.ofNat k).toBitVec = BitVec.ofNat 32 k from rfl, BitVec.getLsbD_ofNat]
  simp [hj]
theorem one_sh : ∀ n : Fin 13, (1 : Int32) <<< (zI n.val &&& 31) = zI (2 ^ n.val) := by decide +kernel
theorem in_b {n : Nat} (hn : n ≤ 12) (x : Int32) : (¬ x < 0 ∧ ¬ (1 : Int32) <<< (zI n &&& 31) ≤ x) ↔ ∀ k, n ≤ k → bt x k = false := by
  have e := one_sh ⟨n, by omega⟩
  simp only at e
  rw [e]
  have h2 : 2 ^ n ≤ 2 ^ 12 := Nat.pow_le_pow_right (by decide) hn
  constructor
  · rintro ⟨h1, h3⟩
    obtain ⟨k, hk, rfl⟩ := zI_of h1
    rw [zI_le (by omega) hk] at h3
    intro j hj
    by_cases h32 : j < 32
    · rw [bt_z _ _ h32]
      exact Nat.testBit_lt_two_pow (Nat.lt_of_lt_of_le (by omega) (Nat.pow_le_pow_right (by decide) hj))
    · exact bt_big _ _ (by omega)
  · intro h
    obtain ⟨k, hk, rfl⟩ := bt_nat (by omega) h
    refine ⟨?_, ?_⟩
    · rw [zIr_lt (c := 0) (by decide) (by omega)]
      exact Nat.not_lt_zero _
    · rw [zI_le (by omega) (by omega)]
      omega
theorem ms_b {n : Nat} (hn : n ≤ 12) (l : Nat) (hl : l < 32) : bt ((((1 : Int32) <<< (zI n &&& 31)) - 1) ^^^ (-1)) l = decide (n ≤ l) := by
  have hh := (by decide +kernel : ∀ n : Fin 13, ∀ l : Fin 32, bt ((((1 : Int32) <<< (zI n.val &&& 31)) - 1) ^^^ (-1)) l.val = decide (n.val ≤ l.val))
  exact hh ⟨n, by omega⟩ ⟨l, hl⟩
theorem of_m {n : Nat} (hn : n ≤ 12) (x : Int32) : (x &&& ((((1 : Int32) <<< (zI n &&& 31)) - 1) ^^^ (-1)) = 0) ↔ ∀ k, n ≤ k → bt x k = false := by
  rw [bt_eq0]
  constructor
  · intro h k hk
    by_cases h32 : k < 32
    · have := h k h32
      rw [bt_and, ms_b hn k h32, decide_eq_true hk, Bool.and_true] at this
      exact this
    · exact bt_big _ _ (by omega)
  · intro h k hk
    rw [bt_and, ms_b hn k hk]
    by_cases e : n ≤ k
    · rw [h k e, Bool.false_and]
    · rw [decide_eq_false e, Bool.and_false]
theorem or_0 (x y : Int32) : x ||| y = 0 ↔ x = 0 ∧ y = 0 := by
  rw [bt_eq0, bt_eq0, bt_eq0]
  constructor
  · intro h
    refine ⟨fun k hk => ?_, fun k hk => ?_⟩
    · have := h k hk
      rw [bt_or] at this
      exact (Bool.or_eq_false_iff.mp this).1
    · have := h k hk
      rw [bt_or] at this
      exact (Bool.or_eq_false_iff.mp this).2
  · rintro ⟨h1, h2⟩ k hk
    rw [bt_or, h1 k hk, h2 k hk]
    rfl
theorem of_eq {n : Nat} (hn : n ≤ 12) (x y : Int32) : (¬ x ||| y = 0 ∧ x &&& y = 0 ∧ (x ||| y) &&& ((((1 : Int32) <<< (zI n &&& 31)) - 1) ^^^ (-1)) = 0) ↔ (¬ x < 0 ∧ ¬ (1 : Int32) <<< (zI n &&& 31) ≤ x ∧ ¬ y < 0 ∧ ¬ (1 : Int32) <<< (zI n &&& 31) ≤ y ∧ ¬ x + y = 0 ∧ x &&& y = 0) := by
  have hx := in_b hn x
  have hy := in_b hn y
  have hs : (∀ k, n ≤ k → bt x k = false) → (∀ k, n ≤ k → bt y k = false) → (x + y = 0 ↔ x ||| y = 0) := by
    intro h1 h2
    obtain ⟨a, ha, rfl⟩ := bt_nat (by omega) h1
    obtain ⟨b, hb, rfl⟩ := bt_nat (by omega) h2
    have h2 : 2 ^ n ≤ 2 ^ 12 := Nat.pow_le_pow_right (by decide) hn
    rw [or_0, zI_add, show (0 : Int32) = zI 0 from rfl, zI_eq (by omega) (by omega), zI_eq (by omega) (by omega), zI_eq (by omega) (by omega)]
    omega
  rw [of_m hn]
  have ho : (∀ k, n ≤ k → bt (x ||| y) k = false) ↔ (∀ k, n ≤ k → bt x k = false) ∧ (∀ k, n ≤ k → bt y k = false) := by
    constructor
    · intro h
      refine ⟨fun k hk => ?_, fun k hk => ?_⟩
      · have := h k hk
        rw [bt_or] at this
        exact (Bool.or_eq_false_iff.mp this).1
      · have := h k hk
        rw [bt_or] at this
        exact (Bool.or_eq_false_iff.mp this).2
    · rintro ⟨h1, h2⟩ k hk
      rw [bt_or, h1 k hk, h2 k hk]
      rfl
  rw [ho]
  constructor
  · rintro ⟨h1, h2, h3, h4⟩
    have a := hx.mpr h3
    have b := hy.mpr h4
    exact ⟨a.1, a.2, b.1, b.2, fun e => h1 ((hs h3 h4).mp e), h2⟩
  · rintro ⟨a1, a2, b1, b2, h1, h2⟩
    have h3 := hx.mp ⟨a1, a2⟩
    have h4 := hy.mp ⟨b1, b2⟩
    exact ⟨fun e => h1 ((hs h3 h4).mpr e), h2, h3, h4⟩
end
section
/-! offer. -/
def ofC (I : Nat → Nat → Int32) (p : Nat) (x y g t d l rt : Int32) : Nat → Nat → Int32 := up2 (up2 (up2 (up2 (up2 (up2 (adC I p x y) 37 p g) 38 p t) 39 p d) 40 p l) 41 p rt) 42 p 0
def ofM (I : Nat → Nat → Int32) (p : Nat) (x y g t d l : Int32) : Nat → Nat → Int32 := up2 (up2 (up2 (up2 (up2 (up2 (up2 (up2 (up2 (up2 (up2 (up2 (up2 I 81 2 0) 107 p 0) 108 p x) 109 p y) 110 p (I 81 16)) 111 p g) 112 p t) 113 p d) 114 p l) 117 p 0) 118 p (-1)) 119 p (-1)) 81 46 (zI (p + 1))
def ofT (n m t p : Nat) (pr : Int32) (r42 : Nat → Int32) (x y g k d l : Int32) : Prop := (sIn x m ∧ bt pr x.toNatClampNeg = true) ∧ (sIn y m ∧ bt pr y.toNatClampNeg = true) ∧ ¬ x = y ∧ (¬ g ||| k = 0 ∧ g &&& k = 0 ∧ (g ||| k) &&& ((((1 : Int32) <<< (zI n &&& 31)) - 1) ^^^ (-1)) = 0) ∧ ¬ d < zI t ∧ ¬ 300 < d ∧ p < 60 ∧ (l = -1 ∨ (sIn l p ∧ ¬ r42 l.toNatClampNeg = -1))
section O1
variable (X : (Nat → Int32) × Nat) (mo : Bool) (G : Nat × Nat) (I : Nat → Nat → Int32) (J : Nat → Nat → Int64) (Q : Option Value → sm_M → Prop)
theorem nH_offer1 {n m t p : Nat} (hn : I 1 0 = zI n) (hm : I 1 1 = zI m) (h6 : m ≤ 6) (hp : I 31 0 = zI p) (h60 : p ≤ 60) (ht : I 1 3 = zI t) (x y g k d l : Int32) (hT : ofT n m t p (I 1 2) (I 42) x y g k d l) : sm_wp X 178 0 [some (.ref 0), some (.int x), some (.int y), some (.int g), some (.int k), some (.int d), some (.int l), none, none] [] (sM mo G I J) Q = Q (some (.int (zI p))) (sM mo G (ofC I p x y g k d l (if l = -1 then zI p else I 41 l.toNatClampNeg)) J) := by
  obtain ⟨a, b, xy, ⟨g1, g2, g3⟩, d1, d2, p6, hl⟩ := hT
  have p7 : ¬ 60 ≤ p := by omega
  rw [lp_178_0]
  simp only [hPres_vp hm h6, hPap_vp hp h60, hn, ht, hp]
  simp (disch := first | omega | decide) only [zI_lt, zI_le, zI_eq, zI_cn, zI_vp, zI_add, zI_mul, zI_sub, zIl_add, zIr_add, zIl_mul, zIr_mul, zIr_sub, zIl_lt, zIr_lt, zIl_le, zIr_le, zIl_eq, zIr_eq, zI_sIn, zI_m1, zI_m1', Int32.add_zero, Int32.or_zero, eq_true a, eq_true b, xy, g1, g2, g3, d1, d2, p7, not_true_eq_false, not_false_eq_true, if_true, if_false]
  have e67 : ∀ Q : Option Value → sm_M → Prop, sm_wp X 67 0 [some (.ref 31), some (.int x), some (.int y), some (.int (zI t))] [] (sM mo G I J) Q = Q (some (.int (zI p))) (sM mo G (adC I p x y) J) := by
    intro Q
    rw [ct_Pap_addPaper]
    simp (disch := first | omega | decide) only [hp, zI_lt, zI_le, zI_eq, zI_cn, zI_vp, zI_add, zI_mul, zI_sub, zIl_add, zIr_add, zIl_mul, zIr_mul, zIr_sub, zIl_lt, zIr_lt, zIl_le, zIr_le, zIl_eq, zIr_eq, zI_sIn, zI_m1, zI_m1', Int32.add_zero, Int32.or_zero, p6, p7, not_false_eq_true, if_true, true_and, Nat.add_sub_cancel]
    unfold adC
    rw [ht]
  have e31 : adC I p x y 31 0 = zI (p + 1) := by simp (decide := true) only [adC, up2_ra, up2_rn, va_ap, ne_eq, if_false, if_true, not_false_eq_true]
  have e68 : ∀ Q : Option Value → sm_M → Prop, sm_wp X 68 0 [some (.ref 31), some (.int (zI p)), some (.int g), some (.int k), some (.int d), some (.int l)] [] (sM mo G (adC I p x y) J) Q = Q none (sM mo G (ofC I p x y g k d l (if l = -1 then zI p else I 41 l.toNatClampNeg)) J) := by
    intro Q
    rw [ct_Pap_makeOffer]
    simp only [hPap_vp e31 (show p + 1 ≤ 60 by omega), zI_cn (show p < 2147483648 by omega)]
    rw [if_neg (by rw [zI_sIn (by omega) (by omega)]; omega)]
    simp only [hPap_vp (I := up2 (up2 (up2 (up2 (adC I p x y) 37 p g) 38 p k) 39 p d) 40 p l) (n := p + 1) (by simp (decide := true) only [adC, up2_ra, up2_rn, va_ap, ne_eq, if_false, if_true, not_false_eq_true]) (show p + 1 ≤ 60 by omega), zI_vp (show p < 2147483648 by omega), p6, true_and]
    rcases hl with rfl | ⟨l1, l2⟩
    · rw [if_pos (fun h => h.1 (by decide)), if_pos rfl]
      rfl
    · obtain ⟨e, he, he2, rfl⟩ := sIn_ex l1
      rw [if_neg (by rw [zI_sIn (by omega) (by omega)]; omega), if_neg (by rw [zI_m1 he2]; exact fun h => h)]
      have c1 : e < 60 := by omega
      have c2 : ¬ e = p := by omega
      simp (decide := true) only [zI_vp he2, zI_cn he2, c1, true_and, adC, ofC, up2_ra, up2_rn, va_ap, ne_eq, if_false, if_true, not_false_eq_true, c2]
  have fin : ∀ Q : Option Value → sm_M → Prop, sm_wp X 67 0 [some (.ref 31), some (.int x), some (.int y), some (.int (zI t))] [] (sM mo G I J) (fun v M => sm_wp X 178 132 [some (.ref 0), some (.int x), some (.int y), some (.int g), some (.int k), some (.int d), some (.int l), some (.int (g ||| k)), none] (v.toList ++ []) M Q) = Q (some (.int (zI p))) (sM mo G (ofC I p x y g k d l (if l = -1 then zI p else I 41 l.toNatClampNeg)) J) := by
    intro Q
    rw [e67]
    simp only [tl_some]
    rw [lp_178_132, e68]
    simp only [tl_none]
    rw [lp_178_150]
  simp only [fin]
  rcases hl with rfl | ⟨l1, l2⟩
  · simp only [if_true]
  · have l3 : ¬ l = -1 := by
      obtain ⟨e, he, he2, rfl⟩ := sIn_ex l1
      rw [zI_m1 he2]
      exact fun h => h
    simp only [l3, eq_true l1, l2, if_false, if_true, not_false_eq_true, and_self]
theorem nH_offer0 {n m t p : Nat} (hn : I 1 0 = zI n) (hm : I 1 1 = zI m) (h6 : m ≤ 6) (hp : I 31 0 = zI p) (h60 : p ≤ 60) (ht : I 1 3 = zI t) (x y g k d l : Int32) (hT : ¬ ofT n m t p (I 1 2) (I 42) x y g k d l) : sm_wp X 178 0 [some (.ref 0), some (.int x), some (.int y), some (.int g), some (.int k), some (.int d), some (.int l), none, none] [] (sM mo G I J) Q = Q (some (.int (-1))) (sM mo G I J) := by
  unfold ofT at hT
  rw [lp_178_0]
  simp only [hPres_vp hm h6, hPap_vp hp h60, hn, ht, hp]
  simp only [show ((60 : Int32) ≤ zI p) = (60 ≤ p) from zIl_le (by decide) (by omega)]
  by_cases a : sIn x m ∧ bt (I 1 2) x.toNatClampNeg = true
  · by_cases b : sIn y m ∧ bt (I 1 2) y.toNatClampNeg = true
    · simp only [eq_true a, eq_true b, true_and, not_true_eq_false, if_false] at hT ⊢
      by_cases e1 : x = y
      · simp only [e1, not_true_eq_false, not_false_eq_true, if_true, if_false]
      · by_cases e2 : g ||| k = 0
        · simp only [e1, e2, not_true_eq_false, not_false_eq_true, if_true, if_false]
        · by_cases e3 : g &&& k = 0
          · by_cases e4 : (g ||| k) &&& ((((1 : Int32) <<< (zI n &&& 31)) - 1) ^^^ (-1)) = 0
            · by_cases e5 : d < zI t
              · simp only [e1, e2, e3, e4, e5, not_true_eq_false, not_false_eq_true, if_true, if_false]
              · by_cases e6 : 300 < d
                · simp only [e1, e2, e3, e4, e5, e6, not_true_eq_false, not_false_eq_true, if_true, if_false]
                · by_cases e7 : 60 ≤ p
                  · simp only [e1, e2, e3, e4, e5, e6, e7, not_true_eq_false, not_false_eq_true, if_true, if_false]
                  · by_cases e8 : l = -1
                    · exact absurd ⟨e1, ⟨e2, e3, e4⟩, e5, e6, by omega, Or.inl e8⟩ hT
                    · by_cases e9 : sIn l p ∧ ¬ I 42 l.toNatClampNeg = -1
                      · exact absurd ⟨e1, ⟨e2, e3, e4⟩, e5, e6, by omega, Or.inr e9⟩ hT
                      · simp only [e1, e2, e3, e4, e5, e6, e7, e8, eq_false e9, not_true_eq_false, not_false_eq_true, if_true, if_false]
            · simp only [e1, e2, e3, e4, not_true_eq_false, not_false_eq_true, if_true, if_false]
          · simp only [e1, e2, e3, not_true_eq_false, not_false_eq_true, if_true, if_false]
    · simp only [eq_true a, eq_false b, not_true_eq_false, not_false_eq_true, if_false, if_true]
  · simp only [eq_false a, not_false_eq_true, if_true]
theorem mP1 {I : Nat → Nat → Int32} {n : Nat} (h : I 81 10 = zI n) (hn : n ≤ 6) (x : Int32) : (bi (vf_Model_isPresent (up2 I 81 2 0) x) = 0) = ¬ (sIn x n ∧ bt (I 81 15) x.toNatClampNeg = true) := by rw [bi_eq, mP0 h hn]
theorem nM_offer1 {n m t p : Nat} (hn : I 81 3 = zI n) (h12 : n ≤ 12) (hm : I 81 10 = zI m) (h6 : m ≤ 6) (hp : I 81 46 = zI p) (h60 : p ≤ 60) (ht : I 81 16 = zI t) (x y g k d l : Int32) (f : Nat → Int32) (hf : ∀ j, j < p → (I 107 j = 0 ↔ ¬ f j = -1)) (hT : ofT n m t p (I 81 15) f x y g k d l) : sm_wp X 247 0 [some (.ref 81), some (.int x), some (.int y), some (.int g), some (.int k), some (.int d), some (.int l)] [] (sM mo G I J) Q = Q (some (.int (zI p))) (sM mo G (ofM I p x y g k d l) J) := by
  obtain ⟨a, b, xy, gg, d1, d2, p6, hl⟩ := hT
  obtain ⟨g1, g2, g3, g4, g5, g6⟩ := (of_eq h12 g k).mp gg
  have p7 : ¬ p = 60 := by omega
  have e111 : sm_wp X 247 111 [some (.ref 81), some (.int x), some (.int y), some (.int g), some (.int k), some (.int d), some (.int l)] [] (sM mo G (up2 I 81 2 0) J) Q = Q (some (.int (zI p))) (sM mo G (ofM I p x y g k d l) J) := by
    rw [bk_247_111]
    simp (decide := true) only [up2_ne, up2_sn, ne_eq, not_false_eq_true, hp, nar_0, up2_ss]
    simp (disch := first | omega | decide) only [zI_lt, zI_le, zI_eq, zI_cn, zI_vp, zI_add, zI_mul, zI_sub, zIl_add, zIr_add, zIl_mul, zIr_mul, zIr_sub, zIl_lt, zIr_lt, zIl_le, zIr_le, zIl_eq, zIr_eq, zI_sIn, zI_m1, zI_m1', Int32.add_zero, Int32.or_zero, p6, true_and, Nat.add_sub_cancel]
    rfl
  rw [bk_247_0]
  simp (decide := true) only [up2_ra, up2_rn, va_ap, ne_eq, if_false, if_true, not_false_eq_true, hp, ct_Model_isPresent, tl_some, bk_247_19, bk_247_27, ct_Model_isIn, bk_247_91, ct_Model_isOffer, bk_247_106, mP1 hm h6, hn, ht, e111]
  simp (disch := first | omega | decide) only [zI_lt, zI_le, zI_eq, zI_cn, zI_vp, zI_add, zI_mul, zI_sub, zIl_add, zIr_add, zIl_mul, zIr_mul, zIr_sub, zIl_lt, zIr_lt, zIl_le, zIr_le, zIl_eq, zIr_eq, zI_sIn, zI_m1, zI_m1', Int32.add_zero, Int32.or_zero, p7, eq_true a, eq_true b, xy, g1, g2, g3, g4, g5, g6, bi_eq, bi_ne, vf_Model_isIn, d1, d2, not_true_eq_false, not_false_eq_true, if_true, if_false, and_self]
  rcases hl with rfl | ⟨l1, l2⟩
  · simp only [if_true]
  · obtain ⟨e, he, he2, rfl⟩ := sIn_ex l1
    rw [zI_cn he2] at l2
    have c1 : e < 60 := by omega
    have c2 := (hf e he).mpr l2
    have c3 : ¬ p ≤ e := by omega
    simp (decide := true) only [vc_Model_isOffer, vf_Model_isOffer, up2_ra, up2_rn, va_ap, ne_eq, if_false, if_true, not_false_eq_true, hp]
    simp (disch := first | omega | decide) only [zI_lt, zI_le, zI_eq, zI_cn, zI_vp, zI_add, zI_mul, zI_sub, zIl_add, zIr_add, zIl_mul, zIr_mul, zIr_sub, zIl_lt, zIr_lt, zIl_le, zIr_le, zIl_eq, zIr_eq, zI_sIn, zI_m1, zI_m1', Int32.add_zero, Int32.or_zero, c1, c2, c3, Nat.not_lt_zero, not_false_eq_true, not_true_eq_false, if_true, if_false, and_self, true_and, implies_true]
theorem nM_offer0 {n m t p : Nat} (hn : I 81 3 = zI n) (h12 : n ≤ 12) (hm : I 81 10 = zI m) (h6 : m ≤ 6) (hp : I 81 46 = zI p) (h60 : p ≤ 60) (ht : I 81 16 = zI t) (x y g k d l : Int32) (f : Nat → Int32) (hf : ∀ j, j < p → (I 107 j = 0 ↔ ¬ f j = -1)) (hT : ¬ ofT n m t p (I 81 15) f x y g k d l) : sm_wp X 247 0 [some (.ref 81), some (.int x), some (.int y), some (.int g), some (.int k), some (.int d), some (.int l)] [] (sM mo G I J) Q = Q (some (.int (-1))) (sM mo G (up2 I 81 2 0) J) := by
  unfold ofT at hT
  rw [of_eq h12 g k] at hT
  rw [bk_247_0]
  simp (decide := true) only [up2_ra, up2_rn, va_ap, ne_eq, if_false, if_true, not_false_eq_true, hp, ct_Model_isPresent, tl_some, bk_247_19, bk_247_27, ct_Model_isIn, bk_247_91, ct_Model_isOffer, bk_247_106, bk_247_109, mP1 hm h6, hn, ht, bi_eq, bi_ne, true_and]
  simp only [show (zI p = (60 : Int32)) = (p = 60) from zIr_eq (by decide) (by omega)]
  by_cases p6 : p = 60
  · simp only [p6, if_true]
  · have p7 : p < 60 := by omega
    by_cases a : sIn x m ∧ bt (I 81 15) x.toNatClampNeg = true
    · by_cases b : sIn y m ∧ bt (I 81 15) y.toNatClampNeg = true
      · simp only [eq_true a, eq_true b, p6, p7, true_and, not_true_eq_false, if_false] at hT ⊢
        by_cases e1 : x = y
        · simp only [e1, if_true]
        · by_cases e2 : ¬ g < 0 ∧ ¬ (1 : Int32) <<< (zI n &&& 31) ≤ g ∧ ¬ k < 0 ∧ ¬ (1 : Int32) <<< (zI n &&& 31) ≤ k ∧ ¬ g + k = 0 ∧ g &&& k = 0
          · by_cases e3 : ¬ d < zI t ∧ ¬ 300 < d
            · have e4 : ¬ l = -1 := fun e => hT ⟨e1, e2, e3.1, e3.2, Or.inl e⟩
              have e5 : ¬ (sIn l p ∧ ¬ f l.toNatClampNeg = -1) := fun e => hT ⟨e1, e2, e3.1, e3.2, Or.inr e⟩
              obtain ⟨q1, q2, q3, q4, q5, q6⟩ := e2
              simp only [e1, q1, q2, q3, q4, q5, q6, vf_Model_isIn, e3, e4, not_true_eq_false, not_false_eq_true, if_true, if_false, and_self, vc_Model_isOffer, vf_Model_isOffer]
              simp (decide := true) only [up2_ra, up2_rn, va_ap, ne_eq, if_false, if_true, not_false_eq_true, hp]
              by_cases l1 : sIn l p
              · obtain ⟨e, he, he2, rfl⟩ := sIn_ex l1
                have c1 : e < 60 := by omega
                have c3 : ¬ p ≤ e := by omega
                have c4 : ¬ I 107 e = 0 := by
                  intro h0
                  have := (hf e he).mp h0
                  rw [zI_cn he2] at e5
                  exact e5 ⟨l1, this⟩
                simp (disch := first | omega | decide) only [zI_lt, zI_le, zI_eq, zI_cn, zI_vp, zI_add, zI_mul, zI_sub, zIl_add, zIr_add, zIl_mul, zIr_mul, zIr_sub, zIl_lt, zIr_lt, zIl_le, zIr_le, zIl_eq, zIr_eq, zI_sIn, zI_m1, zI_m1', Int32.add_zero, Int32.or_zero, c1, c3, c4, Nat.not_lt_zero, not_false_eq_true, not_true_eq_false, if_true, if_false, and_self, and_false, true_and, implies_true]
              · have l2 : l < 0 ∨ zI p ≤ l := by
                  rcases Classical.em (l < 0) with h | h
                  · exact Or.inl h
                  · rcases Classical.em (zI p ≤ l) with h2 | h2
                    · exact Or.inr h2
                    · exact absurd ⟨h, h2⟩ l1
                rcases l2 with l2 | l2
                · simp only [l2, not_true_eq_false, false_implies, true_and, false_and, if_false, not_false_eq_true, if_true]
                · simp only [l2, not_true_eq_false, false_implies, implies_true, true_and, false_and, and_false, if_false, not_false_eq_true, if_true]
            · obtain ⟨q1, q2, q3, q4, q5, q6⟩ := e2
              have e4 : ¬ vf_Model_isIn d (zI t) 300 := e3
              simp only [e1, q1, q2, q3, q4, q5, q6, eq_false e4, not_true_eq_false, not_false_eq_true, if_true, if_false]
          · by_cases q1 : g < 0
            · simp only [e1, q1, not_true_eq_false, not_false_eq_true, if_true, if_false]
            · by_cases q2 : (1 : Int32) <<< (zI n &&& 31) ≤ g
              · simp only [e1, q1, q2, not_true_eq_false, not_false_eq_true, if_true, if_false]
              · by_cases q3 : k < 0
                · simp only [e1, q1, q2, q3, not_true_eq_false, not_false_eq_true, if_true, if_false]
                · by_cases q4 : (1 : Int32) <<< (zI n &&& 31) ≤ k
                  · simp only [e1, q1, q2, q3, q4, not_true_eq_false, not_false_eq_true, if_true, if_false]
                  · by_cases q5 : g + k = 0
                    · simp only [e1, q1, q2, q3, q4, q5, not_true_eq_false, not_false_eq_true, if_true, if_false]
                    · by_cases q6 : g &&& k = 0
                      · exact absurd ⟨q1, q2, q3, q4, q5, q6⟩ e2
                      · simp only [e1, q1, q2, q3, q4, q5, q6, not_true_eq_false, not_false_eq_true, if_true, if_false]
      · simp only [eq_true a, eq_false b, p6, not_true_eq_false, not_false_eq_true, if_false, if_true]
    · simp only [eq_false a, p6, not_false_eq_true, if_true, if_false]
end O1
section O2
variable {X : (Nat → Int32) × Nat} {c : Nat} {mo : Bool} {G : Nat × Nat} {I : Nat → Nat → Int32} {J : Nat → Nat → Int64}
theorem op_offer (h : inv c mo G I J) (x y g k d l : Int32) : Agr X 178 [some (.ref 0), some (.int x), some (.int y), some (.int g), some (.int k), some (.int d), some (.int l), none, none] 247 [some (.ref 81), some (.int x), some (.int y), some (.int g), some (.int k), some (.int d), some (.int l)] (sM mo G I J) (Inv (c + 1)) := by
  have hv := inv_t 0 h
  obtain ⟨n, m, t, p, q, r, ch, ln, ⟨hn, hn', h12, hm, hm', h6, hp, hpb, ht, ht', h300⟩, hE, hV, hY, hG, hK, hP, hS, hA, hT, hF, hB, hC, hD, hD2, hX, hZ⟩ := h
  have hP0 := hP
  obtain ⟨p1, p2, p3, ⟨f1, f2, f3, f4, f5, f6, f7, f8, f9, f10, f11⟩, p5, p6, p7⟩ := hP0
  have hf : ∀ j, j < p → (I 107 j = 0 ↔ ¬ I 42 j = -1) := by
    intro j hj
    rcases ivP_q hP hj with ⟨a, b⟩ | ⟨a, b, -⟩
    · rw [a, b]; decide
    · rw [b]; simp [a]
  unfold Agr
  by_cases g0 : ofT n m t p (I 1 2) (I 42) x y g k d l
  · rw [nH_offer1 _ _ _ _ _ _ hn hm h6 p1 p3 ht x y g k d l g0, nM_offer1 _ _ _ _ _ _ (n := n) (m := m) (t := t) (p := p) (by simp (decide := true) only [ofC, adC, up2_ra, up2_rn, va_ap, ne_eq, if_false, if_true, not_false_eq_true]; exact hn') h12 (by simp (decide := true) only [ofC, adC, up2_ra, up2_rn, va_ap, ne_eq, if_false, if_true, not_false_eq_true]; exact hm') h6 (by simp (decide := true) only [ofC, adC, up2_ra, up2_rn, va_ap, ne_eq, if_false, if_true, not_false_eq_true]; exact p2) p3 (by simp (decide := true) only [ofC, adC, up2_ra, up2_rn, va_ap, ne_eq, if_false, if_true, not_false_eq_true]; exact ht') x y g k d l (I 42) (by simp (decide := true) only [ofC, adC, up2_ra, up2_rn, va_ap, ne_eq, if_false, if_true, not_false_eq_true]; exact hf) (by simp (decide := true) only [ofC, adC, up2_ra, up2_rn, va_ap, ne_eq, if_false, if_true, not_false_eq_true]; rw [hp]; exact g0)]
    obtain ⟨⟨ax, -⟩, ⟨ay, -⟩, xy, gg, d1, d2, p60, hl⟩ := g0
    obtain ⟨g1, g2, g3⟩ := gg
    have gb := (of_m h12 _).mp g3
    obtain ⟨sx, hsx, -, rfl⟩ := sIn_ex ax
    obtain ⟨sy, hsy, -, rfl⟩ := sIn_ex ay
    have hrt : ∃ rt, (if l = -1 then zI p else I 41 l.toNatClampNeg) = rt ∧ ((l = -1 ∧ rt = zI p) ∨ ∃ j, j < p ∧ l = zI j ∧ ¬ I 42 j = -1 ∧ rt = I 41 j) ∧ ∃ j, j ≤ p ∧ rt = zI j := by
      rcases hl with rfl | ⟨l1, l2⟩
      · exact ⟨zI p, if_pos rfl, Or.inl ⟨rfl, rfl⟩, p, Nat.le_refl _, rfl⟩
      · obtain ⟨e, he, he2, rfl⟩ := sIn_ex l1
        rw [zI_cn he2] at l2 ⊢
        rw [if_neg (by rw [zI_m1 he2]; exact fun h => h)]
        refine ⟨I 41 e, rfl, Or.inr ⟨e, he, rfl, l2, rfl⟩, ?_⟩
        rcases p7 e he with a | ⟨-, -, -, -, -, -, -, -, -, -, j, hj, ej⟩
        · exact absurd a.1 l2
        · exact ⟨j, by omega, ej⟩
    obtain ⟨rt, ert, hr1, hr2⟩ := hrt
    rw [ert]
    have d3 : ∃ e, e ≤ 300 ∧ d = zI e := by
      have d0 : ¬ d < 0 := by
        intro hh
        apply d1
        have := zIl_le (c := 0) (a := t) (by decide) (by omega)
        have : (0 : Int32) ≤ zI t := by rw [this]; exact Nat.zero_le _
        grind
      exact zI_in (c := 300) (by decide) d0 d2
    refine ⟨rfl, mo, G, _, _, rfl, n, m, t, p + 1, q, r, ch, ln, ?_⟩
    simp (decide := true) only [ofC, adC, ofM, up2_ra, up2_rn, va_ap, ne_eq, if_false, if_true, not_false_eq_true]
    refine ⟨⟨hn, hn', h12, hm, hm', h6, hp, hpb, ht, ht', h300⟩, hE, hV, ?_, hG, ivK_s hK, ⟨rfl, rfl, by omega, ⟨by rw [f1], by rw [f2], by rw [f3, ht, ht'], by rw [f4], by rw [f5], by rw [f6], f7, f8, ?_, trivial, by rw [f11]⟩, fun k hk => ?_, fun k hk => ?_, fun j hj => ?_⟩, hS, hA, hT, hF, hB, hC, hD, hD2, hX, ivZ_s hZ⟩
    · obtain ⟨y1, y2, y3⟩ := hY
      have e : va_up (va_up (I 42) p (-1)) p 0 = va_up (I 42) p 0 := by
        funext j
        simp only [va_ap]
        split <;> rfl
      rw [e]
      exact ⟨y1, fun l => by rw [nBound_s (by decide)]; exact y2 l, y3⟩
    · rw [f9]
      funext j
      simp only [va_ap]
      split <;> rfl
    · have e : ¬ k = p := by omega
      simp only [va_ap, e, if_false]
      exact p5 k (by omega)
    · by_cases e : k = p
      · simp only [va_ap, e, if_true]
        exact ⟨⟨sx, hsx, rfl⟩, ⟨sy, hsy, rfl⟩, t, Nat.le_refl _, ht⟩
      · simp only [va_ap, e, if_false]
        exact p6 k (by omega)
    · by_cases e : j = p
      · have z5 := p5 p (Nat.le_refl _)
        subst e
        simp only [va_ap, if_true]
        refine Or.inr ⟨trivial, ⟨0, by decide, rfl⟩, z5.2.1, z5.2.2, fun i hi => ?_, fun i hi => ?_, g2, d3, trivial, ?_, hr2⟩
        · have := gb i hi
          rw [bt_or] at this
          exact (Bool.or_eq_false_iff.mp this).1
        · have := gb i hi
          rw [bt_or] at this
          exact (Bool.or_eq_false_iff.mp this).2
        · rcases hr1 with a | ⟨i, i1, i2, i3, i4⟩
          · exact Or.inl a
          · have e2 : ¬ i = j := by omega
            exact Or.inr ⟨i, i1, i2, by simp only [e2, if_false]; exact i3, by simp only [e2, if_false]; exact i4⟩
      · simp only [va_ap, e, if_false]
        rcases p7 j (by omega) with a | ⟨a1, a2, a3, a4, a5, a6, a7, a8, a9, a10, a11⟩
        · exact Or.inl a
        · refine Or.inr ⟨a1, a2, a3, a4, a5, a6, a7, a8, a9, ?_, a11⟩
          rcases a10 with b | ⟨i, j1, j2, j3, j4⟩
          · exact Or.inl b
          · have e2 : ¬ i = p := by omega
            exact Or.inr ⟨i, j1, j2, by simp only [e2, if_false]; exact j3, by simp only [e2, if_false]; exact j4⟩
  · rw [nH_offer0 _ _ _ _ _ _ hn hm h6 p1 p3 ht x y g k d l g0, nM_offer0 _ _ _ _ _ _ hn' h12 hm' h6 p2 p3 ht' x y g k d l (I 42) hf (by rw [hp]; exact g0)]
    exact ⟨rfl, hv⟩
end O2
end
