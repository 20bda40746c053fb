/-! One turn of each loop, and the stretches between calls, by program. -/
section R3
variable (X : (Nat → Int32) × Nat) (mo : Bool) (G : Nat × Nat) (I : Nat → Nat → Int32) (J : Nat → Nat → Int64) (Q : Option Value → sm_M → Prop)
theorem lpw_135_75 (x1 : Int32) (x2 : Int32) (x3 : Int32) (s0 : Int32) (s1 : Int32) : sm_wp X 135 75 [some (.ref 60), some (.int x1), some (.int x2), some (.int x3)] [.int s1, .int s0] (sM mo G I J) Q = (if ¬ (hBit s0 s1) then (sm_wp X 135 64 [some (.ref 60), some (.int x1), some (.int x2), some (.int (x3 + 1))] [] (sM mo G I J) Q) else (if ¬ (hBit (I 60 2) x3) then (sm_wp X 135 64 [some (.ref 60), some (.int x1), some (.int x2), some (.int (x3 + 1))] [] (sM mo G I J) Q) else (if ¬ (hBit (I 60 2) x2) then (sm_wp X 135 64 [some (.ref 60), some (.int x1), some (.int x2), some (.int (x3 + 1))] [] (sM mo G I J) Q) else (vp_in x3 6 ∧ (vp_in x2 6 ∧ (sm_wp X 149 0 [some (.ref 48), some (.int x3), some (.int x2), some (.int (I 64 (x3.toNatClampNeg))), some (.int (I 64 (x2.toNatClampNeg))), none, none] [] (sM mo G I J) (fun v M => sm_wp X 135 124 [some (.ref 60), some (.int x1), some (.int x2), some (.int x3)] (v.toList ++ []) M Q))))))) := by
  rw [bkw_135_75]
  all_goals (try simp (decide := true) only [bkw_135_0, bkw_135_16, bkw_135_36, bkw_135_42, bkw_135_49, bkw_135_78, bkw_135_89, bkw_135_100, bkw_135_124, bkw_135_129, bkw_135_135, bkw_135_141, ct_House_hasBit, up2_ne, up2_sn, up2_ss, ne_eq, tl_some, tl_none, zb_0, zb_1, zb_bi, true_and, bi_eq, bi_ne, oz_f, zz_t, if_true, if_false, not_true_eq_false, not_false_eq_true])
  all_goals grind (splits := 30) [bi]
theorem lpw_135_124 (x1 : Int32) (x2 : Int32) (x3 : Int32) (s0 : Int32) : sm_wp X 135 124 [some (.ref 60), some (.int x1), some (.int x2), some (.int x3)] [.int s0] (sM mo G I J) Q = (if s0 = 0 then (sm_wp X 135 64 [some (.ref 60), some (.int x1), some (.int x2), some (.int (x3 + 1))] [] (sM mo G I J) Q) else (Q (some (.int 0)) (sM mo G I J))) := by
  rw [bkw_135_124]
  all_goals (try simp (decide := true) only [bkw_135_0, bkw_135_16, bkw_135_36, bkw_135_42, bkw_135_49, bkw_135_75, bkw_135_78, bkw_135_89, bkw_135_100, bkw_135_129, bkw_135_135, bkw_135_141, up2_ne, up2_sn, up2_ss, ne_eq, tl_some, tl_none, zb_0, zb_1, zb_bi, true_and, bi_eq, bi_ne, oz_f, zz_t, if_true, if_false, not_true_eq_false, not_false_eq_true])
  all_goals grind (splits := 30) [bi]
theorem lpb_135_0 (b : Nat) (hb : b = 52 ∨ b = 60)  : sm_wp X 135 0 [some (.ref b), none, none, none] [] (sM mo G I J) Q = (sm_wp X 135 2 [some (.ref b), some (.int 0), none, none] [] (sM mo G I J) Q) := by
  rcases hb with rfl | rfl
  · exact lp_135_0 X mo G I J Q 
  · exact lpw_135_0 X mo G I J Q 
theorem lpb_135_2 (b : Nat) (hb : b = 52 ∨ b = 60) (x1 : Int32) : sm_wp X 135 2 [some (.ref b), some (.int x1), none, none] [] (sM mo G I J) Q = (if 6 ≤ x1 then (sm_wp X 145 0 [some (.ref 48), none, none, none] [] (sM mo G I J) (fun v M => sm_wp X 135 49 [some (.ref b), some (.int x1), none, none] (v.toList ++ []) M Q)) else (if ¬ (hBit (I b 2) x1) then (sm_wp X 135 2 [some (.ref b), some (.int (x1 + 1)), none, none] [] (sM mo G I J) Q) else (vp_in x1 6 ∧ (if I (b + 5) (x1.toNatClampNeg) ≤ I (b + 4) (x1.toNatClampNeg) then (sm_wp X 135 2 [some (.ref b), some (.int (x1 + 1)), none, none] [] (sM mo G I J) Q) else (Q (some (.int 0)) (sM mo G I J)))))) := by
  rcases hb with rfl | rfl
  · exact lp_135_2 X mo G I J Q x1
  · exact lpw_135_2 X mo G I J Q x1
theorem lpb_135_52 (b : Nat) (hb : b = 52 ∨ b = 60) (x1 : Int32) (x2 : Int32) : sm_wp X 135 52 [some (.ref b), some (.int x1), some (.int x2), none] [] (sM mo G I J) Q = (if 6 ≤ x2 then (Q (some (.int 1)) (sM mo G I J)) else (if x1 = 0 then (Q (some (.int 1)) (sM mo G I J)) else (sm_wp X 135 64 [some (.ref b), some (.int x1), some (.int x2), some (.int 0)] [] (sM mo G I J) Q))) := by
  rcases hb with rfl | rfl
  · exact lp_135_52 X mo G I J Q x1 x2
  · exact lpw_135_52 X mo G I J Q x1 x2
theorem lpb_135_64 (b : Nat) (hb : b = 52 ∨ b = 60) (x1 : Int32) (x2 : Int32) (x3 : Int32) : sm_wp X 135 64 [some (.ref b), some (.int x1), some (.int x2), some (.int x3)] [] (sM mo G I J) Q = (if x2 ≤ x3 then (sm_wp X 135 52 [some (.ref b), some (.int x1), some (.int (x2 + 1)), none] [] (sM mo G I J) Q) else (sm_wp X 147 0 [some (.int x3), some (.int x2)] [] (sM mo G I J) (fun v M => sm_wp X 135 75 [some (.ref b), some (.int x1), some (.int x2), some (.int x3)] (v.toList ++ [.int x1]) M Q))) := by
  rcases hb with rfl | rfl
  · exact lp_135_64 X mo G I J Q x1 x2 x3
  · exact lpw_135_64 X mo G I J Q x1 x2 x3
theorem lpb_135_49 (b : Nat) (hb : b = 52 ∨ b = 60) (x1 : Int32) (s0 : Int32) : sm_wp X 135 49 [some (.ref b), some (.int x1), none, none] [.int s0] (sM mo G I J) Q = (sm_wp X 135 52 [some (.ref b), some (.int s0), some (.int 1), none] [] (sM mo G I J) Q) := by
  rcases hb with rfl | rfl
  · exact lp_135_49 X mo G I J Q x1 s0
  · exact lpw_135_49 X mo G I J Q x1 s0
theorem lpb_135_75 (b : Nat) (hb : b = 52 ∨ b = 60) (x1 : Int32) (x2 : Int32) (x3 : Int32) (s0 : Int32) (s1 : Int32) : sm_wp X 135 75 [some (.ref b), some (.int x1), some (.int x2), some (.int x3)] [.int s1, .int s0] (sM mo G I J) Q = (if ¬ (hBit s0 s1) then (sm_wp X 135 64 [some (.ref b), some (.int x1), some (.int x2), some (.int (x3 + 1))] [] (sM mo G I J) Q) else (if ¬ (hBit (I b 2) x3) then (sm_wp X 135 64 [some (.ref b), some (.int x1), some (.int x2), some (.int (x3 + 1))] [] (sM mo G I J) Q) else (if ¬ (hBit (I b 2) x2) then (sm_wp X 135 64 [some (.ref b), some (.int x1), some (.int x2), some (.int (x3 + 1))] [] (sM mo G I J) Q) else (vp_in x3 6 ∧ (vp_in x2 6 ∧ (sm_wp X 149 0 [some (.ref 48), some (.int x3), some (.int x2), some (.int (I (b + 4) (x3.toNatClampNeg))), some (.int (I (b + 4) (x2.toNatClampNeg))), none, none] [] (sM mo G I J) (fun v M => sm_wp X 135 124 [some (.ref b), some (.int x1), some (.int x2), some (.int x3)] (v.toList ++ []) M Q))))))) := by
  rcases hb with rfl | rfl
  · exact lp_135_75 X mo G I J Q x1 x2 x3 s0 s1
  · exact lpw_135_75 X mo G I J Q x1 x2 x3 s0 s1
theorem lpb_135_124 (b : Nat) (hb : b = 52 ∨ b = 60) (x1 : Int32) (x2 : Int32) (x3 : Int32) (s0 : Int32) : sm_wp X 135 124 [some (.ref b), some (.int x1), some (.int x2), some (.int x3)] [.int s0] (sM mo G I J) Q = (if s0 = 0 then (sm_wp X 135 64 [some (.ref b), some (.int x1), some (.int x2), some (.int (x3 + 1))] [] (sM mo G I J) Q) else (Q (some (.int 0)) (sM mo G I J))) := by
  rcases hb with rfl | rfl
  · exact lp_135_124 X mo G I J Q x1 x2 x3 s0
  · exact lpw_135_124 X mo G I J Q x1 x2 x3 s0
theorem lp_136_0  : sm_wp X 136 0 [some (.ref 52), none, none, none, none] [] (sM mo G I J) Q = (sm_wp X 136 8 [some (.ref 52), some (.int 1188), some (.int 0), some (.int 0), none] [] (sM mo G I J) Q) := by
  rw [bk_136_0]
  all_goals (try simp (decide := true) only [bk_136_22, bk_136_52, bk_136_58, bk_136_82, bk_136_86, bk_136_87, bk_136_99, bk_136_100, bk_136_140, up2_ne, up2_sn, up2_ss, ne_eq, tl_some, tl_none, zb_0, zb_1, zb_bi, true_and, bi_eq, bi_ne, oz_f, zz_t, if_true, if_false, not_true_eq_false, not_false_eq_true])
  all_goals grind (splits := 30) [bi]
theorem lp_136_8 (x1 : Int32) (x2 : Int32) (x3 : Int32) : sm_wp X 136 8 [some (.ref 52), some (.int x1), some (.int x2), some (.int x3), none] [] (sM mo G I J) Q = (if 6 ≤ x3 then (if I 52 17 < x1 then (if I 52 2 = 0 then (Q none (sM mo G I J)) else (sm_wp X 136 113 [some (.ref 52), none, none, none, some (.int 0)] [] (sM mo G (up2 (up2 I 52 17 x1) 52 18 x2) J) Q)) else (if ¬ x1 = I 52 17 then (if I 52 2 = 0 then (Q none (sM mo G I J)) else (Q none (sM mo G I J))) else (if x2 ≤ I 52 18 then (if I 52 2 = 0 then (Q none (sM mo G I J)) else (Q none (sM mo G I J))) else (if I 52 2 = 0 then (Q none (sM mo G I J)) else (sm_wp X 136 113 [some (.ref 52), none, none, none, some (.int 0)] [] (sM mo G (up2 (up2 I 52 17 x1) 52 18 x2) J) Q))))) else (if ¬ (hBit (I 52 2) x3) then (sm_wp X 136 8 [some (.ref 52), some (.int x1), some (.int x2), some (.int (x3 + 1)), none] [] (sM mo G I J) Q) else (vp_in x3 6 ∧ (sm_wp X 136 8 [some (.ref 52), some (.int (if ((I 56 (x3.toNatClampNeg)) - (I 58 (x3.toNatClampNeg)) : Int32) < x1 then (I 56 (x3.toNatClampNeg)) - (I 58 (x3.toNatClampNeg)) else x1)), some (.int (x2 + (I 56 (x3.toNatClampNeg)))), some (.int (x3 + 1)), none] [] (sM mo G I J) Q)))) := by
  rw [bk_136_8]
  all_goals (try simp (decide := true) only [bk_136_0, bk_136_22, bk_136_52, bk_136_58, bk_136_82, bk_136_86, bk_136_87, bk_136_99, bk_136_100, bk_136_140, ct_House_hasBit, up2_ne, up2_sn, up2_ss, ne_eq, tl_some, tl_none, zb_0, zb_1, zb_bi, true_and, bi_eq, bi_ne, oz_f, zz_t, if_true, if_false, not_true_eq_false, not_false_eq_true])
  all_goals grind (splits := 30) [bi]
theorem lp_136_113 (x4 : Int32) : sm_wp X 136 113 [some (.ref 52), none, none, none, some (.int x4)] [] (sM mo G I J) Q = (if 8 ≤ x4 then (Q none (sM mo G I J)) else (vp_in x4 8 ∧ (sm_wp X 136 113 [some (.ref 52), none, none, none, some (.int (x4 + 1))] [] (sM mo G (up2 I 59 x4.toNatClampNeg (I 55 (x4.toNatClampNeg))) J) Q))) := by
  rw [bk_136_113]
  all_goals (try simp (decide := true) only [bk_136_0, bk_136_22, bk_136_52, bk_136_58, bk_136_82, bk_136_86, bk_136_87, bk_136_99, bk_136_100, bk_136_140, up2_ne, up2_sn, up2_ss, ne_eq, tl_some, tl_none, zb_0, zb_1, zb_bi, true_and, bi_eq, bi_ne, oz_f, zz_t, if_true, if_false, not_true_eq_false, not_false_eq_true])
  all_goals grind (splits := 30) [bi]
theorem lpw_136_0  : sm_wp X 136 0 [some (.ref 60), none, none, none, none] [] (sM mo G I J) Q = (sm_wp X 136 8 [some (.ref 60), some (.int 1188), some (.int 0), some (.int 0), none] [] (sM mo G I J) Q) := by
  rw [bkw_136_0]
  all_goals (try simp (decide := true) only [bkw_136_22, bkw_136_52, bkw_136_58, bkw_136_82, bkw_136_86, bkw_136_87, bkw_136_99, bkw_136_100, bkw_136_140, up2_ne, up2_sn, up2_ss, ne_eq, tl_some, tl_none, zb_0, zb_1, zb_bi, true_and, bi_eq, bi_ne, oz_f, zz_t, if_true, if_false, not_true_eq_false, not_false_eq_true])
  all_goals grind (splits := 30) [bi]
theorem lpw_136_8 (x1 : Int32) (x2 : Int32) (x3 : Int32) : sm_wp X 136 8 [some (.ref 60), some (.int x1), some (.int x2), some (.int x3), none] [] (sM mo G I J) Q = (if 6 ≤ x3 then (if I 60 17 < x1 then (if I 60 2 = 0 then (Q none (sM mo G I J)) else (sm_wp X 136 113 [some (.ref 60), none, none, none, some (.int 0)] [] (sM mo G (up2 (up2 I 60 17 x1) 60 18 x2) J) Q)) else (if ¬ x1 = I 60 17 then (if I 60 2 = 0 then (Q none (sM mo G I J)) else (Q none (sM mo G I J))) else (if x2 ≤ I 60 18 then (if I 60 2 = 0 then (Q none (sM mo G I J)) else (Q none (sM mo G I J))) else (if I 60 2 = 0 then (Q none (sM mo G I J)) else (sm_wp X 136 113 [some (.ref 60), none, none, none, some (.int 0)] [] (sM mo G (up2 (up2 I 60 17 x1) 60 18 x2) J) Q))))) else (if ¬ (hBit (I 60 2) x3) then (sm_wp X 136 8 [some (.ref 60), some (.int x1), some (.int x2), some (.int (x3 + 1)), none] [] (sM mo G I J) Q) else (vp_in x3 6 ∧ (sm_wp X 136 8 [some (.ref 60), some (.int (if ((I 64 (x3.toNatClampNeg)) - (I 66 (x3.toNatClampNeg)) : Int32) < x1 then (I 64 (x3.toNatClampNeg)) - (I 66 (x3.toNatClampNeg)) else x1)), some (.int (x2 + (I 64 (x3.toNatClampNeg)))), some (.int (x3 + 1)), none] [] (sM mo G I J) Q)))) := by
  rw [bkw_136_8]
  all_goals (try simp (decide := true) only [bkw_136_0, bkw_136_22, bkw_136_52, bkw_136_58, bkw_136_82, bkw_136_86, bkw_136_87, bkw_136_99, bkw_136_100, bkw_136_140, ct_House_hasBit, up2_ne, up2_sn, up2_ss, ne_eq, tl_some, tl_none, zb_0, zb_1, zb_bi, true_and, bi_eq, bi_ne, oz_f, zz_t, if_true, if_false, not_true_eq_false, not_false_eq_true])
  all_goals grind (splits := 30) [bi]
theorem lpw_136_113 (x4 : Int32) : sm_wp X 136 113 [some (.ref 60), none, none, none, some (.int x4)] [] (sM mo G I J) Q = (if 8 ≤ x4 then (Q none (sM mo G I J)) else (vp_in x4 8 ∧ (sm_wp X 136 113 [some (.ref 60), none, none, none, some (.int (x4 + 1))] [] (sM mo G (up2 I 67 x4.toNatClampNeg (I 63 (x4.toNatClampNeg))) J) Q))) := by
  rw [bkw_136_113]
  all_goals (try simp (decide := true) only [bkw_136_0, bkw_136_22, bkw_136_52, bkw_136_58, bkw_136_82, bkw_136_86, bkw_136_87, bkw_136_99, bkw_136_100, bkw_136_140, up2_ne, up2_sn, up2_ss, ne_eq, tl_some, tl_none, zb_0, zb_1, zb_bi, true_and, bi_eq, bi_ne, oz_f, zz_t, if_true, if_false, not_true_eq_false, not_false_eq_true])
  all_goals grind (splits := 30) [bi]
theorem lpb_136_0 (b : Nat) (hb : b = 52 ∨ b = 60)  : sm_wp X 136 0 [some (.ref b), none, none, none, none] [] (sM mo G I J) Q = (sm_wp X 136 8 [some (.ref b), some (.int 1188), some (.int 0), some (.int 0), none] [] (sM mo G I J) Q) := by
  rcases hb with rfl | rfl
  · exact lp_136_0 X mo G I J Q 
  · exact lpw_136_0 X mo G I J Q 
theorem lpb_136_8 (b : Nat) (hb : b = 52 ∨ b = 60) (x1 : Int32) (x2 : Int32) (x3 : Int32) : sm_wp X 136 8 [some (.ref b), some (.int x1), some (.int x2), some (.int x3), none] [] (sM mo G I J) Q = (if 6 ≤ x3 then (if I b 17 < x1 then (if I b 2 = 0 then (Q none (sM mo G I J)) else (sm_wp X 136 113 [some (.ref b), none, none, none, some (.int 0)] [] (sM mo G (up2 (up2 I b 17 x1) b 18 x2) J) Q)) else (if ¬ x1 = I b 17 then (if I b 2 = 0 then (Q none (sM mo G I J)) else (Q none (sM mo G I J))) else (if x2 ≤ I b 18 then (if I b 2 = 0 then (Q none (sM mo G I J)) else (Q none (sM mo G I J))) else (if I b 2 = 0 then (Q none (sM mo G I J)) else (sm_wp X 136 113 [some (.ref b), none, none, none, some (.int 0)] [] (sM mo G (up2 (up2 I b 17 x1) b 18 x2) J) Q))))) else (if ¬ (hBit (I b 2) x3) then (sm_wp X 136 8 [some (.ref b), some (.int x1), some (.int x2), some (.int (x3 + 1)), none] [] (sM mo G I J) Q) else (vp_in x3 6 ∧ (sm_wp X 136 8 [some (.ref b), some (.int (if ((I (b + 4) (x3.toNatClampNeg)) - (I (b + 6) (x3.toNatClampNeg)) : Int32) < x1 then (I (b + 4) (x3.toNatClampNeg)) - (I (b + 6) (x3.toNatClampNeg)) else x1)), some (.int (x2 + (I (b + 4) (x3.toNatClampNeg)))), some (.int (x3 + 1)), none] [] (sM mo G I J) Q)))) := by
  rcases hb with rfl | rfl
  · exact lp_136_8 X mo G I J Q x1 x2 x3
  · exact lpw_136_8 X mo G I J Q x1 x2 x3
theorem lpb_136_113 (b : Nat) (hb : b = 52 ∨ b = 60) (x4 : Int32) : sm_wp X 136 113 [some (.ref b), none, none, none, some (.int x4)] [] (sM mo G I J) Q = (if 8 ≤ x4 then (Q none (sM mo G I J)) else (vp_in x4 8 ∧ (sm_wp X 136 113 [some (.ref b), none, none, none, some (.int (x4 + 1))] [] (sM mo G (up2 I (b + 7) x4.toNatClampNeg (I (b + 3) (x4.toNatClampNeg))) J) Q))) := by
  rcases hb with rfl | rfl
  · exact lp_136_113 X mo G I J Q x4
  · exact lpw_136_113 X mo G I J Q x4
theorem lp_137_0  : sm_wp X 137 0 [some (.ref 52), none, none] [] (sM mo G I J) Q = (sm_wp X 137 12 [some (.ref 52), some (.int ((if (8 : Int32) < I 52 5 then 8 else I 52 5) - 1)), none] [] (sM mo G I J) Q) := by
  rw [bk_137_0]
  all_goals (try simp (decide := true) only [bk_137_27, bk_137_39, bk_137_41, bk_137_49, bk_137_52, bk_137_58, up2_ne, up2_sn, up2_ss, ne_eq, tl_some, tl_none, zb_0, zb_1, zb_bi, true_and, bi_eq, bi_ne, oz_f, zz_t, if_true, if_false, not_true_eq_false, not_false_eq_true])
  all_goals grind (splits := 30) [bi]
theorem lp_137_12 (x1 : Int32) : sm_wp X 137 12 [some (.ref 52), some (.int x1), none] [] (sM mo G I J) Q = (if x1 < 0 then (Q (some (.int 0)) (sM mo G I J)) else (vp_in x1 8 ∧ (sm_wp X 132 0 [some (.ref 52), some (.int x1), some (.int (I 55 (x1.toNatClampNeg))), none] [] (sM mo G I J) (fun v M => sm_wp X 137 27 [some (.ref 52), some (.int x1), none] (v.toList ++ []) M Q)))) := by
  rw [bk_137_12]
  all_goals (try simp (decide := true) only [bk_137_0, bk_137_27, bk_137_39, bk_137_41, bk_137_49, bk_137_52, bk_137_58, up2_ne, up2_sn, up2_ss, ne_eq, tl_some, tl_none, zb_0, zb_1, zb_bi, true_and, bi_eq, bi_ne, oz_f, zz_t, if_true, if_false, not_true_eq_false, not_false_eq_true])
  all_goals grind (splits := 30) [bi]
theorem lp_137_27 (x1 : Int32) (s0 : Int32) : sm_wp X 137 27 [some (.ref 52), some (.int x1), none] [.int s0] (sM mo G I J) Q = (if s0 = (-1) then (sm_wp X 132 0 [some (.ref 52), some (.int x1), some (.int (-1)), none] [] (sM mo G I J) (fun v M => sm_wp X 137 49 [some (.ref 52), some (.int x1), some (.int s0)] (v.toList ++ [.int x1, .ref 52]) M Q)) else (sm_wp X 133 0 [some (.ref 52), some (.int x1), some (.int s0)] [] (sM mo G I J) (fun v M => sm_wp X 137 39 [some (.ref 52), some (.int x1), some (.int s0)] (v.toList ++ []) M Q))) := by
  rw [bk_137_27]
  all_goals (try simp (decide := true) only [bk_137_0, bk_137_39, bk_137_41, bk_137_49, bk_137_52, bk_137_58, up2_ne, up2_sn, up2_ss, ne_eq, tl_some, tl_none, zb_0, zb_1, zb_bi, true_and, bi_eq, bi_ne, oz_f, zz_t, if_true, if_false, not_true_eq_false, not_false_eq_true])
  all_goals grind (splits := 30) [bi]
theorem lp_137_39 (x1 : Int32) (x2 : Int32) : sm_wp X 137 39 [some (.ref 52), some (.int x1), some (.int x2)] [] (sM mo G I J) Q = (Q (some (.int 1)) (sM mo G I J)) := by
  rw [bk_137_39]
  all_goals (try simp (decide := true) only [bk_137_0, bk_137_27, bk_137_41, bk_137_49, bk_137_52, bk_137_58, up2_ne, up2_sn, up2_ss, ne_eq, tl_some, tl_none, zb_0, zb_1, zb_bi, true_and, bi_eq, bi_ne, oz_f, zz_t, if_true, if_false, not_true_eq_false, not_false_eq_true])
  all_goals grind (splits := 30) [bi]
theorem lp_137_49 (x1 : Int32) (x2 : Int32) (s1 : Int32) (s2 : Int32) : sm_wp X 137 49 [some (.ref 52), some (.int x1), some (.int x2)] [.int s2, .int s1, .ref 52] (sM mo G I J) Q = (sm_wp X 133 0 [some (.ref 52), some (.int s1), some (.int s2)] [] (sM mo G I J) (fun v M => sm_wp X 137 52 [some (.ref 52), some (.int x1), some (.int x2)] (v.toList ++ []) M Q)) := by
  rw [bk_137_49]
  all_goals (try simp (decide := true) only [bk_137_0, bk_137_27, bk_137_39, bk_137_41, bk_137_52, bk_137_58, up2_ne, up2_sn, up2_ss, ne_eq, tl_some, tl_none, zb_0, zb_1, zb_bi, true_and, bi_eq, bi_ne, oz_f, zz_t, if_true, if_false, not_true_eq_false, not_false_eq_true])
  all_goals grind (splits := 30) [bi]
theorem lp_137_52 (x1 : Int32) (x2 : Int32) : sm_wp X 137 52 [some (.ref 52), some (.int x1), some (.int x2)] [] (sM mo G I J) Q = (sm_wp X 137 12 [some (.ref 52), some (.int (x1 + (-1))), none] [] (sM mo G I J) Q) := by
  rw [bk_137_52]
  all_goals (try simp (decide := true) only [bk_137_0, bk_137_27, bk_137_39, bk_137_41, bk_137_49, bk_137_58, up2_ne, up2_sn, up2_ss, ne_eq, tl_some, tl_none, zb_0, zb_1, zb_bi, true_and, bi_eq, bi_ne, oz_f, zz_t, if_true, if_false, not_true_eq_false, not_false_eq_true])
  all_goals grind (splits := 30) [bi]
theorem lpw_137_0  : sm_wp X 137 0 [some (.ref 60), none, none] [] (sM mo G I J) Q = (sm_wp X 137 12 [some (.ref 60), some (.int ((if (8 : Int32) < I 60 5 then 8 else I 60 5) - 1)), none] [] (sM mo G I J) Q) := by
  rw [bkw_137_0]
  all_goals (try simp (decide := true) only [bkw_137_27, bkw_137_39, bkw_137_41, bkw_137_49, bkw_137_52, bkw_137_58, up2_ne, up2_sn, up2_ss, ne_eq, tl_some, tl_none, zb_0, zb_1, zb_bi, true_and, bi_eq, bi_ne, oz_f, zz_t, if_true, if_false, not_true_eq_false, not_false_eq_true])
  all_goals grind (splits := 30) [bi]
theorem lpw_137_12 (x1 : Int32) : sm_wp X 137 12 [some (.ref 60), some (.int x1), none] [] (sM mo G I J) Q = (if x1 < 0 then (Q (some (.int 0)) (sM mo G I J)) else (vp_in x1 8 ∧ (sm_wp X 132 0 [some (.ref 60), some (.int x1), some (.int (I 63 (x1.toNatClampNeg))), none] [] (sM mo G I J) (fun v M => sm_wp X 137 27 [some (.ref 60), some (.int x1), none] (v.toList ++ []) M Q)))) := by
  rw [bkw_137_12]
  all_goals (try simp (decide := true) only [bkw_137_0, bkw_137_27, bkw_137_39, bkw_137_41, bkw_137_49, bkw_137_52, bkw_137_58, up2_ne, up2_sn, up2_ss, ne_eq, tl_some, tl_none, zb_0, zb_1, zb_bi, true_and, bi_eq, bi_ne, oz_f, zz_t, if_true, if_false, not_true_eq_false, not_false_eq_true])
  all_goals grind (splits := 30) [bi]
theorem lpw_137_27 (x1 : Int32) (s0 : Int32) : sm_wp X 137 27 [some (.ref 60), some (.int x1), none] [.int s0] (sM mo G I J) Q = (if s0 = (-1) then (sm_wp X 132 0 [some (.ref 60), some (.int x1), some (.int (-1)), none] [] (sM mo G I J) (fun v M => sm_wp X 137 49 [some (.ref 60), some (.int x1), some (.int s0)] (v.toList ++ [.int x1, .ref 60]) M Q)) else (sm_wp X 133 0 [some (.ref 60), some (.int x1), some (.int s0)] [] (sM mo G I J) (fun v M => sm_wp X 137 39 [some (.ref 60), some (.int x1), some (.int s0)] (v.toList ++ []) M Q))) := by
  rw [bkw_137_27]
  all_goals (try simp (decide := true) only [bkw_137_0, bkw_137_39, bkw_137_41, bkw_137_49, bkw_137_52, bkw_137_58, up2_ne, up2_sn, up2_ss, ne_eq, tl_some, tl_none, zb_0, zb_1, zb_bi, true_and, bi_eq, bi_ne, oz_f, zz_t, if_true, if_false, not_true_eq_false, not_false_eq_true])
  all_goals grind (splits := 30) [bi]
theorem lpw_137_39 (x1 : Int32) (x2 : Int32) : sm_wp X 137 39 [some (.ref 60), some (.int x1), some (.int x2)] [] (sM mo G I J) Q = (Q (some (.int 1)) (sM mo G I J)) := by
  rw [bkw_137_39]
  all_goals (try simp (decide := true) only [bkw_137_0, bkw_137_27, bkw_137_41, bkw_137_49, bkw_137_52, bkw_137_58, up2_ne, up2_sn, up2_ss, ne_eq, tl_some, tl_none, zb_0, zb_1, zb_bi, true_and, bi_eq, bi_ne, oz_f, zz_t, if_true, if_false, not_true_eq_false, not_false_eq_true])
  all_goals grind (splits := 30) [bi]
theorem lpw_137_49 (x1 : Int32) (x2 : Int32) (s1 : Int32) (s2 : Int32) : sm_wp X 137 49 [some (.ref 60), some (.int x1), some (.int x2)] [.int s2, .int s1, .ref 60] (sM mo G I J) Q = (sm_wp X 133 0 [some (.ref 60), some (.int s1), some (.int s2)] [] (sM mo G I J) (fun v M => sm_wp X 137 52 [some (.ref 60), some (.int x1), some (.int x2)] (v.toList ++ []) M Q)) := by
  rw [bkw_137_49]
  all_goals (try simp (decide := true) only [bkw_137_0, bkw_137_27, bkw_137_39, bkw_137_41, bkw_137_52, bkw_137_58, up2_ne, up2_sn, up2_ss, ne_eq, tl_some, tl_none, zb_0, zb_1, zb_bi, true_and, bi_eq, bi_ne, oz_f, zz_t, if_true, if_false, not_true_eq_false, not_false_eq_true])
  all_goals grind (splits := 30) [bi]
theorem lpw_137_52 (x1 : Int32) (x2 : Int32) : sm_wp X 137 52 [some (.ref 60), some (.int x1), some (.int x2)] [] (sM mo G I J) Q = (sm_wp X 137 12 [some (.ref 60), some (.int (x1 + (-1))), none] [] (sM mo G I J) Q) := by
  rw [bkw_137_52]
  all_goals (try simp (decide := true) only [bkw_137_0, bkw_137_27, bkw_137_39, bkw_137_41, bkw_137_49, bkw_137_58, up2_ne, up2_sn, up2_ss, ne_eq, tl_some, tl_none, zb_0, zb_1, zb_bi, true_and, bi_eq, bi_ne, oz_f, zz_t, if_true, if_false, not_true_eq_false, not_false_eq_true])
  all_goals grind (splits := 30) [bi]
theorem lpb_137_0 (b : Nat) (hb : b = 52 ∨ b = 60)  : sm_wp X 137 0 [some (.ref b), none, none] [] (sM mo G I J) Q = (sm_wp X 137 12 [some (.ref b), some (.int ((if (8 : Int32) < I b 5 then 8 else I b 5) - 1)), none] [] (sM mo G I J) Q) := by
  rcases hb with rfl | rfl
  · exact lp_137_0 X mo G I J Q 
  · exact lpw_137_0 X mo G I J Q 
theorem lpb_137_12 (b : Nat) (hb : b = 52 ∨ b = 60) (x1 : Int32) : sm_wp X 137 12 [some (.ref b), some (.int x1), none] [] (sM mo G I J) Q = (if x1 < 0 then (Q (some (.int 0)) (sM mo G I J)) else (vp_in x1 8 ∧ (sm_wp X 132 0 [some (.ref b), some (.int x1), some (.int (I (b + 3) (x1.toNatClampNeg))), none] [] (sM mo G I J) (fun v M => sm_wp X 137 27 [some (.ref b), some (.int x1), none] (v.toList ++ []) M Q)))) := by
  rcases hb with rfl | rfl
  · exact lp_137_12 X mo G I J Q x1
  · exact lpw_137_12 X mo G I J Q x1
theorem lpb_137_27 (b : Nat) (hb : b = 52 ∨ b = 60) (x1 : Int32) (s0 : Int32) : sm_wp X 137 27 [some (.ref b), some (.int x1), none] [.int s0] (sM mo G I J) Q = (if s0 = (-1) then (sm_wp X 132 0 [some (.ref b), some (.int x1), some (.int (-1)), none] [] (sM mo G I J) (fun v M => sm_wp X 137 49 [some (.ref b), some (.int x1), some (.int s0)] (v.toList ++ [.int x1, .ref b]) M Q)) else (sm_wp X 133 0 [some (.ref b), some (.int x1), some (.int s0)] [] (sM mo G I J) (fun v M => sm_wp X 137 39 [some (.ref b), some (.int x1), some (.int s0)] (v.toList ++ []) M Q))) := by
  rcases hb with rfl | rfl
  · exact lp_137_27 X mo G I J Q x1 s0
  · exact lpw_137_27 X mo G I J Q x1 s0
theorem lpb_137_39 (b : Nat) (hb : b = 52 ∨ b = 60) (x1 : Int32) (x2 : Int32) : sm_wp X 137 39 [some (.ref b), some (.int x1), some (.int x2)] [] (sM mo G I J) Q = (Q (some (.int 1)) (sM mo G I J)) := by
  rcases hb with rfl | rfl
  · exact lp_137_39 X mo G I J Q x1 x2
  · exact lpw_137_39 X mo G I J Q x1 x2
theorem lpb_137_49 (b : Nat) (hb : b = 52 ∨ b = 60) (x1 : Int32) (x2 : Int32) (s1 : Int32) (s2 : Int32) : sm_wp X 137 49 [some (.ref b), some (.int x1), some (.int x2)] [.int s2, .int s1, .ref b] (sM mo G I J) Q = (sm_wp X 133 0 [some (.ref b), some (.int s1), some (.int s2)] [] (sM mo G I J) (fun v M => sm_wp X 137 52 [some (.ref b), some (.int x1), some (.int x2)] (v.toList ++ []) M Q)) := by
  rcases hb with rfl | rfl
  · exact lp_137_49 X mo G I J Q x1 x2 s1 s2
  · exact lpw_137_49 X mo G I J Q x1 x2 s1 s2
theorem lpb_137_52 (b : Nat) (hb : b = 52 ∨ b = 60) (x1 : Int32) (x2 : Int32) : sm_wp X 137 52 [some (.ref b), some (.int x1), some (.int x2)] [] (sM mo G I J) Q = (sm_wp X 137 12 [some (.ref b), some (.int (x1 + (-1))), none] [] (sM mo G I J) Q) := by
  rcases hb with rfl | rfl
  · exact lp_137_52 X mo G I J Q x1 x2
  · exact lpw_137_52 X mo G I J Q x1 x2
theorem lp_138_0 (x1 : Int32) : sm_wp X 138 0 [some (.ref 52), some (.int x1)] [] (sM mo G I J) Q = (sm_wp X 131 0 [some (.ref 52)] [] (sM mo G I J) (fun v M => sm_wp X 138 4 [some (.ref 52), some (.int x1)] (v.toList ++ []) M Q)) := by
  rw [bk_138_0]
  all_goals (try simp (decide := true) only [bk_138_4, bk_138_9, bk_138_36, bk_138_41, bk_138_46, bk_138_51, up2_ne, up2_sn, up2_ss, ne_eq, tl_some, tl_none, zb_0, zb_1, zb_bi, true_and, bi_eq, bi_ne, oz_f, zz_t, if_true, if_false, not_true_eq_false, not_false_eq_true])
  all_goals grind (splits := 30) [bi]
theorem lp_138_4 (x1 : Int32) (s0 : Int32) : sm_wp X 138 4 [some (.ref 52), some (.int x1)] [.int s0] (sM mo G I J) Q = (if s0 = 0 then (if x1 = 1 then (Q (some (.int (I 52 13))) (sM mo G I J)) else (if x1 = 2 then (Q (some (.int (I 52 14))) (sM mo G I J)) else (if x1 = 3 then (Q (some (.int (I 52 15))) (sM mo G I J)) else (Q (some (.int (-1))) (sM mo G I J))))) else (Q (some (.int (-1))) (sM mo G I J))) := by
  rw [bk_138_4]
  all_goals (try simp (decide := true) only [bk_138_0, bk_138_9, bk_138_36, bk_138_41, bk_138_46, bk_138_51, up2_ne, up2_sn, up2_ss, ne_eq, tl_some, tl_none, zb_0, zb_1, zb_bi, true_and, bi_eq, bi_ne, oz_f, zz_t, if_true, if_false, not_true_eq_false, not_false_eq_true])
  all_goals grind (splits := 30) [bi]
theorem lpw_138_0 (x1 : Int32) : sm_wp X 138 0 [some (.ref 60), some (.int x1)] [] (sM mo G I J) Q = (sm_wp X 131 0 [some (.ref 60)] [] (sM mo G I J) (fun v M => sm_wp X 138 4 [some (.ref 60), some (.int x1)] (v.toList ++ []) M Q)) := by
  rw [bkw_138_0]
  all_goals (try simp (decide := true) only [bkw_138_4, bkw_138_9, bkw_138_36, bkw_138_41, bkw_138_46, bkw_138_51, up2_ne, up2_sn, up2_ss, ne_eq, tl_some, tl_none, zb_0, zb_1, zb_bi, true_and, bi_eq, bi_ne, oz_f, zz_t, if_true, if_false, not_true_eq_false, not_false_eq_true])
  all_goals grind (splits := 30) [bi]
theorem lpw_138_4 (x1 : Int32) (s0 : Int32) : sm_wp X 138 4 [some (.ref 60), some (.int x1)] [.int s0] (sM mo G I J) Q = (if s0 = 0 then (if x1 = 1 then (Q (some (.int (I 60 13))) (sM mo G I J)) else (if x1 = 2 then (Q (some (.int (I 60 14))) (sM mo G I J)) else (if x1 = 3 then (Q (some (.int (I 60 15))) (sM mo G I J)) else (Q (some (.int (-1))) (sM mo G I J))))) else (Q (some (.int (-1))) (sM mo G I J))) := by
  rw [bkw_138_4]
  all_goals (try simp (decide := true) only [bkw_138_0, bkw_138_9, bkw_138_36, bkw_138_41, bkw_138_46, bkw_138_51, up2_ne, up2_sn, up2_ss, ne_eq, tl_some, tl_none, zb_0, zb_1, zb_bi, true_and, bi_eq, bi_ne, oz_f, zz_t, if_true, if_false, not_true_eq_false, not_false_eq_true])
  all_goals grind (splits := 30) [bi]
theorem lpb_138_0 (b : Nat) (hb : b = 52 ∨ b = 60) (x1 : Int32) : sm_wp X 138 0 [some (.ref b), some (.int x1)] [] (sM mo G I J) Q = (sm_wp X 131 0 [some (.ref b)] [] (sM mo G I J) (fun v M => sm_wp X 138 4 [some (.ref b), some (.int x1)] (v.toList ++ []) M Q)) := by
  rcases hb with rfl | rfl
  · exact lp_138_0 X mo G I J Q x1
  · exact lpw_138_0 X mo G I J Q x1
theorem lpb_138_4 (b : Nat) (hb : b = 52 ∨ b = 60) (x1 : Int32) (s0 : Int32) : sm_wp X 138 4 [some (.ref b), some (.int x1)] [.int s0] (sM mo G I J) Q = (if s0 = 0 then (if x1 = 1 then (Q (some (.int (I b 13))) (sM mo G I J)) else (if x1 = 2 then (Q (some (.int (I b 14))) (sM mo G I J)) else (if x1 = 3 then (Q (some (.int (I b 15))) (sM mo G I J)) else (Q (some (.int (-1))) (sM mo G I J))))) else (Q (some (.int (-1))) (sM mo G I J))) := by
  rcases hb with rfl | rfl
  · exact lp_138_4 X mo G I J Q x1 s0
  · exact lpw_138_4 X mo G I J Q x1 s0
theorem lp_139_0 (x1 : Int32) : sm_wp X 139 0 [some (.ref 52), some (.int x1)] [] (sM mo G I J) Q = (if ¬ I 52 17 = (-1) then (if ¬ x1 = 12 then (if ¬ x1 = 13 then (sm_wp X 140 0 [some (.ref 52), some (.int x1), none] [] (sM mo G I J) (fun v M => sm_wp X 139 39 [some (.ref 52), some (.int x1)] (v.toList ++ []) M Q)) else (Q (some (.int (I 52 18))) (sM mo G I J))) else (Q (some (.int (I 52 17))) (sM mo G I J))) else (Q (some (.int (-1))) (sM mo G I J))) := by
  rw [bk_139_0]
  all_goals (try simp (decide := true) only [bk_139_10, bk_139_21, bk_139_34, bk_139_39, up2_ne, up2_sn, up2_ss, ne_eq, tl_some, tl_none, zb_0, zb_1, zb_bi, true_and, bi_eq, bi_ne, oz_f, zz_t, if_true, if_false, not_true_eq_false, not_false_eq_true])
  all_goals grind (splits := 30) [bi]
theorem lp_139_39 (x1 : Int32) (s0 : Int32) : sm_wp X 139 39 [some (.ref 52), some (.int x1)] [.int s0] (sM mo G I J) Q = (Q (some (.int s0)) (sM mo G I J)) := by
  rw [bk_139_39]
  all_goals (try simp (decide := true) only [bk_139_0, bk_139_10, bk_139_21, bk_139_34, up2_ne, up2_sn, up2_ss, ne_eq, tl_some, tl_none, zb_0, zb_1, zb_bi, true_and, bi_eq, bi_ne, oz_f, zz_t, if_true, if_false, not_true_eq_false, not_false_eq_true])
  all_goals grind (splits := 30) [bi]
theorem lpw_139_0 (x1 : Int32) : sm_wp X 139 0 [some (.ref 60), some (.int x1)] [] (sM mo G I J) Q = (if ¬ I 60 17 = (-1) then (if ¬ x1 = 12 then (if ¬ x1 = 13 then (sm_wp X 140 0 [some (.ref 60), some (.int x1), none] [] (sM mo G I J) (fun v M => sm_wp X 139 39 [some (.ref 60), some (.int x1)] (v.toList ++ []) M Q)) else (Q (some (.int (I 60 18))) (sM mo G I J))) else (Q (some (.int (I 60 17))) (sM mo G I J))) else (Q (some (.int (-1))) (sM mo G I J))) := by
  rw [bkw_139_0]
  all_goals (try simp (decide := true) only [bkw_139_10, bkw_139_21, bkw_139_34, bkw_139_39, up2_ne, up2_sn, up2_ss, ne_eq, tl_some, tl_none, zb_0, zb_1, zb_bi, true_and, bi_eq, bi_ne, oz_f, zz_t, if_true, if_false, not_true_eq_false, not_false_eq_true])
  all_goals grind (splits := 30) [bi]
end R3
