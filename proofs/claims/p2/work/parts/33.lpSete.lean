/-! One turn of each loop, and the stretches between calls, by program. -/
section R3
variable (X : (Nat → Int32) × Nat) (mo : Bool) (G : Nat × Nat) (I : Nat → Nat → Int32) (J : Nat → Nat → Int64) (Q : Option Value → sm_M → Prop)
theorem lpb_143_63 (b : Nat) (hb : b = 52 ∨ b = 60) (x2 : Int32) (x3 : Int32) (x4 : Int32) : sm_wp X 143 63 [some (.ref b), none, some (.int x2), some (.int x3), some (.int x4)] [] (sM mo G I J) Q = (sm_wp X 143 16 [some (.ref b), none, some (.int x2), some (.int (x3 + 1)), none] [] (sM mo G I J) Q) := by
  rcases hb with rfl | rfl
  · exact lp_143_63 X mo G I J Q x2 x3 x4
  · exact lpw_143_63 X mo G I J Q x2 x3 x4
theorem lpb_143_86 (b : Nat) (hb : b = 52 ∨ b = 60) (x2 : Int32) (x3 : Int32) (s0 : Int32) : sm_wp X 143 86 [some (.ref b), none, some (.int x2), some (.int x3), none] [.int s0] (sM mo G I J) Q = (if s0 = 0 then (Q (some (.int 2)) (sM mo G I J)) else (Q (some (.int 3)) (sM mo G I J))) := by
  rcases hb with rfl | rfl
  · exact lp_143_86 X mo G I J Q x2 x3 s0
  · exact lpw_143_86 X mo G I J Q x2 x3 s0
theorem lpb_143_9 (b : Nat) (hb : b = 52 ∨ b = 60) (x1 : Int32) (x2 : Int32) (s0 : Int32) : sm_wp X 143 9 [some (.ref b), some (.int x1), some (.int x2), none, none] [.int s0] (sM mo G I J) Q = (if s0 = 0 then (sm_wp X 143 16 [some (.ref b), none, some (.int x2), some (.int 0), none] [] (sM mo G I J) Q) else (Q (some (.int (-1))) (sM mo G I J))) := by
  rcases hb with rfl | rfl
  · exact lp_143_9 X mo G I J Q x1 x2 s0
  · exact lpw_143_9 X mo G I J Q x1 x2 s0
end R3
