section
set_option maxRecDepth 100000 in
theorem bk_128_0 (X : (Nat → Int32) × Nat) (mo : Bool) (G : Nat × Nat) (I : Nat → Nat → Int32) (J : Nat → Nat → Int64) (Q : Option Value → sm_M → Prop) (x1 : Int32) :
    sm_wp X 128 0 [some (.ref 52), some (.int x1), none, none] [] (sM mo G I J) Q =
    (if ¬ (I 52 3 : Int32) = (x1 : Int32) then sm_wp X 128 23 [some (.ref 52), some (.int x1), none, none] [] (sM mo G I J) Q else (if ¬ (I 52 4 : Int32) = (I 1 4 : Int32) then sm_wp X 128 23 [some (.ref 52), some (.int x1), none, none] [] (sM mo G I J) Q else (True ∧ Q none (sM mo G I J)))) :=
  (sm_blk X 128 0 (tt_lin 128 (by decide)) rfl rfl _ _ _ _).trans rfl
set_option maxRecDepth 100000 in
theorem bk_128_23 (X : (Nat → Int32) × Nat) (mo : Bool) (G : Nat × Nat) (I : Nat → Nat → Int32) (J : Nat → Nat → Int64) (Q : Option Value → sm_M → Prop) (x1 : Int32) :
    sm_wp X 128 23 [some (.ref 52), some (.int x1), none, none] [] (sM mo G I J) Q =
    (sm_wp X 129 0 [some (.ref 52), some (.int x1), none, none, none] [] (sM mo G (up2 (up2 (up2 (up2 (up2 (up2 I 52 3 x1) 52 4 ((up2 I 52 3 x1) 1 4)) 52 13 0) 52 14 0) 52 15 0) 52 17 (-1)) (up2 J 52 16 0)) (fun v M => sm_wp X 128 69 [some (.ref 52), some (.int x1), none, none] (v.toList ++ []) M Q)) :=
  (sm_blk X 128 23 (tt_lin 128 (by decide)) rfl rfl _ _ _ _).trans rfl
set_option maxRecDepth 100000 in
theorem bk_128_69 (X : (Nat → Int32) × Nat) (mo : Bool) (G : Nat × Nat) (I : Nat → Nat → Int32) (J : Nat → Nat → Int64) (Q : Option Value → sm_M → Prop) (x1 : Int32) :
    sm_wp X 128 69 [some (.ref 52), some (.int x1), none, none] [] (sM mo G I J) Q =
    (sm_wp X 131 0 [some (.ref 52)] [] (sM mo G I J) (fun v M => sm_wp X 128 73 [some (.ref 52), some (.int x1), none, none] (v.toList ++ []) M Q)) :=
  (sm_blk X 128 69 (tt_lin 128 (by decide)) rfl rfl _ _ _ _).trans rfl
set_option maxRecDepth 100000 in
theorem bk_128_73 (X : (Nat → Int32) × Nat) (mo : Bool) (G : Nat × Nat) (I : Nat → Nat → Int32) (J : Nat → Nat → Int64) (Q : Option Value → sm_M → Prop) (x1 : Int32) (s0 : Int32) :
    sm_wp X 128 73 [some (.ref 52), some (.int x1), none, none] [.int s0] (sM mo G I J) Q =
    (if (s0 : Int32) = 0 then sm_wp X 128 77 [some (.ref 52), some (.int x1), none, none] [] (sM mo G I J) Q else (True ∧ Q none (sM mo G I J))) :=
  (sm_blk X 128 73 (tt_lin 128 (by decide)) rfl rfl _ _ _ _).trans rfl
set_option maxRecDepth 100000 in
theorem bk_128_77 (X : (Nat → Int32) × Nat) (mo : Bool) (G : Nat × Nat) (I : Nat → Nat → Int32) (J : Nat → Nat → Int64) (Q : Option Value → sm_M → Prop) (x1 : Int32) :
    sm_wp X 128 77 [some (.ref 52), some (.int x1), none, none] [] (sM mo G I J) Q =
    (sm_wp X 128 79 [some (.ref 52), none, some (.int 0), none] [] (sM mo G I J) Q) :=
  (sm_blk X 128 77 (tt_lin 128 (by decide)) rfl rfl _ _ _ _).trans rfl
set_option maxRecDepth 100000 in
theorem bk_128_79 (X : (Nat → Int32) × Nat) (mo : Bool) (G : Nat × Nat) (I : Nat → Nat → Int32) (J : Nat → Nat → Int64) (Q : Option Value → sm_M → Prop) (x2 : Int32) :
    sm_wp X 128 79 [some (.ref 52), none, some (.int x2), none] [] (sM mo G I J) Q =
    (if (I 52 5 : Int32) ≤ (x2 : Int32) then sm_wp X 128 110 [some (.ref 52), none, some (.int x2), none] [] (sM mo G I J) Q else (if (8 : Int32) ≤ (x2 : Int32) then sm_wp X 128 110 [some (.ref 52), none, some (.int x2), none] [] (sM mo G I J) Q else (sm_wp X 132 0 [some (.ref 52), some (.int x2), some (.int (-1)), none] [] (sM mo G I J) (fun v M => sm_wp X 128 101 [some (.ref 52), none, some (.int x2), none] (v.toList ++ [.int x2, .ref 52]) M Q)))) :=
  (sm_blk X 128 79 (tt_lin 128 (by decide)) rfl rfl _ _ _ _).trans rfl
set_option maxRecDepth 100000 in
theorem bk_128_101 (X : (Nat → Int32) × Nat) (mo : Bool) (G : Nat × Nat) (I : Nat → Nat → Int32) (J : Nat → Nat → Int64) (Q : Option Value → sm_M → Prop) (x2 : Int32) (s1 : Int32) (s2 : Int32) :
    sm_wp X 128 101 [some (.ref 52), none, some (.int x2), none] [.int s2, .int s1, .ref 52] (sM mo G I J) Q =
    (sm_wp X 133 0 [some (.ref 52), some (.int s1), some (.int s2)] [] (sM mo G I J) (fun v M => sm_wp X 128 104 [some (.ref 52), none, some (.int x2), none] (v.toList ++ []) M Q)) :=
  (sm_blk X 128 101 (tt_lin 128 (by decide)) rfl rfl _ _ _ _).trans rfl
set_option maxRecDepth 100000 in
theorem bk_128_104 (X : (Nat → Int32) × Nat) (mo : Bool) (G : Nat × Nat) (I : Nat → Nat → Int32) (J : Nat → Nat → Int64) (Q : Option Value → sm_M → Prop) (x2 : Int32) :
    sm_wp X 128 104 [some (.ref 52), none, some (.int x2), none] [] (sM mo G I J) Q =
    (sm_wp X 128 79 [some (.ref 52), none, some (.int (x2 + 1)), none] [] (sM mo G I J) Q) :=
  (sm_blk X 128 104 (tt_lin 128 (by decide)) rfl rfl _ _ _ _).trans rfl
set_option maxRecDepth 100000 in
theorem bk_128_110 (X : (Nat → Int32) × Nat) (mo : Bool) (G : Nat × Nat) (I : Nat → Nat → Int32) (J : Nat → Nat → Int64) (Q : Option Value → sm_M → Prop) (x2 : Int32) :
    sm_wp X 128 110 [some (.ref 52), none, some (.int x2), none] [] (sM mo G I J) Q =
    (sm_wp X 128 114 [some (.ref 52), none, some (.int 1), some (.int 0)] [] (sM mo G I J) Q) :=
  (sm_blk X 128 110 (tt_lin 128 (by decide)) rfl rfl _ _ _ _).trans rfl
set_option maxRecDepth 100000 in
theorem bk_128_114 (X : (Nat → Int32) × Nat) (mo : Bool) (G : Nat × Nat) (I : Nat → Nat → Int32) (J : Nat → Nat → Int64) (Q : Option Value → sm_M → Prop) (x2 : Int32) (x3 : Int32) :
    sm_wp X 128 114 [some (.ref 52), none, some (.int x2), some (.int x3)] [] (sM mo G I J) Q =
    (if (6561 : Int32) ≤ (x3 : Int32) then sm_wp X 128 140 [some (.ref 52), none, some (.int x2), some (.int x3)] [] (sM mo G I J) Q else (if (x2 : Int32) = 0 then sm_wp X 128 140 [some (.ref 52), none, some (.int x2), some (.int x3)] [] (sM mo G I J) Q else (sm_wp X 134 0 [some (.ref 52)] [] (sM mo G I J) (fun v M => sm_wp X 128 129 [some (.ref 52), none, some (.int x2), some (.int x3)] (v.toList ++ []) M Q)))) :=
  (sm_blk X 128 114 (tt_lin 128 (by decide)) rfl rfl _ _ _ _).trans rfl
set_option maxRecDepth 100000 in
theorem bk_128_129 (X : (Nat → Int32) × Nat) (mo : Bool) (G : Nat × Nat) (I : Nat → Nat → Int32) (J : Nat → Nat → Int64) (Q : Option Value → sm_M → Prop) (x2 : Int32) (x3 : Int32) :
    sm_wp X 128 129 [some (.ref 52), none, some (.int x2), some (.int x3)] [] (sM mo G I J) Q =
    (sm_wp X 137 0 [some (.ref 52), none, none] [] (sM mo G I J) (fun v M => sm_wp X 128 133 [some (.ref 52), none, some (.int x2), some (.int x3)] (v.toList ++ []) M Q)) :=
  (sm_blk X 128 129 (tt_lin 128 (by decide)) rfl rfl _ _ _ _).trans rfl
set_option maxRecDepth 100000 in
theorem bk_128_133 (X : (Nat → Int32) × Nat) (mo : Bool) (G : Nat × Nat) (I : Nat → Nat → Int32) (J : Nat → Nat → Int64) (Q : Option Value → sm_M → Prop) (x2 : Int32) (x3 : Int32) (s0 : Int32) :
    sm_wp X 128 133 [some (.ref 52), none, some (.int x2), some (.int x3)] [.int s0] (sM mo G I J) Q =
    (sm_wp X 128 114 [some (.ref 52), none, some (.int s0), some (.int (x3 + 1))] [] (sM mo G I J) Q) :=
  (sm_blk X 128 133 (tt_lin 128 (by decide)) rfl rfl _ _ _ _).trans rfl
set_option maxRecDepth 100000 in
theorem bk_128_140 (X : (Nat → Int32) × Nat) (mo : Bool) (G : Nat × Nat) (I : Nat → Nat → Int32) (J : Nat → Nat → Int64) (Q : Option Value → sm_M → Prop) (x2 : Int32) (x3 : Int32) :
    sm_wp X 128 140 [some (.ref 52), none, some (.int x2), some (.int x3)] [] (sM mo G I J) Q =
    (True ∧ Q none (sM mo G I J)) :=
  (sm_blk X 128 140 (tt_lin 128 (by decide)) rfl rfl _ _ _ _).trans rfl
set_option maxRecDepth 100000 in
theorem bkw_128_0 (X : (Nat → Int32) × Nat) (mo : Bool) (G : Nat × Nat) (I : Nat → Nat → Int32) (J : Nat → Nat → Int64) (Q : Option Value → sm_M → Prop) (x1 : Int32) :
    sm_wp X 128 0 [some (.ref 60), some (.int x1), none, none] [] (sM mo G I J) Q =
    (if ¬ (I 60 3 : Int32) = (x1 : Int32) then sm_wp X 128 23 [some (.ref 60), some (.int x1), none, none] [] (sM mo G I J) Q else (if ¬ (I 60 4 : Int32) = (I 1 4 : Int32) then sm_wp X 128 23 [some (.ref 60), some (.int x1), none, none] [] (sM mo G I J) Q else (True ∧ Q none (sM mo G I J)))) :=
  (sm_blk X 128 0 (tt_lin 128 (by decide)) rfl rfl _ _ _ _).trans rfl
set_option maxRecDepth 100000 in
theorem bkw_128_23 (X : (Nat → Int32) × Nat) (mo : Bool) (G : Nat × Nat) (I : Nat → Nat → Int32) (J : Nat → Nat → Int64) (Q : Option Value → sm_M → Prop) (x1 : Int32) :
    sm_wp X 128 23 [some (.ref 60), some (.int x1), none, none] [] (sM mo G I J) Q =
    (sm_wp X 129 0 [some (.ref 60), some (.int x1), none, none, none] [] (sM mo G (up2 (up2 (up2 (up2 (up2 (up2 I 60 3 x1) 60 4 ((up2 I 60 3 x1) 1 4)) 60 13 0) 60 14 0) 60 15 0) 60 17 (-1)) (up2 J 60 16 0)) (fun v M => sm_wp X 128 69 [some (.ref 60), some (.int x1), none, none] (v.toList ++ []) M Q)) :=
  (sm_blk X 128 23 (tt_lin 128 (by decide)) rfl rfl _ _ _ _).trans rfl
set_option maxRecDepth 100000 in
theorem bkw_128_69 (X : (Nat → Int32) × Nat) (mo : Bool) (G : Nat × Nat) (I : Nat → Nat → Int32) (J : Nat → Nat → Int64) (Q : Option Value → sm_M → Prop) (x1 : Int32) :
    sm_wp X 128 69 [some (.ref 60), some (.int x1), none, none] [] (sM mo G I J) Q =
    (sm_wp X 131 0 [some (.ref 60)] [] (sM mo G I J) (fun v M => sm_wp X 128 73 [some (.ref 60), some (.int x1), none, none] (v.toList ++ []) M Q)) :=
  (sm_blk X 128 69 (tt_lin 128 (by decide)) rfl rfl _ _ _ _).trans rfl
set_option maxRecDepth 100000 in
theorem bkw_128_73 (X : (Nat → Int32) × Nat) (mo : Bool) (G : Nat × Nat) (I : Nat → Nat → Int32) (J : Nat → Nat → Int64) (Q : Option Value → sm_M → Prop) (x1 : Int32) (s0 : Int32) :
    sm_wp X 128 73 [some (.ref 60), some (.int x1), none, none] [.int s0] (sM mo G I J) Q =
    (if (s0 : Int32) = 0 then sm_wp X 128 77 [some (.ref 60), some (.int x1), none, none] [] (sM mo G I J) Q else (True ∧ Q none (sM mo G I J))) :=
  (sm_blk X 128 73 (tt_lin 128 (by decide)) rfl rfl _ _ _ _).trans rfl
set_option maxRecDepth 100000 in
theorem bkw_128_77 (X : (Nat → Int32) × Nat) (mo : Bool) (G : Nat × Nat) (I : Nat → Nat → Int32) (J : Nat → Nat → Int64) (Q : Option Value → sm_M → Prop) (x1 : Int32) :
    sm_wp X 128 77 [some (.ref 60), some (.int x1), none, none] [] (sM mo G I J) Q =
    (sm_wp X 128 79 [some (.ref 60), none, some (.int 0), none] [] (sM mo G I J) Q) :=
  (sm_blk X 128 77 (tt_lin 128 (by decide)) rfl rfl _ _ _ _).trans rfl
set_option maxRecDepth 100000 in
theorem bkw_128_79 (X : (Nat → Int32) × Nat) (mo : Bool) (G : Nat × Nat) (I : Nat → Nat → Int32) (J : Nat → Nat → Int64) (Q : Option Value → sm_M → Prop) (x2 : Int32) :
    sm_wp X 128 79 [some (.ref 60), none, some (.int x2), none] [] (sM mo G I J) Q =
    (if (I 60 5 : Int32) ≤ (x2 : Int32) then sm_wp X 128 110 [some (.ref 60), none, some (.int x2), none] [] (sM mo G I J) Q else (if (8 : Int32) ≤ (x2 : Int32) then sm_wp X 128 110 [some (.ref 60), none, some (.int x2), none] [] (sM mo G I J) Q else (sm_wp X 132 0 [some (.ref 60), some (.int x2), some (.int (-1)), none] [] (sM mo G I J) (fun v M => sm_wp X 128 101 [some (.ref 60), none, some (.int x2), none] (v.toList ++ [.int x2, .ref 60]) M Q)))) :=
  (sm_blk X 128 79 (tt_lin 128 (by decide)) rfl rfl _ _ _ _).trans rfl
set_option maxRecDepth 100000 in
theorem bkw_128_101 (X : (Nat → Int32) × Nat) (mo : Bool) (G : Nat × Nat) (I : Nat → Nat → Int32) (J : Nat → Nat → Int64) (Q : Option Value → sm_M → Prop) (x2 : Int32) (s1 : Int32) (s2 : Int32) :
    sm_wp X 128 101 [some (.ref 60), none, some (.int x2), none] [.int s2, .int s1, .ref 60] (sM mo G I J) Q =
    (sm_wp X 133 0 [some (.ref 60), some (.int s1), some (.int s2)] [] (sM mo G I J) (fun v M => sm_wp X 128 104 [some (.ref 60), none, some (.int x2), none] (v.toList ++ []) M Q)) :=
  (sm_blk X 128 101 (tt_lin 128 (by decide)) rfl rfl _ _ _ _).trans rfl
set_option maxRecDepth 100000 in
theorem bkw_128_104 (X : (Nat → Int32) × Nat) (mo : Bool) (G : Nat × Nat) (I : Nat → Nat → Int32) (J : Nat → Nat → Int64) (Q : Option Value → sm_M → Prop) (x2 : Int32) :
    sm_wp X 128 104 [some (.ref 60), none, some (.int x2), none] [] (sM mo G I J) Q =
    (sm_wp X 128 79 [some (.ref 60), none, some (.int (x2 + 1)), none] [] (sM mo G I J) Q) :=
  (sm_blk X 128 104 (tt_lin 128 (by decide)) rfl rfl _ _ _ _).trans rfl
set_option maxRecDepth 100000 in
theorem bkw_128_110 (X : (Nat → Int32) × Nat) (mo : Bool) (G : Nat × Nat) (I : Nat → Nat → Int32) (J : Nat → Nat → Int64) (Q : Option Value → sm_M → Prop) (x2 : Int32) :
    sm_wp X 128 110 [some (.ref 60), none, some (.int x2), none] [] (sM mo G I J) Q =
    (sm_wp X 128 114 [some (.ref 60), none, some (.int 1), some (.int 0)] [] (sM mo G I J) Q) :=
  (sm_blk X 128 110 (tt_lin 128 (by decide)) rfl rfl _ _ _ _).trans rfl
set_option maxRecDepth 100000 in
theorem bkw_128_114 (X : (Nat → Int32) × Nat) (mo : Bool) (G : Nat × Nat) (I : Nat → Nat → Int32) (J : Nat → Nat → Int64) (Q : Option Value → sm_M → Prop) (x2 : Int32) (x3 : Int32) :
    sm_wp X 128 114 [some (.ref 60), none, some (.int x2), some (.int x3)] [] (sM mo G I J) Q =
    (if (6561 : Int32) ≤ (x3 : Int32) then sm_wp X 128 140 [some (.ref 60), none, some (.int x2), some (.int x3)] [] (sM mo G I J) Q else (if (x2 : Int32) = 0 then sm_wp X 128 140 [some (.ref 60), none, some (.int x2), some (.int x3)] [] (sM mo G I J) Q else (sm_wp X 134 0 [some (.ref 60)] [] (sM mo G I J) (fun v M => sm_wp X 128 129 [some (.ref 60), none, some (.int x2), some (.int x3)] (v.toList ++ []) M Q)))) :=
  (sm_blk X 128 114 (tt_lin 128 (by decide)) rfl rfl _ _ _ _).trans rfl
set_option maxRecDepth 100000 in
theorem bkw_128_129 (X : (Nat → Int32) × Nat) (mo : Bool) (G : Nat × Nat) (I : Nat → Nat → Int32) (J : Nat → Nat → Int64) (Q : Option Value → sm_M → Prop) (x2 : Int32) (x3 : Int32) :
    sm_wp X 128 129 [some (.ref 60), none, some (.int x2), some (.int x3)] [] (sM mo G I J) Q =
    (sm_wp X 137 0 [some (.ref 60), none, none] [] (sM mo G I J) (fun v M => sm_wp X 128 133 [some (.ref 60), none, some (.int x2), some (.int x3)] (v.toList ++ []) M Q)) :=
  (sm_blk X 128 129 (tt_lin 128 (by decide)) rfl rfl _ _ _ _).trans rfl
set_option maxRecDepth 100000 in
theorem bkw_128_133 (X : (Nat → Int32) × Nat) (mo : Bool) (G : Nat × Nat) (I : Nat → Nat → Int32) (J : Nat → Nat → Int64) (Q : Option Value → sm_M → Prop) (x2 : Int32) (x3 : Int32) (s0 : Int32) :
    sm_wp X 128 133 [some (.ref 60), none, some (.int x2), some (.int x3)] [.int s0] (sM mo G I J) Q =
    (sm_wp X 128 114 [some (.ref 60), none, some (.int s0), some (.int (x3 + 1))] [] (sM mo G I J) Q) :=
  (sm_blk X 128 133 (tt_lin 128 (by decide)) rfl rfl _ _ _ _).trans rfl
set_option maxRecDepth 100000 in
theorem bkw_128_140 (X : (Nat → Int32) × Nat) (mo : Bool) (G : Nat × Nat) (I : Nat → Nat → Int32) (J : Nat → Nat → Int64) (Q : Option Value → sm_M → Prop) (x2 : Int32) (x3 : Int32) :
    sm_wp X 128 140 [some (.ref 60), none, some (.int x2), some (.int x3)] [] (sM mo G I J) Q =
    (True ∧ Q none (sM mo G I J)) :=
  (sm_blk X 128 140 (tt_lin 128 (by decide)) rfl rfl _ _ _ _).trans rfl
set_option maxRecDepth 100000 in
theorem bk_129_0 (X : (Nat → Int32) × Nat) (mo : Bool) (G : Nat × Nat) (I : Nat → Nat → Int32) (J : Nat → Nat → Int64) (Q : Option Value → sm_M → Prop) (x1 : Int32) :
    sm_wp X 129 0 [some (.ref 52), some (.int x1), none, none, none] [] (sM mo G I J) Q =
    (sm_wp X 129 19 [some (.ref 52), some (.int x1), some (.int 0), some (.int 0), none] [] (sM mo G (up2 (up2 (up2 I 52 2 x1) 52 12 0) 52 5 0) J) Q) :=
  (sm_blk X 129 0 (tt_lin 129 (by decide)) rfl rfl _ _ _ _).trans rfl
set_option maxRecDepth 100000 in
theorem bk_129_19 (X : (Nat → Int32) × Nat) (mo : Bool) (G : Nat × Nat) (I : Nat → Nat → Int32) (J : Nat → Nat → Int64) (Q : Option Value → sm_M → Prop) (x1 : Int32) (x2 : Int32) (x3 : Int32) :
    sm_wp X 129 19 [some (.ref 52), some (.int x1), some (.int x2), some (.int x3), none] [] (sM mo G I J) Q =
    (if (I 1 0 : Int32) ≤ (x3 : Int32) then sm_wp X 129 115 [some (.ref 52), some (.int x1), some (.int x2), some (.int x3), none] [] (sM mo G I J) Q else (sm_wp X 113 0 [some (.ref 1), some (.int x3), some (.int x1)] [] (sM mo G I J) (fun v M => sm_wp X 129 39 [some (.ref 52), some (.int x1), some (.int x2), some (.int x3), none] (v.toList ++ []) M Q))) :=
  (sm_blk X 129 19 (tt_lin 129 (by decide)) rfl rfl _ _ _ _).trans rfl
set_option maxRecDepth 100000 in
theorem bk_129_39 (X : (Nat → Int32) × Nat) (mo : Bool) (G : Nat × Nat) (I : Nat → Nat → Int32) (J : Nat → Nat → Int64) (Q : Option Value → sm_M → Prop) (x1 : Int32) (x2 : Int32) (x3 : Int32) (s0 : Int32) :
    sm_wp X 129 39 [some (.ref 52), some (.int x1), some (.int x2), some (.int x3), none] [.int s0] (sM mo G I J) Q =
    (if ¬ (s0 : Int32) = 0 then sm_wp X 129 51 [some (.ref 52), some (.int x1), some (.int x2), some (.int x3), none] [] (sM mo G I J) Q else (sm_wp X 129 109 [some (.ref 52), some (.int x1), some (.int (x2 ||| (1 <<< (x3 &&& 31)))), some (.int x3), none] [] (sM mo G I J) Q)) :=
  (sm_blk X 129 39 (tt_lin 129 (by decide)) rfl rfl _ _ _ _).trans rfl
set_option maxRecDepth 100000 in
theorem bk_129_51 (X : (Nat → Int32) × Nat) (mo : Bool) (G : Nat × Nat) (I : Nat → Nat → Int32) (J : Nat → Nat → Int64) (Q : Option Value → sm_M → Prop) (x1 : Int32) (x2 : Int32) (x3 : Int32) :
    sm_wp X 129 51 [some (.ref 52), some (.int x1), some (.int x2), some (.int x3), none] [] (sM mo G I J) Q =
    (if (8 : Int32) ≤ (I 52 5 : Int32) then sm_wp X 129 99 [some (.ref 52), some (.int x1), some (.int x2), some (.int x3), none] [] (sM mo G I J) Q else (vp_in (I 52 5) 8 ∧ (sm_wp X 98 0 [some (.ref 1), some (.int x3)] [] (sM mo G (up2 I 53 (I 52 5).toNatClampNeg x3) J) (fun v M => sm_wp X 129 86 [some (.ref 52), some (.int x1), some (.int x2), some (.int x3), none] (v.toList ++ [.int ((up2 I 53 (I 52 5).toNatClampNeg x3) 52 5), .ref 54]) M Q)))) :=
  (sm_blk X 129 51 (tt_lin 129 (by decide)) rfl rfl _ _ _ _).trans rfl
set_option maxRecDepth 100000 in
theorem bk_129_86 (X : (Nat → Int32) × Nat) (mo : Bool) (G : Nat × Nat) (I : Nat → Nat → Int32) (J : Nat → Nat → Int64) (Q : Option Value → sm_M → Prop) (x1 : Int32) (x2 : Int32) (x3 : Int32) (s1 : Int32) (s2 : Int32) :
    sm_wp X 129 86 [some (.ref 52), some (.int x1), some (.int x2), some (.int x3), none] [.int s2, .int s1, .ref 54] (sM mo G I J) Q =
    (vp_in s1 8 ∧ (vp_in ((up2 I 54 s1.toNatClampNeg (s2 &&& x1)) 52 5) 8 ∧ (sm_wp X 129 19 [some (.ref 52), some (.int x1), some (.int x2), some (.int (x3 + 1)), none] [] (sM mo G (up2 (up2 (up2 I 54 s1.toNatClampNeg (s2 &&& x1)) 55 ((up2 I 54 s1.toNatClampNeg (s2 &&& x1)) 52 5).toNatClampNeg (-1)) 52 5 (((up2 (up2 I 54 s1.toNatClampNeg (s2 &&& x1)) 55 ((up2 I 54 s1.toNatClampNeg (s2 &&& x1)) 52 5).toNatClampNeg (-1)) 52 5) + 1)) J) Q))) :=
  (sm_blk X 129 86 (tt_lin 129 (by decide)) rfl rfl _ _ _ _).trans rfl
set_option maxRecDepth 100000 in
theorem bk_129_99 (X : (Nat → Int32) × Nat) (mo : Bool) (G : Nat × Nat) (I : Nat → Nat → Int32) (J : Nat → Nat → Int64) (Q : Option Value → sm_M → Prop) (x1 : Int32) (x2 : Int32) (x3 : Int32) :
    sm_wp X 129 99 [some (.ref 52), some (.int x1), some (.int x2), some (.int x3), none] [] (sM mo G I J) Q =
    (sm_wp X 129 19 [some (.ref 52), some (.int x1), some (.int x2), some (.int (x3 + 1)), none] [] (sM mo G (up2 I 52 5 ((I 52 5) + 1)) J) Q) :=
  (sm_blk X 129 99 (tt_lin 129 (by decide)) rfl rfl _ _ _ _).trans rfl
set_option maxRecDepth 100000 in
theorem bk_129_109 (X : (Nat → Int32) × Nat) (mo : Bool) (G : Nat × Nat) (I : Nat → Nat → Int32) (J : Nat → Nat → Int64) (Q : Option Value → sm_M → Prop) (x1 : Int32) (x2 : Int32) (x3 : Int32) :
    sm_wp X 129 109 [some (.ref 52), some (.int x1), some (.int x2), some (.int x3), none] [] (sM mo G I J) Q =
    (sm_wp X 129 19 [some (.ref 52), some (.int x1), some (.int x2), some (.int (x3 + 1)), none] [] (sM mo G I J) Q) :=
  (sm_blk X 129 109 (tt_lin 129 (by decide)) rfl rfl _ _ _ _).trans rfl
set_option maxRecDepth 100000 in
theorem bk_129_115 (X : (Nat → Int32) × Nat) (mo : Bool) (G : Nat × Nat) (I : Nat → Nat → Int32) (J : Nat → Nat → Int64) (Q : Option Value → sm_M → Prop) (x1 : Int32) (x2 : Int32) (x3 : Int32) :
    sm_wp X 129 115 [some (.ref 52), some (.int x1), some (.int x2), some (.int x3), none] [] (sM mo G I J) Q =
    (sm_wp X 129 117 [some (.ref 52), none, some (.int x2), some (.int 0), none] [] (sM mo G I J) Q) :=
  (sm_blk X 129 115 (tt_lin 129 (by decide)) rfl rfl _ _ _ _).trans rfl
set_option maxRecDepth 100000 in
theorem bk_129_117 (X : (Nat → Int32) × Nat) (mo : Bool) (G : Nat × Nat) (I : Nat → Nat → Int32) (J : Nat → Nat → Int64) (Q : Option Value → sm_M → Prop) (x2 : Int32) (x3 : Int32) :
    sm_wp X 129 117 [some (.ref 52), none, some (.int x2), some (.int x3), none] [] (sM mo G I J) Q =
    (if (6 : Int32) ≤ (x3 : Int32) then sm_wp X 129 193 [some (.ref 52), none, some (.int x2), some (.int x3), none] [] (sM mo G I J) Q else (sm_wp X 105 0 [some (.ref 1), some (.int x3), none, none] [] (sM mo G I J) (fun v M => sm_wp X 129 131 [some (.ref 52), none, some (.int x2), some (.int x3), none] (v.toList ++ []) M Q))) :=
  (sm_blk X 129 117 (tt_lin 129 (by decide)) rfl rfl _ _ _ _).trans rfl
set_option maxRecDepth 100000 in
theorem bk_129_131 (X : (Nat → Int32) × Nat) (mo : Bool) (G : Nat × Nat) (I : Nat → Nat → Int32) (J : Nat → Nat → Int64) (Q : Option Value → sm_M → Prop) (x2 : Int32) (x3 : Int32) (s0 : Int32) :
    sm_wp X 129 131 [some (.ref 52), none, some (.int x2), some (.int x3), none] [.int s0] (sM mo G I J) Q =
    (sm_wp X 103 0 [some (.ref 1), some (.int x3), some (.int s0), none, none] [] (sM mo G I J) (fun v M => sm_wp X 129 148 [some (.ref 52), none, some (.int x2), some (.int x3), some (.int s0)] (v.toList ++ [.int x3, .ref 57]) M Q)) :=
  (sm_blk X 129 131 (tt_lin 129 (by decide)) rfl rfl _ _ _ _).trans rfl
set_option maxRecDepth 100000 in
theorem bk_129_148 (X : (Nat → Int32) × Nat) (mo : Bool) (G : Nat × Nat) (I : Nat → Nat → Int32) (J : Nat → Nat → Int64) (Q : Option Value → sm_M → Prop) (x2 : Int32) (x3 : Int32) (x4 : Int32) (s1 : Int32) (s2 : Int32) :
    sm_wp X 129 148 [some (.ref 52), none, some (.int x2), some (.int x3), some (.int x4)] [.int s2, .int s1, .ref 57] (sM mo G I J) Q =
    (vp_in s1 6 ∧ (sm_wp X 108 0 [some (.ref 1), some (.int x3)] [] (sM mo G (up2 I 57 s1.toNatClampNeg s2) J) (fun v M => sm_wp X 129 162 [some (.ref 52), none, some (.int x2), some (.int x3), some (.int x4)] (v.toList ++ [.int x3, .ref 58]) M Q))) :=
  (sm_blk X 129 148 (tt_lin 129 (by decide)) rfl rfl _ _ _ _).trans rfl
set_option maxRecDepth 100000 in
theorem bk_129_162 (X : (Nat → Int32) × Nat) (mo : Bool) (G : Nat × Nat) (I : Nat → Nat → Int32) (J : Nat → Nat → Int64) (Q : Option Value → sm_M → Prop) (x2 : Int32) (x3 : Int32) (x4 : Int32) (s1 : Int32) (s2 : Int32) :
    sm_wp X 129 162 [some (.ref 52), none, some (.int x2), some (.int x3), some (.int x4)] [.int s2, .int s1, .ref 58] (sM mo G I J) Q =
    (vp_in s1 6 ∧ (vp_in x3 6 ∧ (sm_wp X 103 0 [some (.ref 1), some (.int x3), some (.int (x4 &&& x2)), none, none] [] (sM mo G (up2 (up2 I 58 s1.toNatClampNeg s2) 56 x3.toNatClampNeg 0) J) (fun v M => sm_wp X 129 184 [some (.ref 52), none, some (.int x2), some (.int x3), some (.int x4)] (v.toList ++ [.int x3, .ref 52]) M Q)))) :=
  (sm_blk X 129 162 (tt_lin 129 (by decide)) rfl rfl _ _ _ _).trans rfl
set_option maxRecDepth 100000 in
theorem bk_129_184 (X : (Nat → Int32) × Nat) (mo : Bool) (G : Nat × Nat) (I : Nat → Nat → Int32) (J : Nat → Nat → Int64) (Q : Option Value → sm_M → Prop) (x2 : Int32) (x3 : Int32) (x4 : Int32) (s1 : Int32) (s2 : Int32) :
    sm_wp X 129 184 [some (.ref 52), none, some (.int x2), some (.int x3), some (.int x4)] [.int s2, .int s1, .ref 52] (sM mo G I J) Q =
    (sm_wp X 130 0 [some (.ref 52), some (.int s1), some (.int s2)] [] (sM mo G I J) (fun v M => sm_wp X 129 187 [some (.ref 52), none, some (.int x2), some (.int x3), some (.int x4)] (v.toList ++ []) M Q)) :=
  (sm_blk X 129 184 (tt_lin 129 (by decide)) rfl rfl _ _ _ _).trans rfl
set_option maxRecDepth 100000 in
theorem bk_129_187 (X : (Nat → Int32) × Nat) (mo : Bool) (G : Nat × Nat) (I : Nat → Nat → Int32) (J : Nat → Nat → Int64) (Q : Option Value → sm_M → Prop) (x2 : Int32) (x3 : Int32) (x4 : Int32) :
    sm_wp X 129 187 [some (.ref 52), none, some (.int x2), some (.int x3), some (.int x4)] [] (sM mo G I J) Q =
    (sm_wp X 129 117 [some (.ref 52), none, some (.int x2), some (.int (x3 + 1)), none] [] (sM mo G I J) Q) :=
  (sm_blk X 129 187 (tt_lin 129 (by decide)) rfl rfl _ _ _ _).trans rfl
set_option maxRecDepth 100000 in
theorem bk_129_193 (X : (Nat → Int32) × Nat) (mo : Bool) (G : Nat × Nat) (I : Nat → Nat → Int32) (J : Nat → Nat → Int64) (Q : Option Value → sm_M → Prop) (x2 : Int32) (x3 : Int32) :
    sm_wp X 129 193 [some (.ref 52), none, some (.int x2), some (.int x3), none] [] (sM mo G I J) Q =
    (True ∧ Q none (sM mo G I J)) :=
  (sm_blk X 129 193 (tt_lin 129 (by decide)) rfl rfl _ _ _ _).trans rfl
set_option maxRecDepth 100000 in
theorem bkw_129_0 (X : (Nat → Int32) × Nat) (mo : Bool) (G : Nat × Nat) (I : Nat → Nat → Int32) (J : Nat → Nat → Int64) (Q : Option Value → sm_M → Prop) (x1 : Int32) :
    sm_wp X 129 0 [some (.ref 60), some (.int x1), none, none, none] [] (sM mo G I J) Q =
    (sm_wp X 129 19 [some (.ref 60), some (.int x1), some (.int 0), some (.int 0), none] [] (sM mo G (up2 (up2 (up2 I 60 2 x1) 60 12 0) 60 5 0) J) Q) :=
  (sm_blk X 129 0 (tt_lin 129 (by decide)) rfl rfl _ _ _ _).trans rfl
set_option maxRecDepth 100000 in
theorem bkw_129_19 (X : (Nat → Int32) × Nat) (mo : Bool) (G : Nat × Nat) (I : Nat → Nat → Int32) (J : Nat → Nat → Int64) (Q : Option Value → sm_M → Prop) (x1 : Int32) (x2 : Int32) (x3 : Int32) :
    sm_wp X 129 19 [some (.ref 60), some (.int x1), some (.int x2), some (.int x3), none] [] (sM mo G I J) Q =
    (if (I 1 0 : Int32) ≤ (x3 : Int32) then sm_wp X 129 115 [some (.ref 60), some (.int x1), some (.int x2), some (.int x3), none] [] (sM mo G I J) Q else (sm_wp X 113 0 [some (.ref 1), some (.int x3), some (.int x1)] [] (sM mo G I J) (fun v M => sm_wp X 129 39 [some (.ref 60), some (.int x1), some (.int x2), some (.int x3), none] (v.toList ++ []) M Q))) :=
  (sm_blk X 129 19 (tt_lin 129 (by decide)) rfl rfl _ _ _ _).trans rfl
set_option maxRecDepth 100000 in
theorem bkw_129_39 (X : (Nat → Int32) × Nat) (mo : Bool) (G : Nat × Nat) (I : Nat → Nat → Int32) (J : Nat → Nat → Int64) (Q : Option Value → sm_M → Prop) (x1 : Int32) (x2 : Int32) (x3 : Int32) (s0 : Int32) :
    sm_wp X 129 39 [some (.ref 60), some (.int x1), some (.int x2), some (.int x3), none] [.int s0] (sM mo G I J) Q =
    (if ¬ (s0 : Int32) = 0 then sm_wp X 129 51 [some (.ref 60), some (.int x1), some (.int x2), some (.int x3), none] [] (sM mo G I J) Q else (sm_wp X 129 109 [some (.ref 60), some (.int x1), some (.int (x2 ||| (1 <<< (x3 &&& 31)))), some (.int x3), none] [] (sM mo G I J) Q)) :=
  (sm_blk X 129 39 (tt_lin 129 (by decide)) rfl rfl _ _ _ _).trans rfl
set_option maxRecDepth 100000 in
theorem bkw_129_51 (X : (Nat → Int32) × Nat) (mo : Bool) (G : Nat × Nat) (I : Nat → Nat → Int32) (J : Nat → Nat → Int64) (Q : Option Value → sm_M → Prop) (x1 : Int32) (x2 : Int32) (x3 : Int32) :
    sm_wp X 129 51 [some (.ref 60), some (.int x1), some (.int x2), some (.int x3), none] [] (sM mo G I J) Q =
    (if (8 : Int32) ≤ (I 60 5 : Int32) then sm_wp X 129 99 [some (.ref 60), some (.int x1), some (.int x2), some (.int x3), none] [] (sM mo G I J) Q else (vp_in (I 60 5) 8 ∧ (sm_wp X 98 0 [some (.ref 1), some (.int x3)] [] (sM mo G (up2 I 61 (I 60 5).toNatClampNeg x3) J) (fun v M => sm_wp X 129 86 [some (.ref 60), some (.int x1), some (.int x2), some (.int x3), none] (v.toList ++ [.int ((up2 I 61 (I 60 5).toNatClampNeg x3) 60 5), .ref 62]) M Q)))) :=
  (sm_blk X 129 51 (tt_lin 129 (by decide)) rfl rfl _ _ _ _).trans rfl
set_option maxRecDepth 100000 in
theorem bkw_129_86 (X : (Nat → Int32) × Nat) (mo : Bool) (G : Nat × Nat) (I : Nat → Nat → Int32) (J : Nat → Nat → Int64) (Q : Option Value → sm_M → Prop) (x1 : Int32) (x2 : Int32) (x3 : Int32) (s1 : Int32) (s2 : Int32) :
    sm_wp X 129 86 [some (.ref 60), some (.int x1), some (.int x2), some (.int x3), none] [.int s2, .int s1, .ref 62] (sM mo G I J) Q =
    (vp_in s1 8 ∧ (vp_in ((up2 I 62 s1.toNatClampNeg (s2 &&& x1)) 60 5) 8 ∧ (sm_wp X 129 19 [some (.ref 60), some (.int x1), some (.int x2), some (.int (x3 + 1)), none] [] (sM mo G (up2 (up2 (up2 I 62 s1.toNatClampNeg (s2 &&& x1)) 63 ((up2 I 62 s1.toNatClampNeg (s2 &&& x1)) 60 5).toNatClampNeg (-1)) 60 5 (((up2 (up2 I 62 s1.toNatClampNeg (s2 &&& x1)) 63 ((up2 I 62 s1.toNatClampNeg (s2 &&& x1)) 60 5).toNatClampNeg (-1)) 60 5) + 1)) J) Q))) :=
  (sm_blk X 129 86 (tt_lin 129 (by decide)) rfl rfl _ _ _ _).trans rfl
set_option maxRecDepth 100000 in
theorem bkw_129_99 (X : (Nat → Int32) × Nat) (mo : Bool) (G : Nat × Nat) (I : Nat → Nat → Int32) (J : Nat → Nat → Int64) (Q : Option Value → sm_M → Prop) (x1 : Int32) (x2 : Int32) (x3 : Int32) :
    sm_wp X 129 99 [some (.ref 60), some (.int x1), some (.int x2), some (.int x3), none] [] (sM mo G I J) Q =
    (sm_wp X 129 19 [some (.ref 60), some (.int x1), some (.int x2), some (.int (x3 + 1)), none] [] (sM mo G (up2 I 60 5 ((I 60 5) + 1)) J) Q) :=
  (sm_blk X 129 99 (tt_lin 129 (by decide)) rfl rfl _ _ _ _).trans rfl
set_option maxRecDepth 100000 in
theorem bkw_129_109 (X : (Nat → Int32) × Nat) (mo : Bool) (G : Nat × Nat) (I : Nat → Nat → Int32) (J : Nat → Nat → Int64) (Q : Option Value → sm_M → Prop) (x1 : Int32) (x2 : Int32) (x3 : Int32) :
    sm_wp X 129 109 [some (.ref 60), some (.int x1), some (.int x2), some (.int x3), none] [] (sM mo G I J) Q =
    (sm_wp X 129 19 [some (.ref 60), some (.int x1), some (.int x2), some (.int (x3 + 1)), none] [] (sM mo G I J) Q) :=
  (sm_blk X 129 109 (tt_lin 129 (by decide)) rfl rfl _ _ _ _).trans rfl
set_option maxRecDepth 100000 in
theorem bkw_129_115 (X : (Nat → Int32) × Nat) (mo : Bool) (G : Nat × Nat) (I : Nat → Nat → Int32) (J : Nat → Nat → Int64) (Q : Option Value → sm_M → Prop) (x1 : Int32) (x2 : Int32) (x3 : Int32) :
    sm_wp X 129 115 [some (.ref 60), some (.int x1), some (.int x2), some (.int x3), none] [] (sM mo G I J) Q =
    (sm_wp X 129 117 [some (.ref 60), none, some (.int x2), some (.int 0), none] [] (sM mo G I J) Q) :=
  (sm_blk X 129 115 (tt_lin 129 (by decide)) rfl rfl _ _ _ _).trans rfl
set_option maxRecDepth 100000 in
theorem bkw_129_117 (X : (Nat → Int32) × Nat) (mo : Bool) (G : Nat × Nat) (I : Nat → Nat → Int32) (J : Nat → Nat → Int64) (Q : Option Value → sm_M → Prop) (x2 : Int32) (x3 : Int32) :
    sm_wp X 129 117 [some (.ref 60), none, some (.int x2), some (.int x3), none] [] (sM mo G I J) Q =
    (if (6 : Int32) ≤ (x3 : Int32) then sm_wp X 129 193 [some (.ref 60), none, some (.int x2), some (.int x3), none] [] (sM mo G I J) Q else (sm_wp X 105 0 [some (.ref 1), some (.int x3), none, none] [] (sM mo G I J) (fun v M => sm_wp X 129 131 [some (.ref 60), none, some (.int x2), some (.int x3), none] (v.toList ++ []) M Q))) :=
  (sm_blk X 129 117 (tt_lin 129 (by decide)) rfl rfl _ _ _ _).trans rfl
set_option maxRecDepth 100000 in
theorem bkw_129_131 (X : (Nat → Int32) × Nat) (mo : Bool) (G : Nat × Nat) (I : Nat → Nat → Int32) (J : Nat → Nat → Int64) (Q : Option Value → sm_M → Prop) (x2 : Int32) (x3 : Int32) (s0 : Int32) :
    sm_wp X 129 131 [some (.ref 60), none, some (.int x2), some (.int x3), none] [.int s0] (sM mo G I J) Q =
    (sm_wp X 103 0 [some (.ref 1), some (.int x3), some (.int s0), none, none] [] (sM mo G I J) (fun v M => sm_wp X 129 148 [some (.ref 60), none, some (.int x2), some (.int x3), some (.int s0)] (v.toList ++ [.int x3, .ref 65]) M Q)) :=
  (sm_blk X 129 131 (tt_lin 129 (by decide)) rfl rfl _ _ _ _).trans rfl
set_option maxRecDepth 100000 in
theorem bkw_129_148 (X : (Nat → Int32) × Nat) (mo : Bool) (G : Nat × Nat) (I : Nat → Nat → Int32) (J : Nat → Nat → Int64) (Q : Option Value → sm_M → Prop) (x2 : Int32) (x3 : Int32) (x4 : Int32) (s1 : Int32) (s2 : Int32) :
    sm_wp X 129 148 [some (.ref 60), none, some (.int x2), some (.int x3), some (.int x4)] [.int s2, .int s1, .ref 65] (sM mo G I J) Q =
    (vp_in s1 6 ∧ (sm_wp X 108 0 [some (.ref 1), some (.int x3)] [] (sM mo G (up2 I 65 s1.toNatClampNeg s2) J) (fun v M => sm_wp X 129 162 [some (.ref 60), none, some (.int x2), some (.int x3), some (.int x4)] (v.toList ++ [.int x3, .ref 66]) M Q))) :=
  (sm_blk X 129 148 (tt_lin 129 (by decide)) rfl rfl _ _ _ _).trans rfl
set_option maxRecDepth 100000 in
theorem bkw_129_162 (X : (Nat → Int32) × Nat) (mo : Bool) (G : Nat × Nat) (I : Nat → Nat → Int32) (J : Nat → Nat → Int64) (Q : Option Value → sm_M → Prop) (x2 : Int32) (x3 : Int32) (x4 : Int32) (s1 : Int32) (s2 : Int32) :
    sm_wp X 129 162 [some (.ref 60), none, some (.int x2), some (.int x3), some (.int x4)] [.int s2, .int s1, .ref 66] (sM mo G I J) Q =
    (vp_in s1 6 ∧ (vp_in x3 6 ∧ (sm_wp X 103 0 [some (.ref 1), some (.int x3), some (.int (x4 &&& x2)), none, none] [] (sM mo G (up2 (up2 I 66 s1.toNatClampNeg s2) 64 x3.toNatClampNeg 0) J) (fun v M => sm_wp X 129 184 [some (.ref 60), none, some (.int x2), some (.int x3), some (.int x4)] (v.toList ++ [.int x3, .ref 60]) M Q)))) :=
  (sm_blk X 129 162 (tt_lin 129 (by decide)) rfl rfl _ _ _ _).trans rfl
set_option maxRecDepth 100000 in
theorem bkw_129_184 (X : (Nat → Int32) × Nat) (mo : Bool) (G : Nat × Nat) (I : Nat → Nat → Int32) (J : Nat → Nat → Int64) (Q : Option Value → sm_M → Prop) (x2 : Int32) (x3 : Int32) (x4 : Int32) (s1 : Int32) (s2 : Int32) :
    sm_wp X 129 184 [some (.ref 60), none, some (.int x2), some (.int x3), some (.int x4)] [.int s2, .int s1, .ref 60] (sM mo G I J) Q =
    (sm_wp X 130 0 [some (.ref 60), some (.int s1), some (.int s2)] [] (sM mo G I J) (fun v M => sm_wp X 129 187 [some (.ref 60), none, some (.int x2), some (.int x3), some (.int x4)] (v.toList ++ []) M Q)) :=
  (sm_blk X 129 184 (tt_lin 129 (by decide)) rfl rfl _ _ _ _).trans rfl
set_option maxRecDepth 100000 in
theorem bkw_129_187 (X : (Nat → Int32) × Nat) (mo : Bool) (G : Nat × Nat) (I : Nat → Nat → Int32) (J : Nat → Nat → Int64) (Q : Option Value → sm_M → Prop) (x2 : Int32) (x3 : Int32) (x4 : Int32) :
    sm_wp X 129 187 [some (.ref 60), none, some (.int x2), some (.int x3), some (.int x4)] [] (sM mo G I J) Q =
    (sm_wp X 129 117 [some (.ref 60), none, some (.int x2), some (.int (x3 + 1)), none] [] (sM mo G I J) Q) :=
  (sm_blk X 129 187 (tt_lin 129 (by decide)) rfl rfl _ _ _ _).trans rfl
set_option maxRecDepth 100000 in
theorem bkw_129_193 (X : (Nat → Int32) × Nat) (mo : Bool) (G : Nat × Nat) (I : Nat → Nat → Int32) (J : Nat → Nat → Int64) (Q : Option Value → sm_M → Prop) (x2 : Int32) (x3 : Int32) :
    sm_wp X 129 193 [some (.ref 60), none, some (.int x2), some (.int x3), none] [] (sM mo G I J) Q =
    (True ∧ Q none (sM mo G I J)) :=
  (sm_blk X 129 193 (tt_lin 129 (by decide)) rfl rfl _ _ _ _).trans rfl
set_option maxRecDepth 100000 in
theorem bk_130_0 (X : (Nat → Int32) × Nat) (mo : Bool) (G : Nat × Nat) (I : Nat → Nat → Int32) (J : Nat → Nat → Int64) (Q : Option Value → sm_M → Prop) (x1 : Int32) (x2 : Int32) :
    sm_wp X 130 0 [some (.ref 52), some (.int x1), some (.int x2)] [] (sM mo G I J) Q =
    (if (x1 : Int32) < 0 then sm_wp X 130 10 [some (.ref 52), some (.int x1), some (.int x2)] [] (sM mo G I J) Q else (if (x1 : Int32) < (6 : Int32) then sm_wp X 130 11 [some (.ref 52), some (.int x1), some (.int x2)] [] (sM mo G I J) Q else (True ∧ Q none (sM mo G I J)))) :=
  (sm_blk X 130 0 (tt_lin 130 (by decide)) rfl rfl _ _ _ _).trans rfl
set_option maxRecDepth 100000 in
theorem bk_130_10 (X : (Nat → Int32) × Nat) (mo : Bool) (G : Nat × Nat) (I : Nat → Nat → Int32) (J : Nat → Nat → Int64) (Q : Option Value → sm_M → Prop) (x1 : Int32) (x2 : Int32) :
    sm_wp X 130 10 [some (.ref 52), some (.int x1), some (.int x2)] [] (sM mo G I J) Q =
    (True ∧ Q none (sM mo G I J)) :=
  (sm_blk X 130 10 (tt_lin 130 (by decide)) rfl rfl _ _ _ _).trans rfl
set_option maxRecDepth 100000 in
theorem bk_130_11 (X : (Nat → Int32) × Nat) (mo : Bool) (G : Nat × Nat) (I : Nat → Nat → Int32) (J : Nat → Nat → Int64) (Q : Option Value → sm_M → Prop) (x1 : Int32) (x2 : Int32) :
    sm_wp X 130 11 [some (.ref 52), some (.int x1), some (.int x2)] [] (sM mo G I J) Q =
    (vp_in x1 6 ∧ (vp_in x1 6 ∧ (vp_in x1 6 ∧ (vp_in x1 6 ∧ (if ((up2 I 56 x1.toNatClampNeg ((I 56 (x1.toNatClampNeg)) + x2)) 56 (x1.toNatClampNeg) : Int32) < ((up2 I 56 x1.toNatClampNeg ((I 56 (x1.toNatClampNeg)) + x2)) 58 (x1.toNatClampNeg) : Int32) then sm_wp X 130 56 [some (.ref 52), some (.int x1), some (.int x2)] [] (sM mo G (up2 I 56 x1.toNatClampNeg ((I 56 (x1.toNatClampNeg)) + x2)) J) Q else (sm_wp X 130 70 [some (.ref 52), some (.int x1), some (.int x2)] [] (sM mo G (up2 (up2 I 56 x1.toNatClampNeg ((I 56 (x1.toNatClampNeg)) + x2)) 52 12 (((up2 I 56 x1.toNatClampNeg ((I 56 (x1.toNatClampNeg)) + x2)) 52 12) ||| (((up2 I 56 x1.toNatClampNeg ((I 56 (x1.toNatClampNeg)) + x2)) 52 2) &&& (1 <<< (x1 &&& 31))))) J) Q)))))) :=
  (sm_blk X 130 11 (tt_lin 130 (by decide)) rfl rfl _ _ _ _).trans rfl
set_option maxRecDepth 100000 in
theorem bk_130_56 (X : (Nat → Int32) × Nat) (mo : Bool) (G : Nat × Nat) (I : Nat → Nat → Int32) (J : Nat → Nat → Int64) (Q : Option Value → sm_M → Prop) (x1 : Int32) (x2 : Int32) :
    sm_wp X 130 56 [some (.ref 52), some (.int x1), some (.int x2)] [] (sM mo G I J) Q =
    (True ∧ Q none (sM mo G (up2 I 52 12 ((I 52 12) &&& ((1 <<< (x1 &&& 31)) ^^^ (-1)))) J)) :=
  (sm_blk X 130 56 (tt_lin 130 (by decide)) rfl rfl _ _ _ _).trans rfl
set_option maxRecDepth 100000 in
theorem bk_130_70 (X : (Nat → Int32) × Nat) (mo : Bool) (G : Nat × Nat) (I : Nat → Nat → Int32) (J : Nat → Nat → Int64) (Q : Option Value → sm_M → Prop) (x1 : Int32) (x2 : Int32) :
    sm_wp X 130 70 [some (.ref 52), some (.int x1), some (.int x2)] [] (sM mo G I J) Q =
    (True ∧ Q none (sM mo G I J)) :=
  (sm_blk X 130 70 (tt_lin 130 (by decide)) rfl rfl _ _ _ _).trans rfl
set_option maxRecDepth 100000 in
theorem bkw_130_0 (X : (Nat → Int32) × Nat) (mo : Bool) (G : Nat × Nat) (I : Nat → Nat → Int32) (J : Nat → Nat → Int64) (Q : Option Value → sm_M → Prop) (x1 : Int32) (x2 : Int32) :
    sm_wp X 130 0 [some (.ref 60), some (.int x1), some (.int x2)] [] (sM mo G I J) Q =
    (if (x1 : Int32) < 0 then sm_wp X 130 10 [some (.ref 60), some (.int x1), some (.int x2)] [] (sM mo G I J) Q else (if (x1 : Int32) < (6 : Int32) then sm_wp X 130 11 [some (.ref 60), some (.int x1), some (.int x2)] [] (sM mo G I J) Q else (True ∧ Q none (sM mo G I J)))) :=
  (sm_blk X 130 0 (tt_lin 130 (by decide)) rfl rfl _ _ _ _).trans rfl
set_option maxRecDepth 100000 in
theorem bkw_130_10 (X : (Nat → Int32) × Nat) (mo : Bool) (G : Nat × Nat) (I : Nat → Nat → Int32) (J : Nat → Nat → Int64) (Q : Option Value → sm_M → Prop) (x1 : Int32) (x2 : Int32) :
    sm_wp X 130 10 [some (.ref 60), some (.int x1), some (.int x2)] [] (sM mo G I J) Q =
    (True ∧ Q none (sM mo G I J)) :=
  (sm_blk X 130 10 (tt_lin 130 (by decide)) rfl rfl _ _ _ _).trans rfl
set_option maxRecDepth 100000 in
theorem bkw_130_11 (X : (Nat → Int32) × Nat) (mo : Bool) (G : Nat × Nat) (I : Nat → Nat → Int32) (J : Nat → Nat → Int64) (Q : Option Value → sm_M → Prop) (x1 : Int32) (x2 : Int32) :
    sm_wp X 130 11 [some (.ref 60), some (.int x1), some (.int x2)] [] (sM mo G I J) Q =
    (vp_in x1 6 ∧ (vp_in x1 6 ∧ (vp_in x1 6 ∧ (vp_in x1 6 ∧ (if ((up2 I 64 x1.toNatClampNeg ((I 64 (x1.toNatClampNeg)) + x2)) 64 (x1.toNatClampNeg) : Int32) < ((up2 I 64 x1.toNatClampNeg ((I 64 (x1.toNatClampNeg)) + x2)) 66 (x1.toNatClampNeg) : Int32) then sm_wp X 130 56 [some (.ref 60), some (.int x1), some (.int x2)] [] (sM mo G (up2 I 64 x1.toNatClampNeg ((I 64 (x1.toNatClampNeg)) + x2)) J) Q else (sm_wp X 130 70 [some (.ref 60), some (.int x1), some (.int x2)] [] (sM mo G (up2 (up2 I 64 x1.toNatClampNeg ((I 64 (x1.toNatClampNeg)) + x2)) 60 12 (((up2 I 64 x1.toNatClampNeg ((I 64 (x1.toNatClampNeg)) + x2)) 60 12) ||| (((up2 I 64 x1.toNatClampNeg ((I 64 (x1.toNatClampNeg)) + x2)) 60 2) &&& (1 <<< (x1 &&& 31))))) J) Q)))))) :=
  (sm_blk X 130 11 (tt_lin 130 (by decide)) rfl rfl _ _ _ _).trans rfl
set_option maxRecDepth 100000 in
theorem bkw_130_56 (X : (Nat → Int32) × Nat) (mo : Bool) (G : Nat × Nat) (I : Nat → Nat → Int32) (J : Nat → Nat → Int64) (Q : Option Value → sm_M → Prop) (x1 : Int32) (x2 : Int32) :
    sm_wp X 130 56 [some (.ref 60), some (.int x1), some (.int x2)] [] (sM mo G I J) Q =
    (True ∧ Q none (sM mo G (up2 I 60 12 ((I 60 12) &&& ((1 <<< (x1 &&& 31)) ^^^ (-1)))) J)) :=
  (sm_blk X 130 56 (tt_lin 130 (by decide)) rfl rfl _ _ _ _).trans rfl
set_option maxRecDepth 100000 in
theorem bkw_130_70 (X : (Nat → Int32) × Nat) (mo : Bool) (G : Nat × Nat) (I : Nat → Nat → Int32) (J : Nat → Nat → Int64) (Q : Option Value → sm_M → Prop) (x1 : Int32) (x2 : Int32) :
    sm_wp X 130 70 [some (.ref 60), some (.int x1), some (.int x2)] [] (sM mo G I J) Q =
    (True ∧ Q none (sM mo G I J)) :=
  (sm_blk X 130 70 (tt_lin 130 (by decide)) rfl rfl _ _ _ _).trans rfl
set_option maxRecDepth 100000 in
theorem bk_131_0 (X : (Nat → Int32) × Nat) (mo : Bool) (G : Nat × Nat) (I : Nat → Nat → Int32) (J : Nat → Nat → Int64) (Q : Option Value → sm_M → Prop)  :
    sm_wp X 131 0 [some (.ref 52)] [] (sM mo G I J) Q =
    (if (I 52 5 : Int32) ≤ (8 : Int32) then sm_wp X 131 13 [some (.ref 52)] [] (sM mo G I J) Q else (sm_wp X 131 14 [some (.ref 52)] [.int 1] (sM mo G I J) Q)) :=
  (sm_blk X 131 0 (tt_lin 131 (by decide)) rfl rfl _ _ _ _).trans rfl
set_option maxRecDepth 100000 in
theorem bk_131_13 (X : (Nat → Int32) × Nat) (mo : Bool) (G : Nat × Nat) (I : Nat → Nat → Int32) (J : Nat → Nat → Int64) (Q : Option Value → sm_M → Prop)  :
    sm_wp X 131 13 [some (.ref 52)] [] (sM mo G I J) Q =
    (sm_zb 0 ∧ Q (some (.int 0)) (sM mo G I J)) :=
  (sm_blk X 131 13 (tt_lin 131 (by decide)) rfl rfl _ _ _ _).trans rfl
set_option maxRecDepth 100000 in
theorem bk_131_14 (X : (Nat → Int32) × Nat) (mo : Bool) (G : Nat × Nat) (I : Nat → Nat → Int32) (J : Nat → Nat → Int64) (Q : Option Value → sm_M → Prop) (s0 : Int32) :
    sm_wp X 131 14 [some (.ref 52)] [.int s0] (sM mo G I J) Q =
    (sm_zb s0 ∧ Q (some (.int s0)) (sM mo G I J)) :=
  (sm_blk X 131 14 (tt_lin 131 (by decide)) rfl rfl _ _ _ _).trans rfl
set_option maxRecDepth 100000 in
theorem bkw_131_0 (X : (Nat → Int32) × Nat) (mo : Bool) (G : Nat × Nat) (I : Nat → Nat → Int32) (J : Nat → Nat → Int64) (Q : Option Value → sm_M → Prop)  :
    sm_wp X 131 0 [some (.ref 60)] [] (sM mo G I J) Q =
    (if (I 60 5 : Int32) ≤ (8 : Int32) then sm_wp X 131 13 [some (.ref 60)] [] (sM mo G I J) Q else (sm_wp X 131 14 [some (.ref 60)] [.int 1] (sM mo G I J) Q)) :=
  (sm_blk X 131 0 (tt_lin 131 (by decide)) rfl rfl _ _ _ _).trans rfl
set_option maxRecDepth 100000 in
theorem bkw_131_13 (X : (Nat → Int32) × Nat) (mo : Bool) (G : Nat × Nat) (I : Nat → Nat → Int32) (J : Nat → Nat → Int64) (Q : Option Value → sm_M → Prop)  :
    sm_wp X 131 13 [some (.ref 60)] [] (sM mo G I J) Q =
    (sm_zb 0 ∧ Q (some (.int 0)) (sM mo G I J)) :=
  (sm_blk X 131 13 (tt_lin 131 (by decide)) rfl rfl _ _ _ _).trans rfl
set_option maxRecDepth 100000 in
theorem bkw_131_14 (X : (Nat → Int32) × Nat) (mo : Bool) (G : Nat × Nat) (I : Nat → Nat → Int32) (J : Nat → Nat → Int64) (Q : Option Value → sm_M → Prop) (s0 : Int32) :
    sm_wp X 131 14 [some (.ref 60)] [.int s0] (sM mo G I J) Q =
    (sm_zb s0 ∧ Q (some (.int s0)) (sM mo G I J)) :=
  (sm_blk X 131 14 (tt_lin 131 (by decide)) rfl rfl _ _ _ _).trans rfl
set_option maxRecDepth 100000 in
theorem bk_132_0 (X : (Nat → Int32) × Nat) (mo : Bool) (G : Nat × Nat) (I : Nat → Nat → Int32) (J : Nat → Nat → Int64) (Q : Option Value → sm_M → Prop) (x1 : Int32) (x2 : Int32) :
    sm_wp X 132 0 [some (.ref 52), some (.int x1), some (.int x2), none] [] (sM mo G I J) Q =
    (if (x1 : Int32) < 0 then sm_wp X 132 10 [some (.ref 52), some (.int x1), some (.int x2), none] [] (sM mo G I J) Q else (if (x1 : Int32) < (8 : Int32) then sm_wp X 132 12 [some (.ref 52), some (.int x1), some (.int x2), none] [] (sM mo G I J) Q else (True ∧ Q (some (.int (-1))) (sM mo G I J)))) :=
  (sm_blk X 132 0 (tt_lin 132 (by decide)) rfl rfl _ _ _ _).trans rfl
set_option maxRecDepth 100000 in
theorem bk_132_10 (X : (Nat → Int32) × Nat) (mo : Bool) (G : Nat × Nat) (I : Nat → Nat → Int32) (J : Nat → Nat → Int64) (Q : Option Value → sm_M → Prop) (x1 : Int32) (x2 : Int32) :
    sm_wp X 132 10 [some (.ref 52), some (.int x1), some (.int x2), none] [] (sM mo G I J) Q =
    (True ∧ Q (some (.int (-1))) (sM mo G I J)) :=
  (sm_blk X 132 10 (tt_lin 132 (by decide)) rfl rfl _ _ _ _).trans rfl
set_option maxRecDepth 100000 in
theorem bk_132_12 (X : (Nat → Int32) × Nat) (mo : Bool) (G : Nat × Nat) (I : Nat → Nat → Int32) (J : Nat → Nat → Int64) (Q : Option Value → sm_M → Prop) (x1 : Int32) (x2 : Int32) :
    sm_wp X 132 12 [some (.ref 52), some (.int x1), some (.int x2), none] [] (sM mo G I J) Q =
    (sm_wp X 132 16 [some (.ref 52), some (.int x1), none, some (.int (x2 + 1))] [] (sM mo G I J) Q) :=
  (sm_blk X 132 12 (tt_lin 132 (by decide)) rfl rfl _ _ _ _).trans rfl
set_option maxRecDepth 100000 in
theorem bk_132_16 (X : (Nat → Int32) × Nat) (mo : Bool) (G : Nat × Nat) (I : Nat → Nat → Int32) (J : Nat → Nat → Int64) (Q : Option Value → sm_M → Prop) (x1 : Int32) (x3 : Int32) :
    sm_wp X 132 16 [some (.ref 52), some (.int x1), none, some (.int x3)] [] (sM mo G I J) Q =
    (if (6 : Int32) ≤ (x3 : Int32) then sm_wp X 132 43 [some (.ref 52), some (.int x1), none, some (.int x3)] [] (sM mo G I J) Q else (vp_in x1 8 ∧ (if (((I 54 (x1.toNatClampNeg)) >>> (x3 &&& 31)) &&& 1 : Int32) = 0 then sm_wp X 132 37 [some (.ref 52), some (.int x1), none, some (.int x3)] [] (sM mo G I J) Q else (True ∧ Q (some (.int x3)) (sM mo G I J))))) :=
  (sm_blk X 132 16 (tt_lin 132 (by decide)) rfl rfl _ _ _ _).trans rfl
set_option maxRecDepth 100000 in
theorem bk_132_37 (X : (Nat → Int32) × Nat) (mo : Bool) (G : Nat × Nat) (I : Nat → Nat → Int32) (J : Nat → Nat → Int64) (Q : Option Value → sm_M → Prop) (x1 : Int32) (x3 : Int32) :
    sm_wp X 132 37 [some (.ref 52), some (.int x1), none, some (.int x3)] [] (sM mo G I J) Q =
    (sm_wp X 132 16 [some (.ref 52), some (.int x1), none, some (.int (x3 + 1))] [] (sM mo G I J) Q) :=
  (sm_blk X 132 37 (tt_lin 132 (by decide)) rfl rfl _ _ _ _).trans rfl
set_option maxRecDepth 100000 in
theorem bk_132_43 (X : (Nat → Int32) × Nat) (mo : Bool) (G : Nat × Nat) (I : Nat → Nat → Int32) (J : Nat → Nat → Int64) (Q : Option Value → sm_M → Prop) (x1 : Int32) (x3 : Int32) :
    sm_wp X 132 43 [some (.ref 52), some (.int x1), none, some (.int x3)] [] (sM mo G I J) Q =
    (True ∧ Q (some (.int (-1))) (sM mo G I J)) :=
  (sm_blk X 132 43 (tt_lin 132 (by decide)) rfl rfl _ _ _ _).trans rfl
set_option maxRecDepth 100000 in
theorem bkw_132_0 (X : (Nat → Int32) × Nat) (mo : Bool) (G : Nat × Nat) (I : Nat → Nat → Int32) (J : Nat → Nat → Int64) (Q : Option Value → sm_M → Prop) (x1 : Int32) (x2 : Int32) :
    sm_wp X 132 0 [some (.ref 60), some (.int x1), some (.int x2), none] [] (sM mo G I J) Q =
    (if (x1 : Int32) < 0 then sm_wp X 132 10 [some (.ref 60), some (.int x1), some (.int x2), none] [] (sM mo G I J) Q else (if (x1 : Int32) < (8 : Int32) then sm_wp X 132 12 [some (.ref 60), some (.int x1), some (.int x2), none] [] (sM mo G I J) Q else (True ∧ Q (some (.int (-1))) (sM mo G I J)))) :=
  (sm_blk X 132 0 (tt_lin 132 (by decide)) rfl rfl _ _ _ _).trans rfl
set_option maxRecDepth 100000 in
theorem bkw_132_10 (X : (Nat → Int32) × Nat) (mo : Bool) (G : Nat × Nat) (I : Nat → Nat → Int32) (J : Nat → Nat → Int64) (Q : Option Value → sm_M → Prop) (x1 : Int32) (x2 : Int32) :
    sm_wp X 132 10 [some (.ref 60), some (.int x1), some (.int x2), none] [] (sM mo G I J) Q =
    (True ∧ Q (some (.int (-1))) (sM mo G I J)) :=
  (sm_blk X 132 10 (tt_lin 132 (by decide)) rfl rfl _ _ _ _).trans rfl
set_option maxRecDepth 100000 in
theorem bkw_132_12 (X : (Nat → Int32) × Nat) (mo : Bool) (G : Nat × Nat) (I : Nat → Nat → Int32) (J : Nat → Nat → Int64) (Q : Option Value → sm_M → Prop) (x1 : Int32) (x2 : Int32) :
    sm_wp X 132 12 [some (.ref 60), some (.int x1), some (.int x2), none] [] (sM mo G I J) Q =
    (sm_wp X 132 16 [some (.ref 60), some (.int x1), none, some (.int (x2 + 1))] [] (sM mo G I J) Q) :=
  (sm_blk X 132 12 (tt_lin 132 (by decide)) rfl rfl _ _ _ _).trans rfl
set_option maxRecDepth 100000 in
theorem bkw_132_16 (X : (Nat → Int32) × Nat) (mo : Bool) (G : Nat × Nat) (I : Nat → Nat → Int32) (J : Nat → Nat → Int64) (Q : Option Value → sm_M → Prop) (x1 : Int32) (x3 : Int32) :
    sm_wp X 132 16 [some (.ref 60), some (.int x1), none, some (.int x3)] [] (sM mo G I J) Q =
    (if (6 : Int32) ≤ (x3 : Int32) then sm_wp X 132 43 [some (.ref 60), some (.int x1), none, some (.int x3)] [] (sM mo G I J) Q else (vp_in x1 8 ∧ (if (((I 62 (x1.toNatClampNeg)) >>> (x3 &&& 31)) &&& 1 : Int32) = 0 then sm_wp X 132 37 [some (.ref 60), some (.int x1), none, some (.int x3)] [] (sM mo G I J) Q else (True ∧ Q (some (.int x3)) (sM mo G I J))))) :=
  (sm_blk X 132 16 (tt_lin 132 (by decide)) rfl rfl _ _ _ _).trans rfl
set_option maxRecDepth 100000 in
theorem bkw_132_37 (X : (Nat → Int32) × Nat) (mo : Bool) (G : Nat × Nat) (I : Nat → Nat → Int32) (J : Nat → Nat → Int64) (Q : Option Value → sm_M → Prop) (x1 : Int32) (x3 : Int32) :
    sm_wp X 132 37 [some (.ref 60), some (.int x1), none, some (.int x3)] [] (sM mo G I J) Q =
    (sm_wp X 132 16 [some (.ref 60), some (.int x1), none, some (.int (x3 + 1))] [] (sM mo G I J) Q) :=
  (sm_blk X 132 37 (tt_lin 132 (by decide)) rfl rfl _ _ _ _).trans rfl
set_option maxRecDepth 100000 in
theorem bkw_132_43 (X : (Nat → Int32) × Nat) (mo : Bool) (G : Nat × Nat) (I : Nat → Nat → Int32) (J : Nat → Nat → Int64) (Q : Option Value → sm_M → Prop) (x1 : Int32) (x3 : Int32) :
    sm_wp X 132 43 [some (.ref 60), some (.int x1), none, some (.int x3)] [] (sM mo G I J) Q =
    (True ∧ Q (some (.int (-1))) (sM mo G I J)) :=
  (sm_blk X 132 43 (tt_lin 132 (by decide)) rfl rfl _ _ _ _).trans rfl
set_option maxRecDepth 100000 in
theorem bk_133_0 (X : (Nat → Int32) × Nat) (mo : Bool) (G : Nat × Nat) (I : Nat → Nat → Int32) (J : Nat → Nat → Int64) (Q : Option Value → sm_M → Prop) (x1 : Int32) (x2 : Int32) :
    sm_wp X 133 0 [some (.ref 52), some (.int x1), some (.int x2)] [] (sM mo G I J) Q =
    (if (x1 : Int32) < 0 then sm_wp X 133 10 [some (.ref 52), some (.int x1), some (.int x2)] [] (sM mo G I J) Q else (if (x1 : Int32) < (8 : Int32) then sm_wp X 133 11 [some (.ref 52), some (.int x1), some (.int x2)] [] (sM mo G I J) Q else (True ∧ Q none (sM mo G I J)))) :=
  (sm_blk X 133 0 (tt_lin 133 (by decide)) rfl rfl _ _ _ _).trans rfl
set_option maxRecDepth 100000 in
theorem bk_133_10 (X : (Nat → Int32) × Nat) (mo : Bool) (G : Nat × Nat) (I : Nat → Nat → Int32) (J : Nat → Nat → Int64) (Q : Option Value → sm_M → Prop) (x1 : Int32) (x2 : Int32) :
    sm_wp X 133 10 [some (.ref 52), some (.int x1), some (.int x2)] [] (sM mo G I J) Q =
    (True ∧ Q none (sM mo G I J)) :=
  (sm_blk X 133 10 (tt_lin 133 (by decide)) rfl rfl _ _ _ _).trans rfl
set_option maxRecDepth 100000 in
theorem bk_133_11 (X : (Nat → Int32) × Nat) (mo : Bool) (G : Nat × Nat) (I : Nat → Nat → Int32) (J : Nat → Nat → Int64) (Q : Option Value → sm_M → Prop) (x1 : Int32) (x2 : Int32) :
    sm_wp X 133 11 [some (.ref 52), some (.int x1), some (.int x2)] [] (sM mo G I J) Q =
    (vp_in x1 8 ∧ (vp_in x1 8 ∧ (vp_in x1 8 ∧ (sm_wp X 104 0 [some (.ref 1), some (.int (I 55 (x1.toNatClampNeg))), some (.int (I 53 (x1.toNatClampNeg)))] [] (sM mo G I J) (fun v M => sm_wp X 133 37 [some (.ref 52), some (.int x1), some (.int x2)] (v.toList ++ [.int (I 55 (x1.toNatClampNeg)), .ref 52]) M Q))))) :=
  (sm_blk X 133 11 (tt_lin 133 (by decide)) rfl rfl _ _ _ _).trans rfl
set_option maxRecDepth 100000 in
theorem bk_133_37 (X : (Nat → Int32) × Nat) (mo : Bool) (G : Nat × Nat) (I : Nat → Nat → Int32) (J : Nat → Nat → Int64) (Q : Option Value → sm_M → Prop) (x1 : Int32) (x2 : Int32) (s1 : Int32) (s2 : Int32) :
    sm_wp X 133 37 [some (.ref 52), some (.int x1), some (.int x2)] [.int s2, .int s1, .ref 52] (sM mo G I J) Q =
    (sm_wp X 130 0 [some (.ref 52), some (.int s1), some (.int (-s2))] [] (sM mo G I J) (fun v M => sm_wp X 133 41 [some (.ref 52), some (.int x1), some (.int x2)] (v.toList ++ []) M Q)) :=
  (sm_blk X 133 37 (tt_lin 133 (by decide)) rfl rfl _ _ _ _).trans rfl
set_option maxRecDepth 100000 in
theorem bk_133_41 (X : (Nat → Int32) × Nat) (mo : Bool) (G : Nat × Nat) (I : Nat → Nat → Int32) (J : Nat → Nat → Int64) (Q : Option Value → sm_M → Prop) (x1 : Int32) (x2 : Int32) :
    sm_wp X 133 41 [some (.ref 52), some (.int x1), some (.int x2)] [] (sM mo G I J) Q =
    (vp_in x1 8 ∧ (sm_wp X 104 0 [some (.ref 1), some (.int x2), some (.int (I 53 (x1.toNatClampNeg)))] [] (sM mo G I J) (fun v M => sm_wp X 133 57 [some (.ref 52), some (.int x1), some (.int x2)] (v.toList ++ [.int x2, .ref 52]) M Q))) :=
  (sm_blk X 133 41 (tt_lin 133 (by decide)) rfl rfl _ _ _ _).trans rfl
set_option maxRecDepth 100000 in
theorem bk_133_57 (X : (Nat → Int32) × Nat) (mo : Bool) (G : Nat × Nat) (I : Nat → Nat → Int32) (J : Nat → Nat → Int64) (Q : Option Value → sm_M → Prop) (x1 : Int32) (x2 : Int32) (s1 : Int32) (s2 : Int32) :
    sm_wp X 133 57 [some (.ref 52), some (.int x1), some (.int x2)] [.int s2, .int s1, .ref 52] (sM mo G I J) Q =
    (sm_wp X 130 0 [some (.ref 52), some (.int s1), some (.int s2)] [] (sM mo G I J) (fun v M => sm_wp X 133 60 [some (.ref 52), some (.int x1), some (.int x2)] (v.toList ++ []) M Q)) :=
  (sm_blk X 133 57 (tt_lin 133 (by decide)) rfl rfl _ _ _ _).trans rfl
set_option maxRecDepth 100000 in
theorem bk_133_60 (X : (Nat → Int32) × Nat) (mo : Bool) (G : Nat × Nat) (I : Nat → Nat → Int32) (J : Nat → Nat → Int64) (Q : Option Value → sm_M → Prop) (x1 : Int32) (x2 : Int32) :
    sm_wp X 133 60 [some (.ref 52), some (.int x1), some (.int x2)] [] (sM mo G I J) Q =
    (vp_in x1 8 ∧ (True ∧ Q none (sM mo G (up2 I 55 x1.toNatClampNeg x2) J))) :=
  (sm_blk X 133 60 (tt_lin 133 (by decide)) rfl rfl _ _ _ _).trans rfl
set_option maxRecDepth 100000 in
theorem bkw_133_0 (X : (Nat → Int32) × Nat) (mo : Bool) (G : Nat × Nat) (I : Nat → Nat → Int32) (J : Nat → Nat → Int64) (Q : Option Value → sm_M → Prop) (x1 : Int32) (x2 : Int32) :
    sm_wp X 133 0 [some (.ref 60), some (.int x1), some (.int x2)] [] (sM mo G I J) Q =
    (if (x1 : Int32) < 0 then sm_wp X 133 10 [some (.ref 60), some (.int x1), some (.int x2)] [] (sM mo G I J) Q else (if (x1 : Int32) < (8 : Int32) then sm_wp X 133 11 [some (.ref 60), some (.int x1), some (.int x2)] [] (sM mo G I J) Q else (True ∧ Q none (sM mo G I J)))) :=
  (sm_blk X 133 0 (tt_lin 133 (by decide)) rfl rfl _ _ _ _).trans rfl
set_option maxRecDepth 100000 in
theorem bkw_133_10 (X : (Nat → Int32) × Nat) (mo : Bool) (G : Nat × Nat) (I : Nat → Nat → Int32) (J : Nat → Nat → Int64) (Q : Option Value → sm_M → Prop) (x1 : Int32) (x2 : Int32) :
    sm_wp X 133 10 [some (.ref 60), some (.int x1), some (.int x2)] [] (sM mo G I J) Q =
    (True ∧ Q none (sM mo G I J)) :=
  (sm_blk X 133 10 (tt_lin 133 (by decide)) rfl rfl _ _ _ _).trans rfl
set_option maxRecDepth 100000 in
theorem bkw_133_11 (X : (Nat → Int32) × Nat) (mo : Bool) (G : Nat × Nat) (I : Nat → Nat → Int32) (J : Nat → Nat → Int64) (Q : Option Value → sm_M → Prop) (x1 : Int32) (x2 : Int32) :
    sm_wp X 133 11 [some (.ref 60), some (.int x1), some (.int x2)] [] (sM mo G I J) Q =
    (vp_in x1 8 ∧ (vp_in x1 8 ∧ (vp_in x1 8 ∧ (sm_wp X 104 0 [some (.ref 1), some (.int (I 63 (x1.toNatClampNeg))), some (.int (I 61 (x1.toNatClampNeg)))] [] (sM mo G I J) (fun v M => sm_wp X 133 37 [some (.ref 60), some (.int x1), some (.int x2)] (v.toList ++ [.int (I 63 (x1.toNatClampNeg)), .ref 60]) M Q))))) :=
  (sm_blk X 133 11 (tt_lin 133 (by decide)) rfl rfl _ _ _ _).trans rfl
set_option maxRecDepth 100000 in
theorem bkw_133_37 (X : (Nat → Int32) × Nat) (mo : Bool) (G : Nat × Nat) (I : Nat → Nat → Int32) (J : Nat → Nat → Int64) (Q : Option Value → sm_M → Prop) (x1 : Int32) (x2 : Int32) (s1 : Int32) (s2 : Int32) :
    sm_wp X 133 37 [some (.ref 60), some (.int x1), some (.int x2)] [.int s2, .int s1, .ref 60] (sM mo G I J) Q =
    (sm_wp X 130 0 [some (.ref 60), some (.int s1), some (.int (-s2))] [] (sM mo G I J) (fun v M => sm_wp X 133 41 [some (.ref 60), some (.int x1), some (.int x2)] (v.toList ++ []) M Q)) :=
  (sm_blk X 133 37 (tt_lin 133 (by decide)) rfl rfl _ _ _ _).trans rfl
set_option maxRecDepth 100000 in
theorem bkw_133_41 (X : (Nat → Int32) × Nat) (mo : Bool) (G : Nat × Nat) (I : Nat → Nat → Int32) (J : Nat → Nat → Int64) (Q : Option Value → sm_M → Prop) (x1 : Int32) (x2 : Int32) :
    sm_wp X 133 41 [some (.ref 60), some (.int x1), some (.int x2)] [] (sM mo G I J) Q =
    (vp_in x1 8 ∧ (sm_wp X 104 0 [some (.ref 1), some (.int x2), some (.int (I 61 (x1.toNatClampNeg)))] [] (sM mo G I J) (fun v M => sm_wp X 133 57 [some (.ref 60), some (.int x1), some (.int x2)] (v.toList ++ [.int x2, .ref 60]) M Q))) :=
  (sm_blk X 133 41 (tt_lin 133 (by decide)) rfl rfl _ _ _ _).trans rfl
set_option maxRecDepth 100000 in
theorem bkw_133_57 (X : (Nat → Int32) × Nat) (mo : Bool) (G : Nat × Nat) (I : Nat → Nat → Int32) (J : Nat → Nat → Int64) (Q : Option Value → sm_M → Prop) (x1 : Int32) (x2 : Int32) (s1 : Int32) (s2 : Int32) :
    sm_wp X 133 57 [some (.ref 60), some (.int x1), some (.int x2)] [.int s2, .int s1, .ref 60] (sM mo G I J) Q =
    (sm_wp X 130 0 [some (.ref 60), some (.int s1), some (.int s2)] [] (sM mo G I J) (fun v M => sm_wp X 133 60 [some (.ref 60), some (.int x1), some (.int x2)] (v.toList ++ []) M Q)) :=
  (sm_blk X 133 57 (tt_lin 133 (by decide)) rfl rfl _ _ _ _).trans rfl
set_option maxRecDepth 100000 in
theorem bkw_133_60 (X : (Nat → Int32) × Nat) (mo : Bool) (G : Nat × Nat) (I : Nat → Nat → Int32) (J : Nat → Nat → Int64) (Q : Option Value → sm_M → Prop) (x1 : Int32) (x2 : Int32) :
    sm_wp X 133 60 [some (.ref 60), some (.int x1), some (.int x2)] [] (sM mo G I J) Q =
    (vp_in x1 8 ∧ (True ∧ Q none (sM mo G (up2 I 63 x1.toNatClampNeg x2) J))) :=
  (sm_blk X 133 60 (tt_lin 133 (by decide)) rfl rfl _ _ _ _).trans rfl
set_option maxRecDepth 100000 in
theorem bk_134_0 (X : (Nat → Int32) × Nat) (mo : Bool) (G : Nat × Nat) (I : Nat → Nat → Int32) (J : Nat → Nat → Int64) (Q : Option Value → sm_M → Prop)  :
    sm_wp X 134 0 [some (.ref 52)] [] (sM mo G I J) Q =
    (if ((up2 I 52 13 ((I 52 13) + 1)) 52 12 : Int32) = ((up2 I 52 13 ((I 52 13) + 1)) 52 2 : Int32) then sm_wp X 134 37 [some (.ref 52)] [] (sM mo G (up2 I 52 13 ((I 52 13) + 1)) (up2 J 52 16 ((J 52 16) ||| (1 <<< (((up2 I 52 13 ((I 52 13) + 1)) 52 12).toInt64 &&& 63))))) Q else (True ∧ Q none (sM mo G (up2 I 52 13 ((I 52 13) + 1)) (up2 J 52 16 ((J 52 16) ||| (1 <<< (((up2 I 52 13 ((I 52 13) + 1)) 52 12).toInt64 &&& 63))))))) :=
  (sm_blk X 134 0 (tt_lin 134 (by decide)) rfl rfl _ _ _ _).trans rfl
set_option maxRecDepth 100000 in
theorem bk_134_37 (X : (Nat → Int32) × Nat) (mo : Bool) (G : Nat × Nat) (I : Nat → Nat → Int32) (J : Nat → Nat → Int64) (Q : Option Value → sm_M → Prop)  :
    sm_wp X 134 37 [some (.ref 52)] [] (sM mo G I J) Q =
    (sm_wp X 135 0 [some (.ref 52), none, none, none] [] (sM mo G (up2 I 52 14 ((I 52 14) + 1)) J) (fun v M => sm_wp X 134 51 [some (.ref 52)] (v.toList ++ []) M Q)) :=
  (sm_blk X 134 37 (tt_lin 134 (by decide)) rfl rfl _ _ _ _).trans rfl
set_option maxRecDepth 100000 in
theorem bk_134_51 (X : (Nat → Int32) × Nat) (mo : Bool) (G : Nat × Nat) (I : Nat → Nat → Int32) (J : Nat → Nat → Int64) (Q : Option Value → sm_M → Prop) (s0 : Int32) :
    sm_wp X 134 51 [some (.ref 52)] [.int s0] (sM mo G I J) Q =
    (if (s0 : Int32) = 0 then sm_wp X 134 68 [some (.ref 52)] [] (sM mo G I J) Q else (sm_wp X 136 0 [some (.ref 52), none, none, none, none] [] (sM mo G (up2 I 52 15 ((I 52 15) + 1)) J) (fun v M => sm_wp X 134 68 [some (.ref 52)] (v.toList ++ []) M Q))) :=
  (sm_blk X 134 51 (tt_lin 134 (by decide)) rfl rfl _ _ _ _).trans rfl
set_option maxRecDepth 100000 in
theorem bk_134_68 (X : (Nat → Int32) × Nat) (mo : Bool) (G : Nat × Nat) (I : Nat → Nat → Int32) (J : Nat → Nat → Int64) (Q : Option Value → sm_M → Prop)  :
    sm_wp X 134 68 [some (.ref 52)] [] (sM mo G I J) Q =
    (True ∧ Q none (sM mo G I J)) :=
  (sm_blk X 134 68 (tt_lin 134 (by decide)) rfl rfl _ _ _ _).trans rfl
set_option maxRecDepth 100000 in
theorem bkw_134_0 (X : (Nat → Int32) × Nat) (mo : Bool) (G : Nat × Nat) (I : Nat → Nat → Int32) (J : Nat → Nat → Int64) (Q : Option Value → sm_M → Prop)  :
    sm_wp X 134 0 [some (.ref 60)] [] (sM mo G I J) Q =
    (if ((up2 I 60 13 ((I 60 13) + 1)) 60 12 : Int32) = ((up2 I 60 13 ((I 60 13) + 1)) 60 2 : Int32) then sm_wp X 134 37 [some (.ref 60)] [] (sM mo G (up2 I 60 13 ((I 60 13) + 1)) (up2 J 60 16 ((J 60 16) ||| (1 <<< (((up2 I 60 13 ((I 60 13) + 1)) 60 12).toInt64 &&& 63))))) Q else (True ∧ Q none (sM mo G (up2 I 60 13 ((I 60 13) + 1)) (up2 J 60 16 ((J 60 16) ||| (1 <<< (((up2 I 60 13 ((I 60 13) + 1)) 60 12).toInt64 &&& 63))))))) :=
  (sm_blk X 134 0 (tt_lin 134 (by decide)) rfl rfl _ _ _ _).trans rfl
set_option maxRecDepth 100000 in
theorem bkw_134_37 (X : (Nat → Int32) × Nat) (mo : Bool) (G : Nat × Nat) (I : Nat → Nat → Int32) (J : Nat → Nat → Int64) (Q : Option Value → sm_M → Prop)  :
    sm_wp X 134 37 [some (.ref 60)] [] (sM mo G I J) Q =
    (sm_wp X 135 0 [some (.ref 60), none, none, none] [] (sM mo G (up2 I 60 14 ((I 60 14) + 1)) J) (fun v M => sm_wp X 134 51 [some (.ref 60)] (v.toList ++ []) M Q)) :=
  (sm_blk X 134 37 (tt_lin 134 (by decide)) rfl rfl _ _ _ _).trans rfl
set_option maxRecDepth 100000 in
theorem bkw_134_51 (X : (Nat → Int32) × Nat) (mo : Bool) (G : Nat × Nat) (I : Nat → Nat → Int32) (J : Nat → Nat → Int64) (Q : Option Value → sm_M → Prop) (s0 : Int32) :
    sm_wp X 134 51 [some (.ref 60)] [.int s0] (sM mo G I J) Q =
    (if (s0 : Int32) = 0 then sm_wp X 134 68 [some (.ref 60)] [] (sM mo G I J) Q else (sm_wp X 136 0 [some (.ref 60), none, none, none, none] [] (sM mo G (up2 I 60 15 ((I 60 15) + 1)) J) (fun v M => sm_wp X 134 68 [some (.ref 60)] (v.toList ++ []) M Q))) :=
  (sm_blk X 134 51 (tt_lin 134 (by decide)) rfl rfl _ _ _ _).trans rfl
set_option maxRecDepth 100000 in
theorem bkw_134_68 (X : (Nat → Int32) × Nat) (mo : Bool) (G : Nat × Nat) (I : Nat → Nat → Int32) (J : Nat → Nat → Int64) (Q : Option Value → sm_M → Prop)  :
    sm_wp X 134 68 [some (.ref 60)] [] (sM mo G I J) Q =
    (True ∧ Q none (sM mo G I J)) :=
  (sm_blk X 134 68 (tt_lin 134 (by decide)) rfl rfl _ _ _ _).trans rfl
set_option maxRecDepth 100000 in
theorem bk_135_0 (X : (Nat → Int32) × Nat) (mo : Bool) (G : Nat × Nat) (I : Nat → Nat → Int32) (J : Nat → Nat → Int64) (Q : Option Value → sm_M → Prop)  :
    sm_wp X 135 0 [some (.ref 52), none, none, none] [] (sM mo G I J) Q =
    (sm_wp X 135 2 [some (.ref 52), some (.int 0), none, none] [] (sM mo G I J) Q) :=
  (sm_blk X 135 0 (tt_lin 135 (by decide)) rfl rfl _ _ _ _).trans rfl
set_option maxRecDepth 100000 in
theorem bk_135_2 (X : (Nat → Int32) × Nat) (mo : Bool) (G : Nat × Nat) (I : Nat → Nat → Int32) (J : Nat → Nat → Int64) (Q : Option Value → sm_M → Prop) (x1 : Int32) :
    sm_wp X 135 2 [some (.ref 52), some (.int x1), none, none] [] (sM mo G I J) Q =
    (if (6 : Int32) ≤ (x1 : Int32) then sm_wp X 135 42 [some (.ref 52), some (.int x1), none, none] [] (sM mo G I J) Q else (sm_wp X 169 0 [some (.int (I 52 2)), some (.int x1)] [] (sM mo G I J) (fun v M => sm_wp X 135 16 [some (.ref 52), some (.int x1), none, none] (v.toList ++ []) M Q))) :=
  (sm_blk X 135 2 (tt_lin 135 (by decide)) rfl rfl _ _ _ _).trans rfl
set_option maxRecDepth 100000 in
theorem bk_135_16 (X : (Nat → Int32) × Nat) (mo : Bool) (G : Nat × Nat) (I : Nat → Nat → Int32) (J : Nat → Nat → Int64) (Q : Option Value → sm_M → Prop) (x1 : Int32) (s0 : Int32) :
    sm_wp X 135 16 [some (.ref 52), some (.int x1), none, none] [.int s0] (sM mo G I J) Q =
    (if (s0 : Int32) = 0 then sm_wp X 135 36 [some (.ref 52), some (.int x1), none, none] [] (sM mo G I J) Q else (vp_in x1 6 ∧ (vp_in x1 6 ∧ (if (I 57 (x1.toNatClampNeg) : Int32) ≤ (I 56 (x1.toNatClampNeg) : Int32) then sm_wp X 135 36 [some (.ref 52), some (.int x1), none, none] [] (sM mo G I J) Q else (sm_zb 0 ∧ Q (some (.int 0)) (sM mo G I J)))))) :=
  (sm_blk X 135 16 (tt_lin 135 (by decide)) rfl rfl _ _ _ _).trans rfl
set_option maxRecDepth 100000 in
theorem bk_135_36 (X : (Nat → Int32) × Nat) (mo : Bool) (G : Nat × Nat) (I : Nat → Nat → Int32) (J : Nat → Nat → Int64) (Q : Option Value → sm_M → Prop) (x1 : Int32) :
    sm_wp X 135 36 [some (.ref 52), some (.int x1), none, none] [] (sM mo G I J) Q =
    (sm_wp X 135 2 [some (.ref 52), some (.int (x1 + 1)), none, none] [] (sM mo G I J) Q) :=
  (sm_blk X 135 36 (tt_lin 135 (by decide)) rfl rfl _ _ _ _).trans rfl
set_option maxRecDepth 100000 in
theorem bk_135_42 (X : (Nat → Int32) × Nat) (mo : Bool) (G : Nat × Nat) (I : Nat → Nat → Int32) (J : Nat → Nat → Int64) (Q : Option Value → sm_M → Prop) (x1 : Int32) :
    sm_wp X 135 42 [some (.ref 52), some (.int x1), none, none] [] (sM mo G I J) Q =
    (sm_wp X 145 0 [some (.ref 48), none, none, none] [] (sM mo G I J) (fun v M => sm_wp X 135 49 [some (.ref 52), some (.int x1), none, none] (v.toList ++ []) M Q)) :=
  (sm_blk X 135 42 (tt_lin 135 (by decide)) rfl rfl _ _ _ _).trans rfl
set_option maxRecDepth 100000 in
theorem bk_135_49 (X : (Nat → Int32) × Nat) (mo : Bool) (G : Nat × Nat) (I : Nat → Nat → Int32) (J : Nat → Nat → Int64) (Q : Option Value → sm_M → Prop) (x1 : Int32) (s0 : Int32) :
    sm_wp X 135 49 [some (.ref 52), some (.int x1), none, none] [.int s0] (sM mo G I J) Q =
    (sm_wp X 135 52 [some (.ref 52), some (.int s0), some (.int 1), none] [] (sM mo G I J) Q) :=
  (sm_blk X 135 49 (tt_lin 135 (by decide)) rfl rfl _ _ _ _).trans rfl
set_option maxRecDepth 100000 in
theorem bk_135_52 (X : (Nat → Int32) × Nat) (mo : Bool) (G : Nat × Nat) (I : Nat → Nat → Int32) (J : Nat → Nat → Int64) (Q : Option Value → sm_M → Prop) (x1 : Int32) (x2 : Int32) :
    sm_wp X 135 52 [some (.ref 52), some (.int x1), some (.int x2), none] [] (sM mo G I J) Q =
    (if (6 : Int32) ≤ (x2 : Int32) then sm_wp X 135 141 [some (.ref 52), some (.int x1), some (.int x2), none] [] (sM mo G I J) Q else (if (x1 : Int32) = 0 then sm_wp X 135 141 [some (.ref 52), some (.int x1), some (.int x2), none] [] (sM mo G I J) Q else (sm_wp X 135 64 [some (.ref 52), some (.int x1), some (.int x2), some (.int 0)] [] (sM mo G I J) Q))) :=
  (sm_blk X 135 52 (tt_lin 135 (by decide)) rfl rfl _ _ _ _).trans rfl
set_option maxRecDepth 100000 in
theorem bk_135_64 (X : (Nat → Int32) × Nat) (mo : Bool) (G : Nat × Nat) (I : Nat → Nat → Int32) (J : Nat → Nat → Int64) (Q : Option Value → sm_M → Prop) (x1 : Int32) (x2 : Int32) (x3 : Int32) :
    sm_wp X 135 64 [some (.ref 52), some (.int x1), some (.int x2), some (.int x3)] [] (sM mo G I J) Q =
    (if (x2 : Int32) ≤ (x3 : Int32) then sm_wp X 135 135 [some (.ref 52), some (.int x1), some (.int x2), some (.int x3)] [] (sM mo G I J) Q else (sm_wp X 147 0 [some (.int x3), some (.int x2)] [] (sM mo G I J) (fun v M => sm_wp X 135 75 [some (.ref 52), some (.int x1), some (.int x2), some (.int x3)] (v.toList ++ [.int x1]) M Q))) :=
  (sm_blk X 135 64 (tt_lin 135 (by decide)) rfl rfl _ _ _ _).trans rfl
set_option maxRecDepth 100000 in
theorem bk_135_75 (X : (Nat → Int32) × Nat) (mo : Bool) (G : Nat × Nat) (I : Nat → Nat → Int32) (J : Nat → Nat → Int64) (Q : Option Value → sm_M → Prop) (x1 : Int32) (x2 : Int32) (x3 : Int32) (s0 : Int32) (s1 : Int32) :
    sm_wp X 135 75 [some (.ref 52), some (.int x1), some (.int x2), some (.int x3)] [.int s1, .int s0] (sM mo G I J) Q =
    (sm_wp X 169 0 [some (.int s0), some (.int s1)] [] (sM mo G I J) (fun v M => sm_wp X 135 78 [some (.ref 52), some (.int x1), some (.int x2), some (.int x3)] (v.toList ++ []) M Q)) :=
  (sm_blk X 135 75 (tt_lin 135 (by decide)) rfl rfl _ _ _ _).trans rfl
set_option maxRecDepth 100000 in
theorem bk_135_78 (X : (Nat → Int32) × Nat) (mo : Bool) (G : Nat × Nat) (I : Nat → Nat → Int32) (J : Nat → Nat → Int64) (Q : Option Value → sm_M → Prop) (x1 : Int32) (x2 : Int32) (x3 : Int32) (s0 : Int32) :
    sm_wp X 135 78 [some (.ref 52), some (.int x1), some (.int x2), some (.int x3)] [.int s0] (sM mo G I J) Q =
    (if (s0 : Int32) = 0 then sm_wp X 135 129 [some (.ref 52), some (.int x1), some (.int x2), some (.int x3)] [] (sM mo G I J) Q else (sm_wp X 169 0 [some (.int (I 52 2)), some (.int x3)] [] (sM mo G I J) (fun v M => sm_wp X 135 89 [some (.ref 52), some (.int x1), some (.int x2), some (.int x3)] (v.toList ++ []) M Q))) :=
  (sm_blk X 135 78 (tt_lin 135 (by decide)) rfl rfl _ _ _ _).trans rfl
set_option maxRecDepth 100000 in
theorem bk_135_89 (X : (Nat → Int32) × Nat) (mo : Bool) (G : Nat × Nat) (I : Nat → Nat → Int32) (J : Nat → Nat → Int64) (Q : Option Value → sm_M → Prop) (x1 : Int32) (x2 : Int32) (x3 : Int32) (s0 : Int32) :
    sm_wp X 135 89 [some (.ref 52), some (.int x1), some (.int x2), some (.int x3)] [.int s0] (sM mo G I J) Q =
    (if (s0 : Int32) = 0 then sm_wp X 135 129 [some (.ref 52), some (.int x1), some (.int x2), some (.int x3)] [] (sM mo G I J) Q else (sm_wp X 169 0 [some (.int (I 52 2)), some (.int x2)] [] (sM mo G I J) (fun v M => sm_wp X 135 100 [some (.ref 52), some (.int x1), some (.int x2), some (.int x3)] (v.toList ++ []) M Q))) :=
  (sm_blk X 135 89 (tt_lin 135 (by decide)) rfl rfl _ _ _ _).trans rfl
set_option maxRecDepth 100000 in
theorem bk_135_100 (X : (Nat → Int32) × Nat) (mo : Bool) (G : Nat × Nat) (I : Nat → Nat → Int32) (J : Nat → Nat → Int64) (Q : Option Value → sm_M → Prop) (x1 : Int32) (x2 : Int32) (x3 : Int32) (s0 : Int32) :
    sm_wp X 135 100 [some (.ref 52), some (.int x1), some (.int x2), some (.int x3)] [.int s0] (sM mo G I J) Q =
    (if (s0 : Int32) = 0 then sm_wp X 135 129 [some (.ref 52), some (.int x1), some (.int x2), some (.int x3)] [] (sM mo G I J) Q else (vp_in x3 6 ∧ (vp_in x2 6 ∧ (sm_wp X 149 0 [some (.ref 48), some (.int x3), some (.int x2), some (.int (I 56 (x3.toNatClampNeg))), some (.int (I 56 (x2.toNatClampNeg))), none, none] [] (sM mo G I J) (fun v M => sm_wp X 135 124 [some (.ref 52), some (.int x1), some (.int x2), some (.int x3)] (v.toList ++ []) M Q))))) :=
  (sm_blk X 135 100 (tt_lin 135 (by decide)) rfl rfl _ _ _ _).trans rfl
set_option maxRecDepth 100000 in
theorem bk_135_124 (X : (Nat → Int32) × Nat) (mo : Bool) (G : Nat × Nat) (I : Nat → Nat → Int32) (J : Nat → Nat → Int64) (Q : Option Value → sm_M → Prop) (x1 : Int32) (x2 : Int32) (x3 : Int32) (s0 : Int32) :
    sm_wp X 135 124 [some (.ref 52), some (.int x1), some (.int x2), some (.int x3)] [.int s0] (sM mo G I J) Q =
    (if (s0 : Int32) = 0 then sm_wp X 135 129 [some (.ref 52), some (.int x1), some (.int x2), some (.int x3)] [] (sM mo G I J) Q else (sm_zb 0 ∧ Q (some (.int 0)) (sM mo G I J))) :=
  (sm_blk X 135 124 (tt_lin 135 (by decide)) rfl rfl _ _ _ _).trans rfl
set_option maxRecDepth 100000 in
theorem bk_135_129 (X : (Nat → Int32) × Nat) (mo : Bool) (G : Nat × Nat) (I : Nat → Nat → Int32) (J : Nat → Nat → Int64) (Q : Option Value → sm_M → Prop) (x1 : Int32) (x2 : Int32) (x3 : Int32) :
    sm_wp X 135 129 [some (.ref 52), some (.int x1), some (.int x2), some (.int x3)] [] (sM mo G I J) Q =
    (sm_wp X 135 64 [some (.ref 52), some (.int x1), some (.int x2), some (.int (x3 + 1))] [] (sM mo G I J) Q) :=
  (sm_blk X 135 129 (tt_lin 135 (by decide)) rfl rfl _ _ _ _).trans rfl
set_option maxRecDepth 100000 in
theorem bk_135_135 (X : (Nat → Int32) × Nat) (mo : Bool) (G : Nat × Nat) (I : Nat → Nat → Int32) (J : Nat → Nat → Int64) (Q : Option Value → sm_M → Prop) (x1 : Int32) (x2 : Int32) (x3 : Int32) :
    sm_wp X 135 135 [some (.ref 52), some (.int x1), some (.int x2), some (.int x3)] [] (sM mo G I J) Q =
    (sm_wp X 135 52 [some (.ref 52), some (.int x1), some (.int (x2 + 1)), none] [] (sM mo G I J) Q) :=
  (sm_blk X 135 135 (tt_lin 135 (by decide)) rfl rfl _ _ _ _).trans rfl
set_option maxRecDepth 100000 in
theorem bk_135_141 (X : (Nat → Int32) × Nat) (mo : Bool) (G : Nat × Nat) (I : Nat → Nat → Int32) (J : Nat → Nat → Int64) (Q : Option Value → sm_M → Prop) (x1 : Int32) (x2 : Int32) :
    sm_wp X 135 141 [some (.ref 52), some (.int x1), some (.int x2), none] [] (sM mo G I J) Q =
    (sm_zb 1 ∧ Q (some (.int 1)) (sM mo G I J)) :=
  (sm_blk X 135 141 (tt_lin 135 (by decide)) rfl rfl _ _ _ _).trans rfl
set_option maxRecDepth 100000 in
theorem bkw_135_0 (X : (Nat → Int32) × Nat) (mo : Bool) (G : Nat × Nat) (I : Nat → Nat → Int32) (J : Nat → Nat → Int64) (Q : Option Value → sm_M → Prop)  :
    sm_wp X 135 0 [some (.ref 60), none, none, none] [] (sM mo G I J) Q =
    (sm_wp X 135 2 [some (.ref 60), some (.int 0), none, none] [] (sM mo G I J) Q) :=
  (sm_blk X 135 0 (tt_lin 135 (by decide)) rfl rfl _ _ _ _).trans rfl
set_option maxRecDepth 100000 in
theorem bkw_135_2 (X : (Nat → Int32) × Nat) (mo : Bool) (G : Nat × Nat) (I : Nat → Nat → Int32) (J : Nat → Nat → Int64) (Q : Option Value → sm_M → Prop) (x1 : Int32) :
    sm_wp X 135 2 [some (.ref 60), some (.int x1), none, none] [] (sM mo G I J) Q =
    (if (6 : Int32) ≤ (x1 : Int32) then sm_wp X 135 42 [some (.ref 60), some (.int x1), none, none] [] (sM mo G I J) Q else (sm_wp X 169 0 [some (.int (I 60 2)), some (.int x1)] [] (sM mo G I J) (fun v M => sm_wp X 135 16 [some (.ref 60), some (.int x1), none, none] (v.toList ++ []) M Q))) :=
  (sm_blk X 135 2 (tt_lin 135 (by decide)) rfl rfl _ _ _ _).trans rfl
set_option maxRecDepth 100000 in
theorem bkw_135_16 (X : (Nat → Int32) × Nat) (mo : Bool) (G : Nat × Nat) (I : Nat → Nat → Int32) (J : Nat → Nat → Int64) (Q : Option Value → sm_M → Prop) (x1 : Int32) (s0 : Int32) :
    sm_wp X 135 16 [some (.ref 60), some (.int x1), none, none] [.int s0] (sM mo G I J) Q =
    (if (s0 : Int32) = 0 then sm_wp X 135 36 [some (.ref 60), some (.int x1), none, none] [] (sM mo G I J) Q else (vp_in x1 6 ∧ (vp_in x1 6 ∧ (if (I 65 (x1.toNatClampNeg) : Int32) ≤ (I 64 (x1.toNatClampNeg) : Int32) then sm_wp X 135 36 [some (.ref 60), some (.int x1), none, none] [] (sM mo G I J) Q else (sm_zb 0 ∧ Q (some (.int 0)) (sM mo G I J)))))) :=
  (sm_blk X 135 16 (tt_lin 135 (by decide)) rfl rfl _ _ _ _).trans rfl
set_option maxRecDepth 100000 in
theorem bkw_135_36 (X : (Nat → Int32) × Nat) (mo : Bool) (G : Nat × Nat) (I : Nat → Nat → Int32) (J : Nat → Nat → Int64) (Q : Option Value → sm_M → Prop) (x1 : Int32) :
    sm_wp X 135 36 [some (.ref 60), some (.int x1), none, none] [] (sM mo G I J) Q =
    (sm_wp X 135 2 [some (.ref 60), some (.int (x1 + 1)), none, none] [] (sM mo G I J) Q) :=
  (sm_blk X 135 36 (tt_lin 135 (by decide)) rfl rfl _ _ _ _).trans rfl
set_option maxRecDepth 100000 in
theorem bkw_135_42 (X : (Nat → Int32) × Nat) (mo : Bool) (G : Nat × Nat) (I : Nat → Nat → Int32) (J : Nat → Nat → Int64) (Q : Option Value → sm_M → Prop) (x1 : Int32) :
    sm_wp X 135 42 [some (.ref 60), some (.int x1), none, none] [] (sM mo G I J) Q =
    (sm_wp X 145 0 [some (.ref 48), none, none, none] [] (sM mo G I J) (fun v M => sm_wp X 135 49 [some (.ref 60), some (.int x1), none, none] (v.toList ++ []) M Q)) :=
  (sm_blk X 135 42 (tt_lin 135 (by decide)) rfl rfl _ _ _ _).trans rfl
set_option maxRecDepth 100000 in
theorem bkw_135_49 (X : (Nat → Int32) × Nat) (mo : Bool) (G : Nat × Nat) (I : Nat → Nat → Int32) (J : Nat → Nat → Int64) (Q : Option Value → sm_M → Prop) (x1 : Int32) (s0 : Int32) :
    sm_wp X 135 49 [some (.ref 60), some (.int x1), none, none] [.int s0] (sM mo G I J) Q =
    (sm_wp X 135 52 [some (.ref 60), some (.int s0), some (.int 1), none] [] (sM mo G I J) Q) :=
  (sm_blk X 135 49 (tt_lin 135 (by decide)) rfl rfl _ _ _ _).trans rfl
set_option maxRecDepth 100000 in
theorem bkw_135_52 (X : (Nat → Int32) × Nat) (mo : Bool) (G : Nat × Nat) (I : Nat → Nat → Int32) (J : Nat → Nat → Int64) (Q : Option Value → sm_M → Prop) (x1 : Int32) (x2 : Int32) :
    sm_wp X 135 52 [some (.ref 60), some (.int x1), some (.int x2), none] [] (sM mo G I J) Q =
    (if (6 : Int32) ≤ (x2 : Int32) then sm_wp X 135 141 [some (.ref 60), some (.int x1), some (.int x2), none] [] (sM mo G I J) Q else (if (x1 : Int32) = 0 then sm_wp X 135 141 [some (.ref 60), some (.int x1), some (.int x2), none] [] (sM mo G I J) Q else (sm_wp X 135 64 [some (.ref 60), some (.int x1), some (.int x2), some (.int 0)] [] (sM mo G I J) Q))) :=
  (sm_blk X 135 52 (tt_lin 135 (by decide)) rfl rfl _ _ _ _).trans rfl
set_option maxRecDepth 100000 in
theorem bkw_135_64 (X : (Nat → Int32) × Nat) (mo : Bool) (G : Nat × Nat) (I : Nat → Nat → Int32) (J : Nat → Nat → Int64) (Q : Option Value → sm_M → Prop) (x1 : Int32) (x2 : Int32) (x3 : Int32) :
    sm_wp X 135 64 [some (.ref 60), some (.int x1), some (.int x2), some (.int x3)] [] (sM mo G I J) Q =
    (if (x2 : Int32) ≤ (x3 : Int32) then sm_wp X 135 135 [some (.ref 60), some (.int x1), some (.int x2), some (.int x3)] [] (sM mo G I J) Q else (sm_wp X 147 0 [some (.int x3), some (.int x2)] [] (sM mo G I J) (fun v M => sm_wp X 135 75 [some (.ref 60), some (.int x1), some (.int x2), some (.int x3)] (v.toList ++ [.int x1]) M Q))) :=
  (sm_blk X 135 64 (tt_lin 135 (by decide)) rfl rfl _ _ _ _).trans rfl
set_option maxRecDepth 100000 in
theorem bkw_135_75 (X : (Nat → Int32) × Nat) (mo : Bool) (G : Nat × Nat) (I : Nat → Nat → Int32) (J : Nat → Nat → Int64) (Q : Option Value → sm_M → Prop) (x1 : Int32) (x2 : Int32) (x3 : Int32) (s0 : Int32) (s1 : Int32) :
    sm_wp X 135 75 [some (.ref 60), some (.int x1), some (.int x2), some (.int x3)] [.int s1, .int s0] (sM mo G I J) Q =
    (sm_wp X 169 0 [some (.int s0), some (.int s1)] [] (sM mo G I J) (fun v M => sm_wp X 135 78 [some (.ref 60), some (.int x1), some (.int x2), some (.int x3)] (v.toList ++ []) M Q)) :=
  (sm_blk X 135 75 (tt_lin 135 (by decide)) rfl rfl _ _ _ _).trans rfl
set_option maxRecDepth 100000 in
theorem bkw_135_78 (X : (Nat → Int32) × Nat) (mo : Bool) (G : Nat × Nat) (I : Nat → Nat → Int32) (J : Nat → Nat → Int64) (Q : Option Value → sm_M → Prop) (x1 : Int32) (x2 : Int32) (x3 : Int32) (s0 : Int32) :
    sm_wp X 135 78 [some (.ref 60), some (.int x1), some (.int x2), some (.int x3)] [.int s0] (sM mo G I J) Q =
    (if (s0 : Int32) = 0 then sm_wp X 135 129 [some (.ref 60), some (.int x1), some (.int x2), some (.int x3)] [] (sM mo G I J) Q else (sm_wp X 169 0 [some (.int (I 60 2)), some (.int x3)] [] (sM mo G I J) (fun v M => sm_wp X 135 89 [some (.ref 60), some (.int x1), some (.int x2), some (.int x3)] (v.toList ++ []) M Q))) :=
  (sm_blk X 135 78 (tt_lin 135 (by decide)) rfl rfl _ _ _ _).trans rfl
set_option maxRecDepth 100000 in
theorem bkw_135_89 (X : (Nat → Int32) × Nat) (mo : Bool) (G : Nat × Nat) (I : Nat → Nat → Int32) (J : Nat → Nat → Int64) (Q : Option Value → sm_M → Prop) (x1 : Int32) (x2 : Int32) (x3 : Int32) (s0 : Int32) :
    sm_wp X 135 89 [some (.ref 60), some (.int x1), some (.int x2), some (.int x3)] [.int s0] (sM mo G I J) Q =
    (if (s0 : Int32) = 0 then sm_wp X 135 129 [some (.ref 60), some (.int x1), some (.int x2), some (.int x3)] [] (sM mo G I J) Q else (sm_wp X 169 0 [some (.int (I 60 2)), some (.int x2)] [] (sM mo G I J) (fun v M => sm_wp X 135 100 [some (.ref 60), some (.int x1), some (.int x2), some (.int x3)] (v.toList ++ []) M Q))) :=
  (sm_blk X 135 89 (tt_lin 135 (by decide)) rfl rfl _ _ _ _).trans rfl
set_option maxRecDepth 100000 in
theorem bkw_135_100 (X : (Nat → Int32) × Nat) (mo : Bool) (G : Nat × Nat) (I : Nat → Nat → Int32) (J : Nat → Nat → Int64) (Q : Option Value → sm_M → Prop) (x1 : Int32) (x2 : Int32) (x3 : Int32) (s0 : Int32) :
    sm_wp X 135 100 [some (.ref 60), some (.int x1), some (.int x2), some (.int x3)] [.int s0] (sM mo G I J) Q =
    (if (s0 : Int32) = 0 then sm_wp X 135 129 [some (.ref 60), some (.int x1), some (.int x2), some (.int x3)] [] (sM mo G I J) Q else (vp_in x3 6 ∧ (vp_in x2 6 ∧ (sm_wp X 149 0 [some (.ref 48), some (.int x3), some (.int x2), some (.int (I 64 (x3.toNatClampNeg))), some (.int (I 64 (x2.toNatClampNeg))), none, none] [] (sM mo G I J) (fun v M => sm_wp X 135 124 [some (.ref 60), some (.int x1), some (.int x2), some (.int x3)] (v.toList ++ []) M Q))))) :=
  (sm_blk X 135 100 (tt_lin 135 (by decide)) rfl rfl _ _ _ _).trans rfl
set_option maxRecDepth 100000 in
theorem bkw_135_124 (X : (Nat → Int32) × Nat) (mo : Bool) (G : Nat × Nat) (I : Nat → Nat → Int32) (J : Nat → Nat → Int64) (Q : Option Value → sm_M → Prop) (x1 : Int32) (x2 : Int32) (x3 : Int32) (s0 : Int32) :
    sm_wp X 135 124 [some (.ref 60), some (.int x1), some (.int x2), some (.int x3)] [.int s0] (sM mo G I J) Q =
    (if (s0 : Int32) = 0 then sm_wp X 135 129 [some (.ref 60), some (.int x1), some (.int x2), some (.int x3)] [] (sM mo G I J) Q else (sm_zb 0 ∧ Q (some (.int 0)) (sM mo G I J))) :=
  (sm_blk X 135 124 (tt_lin 135 (by decide)) rfl rfl _ _ _ _).trans rfl
set_option maxRecDepth 100000 in
theorem bkw_135_129 (X : (Nat → Int32) × Nat) (mo : Bool) (G : Nat × Nat) (I : Nat → Nat → Int32) (J : Nat → Nat → Int64) (Q : Option Value → sm_M → Prop) (x1 : Int32) (x2 : Int32) (x3 : Int32) :
    sm_wp X 135 129 [some (.ref 60), some (.int x1), some (.int x2), some (.int x3)] [] (sM mo G I J) Q =
    (sm_wp X 135 64 [some (.ref 60), some (.int x1), some (.int x2), some (.int (x3 + 1))] [] (sM mo G I J) Q) :=
  (sm_blk X 135 129 (tt_lin 135 (by decide)) rfl rfl _ _ _ _).trans rfl
set_option maxRecDepth 100000 in
theorem bkw_135_135 (X : (Nat → Int32) × Nat) (mo : Bool) (G : Nat × Nat) (I : Nat → Nat → Int32) (J : Nat → Nat → Int64) (Q : Option Value → sm_M → Prop) (x1 : Int32) (x2 : Int32) (x3 : Int32) :
    sm_wp X 135 135 [some (.ref 60), some (.int x1), some (.int x2), some (.int x3)] [] (sM mo G I J) Q =
    (sm_wp X 135 52 [some (.ref 60), some (.int x1), some (.int (x2 + 1)), none] [] (sM mo G I J) Q) :=
  (sm_blk X 135 135 (tt_lin 135 (by decide)) rfl rfl _ _ _ _).trans rfl
set_option maxRecDepth 100000 in
theorem bkw_135_141 (X : (Nat → Int32) × Nat) (mo : Bool) (G : Nat × Nat) (I : Nat → Nat → Int32) (J : Nat → Nat → Int64) (Q : Option Value → sm_M → Prop) (x1 : Int32) (x2 : Int32) :
    sm_wp X 135 141 [some (.ref 60), some (.int x1), some (.int x2), none] [] (sM mo G I J) Q =
    (sm_zb 1 ∧ Q (some (.int 1)) (sM mo G I J)) :=
  (sm_blk X 135 141 (tt_lin 135 (by decide)) rfl rfl _ _ _ _).trans rfl
set_option maxRecDepth 100000 in
theorem bk_136_0 (X : (Nat → Int32) × Nat) (mo : Bool) (G : Nat × Nat) (I : Nat → Nat → Int32) (J : Nat → Nat → Int64) (Q : Option Value → sm_M → Prop)  :
    sm_wp X 136 0 [some (.ref 52), none, none, none, none] [] (sM mo G I J) Q =
    (sm_wp X 136 8 [some (.ref 52), some (.int 1188), some (.int 0), some (.int 0), none] [] (sM mo G I J) Q) :=
  (sm_blk X 136 0 (tt_lin 136 (by decide)) rfl rfl _ _ _ _).trans rfl
set_option maxRecDepth 100000 in
theorem bk_136_8 (X : (Nat → Int32) × Nat) (mo : Bool) (G : Nat × Nat) (I : Nat → Nat → Int32) (J : Nat → Nat → Int64) (Q : Option Value → sm_M → Prop) (x1 : Int32) (x2 : Int32) (x3 : Int32) :
    sm_wp X 136 8 [some (.ref 52), some (.int x1), some (.int x2), some (.int x3), none] [] (sM mo G I J) Q =
    (if (6 : Int32) ≤ (x3 : Int32) then sm_wp X 136 58 [some (.ref 52), some (.int x1), some (.int x2), some (.int x3), none] [] (sM mo G I J) Q else (sm_wp X 169 0 [some (.int (I 52 2)), some (.int x3)] [] (sM mo G I J) (fun v M => sm_wp X 136 22 [some (.ref 52), some (.int x1), some (.int x2), some (.int x3), none] (v.toList ++ []) M Q))) :=
  (sm_blk X 136 8 (tt_lin 136 (by decide)) rfl rfl _ _ _ _).trans rfl
set_option maxRecDepth 100000 in
theorem bk_136_22 (X : (Nat → Int32) × Nat) (mo : Bool) (G : Nat × Nat) (I : Nat → Nat → Int32) (J : Nat → Nat → Int64) (Q : Option Value → sm_M → Prop) (x1 : Int32) (x2 : Int32) (x3 : Int32) (s0 : Int32) :
    sm_wp X 136 22 [some (.ref 52), some (.int x1), some (.int x2), some (.int x3), none] [.int s0] (sM mo G I J) Q =
    (if (s0 : Int32) = 0 then sm_wp X 136 52 [some (.ref 52), some (.int x1), some (.int x2), some (.int x3), none] [] (sM mo G I J) Q else (vp_in x3 6 ∧ (vp_in x3 6 ∧ (True ∧ (vp_in x3 6 ∧ (sm_wp X 136 8 [some (.ref 52), some (.int (if ((I 56 (x3.toNatClampNeg)) - (I 58 (x3.toNatClampNeg)) : Int32) < x1 then (I 56 (x3.toNatClampNeg)) - (I 58 (x3.toNatClampNeg)) else x1)), some (.int (x2 + (I 56 (x3.toNatClampNeg)))), some (.int (x3 + 1)), none] [] (sM mo G I J) Q)))))) :=
  (sm_blk X 136 22 (tt_lin 136 (by decide)) rfl rfl _ _ _ _).trans rfl
set_option maxRecDepth 100000 in
theorem bk_136_52 (X : (Nat → Int32) × Nat) (mo : Bool) (G : Nat × Nat) (I : Nat → Nat → Int32) (J : Nat → Nat → Int64) (Q : Option Value → sm_M → Prop) (x1 : Int32) (x2 : Int32) (x3 : Int32) :
    sm_wp X 136 52 [some (.ref 52), some (.int x1), some (.int x2), some (.int x3), none] [] (sM mo G I J) Q =
    (sm_wp X 136 8 [some (.ref 52), some (.int x1), some (.int x2), some (.int (x3 + 1)), none] [] (sM mo G I J) Q) :=
  (sm_blk X 136 52 (tt_lin 136 (by decide)) rfl rfl _ _ _ _).trans rfl
set_option maxRecDepth 100000 in
theorem bk_136_58 (X : (Nat → Int32) × Nat) (mo : Bool) (G : Nat × Nat) (I : Nat → Nat → Int32) (J : Nat → Nat → Int64) (Q : Option Value → sm_M → Prop) (x1 : Int32) (x2 : Int32) (x3 : Int32) :
    sm_wp X 136 58 [some (.ref 52), some (.int x1), some (.int x2), some (.int x3), none] [] (sM mo G I J) Q =
    (if (I 52 17 : Int32) < (x1 : Int32) then sm_wp X 136 82 [some (.ref 52), some (.int x1), some (.int x2), some (.int x3), none] [] (sM mo G I J) Q else (if ¬ (x1 : Int32) = (I 52 17 : Int32) then sm_wp X 136 86 [some (.ref 52), some (.int x1), some (.int x2), some (.int x3), none] [] (sM mo G I J) Q else (if (x2 : Int32) ≤ (I 52 18 : Int32) then sm_wp X 136 86 [some (.ref 52), some (.int x1), some (.int x2), some (.int x3), none] [] (sM mo G I J) Q else (sm_wp X 136 87 [some (.ref 52), some (.int x1), some (.int x2), some (.int x3), none] [.int 1] (sM mo G I J) Q)))) :=
  (sm_blk X 136 58 (tt_lin 136 (by decide)) rfl rfl _ _ _ _).trans rfl
set_option maxRecDepth 100000 in
theorem bk_136_82 (X : (Nat → Int32) × Nat) (mo : Bool) (G : Nat × Nat) (I : Nat → Nat → Int32) (J : Nat → Nat → Int64) (Q : Option Value → sm_M → Prop) (x1 : Int32) (x2 : Int32) (x3 : Int32) :
    sm_wp X 136 82 [some (.ref 52), some (.int x1), some (.int x2), some (.int x3), none] [] (sM mo G I J) Q =
    (sm_wp X 136 87 [some (.ref 52), some (.int x1), some (.int x2), some (.int x3), none] [.int 1] (sM mo G I J) Q) :=
  (sm_blk X 136 82 (tt_lin 136 (by decide)) rfl rfl _ _ _ _).trans rfl
set_option maxRecDepth 100000 in
theorem bk_136_86 (X : (Nat → Int32) × Nat) (mo : Bool) (G : Nat × Nat) (I : Nat → Nat → Int32) (J : Nat → Nat → Int64) (Q : Option Value → sm_M → Prop) (x1 : Int32) (x2 : Int32) (x3 : Int32) :
    sm_wp X 136 86 [some (.ref 52), some (.int x1), some (.int x2), some (.int x3), none] [] (sM mo G I J) Q =
    (if (I 52 2 : Int32) = 0 then sm_wp X 136 99 [some (.ref 52), some (.int x1), some (.int x2), some (.int 0), none] [] (sM mo G I J) Q else (if ¬ (0 : Int32) = 0 then sm_wp X 136 100 [some (.ref 52), some (.int x1), some (.int x2), some (.int 0), none] [] (sM mo G I J) Q else (True ∧ Q none (sM mo G I J)))) :=
  (sm_blk X 136 86 (tt_lin 136 (by decide)) rfl rfl _ _ _ _).trans rfl
set_option maxRecDepth 100000 in
theorem bk_136_87 (X : (Nat → Int32) × Nat) (mo : Bool) (G : Nat × Nat) (I : Nat → Nat → Int32) (J : Nat → Nat → Int64) (Q : Option Value → sm_M → Prop) (x1 : Int32) (x2 : Int32) (x3 : Int32) (s0 : Int32) :
    sm_wp X 136 87 [some (.ref 52), some (.int x1), some (.int x2), some (.int x3), none] [.int s0] (sM mo G I J) Q =
    (if (I 52 2 : Int32) = 0 then sm_wp X 136 99 [some (.ref 52), some (.int x1), some (.int x2), some (.int s0), none] [] (sM mo G I J) Q else (if ¬ (s0 : Int32) = 0 then sm_wp X 136 100 [some (.ref 52), some (.int x1), some (.int x2), some (.int s0), none] [] (sM mo G I J) Q else (True ∧ Q none (sM mo G I J)))) :=
  (sm_blk X 136 87 (tt_lin 136 (by decide)) rfl rfl _ _ _ _).trans rfl
set_option maxRecDepth 100000 in
theorem bk_136_99 (X : (Nat → Int32) × Nat) (mo : Bool) (G : Nat × Nat) (I : Nat → Nat → Int32) (J : Nat → Nat → Int64) (Q : Option Value → sm_M → Prop) (x1 : Int32) (x2 : Int32) (x3 : Int32) :
    sm_wp X 136 99 [some (.ref 52), some (.int x1), some (.int x2), some (.int x3), none] [] (sM mo G I J) Q =
    (True ∧ Q none (sM mo G I J)) :=
  (sm_blk X 136 99 (tt_lin 136 (by decide)) rfl rfl _ _ _ _).trans rfl
set_option maxRecDepth 100000 in
theorem bk_136_100 (X : (Nat → Int32) × Nat) (mo : Bool) (G : Nat × Nat) (I : Nat → Nat → Int32) (J : Nat → Nat → Int64) (Q : Option Value → sm_M → Prop) (x1 : Int32) (x2 : Int32) (x3 : Int32) :
    sm_wp X 136 100 [some (.ref 52), some (.int x1), some (.int x2), some (.int x3), none] [] (sM mo G I J) Q =
    (sm_wp X 136 113 [some (.ref 52), none, none, none, some (.int 0)] [] (sM mo G (up2 (up2 I 52 17 x1) 52 18 x2) J) Q) :=
  (sm_blk X 136 100 (tt_lin 136 (by decide)) rfl rfl _ _ _ _).trans rfl
set_option maxRecDepth 100000 in
theorem bk_136_113 (X : (Nat → Int32) × Nat) (mo : Bool) (G : Nat × Nat) (I : Nat → Nat → Int32) (J : Nat → Nat → Int64) (Q : Option Value → sm_M → Prop) (x4 : Int32) :
    sm_wp X 136 113 [some (.ref 52), none, none, none, some (.int x4)] [] (sM mo G I J) Q =
    (if (8 : Int32) ≤ (x4 : Int32) then sm_wp X 136 140 [some (.ref 52), none, none, none, some (.int x4)] [] (sM mo G I J) Q else (vp_in x4 8 ∧ (vp_in x4 8 ∧ (sm_wp X 136 113 [some (.ref 52), none, none, none, some (.int (x4 + 1))] [] (sM mo G (up2 I 59 x4.toNatClampNeg (I 55 (x4.toNatClampNeg))) J) Q)))) :=
  (sm_blk X 136 113 (tt_lin 136 (by decide)) rfl rfl _ _ _ _).trans rfl
set_option maxRecDepth 100000 in
theorem bk_136_140 (X : (Nat → Int32) × Nat) (mo : Bool) (G : Nat × Nat) (I : Nat → Nat → Int32) (J : Nat → Nat → Int64) (Q : Option Value → sm_M → Prop) (x4 : Int32) :
    sm_wp X 136 140 [some (.ref 52), none, none, none, some (.int x4)] [] (sM mo G I J) Q =
    (True ∧ Q none (sM mo G I J)) :=
  (sm_blk X 136 140 (tt_lin 136 (by decide)) rfl rfl _ _ _ _).trans rfl
set_option maxRecDepth 100000 in
theorem bkw_136_0 (X : (Nat → Int32) × Nat) (mo : Bool) (G : Nat × Nat) (I : Nat → Nat → Int32) (J : Nat → Nat → Int64) (Q : Option Value → sm_M → Prop)  :
    sm_wp X 136 0 [some (.ref 60), none, none, none, none] [] (sM mo G I J) Q =
    (sm_wp X 136 8 [some (.ref 60), some (.int 1188), some (.int 0), some (.int 0), none] [] (sM mo G I J) Q) :=
  (sm_blk X 136 0 (tt_lin 136 (by decide)) rfl rfl _ _ _ _).trans rfl
set_option maxRecDepth 100000 in
theorem bkw_136_8 (X : (Nat → Int32) × Nat) (mo : Bool) (G : Nat × Nat) (I : Nat → Nat → Int32) (J : Nat → Nat → Int64) (Q : Option Value → sm_M → Prop) (x1 : Int32) (x2 : Int32) (x3 : Int32) :
    sm_wp X 136 8 [some (.ref 60), some (.int x1), some (.int x2), some (.int x3), none] [] (sM mo G I J) Q =
    (if (6 : Int32) ≤ (x3 : Int32) then sm_wp X 136 58 [some (.ref 60), some (.int x1), some (.int x2), some (.int x3), none] [] (sM mo G I J) Q else (sm_wp X 169 0 [some (.int (I 60 2)), some (.int x3)] [] (sM mo G I J) (fun v M => sm_wp X 136 22 [some (.ref 60), some (.int x1), some (.int x2), some (.int x3), none] (v.toList ++ []) M Q))) :=
  (sm_blk X 136 8 (tt_lin 136 (by decide)) rfl rfl _ _ _ _).trans rfl
set_option maxRecDepth 100000 in
theorem bkw_136_22 (X : (Nat → Int32) × Nat) (mo : Bool) (G : Nat × Nat) (I : Nat → Nat → Int32) (J : Nat → Nat → Int64) (Q : Option Value → sm_M → Prop) (x1 : Int32) (x2 : Int32) (x3 : Int32) (s0 : Int32) :
    sm_wp X 136 22 [some (.ref 60), some (.int x1), some (.int x2), some (.int x3), none] [.int s0] (sM mo G I J) Q =
    (if (s0 : Int32) = 0 then sm_wp X 136 52 [some (.ref 60), some (.int x1), some (.int x2), some (.int x3), none] [] (sM mo G I J) Q else (vp_in x3 6 ∧ (vp_in x3 6 ∧ (True ∧ (vp_in x3 6 ∧ (sm_wp X 136 8 [some (.ref 60), some (.int (if ((I 64 (x3.toNatClampNeg)) - (I 66 (x3.toNatClampNeg)) : Int32) < x1 then (I 64 (x3.toNatClampNeg)) - (I 66 (x3.toNatClampNeg)) else x1)), some (.int (x2 + (I 64 (x3.toNatClampNeg)))), some (.int (x3 + 1)), none] [] (sM mo G I J) Q)))))) :=
  (sm_blk X 136 22 (tt_lin 136 (by decide)) rfl rfl _ _ _ _).trans rfl
set_option maxRecDepth 100000 in
theorem bkw_136_52 (X : (Nat → Int32) × Nat) (mo : Bool) (G : Nat × Nat) (I : Nat → Nat → Int32) (J : Nat → Nat → Int64) (Q : Option Value → sm_M → Prop) (x1 : Int32) (x2 : Int32) (x3 : Int32) :
    sm_wp X 136 52 [some (.ref 60), some (.int x1), some (.int x2), some (.int x3), none] [] (sM mo G I J) Q =
    (sm_wp X 136 8 [some (.ref 60), some (.int x1), some (.int x2), some (.int (x3 + 1)), none] [] (sM mo G I J) Q) :=
  (sm_blk X 136 52 (tt_lin 136 (by decide)) rfl rfl _ _ _ _).trans rfl
set_option maxRecDepth 100000 in
theorem bkw_136_58 (X : (Nat → Int32) × Nat) (mo : Bool) (G : Nat × Nat) (I : Nat → Nat → Int32) (J : Nat → Nat → Int64) (Q : Option Value → sm_M → Prop) (x1 : Int32) (x2 : Int32) (x3 : Int32) :
    sm_wp X 136 58 [some (.ref 60), some (.int x1), some (.int x2), some (.int x3), none] [] (sM mo G I J) Q =
    (if (I 60 17 : Int32) < (x1 : Int32) then sm_wp X 136 82 [some (.ref 60), some (.int x1), some (.int x2), some (.int x3), none] [] (sM mo G I J) Q else (if ¬ (x1 : Int32) = (I 60 17 : Int32) then sm_wp X 136 86 [some (.ref 60), some (.int x1), some (.int x2), some (.int x3), none] [] (sM mo G I J) Q else (if (x2 : Int32) ≤ (I 60 18 : Int32) then sm_wp X 136 86 [some (.ref 60), some (.int x1), some (.int x2), some (.int x3), none] [] (sM mo G I J) Q else (sm_wp X 136 87 [some (.ref 60), some (.int x1), some (.int x2), some (.int x3), none] [.int 1] (sM mo G I J) Q)))) :=
  (sm_blk X 136 58 (tt_lin 136 (by decide)) rfl rfl _ _ _ _).trans rfl
set_option maxRecDepth 100000 in
theorem bkw_136_82 (X : (Nat → Int32) × Nat) (mo : Bool) (G : Nat × Nat) (I : Nat → Nat → Int32) (J : Nat → Nat → Int64) (Q : Option Value → sm_M → Prop) (x1 : Int32) (x2 : Int32) (x3 : Int32) :
    sm_wp X 136 82 [some (.ref 60), some (.int x1), some (.int x2), some (.int x3), none] [] (sM mo G I J) Q =
    (sm_wp X 136 87 [some (.ref 60), some (.int x1), some (.int x2), some (.int x3), none] [.int 1] (sM mo G I J) Q) :=
  (sm_blk X 136 82 (tt_lin 136 (by decide)) rfl rfl _ _ _ _).trans rfl
set_option maxRecDepth 100000 in
theorem bkw_136_86 (X : (Nat → Int32) × Nat) (mo : Bool) (G : Nat × Nat) (I : Nat → Nat → Int32) (J : Nat → Nat → Int64) (Q : Option Value → sm_M → Prop) (x1 : Int32) (x2 : Int32) (x3 : Int32) :
    sm_wp X 136 86 [some (.ref 60), some (.int x1), some (.int x2), some (.int x3), none] [] (sM mo G I J) Q =
    (if (I 60 2 : Int32) = 0 then sm_wp X 136 99 [some (.ref 60), some (.int x1), some (.int x2), some (.int 0), none] [] (sM mo G I J) Q else (if ¬ (0 : Int32) = 0 then sm_wp X 136 100 [some (.ref 60), some (.int x1), some (.int x2), some (.int 0), none] [] (sM mo G I J) Q else (True ∧ Q none (sM mo G I J)))) :=
  (sm_blk X 136 86 (tt_lin 136 (by decide)) rfl rfl _ _ _ _).trans rfl
set_option maxRecDepth 100000 in
theorem bkw_136_87 (X : (Nat → Int32) × Nat) (mo : Bool) (G : Nat × Nat) (I : Nat → Nat → Int32) (J : Nat → Nat → Int64) (Q : Option Value → sm_M → Prop) (x1 : Int32) (x2 : Int32) (x3 : Int32) (s0 : Int32) :
    sm_wp X 136 87 [some (.ref 60), some (.int x1), some (.int x2), some (.int x3), none] [.int s0] (sM mo G I J) Q =
    (if (I 60 2 : Int32) = 0 then sm_wp X 136 99 [some (.ref 60), some (.int x1), some (.int x2), some (.int s0), none] [] (sM mo G I J) Q else (if ¬ (s0 : Int32) = 0 then sm_wp X 136 100 [some (.ref 60), some (.int x1), some (.int x2), some (.int s0), none] [] (sM mo G I J) Q else (True ∧ Q none (sM mo G I J)))) :=
  (sm_blk X 136 87 (tt_lin 136 (by decide)) rfl rfl _ _ _ _).trans rfl
set_option maxRecDepth 100000 in
theorem bkw_136_99 (X : (Nat → Int32) × Nat) (mo : Bool) (G : Nat × Nat) (I : Nat → Nat → Int32) (J : Nat → Nat → Int64) (Q : Option Value → sm_M → Prop) (x1 : Int32) (x2 : Int32) (x3 : Int32) :
    sm_wp X 136 99 [some (.ref 60), some (.int x1), some (.int x2), some (.int x3), none] [] (sM mo G I J) Q =
    (True ∧ Q none (sM mo G I J)) :=
  (sm_blk X 136 99 (tt_lin 136 (by decide)) rfl rfl _ _ _ _).trans rfl
set_option maxRecDepth 100000 in
theorem bkw_136_100 (X : (Nat → Int32) × Nat) (mo : Bool) (G : Nat × Nat) (I : Nat → Nat → Int32) (J : Nat → Nat → Int64) (Q : Option Value → sm_M → Prop) (x1 : Int32) (x2 : Int32) (x3 : Int32) :
    sm_wp X 136 100 [some (.ref 60), some (.int x1), some (.int x2), some (.int x3), none] [] (sM mo G I J) Q =
    (sm_wp X 136 113 [some (.ref 60), none, none, none, some (.int 0)] [] (sM mo G (up2 (up2 I 60 17 x1) 60 18 x2) J) Q) :=
  (sm_blk X 136 100 (tt_lin 136 (by decide)) rfl rfl _ _ _ _).trans rfl
set_option maxRecDepth 100000 in
theorem bkw_136_113 (X : (Nat → Int32) × Nat) (mo : Bool) (G : Nat × Nat) (I : Nat → Nat → Int32) (J : Nat → Nat → Int64) (Q : Option Value → sm_M → Prop) (x4 : Int32) :
    sm_wp X 136 113 [some (.ref 60), none, none, none, some (.int x4)] [] (sM mo G I J) Q =
    (if (8 : Int32) ≤ (x4 : Int32) then sm_wp X 136 140 [some (.ref 60), none, none, none, some (.int x4)] [] (sM mo G I J) Q else (vp_in x4 8 ∧ (vp_in x4 8 ∧ (sm_wp X 136 113 [some (.ref 60), none, none, none, some (.int (x4 + 1))] [] (sM mo G (up2 I 67 x4.toNatClampNeg (I 63 (x4.toNatClampNeg))) J) Q)))) :=
  (sm_blk X 136 113 (tt_lin 136 (by decide)) rfl rfl _ _ _ _).trans rfl
set_option maxRecDepth 100000 in
theorem bkw_136_140 (X : (Nat → Int32) × Nat) (mo : Bool) (G : Nat × Nat) (I : Nat → Nat → Int32) (J : Nat → Nat → Int64) (Q : Option Value → sm_M → Prop) (x4 : Int32) :
    sm_wp X 136 140 [some (.ref 60), none, none, none, some (.int x4)] [] (sM mo G I J) Q =
    (True ∧ Q none (sM mo G I J)) :=
  (sm_blk X 136 140 (tt_lin 136 (by decide)) rfl rfl _ _ _ _).trans rfl
set_option maxRecDepth 100000 in
theorem bk_137_0 (X : (Nat → Int32) × Nat) (mo : Bool) (G : Nat × Nat) (I : Nat → Nat → Int32) (J : Nat → Nat → Int64) (Q : Option Value → sm_M → Prop)  :
    sm_wp X 137 0 [some (.ref 52), none, none] [] (sM mo G I J) Q =
    (True ∧ (sm_wp X 137 12 [some (.ref 52), some (.int ((if (8 : Int32) < I 52 5 then 8 else I 52 5) - 1)), none] [] (sM mo G I J) Q)) :=
  (sm_blk X 137 0 (tt_lin 137 (by decide)) rfl rfl _ _ _ _).trans rfl
set_option maxRecDepth 100000 in
theorem bk_137_12 (X : (Nat → Int32) × Nat) (mo : Bool) (G : Nat × Nat) (I : Nat → Nat → Int32) (J : Nat → Nat → Int64) (Q : Option Value → sm_M → Prop) (x1 : Int32) :
    sm_wp X 137 12 [some (.ref 52), some (.int x1), none] [] (sM mo G I J) Q =
    (if (x1 : Int32) < 0 then sm_wp X 137 58 [some (.ref 52), some (.int x1), none] [] (sM mo G I J) Q else (vp_in x1 8 ∧ (sm_wp X 132 0 [some (.ref 52), some (.int x1), some (.int (I 55 (x1.toNatClampNeg))), none] [] (sM mo G I J) (fun v M => sm_wp X 137 27 [some (.ref 52), some (.int x1), none] (v.toList ++ []) M Q)))) :=
  (sm_blk X 137 12 (tt_lin 137 (by decide)) rfl rfl _ _ _ _).trans rfl
set_option maxRecDepth 100000 in
theorem bk_137_27 (X : (Nat → Int32) × Nat) (mo : Bool) (G : Nat × Nat) (I : Nat → Nat → Int32) (J : Nat → Nat → Int64) (Q : Option Value → sm_M → Prop) (x1 : Int32) (s0 : Int32) :
    sm_wp X 137 27 [some (.ref 52), some (.int x1), none] [.int s0] (sM mo G I J) Q =
    (if (s0 : Int32) = ((-1) : Int32) then sm_wp X 137 41 [some (.ref 52), some (.int x1), some (.int s0)] [] (sM mo G I J) Q else (sm_wp X 133 0 [some (.ref 52), some (.int x1), some (.int s0)] [] (sM mo G I J) (fun v M => sm_wp X 137 39 [some (.ref 52), some (.int x1), some (.int s0)] (v.toList ++ []) M Q))) :=
  (sm_blk X 137 27 (tt_lin 137 (by decide)) rfl rfl _ _ _ _).trans rfl
set_option maxRecDepth 100000 in
theorem bk_137_39 (X : (Nat → Int32) × Nat) (mo : Bool) (G : Nat × Nat) (I : Nat → Nat → Int32) (J : Nat → Nat → Int64) (Q : Option Value → sm_M → Prop) (x1 : Int32) (x2 : Int32) :
    sm_wp X 137 39 [some (.ref 52), some (.int x1), some (.int x2)] [] (sM mo G I J) Q =
    (sm_zb 1 ∧ Q (some (.int 1)) (sM mo G I J)) :=
  (sm_blk X 137 39 (tt_lin 137 (by decide)) rfl rfl _ _ _ _).trans rfl
set_option maxRecDepth 100000 in
theorem bk_137_41 (X : (Nat → Int32) × Nat) (mo : Bool) (G : Nat × Nat) (I : Nat → Nat → Int32) (J : Nat → Nat → Int64) (Q : Option Value → sm_M → Prop) (x1 : Int32) (x2 : Int32) :
    sm_wp X 137 41 [some (.ref 52), some (.int x1), some (.int x2)] [] (sM mo G I J) Q =
    (sm_wp X 132 0 [some (.ref 52), some (.int x1), some (.int (-1)), none] [] (sM mo G I J) (fun v M => sm_wp X 137 49 [some (.ref 52), some (.int x1), some (.int x2)] (v.toList ++ [.int x1, .ref 52]) M Q)) :=
  (sm_blk X 137 41 (tt_lin 137 (by decide)) rfl rfl _ _ _ _).trans rfl
set_option maxRecDepth 100000 in
theorem bk_137_49 (X : (Nat → Int32) × Nat) (mo : Bool) (G : Nat × Nat) (I : Nat → Nat → Int32) (J : Nat → Nat → Int64) (Q : Option Value → sm_M → Prop) (x1 : Int32) (x2 : Int32) (s1 : Int32) (s2 : Int32) :
    sm_wp X 137 49 [some (.ref 52), some (.int x1), some (.int x2)] [.int s2, .int s1, .ref 52] (sM mo G I J) Q =
    (sm_wp X 133 0 [some (.ref 52), some (.int s1), some (.int s2)] [] (sM mo G I J) (fun v M => sm_wp X 137 52 [some (.ref 52), some (.int x1), some (.int x2)] (v.toList ++ []) M Q)) :=
  (sm_blk X 137 49 (tt_lin 137 (by decide)) rfl rfl _ _ _ _).trans rfl
set_option maxRecDepth 100000 in
theorem bk_137_52 (X : (Nat → Int32) × Nat) (mo : Bool) (G : Nat × Nat) (I : Nat → Nat → Int32) (J : Nat → Nat → Int64) (Q : Option Value → sm_M → Prop) (x1 : Int32) (x2 : Int32) :
    sm_wp X 137 52 [some (.ref 52), some (.int x1), some (.int x2)] [] (sM mo G I J) Q =
    (sm_wp X 137 12 [some (.ref 52), some (.int (x1 + (-1))), none] [] (sM mo G I J) Q) :=
  (sm_blk X 137 52 (tt_lin 137 (by decide)) rfl rfl _ _ _ _).trans rfl
set_option maxRecDepth 100000 in
theorem bk_137_58 (X : (Nat → Int32) × Nat) (mo : Bool) (G : Nat × Nat) (I : Nat → Nat → Int32) (J : Nat → Nat → Int64) (Q : Option Value → sm_M → Prop) (x1 : Int32) :
    sm_wp X 137 58 [some (.ref 52), some (.int x1), none] [] (sM mo G I J) Q =
    (sm_zb 0 ∧ Q (some (.int 0)) (sM mo G I J)) :=
  (sm_blk X 137 58 (tt_lin 137 (by decide)) rfl rfl _ _ _ _).trans rfl
set_option maxRecDepth 100000 in
theorem bkw_137_0 (X : (Nat → Int32) × Nat) (mo : Bool) (G : Nat × Nat) (I : Nat → Nat → Int32) (J : Nat → Nat → Int64) (Q : Option Value → sm_M → Prop)  :
    sm_wp X 137 0 [some (.ref 60), none, none] [] (sM mo G I J) Q =
    (True ∧ (sm_wp X 137 12 [some (.ref 60), some (.int ((if (8 : Int32) < I 60 5 then 8 else I 60 5) - 1)), none] [] (sM mo G I J) Q)) :=
  (sm_blk X 137 0 (tt_lin 137 (by decide)) rfl rfl _ _ _ _).trans rfl
set_option maxRecDepth 100000 in
theorem bkw_137_12 (X : (Nat → Int32) × Nat) (mo : Bool) (G : Nat × Nat) (I : Nat → Nat → Int32) (J : Nat → Nat → Int64) (Q : Option Value → sm_M → Prop) (x1 : Int32) :
    sm_wp X 137 12 [some (.ref 60), some (.int x1), none] [] (sM mo G I J) Q =
    (if (x1 : Int32) < 0 then sm_wp X 137 58 [some (.ref 60), some (.int x1), none] [] (sM mo G I J) Q else (vp_in x1 8 ∧ (sm_wp X 132 0 [some (.ref 60), some (.int x1), some (.int (I 63 (x1.toNatClampNeg))), none] [] (sM mo G I J) (fun v M => sm_wp X 137 27 [some (.ref 60), some (.int x1), none] (v.toList ++ []) M Q)))) :=
  (sm_blk X 137 12 (tt_lin 137 (by decide)) rfl rfl _ _ _ _).trans rfl
set_option maxRecDepth 100000 in
theorem bkw_137_27 (X : (Nat → Int32) × Nat) (mo : Bool) (G : Nat × Nat) (I : Nat → Nat → Int32) (J : Nat → Nat → Int64) (Q : Option Value → sm_M → Prop) (x1 : Int32) (s0 : Int32) :
    sm_wp X 137 27 [some (.ref 60), some (.int x1), none] [.int s0] (sM mo G I J) Q =
    (if (s0 : Int32) = ((-1) : Int32) then sm_wp X 137 41 [some (.ref 60), some (.int x1), some (.int s0)] [] (sM mo G I J) Q else (sm_wp X 133 0 [some (.ref 60), some (.int x1), some (.int s0)] [] (sM mo G I J) (fun v M => sm_wp X 137 39 [some (.ref 60), some (.int x1), some (.int s0)] (v.toList ++ []) M Q))) :=
  (sm_blk X 137 27 (tt_lin 137 (by decide)) rfl rfl _ _ _ _).trans rfl
set_option maxRecDepth 100000 in
theorem bkw_137_39 (X : (Nat → Int32) × Nat) (mo : Bool) (G : Nat × Nat) (I : Nat → Nat → Int32) (J : Nat → Nat → Int64) (Q : Option Value → sm_M → Prop) (x1 : Int32) (x2 : Int32) :
    sm_wp X 137 39 [some (.ref 60), some (.int x1), some (.int x2)] [] (sM mo G I J) Q =
    (sm_zb 1 ∧ Q (some (.int 1)) (sM mo G I J)) :=
  (sm_blk X 137 39 (tt_lin 137 (by decide)) rfl rfl _ _ _ _).trans rfl
set_option maxRecDepth 100000 in
theorem bkw_137_41 (X : (Nat → Int32) × Nat) (mo : Bool) (G : Nat × Nat) (I : Nat → Nat → Int32) (J : Nat → Nat → Int64) (Q : Option Value → sm_M → Prop) (x1 : Int32) (x2 : Int32) :
    sm_wp X 137 41 [some (.ref 60), some (.int x1), some (.int x2)] [] (sM mo G I J) Q =
    (sm_wp X 132 0 [some (.ref 60), some (.int x1), some (.int (-1)), none] [] (sM mo G I J) (fun v M => sm_wp X 137 49 [some (.ref 60), some (.int x1), some (.int x2)] (v.toList ++ [.int x1, .ref 60]) M Q)) :=
  (sm_blk X 137 41 (tt_lin 137 (by decide)) rfl rfl _ _ _ _).trans rfl
set_option maxRecDepth 100000 in
theorem bkw_137_49 (X : (Nat → Int32) × Nat) (mo : Bool) (G : Nat × Nat) (I : Nat → Nat → Int32) (J : Nat → Nat → Int64) (Q : Option Value → sm_M → Prop) (x1 : Int32) (x2 : Int32) (s1 : Int32) (s2 : Int32) :
    sm_wp X 137 49 [some (.ref 60), some (.int x1), some (.int x2)] [.int s2, .int s1, .ref 60] (sM mo G I J) Q =
    (sm_wp X 133 0 [some (.ref 60), some (.int s1), some (.int s2)] [] (sM mo G I J) (fun v M => sm_wp X 137 52 [some (.ref 60), some (.int x1), some (.int x2)] (v.toList ++ []) M Q)) :=
  (sm_blk X 137 49 (tt_lin 137 (by decide)) rfl rfl _ _ _ _).trans rfl
set_option maxRecDepth 100000 in
theorem bkw_137_52 (X : (Nat → Int32) × Nat) (mo : Bool) (G : Nat × Nat) (I : Nat → Nat → Int32) (J : Nat → Nat → Int64) (Q : Option Value → sm_M → Prop) (x1 : Int32) (x2 : Int32) :
    sm_wp X 137 52 [some (.ref 60), some (.int x1), some (.int x2)] [] (sM mo G I J) Q =
    (sm_wp X 137 12 [some (.ref 60), some (.int (x1 + (-1))), none] [] (sM mo G I J) Q) :=
  (sm_blk X 137 52 (tt_lin 137 (by decide)) rfl rfl _ _ _ _).trans rfl
set_option maxRecDepth 100000 in
theorem bkw_137_58 (X : (Nat → Int32) × Nat) (mo : Bool) (G : Nat × Nat) (I : Nat → Nat → Int32) (J : Nat → Nat → Int64) (Q : Option Value → sm_M → Prop) (x1 : Int32) :
    sm_wp X 137 58 [some (.ref 60), some (.int x1), none] [] (sM mo G I J) Q =
    (sm_zb 0 ∧ Q (some (.int 0)) (sM mo G I J)) :=
  (sm_blk X 137 58 (tt_lin 137 (by decide)) rfl rfl _ _ _ _).trans rfl
set_option maxRecDepth 100000 in
theorem bk_138_0 (X : (Nat → Int32) × Nat) (mo : Bool) (G : Nat × Nat) (I : Nat → Nat → Int32) (J : Nat → Nat → Int64) (Q : Option Value → sm_M → Prop) (x1 : Int32) :
    sm_wp X 138 0 [some (.ref 52), some (.int x1)] [] (sM mo G I J) Q =
    (sm_wp X 131 0 [some (.ref 52)] [] (sM mo G I J) (fun v M => sm_wp X 138 4 [some (.ref 52), some (.int x1)] (v.toList ++ []) M Q)) :=
  (sm_blk X 138 0 (tt_lin 138 (by decide)) rfl rfl _ _ _ _).trans rfl
set_option maxRecDepth 100000 in
theorem bk_138_4 (X : (Nat → Int32) × Nat) (mo : Bool) (G : Nat × Nat) (I : Nat → Nat → Int32) (J : Nat → Nat → Int64) (Q : Option Value → sm_M → Prop) (x1 : Int32) (s0 : Int32) :
    sm_wp X 138 4 [some (.ref 52), some (.int x1)] [.int s0] (sM mo G I J) Q =
    (if (s0 : Int32) = 0 then sm_wp X 138 9 [some (.ref 52), some (.int x1)] [] (sM mo G I J) Q else (True ∧ Q (some (.int (-1))) (sM mo G I J))) :=
  (sm_blk X 138 4 (tt_lin 138 (by decide)) rfl rfl _ _ _ _).trans rfl
set_option maxRecDepth 100000 in
theorem bk_138_9 (X : (Nat → Int32) × Nat) (mo : Bool) (G : Nat × Nat) (I : Nat → Nat → Int32) (J : Nat → Nat → Int64) (Q : Option Value → sm_M → Prop) (x1 : Int32) :
    sm_wp X 138 9 [some (.ref 52), some (.int x1)] [] (sM mo G I J) Q =
    (if (x1 : Int32) = 1 then sm_wp X 138 36 [some (.ref 52), some (.int x1)] [] (sM mo G I J) Q else if (x1 : Int32) = 2 then sm_wp X 138 41 [some (.ref 52), some (.int x1)] [] (sM mo G I J) Q else if (x1 : Int32) = 3 then sm_wp X 138 46 [some (.ref 52), some (.int x1)] [] (sM mo G I J) Q else sm_wp X 138 51 [some (.ref 52), some (.int x1)] [] (sM mo G I J) Q) :=
  (sm_blk X 138 9 (tt_lin 138 (by decide)) rfl rfl _ _ _ _).trans rfl
set_option maxRecDepth 100000 in
theorem bk_138_36 (X : (Nat → Int32) × Nat) (mo : Bool) (G : Nat × Nat) (I : Nat → Nat → Int32) (J : Nat → Nat → Int64) (Q : Option Value → sm_M → Prop) (x1 : Int32) :
    sm_wp X 138 36 [some (.ref 52), some (.int x1)] [] (sM mo G I J) Q =
    (True ∧ Q (some (.int (I 52 13))) (sM mo G I J)) :=
  (sm_blk X 138 36 (tt_lin 138 (by decide)) rfl rfl _ _ _ _).trans rfl
set_option maxRecDepth 100000 in
theorem bk_138_41 (X : (Nat → Int32) × Nat) (mo : Bool) (G : Nat × Nat) (I : Nat → Nat → Int32) (J : Nat → Nat → Int64) (Q : Option Value → sm_M → Prop) (x1 : Int32) :
    sm_wp X 138 41 [some (.ref 52), some (.int x1)] [] (sM mo G I J) Q =
    (True ∧ Q (some (.int (I 52 14))) (sM mo G I J)) :=
  (sm_blk X 138 41 (tt_lin 138 (by decide)) rfl rfl _ _ _ _).trans rfl
set_option maxRecDepth 100000 in
theorem bk_138_46 (X : (Nat → Int32) × Nat) (mo : Bool) (G : Nat × Nat) (I : Nat → Nat → Int32) (J : Nat → Nat → Int64) (Q : Option Value → sm_M → Prop) (x1 : Int32) :
    sm_wp X 138 46 [some (.ref 52), some (.int x1)] [] (sM mo G I J) Q =
    (True ∧ Q (some (.int (I 52 15))) (sM mo G I J)) :=
  (sm_blk X 138 46 (tt_lin 138 (by decide)) rfl rfl _ _ _ _).trans rfl
set_option maxRecDepth 100000 in
theorem bk_138_51 (X : (Nat → Int32) × Nat) (mo : Bool) (G : Nat × Nat) (I : Nat → Nat → Int32) (J : Nat → Nat → Int64) (Q : Option Value → sm_M → Prop) (x1 : Int32) :
    sm_wp X 138 51 [some (.ref 52), some (.int x1)] [] (sM mo G I J) Q =
    (True ∧ Q (some (.int (-1))) (sM mo G I J)) :=
  (sm_blk X 138 51 (tt_lin 138 (by decide)) rfl rfl _ _ _ _).trans rfl
set_option maxRecDepth 100000 in
theorem bkw_138_0 (X : (Nat → Int32) × Nat) (mo : Bool) (G : Nat × Nat) (I : Nat → Nat → Int32) (J : Nat → Nat → Int64) (Q : Option Value → sm_M → Prop) (x1 : Int32) :
    sm_wp X 138 0 [some (.ref 60), some (.int x1)] [] (sM mo G I J) Q =
    (sm_wp X 131 0 [some (.ref 60)] [] (sM mo G I J) (fun v M => sm_wp X 138 4 [some (.ref 60), some (.int x1)] (v.toList ++ []) M Q)) :=
  (sm_blk X 138 0 (tt_lin 138 (by decide)) rfl rfl _ _ _ _).trans rfl
set_option maxRecDepth 100000 in
theorem bkw_138_4 (X : (Nat → Int32) × Nat) (mo : Bool) (G : Nat × Nat) (I : Nat → Nat → Int32) (J : Nat → Nat → Int64) (Q : Option Value → sm_M → Prop) (x1 : Int32) (s0 : Int32) :
    sm_wp X 138 4 [some (.ref 60), some (.int x1)] [.int s0] (sM mo G I J) Q =
    (if (s0 : Int32) = 0 then sm_wp X 138 9 [some (.ref 60), some (.int x1)] [] (sM mo G I J) Q else (True ∧ Q (some (.int (-1))) (sM mo G I J))) :=
  (sm_blk X 138 4 (tt_lin 138 (by decide)) rfl rfl _ _ _ _).trans rfl
set_option maxRecDepth 100000 in
theorem bkw_138_9 (X : (Nat → Int32) × Nat) (mo : Bool) (G : Nat × Nat) (I : Nat → Nat → Int32) (J : Nat → Nat → Int64) (Q : Option Value → sm_M → Prop) (x1 : Int32) :
    sm_wp X 138 9 [some (.ref 60), some (.int x1)] [] (sM mo G I J) Q =
    (if (x1 : Int32) = 1 then sm_wp X 138 36 [some (.ref 60), some (.int x1)] [] (sM mo G I J) Q else if (x1 : Int32) = 2 then sm_wp X 138 41 [some (.ref 60), some (.int x1)] [] (sM mo G I J) Q else if (x1 : Int32) = 3 then sm_wp X 138 46 [some (.ref 60), some (.int x1)] [] (sM mo G I J) Q else sm_wp X 138 51 [some (.ref 60), some (.int x1)] [] (sM mo G I J) Q) :=
  (sm_blk X 138 9 (tt_lin 138 (by decide)) rfl rfl _ _ _ _).trans rfl
set_option maxRecDepth 100000 in
theorem bkw_138_36 (X : (Nat → Int32) × Nat) (mo : Bool) (G : Nat × Nat) (I : Nat → Nat → Int32) (J : Nat → Nat → Int64) (Q : Option Value → sm_M → Prop) (x1 : Int32) :
    sm_wp X 138 36 [some (.ref 60), some (.int x1)] [] (sM mo G I J) Q =
    (True ∧ Q (some (.int (I 60 13))) (sM mo G I J)) :=
  (sm_blk X 138 36 (tt_lin 138 (by decide)) rfl rfl _ _ _ _).trans rfl
set_option maxRecDepth 100000 in
theorem bkw_138_41 (X : (Nat → Int32) × Nat) (mo : Bool) (G : Nat × Nat) (I : Nat → Nat → Int32) (J : Nat → Nat → Int64) (Q : Option Value → sm_M → Prop) (x1 : Int32) :
    sm_wp X 138 41 [some (.ref 60), some (.int x1)] [] (sM mo G I J) Q =
    (True ∧ Q (some (.int (I 60 14))) (sM mo G I J)) :=
  (sm_blk X 138 41 (tt_lin 138 (by decide)) rfl rfl _ _ _ _).trans rfl
set_option maxRecDepth 100000 in
theorem bkw_138_46 (X : (Nat → Int32) × Nat) (mo : Bool) (G : Nat × Nat) (I : Nat → Nat → Int32) (J : Nat → Nat → Int64) (Q : Option Value → sm_M → Prop) (x1 : Int32) :
    sm_wp X 138 46 [some (.ref 60), some (.int x1)] [] (sM mo G I J) Q =
    (True ∧ Q (some (.int (I 60 15))) (sM mo G I J)) :=
  (sm_blk X 138 46 (tt_lin 138 (by decide)) rfl rfl _ _ _ _).trans rfl
set_option maxRecDepth 100000 in
theorem bkw_138_51 (X : (Nat → Int32) × Nat) (mo : Bool) (G : Nat × Nat) (I : Nat → Nat → Int32) (J : Nat → Nat → Int64) (Q : Option Value → sm_M → Prop) (x1 : Int32) :
    sm_wp X 138 51 [some (.ref 60), some (.int x1)] [] (sM mo G I J) Q =
    (True ∧ Q (some (.int (-1))) (sM mo G I J)) :=
  (sm_blk X 138 51 (tt_lin 138 (by decide)) rfl rfl _ _ _ _).trans rfl
set_option maxRecDepth 100000 in
theorem bk_139_0 (X : (Nat → Int32) × Nat) (mo : Bool) (G : Nat × Nat) (I : Nat → Nat → Int32) (J : Nat → Nat → Int64) (Q : Option Value → sm_M → Prop) (x1 : Int32) :
    sm_wp X 139 0 [some (.ref 52), some (.int x1)] [] (sM mo G I J) Q =
    (if ¬ (I 52 17 : Int32) = ((-1) : Int32) then sm_wp X 139 10 [some (.ref 52), some (.int x1)] [] (sM mo G I J) Q else (True ∧ Q (some (.int (-1))) (sM mo G I J))) :=
  (sm_blk X 139 0 (tt_lin 139 (by decide)) rfl rfl _ _ _ _).trans rfl
set_option maxRecDepth 100000 in
theorem bk_139_10 (X : (Nat → Int32) × Nat) (mo : Bool) (G : Nat × Nat) (I : Nat → Nat → Int32) (J : Nat → Nat → Int64) (Q : Option Value → sm_M → Prop) (x1 : Int32) :
    sm_wp X 139 10 [some (.ref 52), some (.int x1)] [] (sM mo G I J) Q =
    (if ¬ (x1 : Int32) = (12 : Int32) then sm_wp X 139 21 [some (.ref 52), some (.int x1)] [] (sM mo G I J) Q else (True ∧ Q (some (.int (I 52 17))) (sM mo G I J))) :=
  (sm_blk X 139 10 (tt_lin 139 (by decide)) rfl rfl _ _ _ _).trans rfl
set_option maxRecDepth 100000 in
theorem bk_139_21 (X : (Nat → Int32) × Nat) (mo : Bool) (G : Nat × Nat) (I : Nat → Nat → Int32) (J : Nat → Nat → Int64) (Q : Option Value → sm_M → Prop) (x1 : Int32) :
    sm_wp X 139 21 [some (.ref 52), some (.int x1)] [] (sM mo G I J) Q =
    (if ¬ (x1 : Int32) = (13 : Int32) then sm_wp X 139 34 [some (.ref 52), some (.int x1)] [] (sM mo G I J) Q else (sm_wp X 139 39 [some (.ref 52), some (.int x1)] [.int (I 52 18)] (sM mo G I J) Q)) :=
  (sm_blk X 139 21 (tt_lin 139 (by decide)) rfl rfl _ _ _ _).trans rfl
set_option maxRecDepth 100000 in
theorem bk_139_34 (X : (Nat → Int32) × Nat) (mo : Bool) (G : Nat × Nat) (I : Nat → Nat → Int32) (J : Nat → Nat → Int64) (Q : Option Value → sm_M → Prop) (x1 : Int32) :
    sm_wp X 139 34 [some (.ref 52), some (.int x1)] [] (sM mo G I J) Q =
    (sm_wp X 140 0 [some (.ref 52), some (.int x1), none] [] (sM mo G I J) (fun v M => sm_wp X 139 39 [some (.ref 52), some (.int x1)] (v.toList ++ []) M Q)) :=
  (sm_blk X 139 34 (tt_lin 139 (by decide)) rfl rfl _ _ _ _).trans rfl
set_option maxRecDepth 100000 in
theorem bk_139_39 (X : (Nat → Int32) × Nat) (mo : Bool) (G : Nat × Nat) (I : Nat → Nat → Int32) (J : Nat → Nat → Int64) (Q : Option Value → sm_M → Prop) (x1 : Int32) (s0 : Int32) :
    sm_wp X 139 39 [some (.ref 52), some (.int x1)] [.int s0] (sM mo G I J) Q =
    (True ∧ Q (some (.int s0)) (sM mo G I J)) :=
  (sm_blk X 139 39 (tt_lin 139 (by decide)) rfl rfl _ _ _ _).trans rfl
set_option maxRecDepth 100000 in
theorem bkw_139_0 (X : (Nat → Int32) × Nat) (mo : Bool) (G : Nat × Nat) (I : Nat → Nat → Int32) (J : Nat → Nat → Int64) (Q : Option Value → sm_M → Prop) (x1 : Int32) :
    sm_wp X 139 0 [some (.ref 60), some (.int x1)] [] (sM mo G I J) Q =
    (if ¬ (I 60 17 : Int32) = ((-1) : Int32) then sm_wp X 139 10 [some (.ref 60), some (.int x1)] [] (sM mo G I J) Q else (True ∧ Q (some (.int (-1))) (sM mo G I J))) :=
  (sm_blk X 139 0 (tt_lin 139 (by decide)) rfl rfl _ _ _ _).trans rfl
set_option maxRecDepth 100000 in
theorem bkw_139_10 (X : (Nat → Int32) × Nat) (mo : Bool) (G : Nat × Nat) (I : Nat → Nat → Int32) (J : Nat → Nat → Int64) (Q : Option Value → sm_M → Prop) (x1 : Int32) :
    sm_wp X 139 10 [some (.ref 60), some (.int x1)] [] (sM mo G I J) Q =
    (if ¬ (x1 : Int32) = (12 : Int32) then sm_wp X 139 21 [some (.ref 60), some (.int x1)] [] (sM mo G I J) Q else (True ∧ Q (some (.int (I 60 17))) (sM mo G I J))) :=
  (sm_blk X 139 10 (tt_lin 139 (by decide)) rfl rfl _ _ _ _).trans rfl
set_option maxRecDepth 100000 in
theorem bkw_139_21 (X : (Nat → Int32) × Nat) (mo : Bool) (G : Nat × Nat) (I : Nat → Nat → Int32) (J : Nat → Nat → Int64) (Q : Option Value → sm_M → Prop) (x1 : Int32) :
    sm_wp X 139 21 [some (.ref 60), some (.int x1)] [] (sM mo G I J) Q =
    (if ¬ (x1 : Int32) = (13 : Int32) then sm_wp X 139 34 [some (.ref 60), some (.int x1)] [] (sM mo G I J) Q else (sm_wp X 139 39 [some (.ref 60), some (.int x1)] [.int (I 60 18)] (sM mo G I J) Q)) :=
  (sm_blk X 139 21 (tt_lin 139 (by decide)) rfl rfl _ _ _ _).trans rfl
set_option maxRecDepth 100000 in
theorem bkw_139_34 (X : (Nat → Int32) × Nat) (mo : Bool) (G : Nat × Nat) (I : Nat → Nat → Int32) (J : Nat → Nat → Int64) (Q : Option Value → sm_M → Prop) (x1 : Int32) :
    sm_wp X 139 34 [some (.ref 60), some (.int x1)] [] (sM mo G I J) Q =
    (sm_wp X 140 0 [some (.ref 60), some (.int x1), none] [] (sM mo G I J) (fun v M => sm_wp X 139 39 [some (.ref 60), some (.int x1)] (v.toList ++ []) M Q)) :=
  (sm_blk X 139 34 (tt_lin 139 (by decide)) rfl rfl _ _ _ _).trans rfl
set_option maxRecDepth 100000 in
theorem bkw_139_39 (X : (Nat → Int32) × Nat) (mo : Bool) (G : Nat × Nat) (I : Nat → Nat → Int32) (J : Nat → Nat → Int64) (Q : Option Value → sm_M → Prop) (x1 : Int32) (s0 : Int32) :
    sm_wp X 139 39 [some (.ref 60), some (.int x1)] [.int s0] (sM mo G I J) Q =
    (True ∧ Q (some (.int s0)) (sM mo G I J)) :=
  (sm_blk X 139 39 (tt_lin 139 (by decide)) rfl rfl _ _ _ _).trans rfl
set_option maxRecDepth 100000 in
theorem bk_140_0 (X : (Nat → Int32) × Nat) (mo : Bool) (G : Nat × Nat) (I : Nat → Nat → Int32) (J : Nat → Nat → Int64) (Q : Option Value → sm_M → Prop) (x1 : Int32) :
    sm_wp X 140 0 [some (.ref 52), some (.int x1), none] [] (sM mo G I J) Q =
    (sm_wp X 140 2 [some (.ref 52), some (.int x1), some (.int 0)] [] (sM mo G I J) Q) :=
  (sm_blk X 140 0 (tt_lin 140 (by decide)) rfl rfl _ _ _ _).trans rfl
set_option maxRecDepth 100000 in
theorem bk_140_2 (X : (Nat → Int32) × Nat) (mo : Bool) (G : Nat × Nat) (I : Nat → Nat → Int32) (J : Nat → Nat → Int64) (Q : Option Value → sm_M → Prop) (x1 : Int32) (x2 : Int32) :
    sm_wp X 140 2 [some (.ref 52), some (.int x1), some (.int x2)] [] (sM mo G I J) Q =
    (if (I 52 5 : Int32) ≤ (x2 : Int32) then sm_wp X 140 39 [some (.ref 52), some (.int x1), some (.int x2)] [] (sM mo G I J) Q else (if (8 : Int32) ≤ (x2 : Int32) then sm_wp X 140 39 [some (.ref 52), some (.int x1), some (.int x2)] [] (sM mo G I J) Q else (vp_in x2 8 ∧ (if ¬ (I 53 (x2.toNatClampNeg) : Int32) = (x1 : Int32) then sm_wp X 140 33 [some (.ref 52), some (.int x1), some (.int x2)] [] (sM mo G I J) Q else (vp_in x2 8 ∧ (True ∧ Q (some (.int (I 59 (x2.toNatClampNeg)))) (sM mo G I J))))))) :=
  (sm_blk X 140 2 (tt_lin 140 (by decide)) rfl rfl _ _ _ _).trans rfl
set_option maxRecDepth 100000 in
theorem bk_140_33 (X : (Nat → Int32) × Nat) (mo : Bool) (G : Nat × Nat) (I : Nat → Nat → Int32) (J : Nat → Nat → Int64) (Q : Option Value → sm_M → Prop) (x1 : Int32) (x2 : Int32) :
    sm_wp X 140 33 [some (.ref 52), some (.int x1), some (.int x2)] [] (sM mo G I J) Q =
    (sm_wp X 140 2 [some (.ref 52), some (.int x1), some (.int (x2 + 1))] [] (sM mo G I J) Q) :=
  (sm_blk X 140 33 (tt_lin 140 (by decide)) rfl rfl _ _ _ _).trans rfl
set_option maxRecDepth 100000 in
theorem bk_140_39 (X : (Nat → Int32) × Nat) (mo : Bool) (G : Nat × Nat) (I : Nat → Nat → Int32) (J : Nat → Nat → Int64) (Q : Option Value → sm_M → Prop) (x1 : Int32) (x2 : Int32) :
    sm_wp X 140 39 [some (.ref 52), some (.int x1), some (.int x2)] [] (sM mo G I J) Q =
    (sm_wp X 95 0 [some (.ref 1), some (.int x1)] [] (sM mo G I J) (fun v M => sm_wp X 140 47 [some (.ref 52), some (.int x1), some (.int x2)] (v.toList ++ []) M Q)) :=
  (sm_blk X 140 39 (tt_lin 140 (by decide)) rfl rfl _ _ _ _).trans rfl
set_option maxRecDepth 100000 in
theorem bk_140_47 (X : (Nat → Int32) × Nat) (mo : Bool) (G : Nat × Nat) (I : Nat → Nat → Int32) (J : Nat → Nat → Int64) (Q : Option Value → sm_M → Prop) (x1 : Int32) (x2 : Int32) (s0 : Int32) :
    sm_wp X 140 47 [some (.ref 52), some (.int x1), some (.int x2)] [.int s0] (sM mo G I J) Q =
    (True ∧ Q (some (.int s0)) (sM mo G I J)) :=
  (sm_blk X 140 47 (tt_lin 140 (by decide)) rfl rfl _ _ _ _).trans rfl
set_option maxRecDepth 100000 in
theorem bkw_140_0 (X : (Nat → Int32) × Nat) (mo : Bool) (G : Nat × Nat) (I : Nat → Nat → Int32) (J : Nat → Nat → Int64) (Q : Option Value → sm_M → Prop) (x1 : Int32) :
    sm_wp X 140 0 [some (.ref 60), some (.int x1), none] [] (sM mo G I J) Q =
    (sm_wp X 140 2 [some (.ref 60), some (.int x1), some (.int 0)] [] (sM mo G I J) Q) :=
  (sm_blk X 140 0 (tt_lin 140 (by decide)) rfl rfl _ _ _ _).trans rfl
set_option maxRecDepth 100000 in
theorem bkw_140_2 (X : (Nat → Int32) × Nat) (mo : Bool) (G : Nat × Nat) (I : Nat → Nat → Int32) (J : Nat → Nat → Int64) (Q : Option Value → sm_M → Prop) (x1 : Int32) (x2 : Int32) :
    sm_wp X 140 2 [some (.ref 60), some (.int x1), some (.int x2)] [] (sM mo G I J) Q =
    (if (I 60 5 : Int32) ≤ (x2 : Int32) then sm_wp X 140 39 [some (.ref 60), some (.int x1), some (.int x2)] [] (sM mo G I J) Q else (if (8 : Int32) ≤ (x2 : Int32) then sm_wp X 140 39 [some (.ref 60), some (.int x1), some (.int x2)] [] (sM mo G I J) Q else (vp_in x2 8 ∧ (if ¬ (I 61 (x2.toNatClampNeg) : Int32) = (x1 : Int32) then sm_wp X 140 33 [some (.ref 60), some (.int x1), some (.int x2)] [] (sM mo G I J) Q else (vp_in x2 8 ∧ (True ∧ Q (some (.int (I 67 (x2.toNatClampNeg)))) (sM mo G I J))))))) :=
  (sm_blk X 140 2 (tt_lin 140 (by decide)) rfl rfl _ _ _ _).trans rfl
set_option maxRecDepth 100000 in
theorem bkw_140_33 (X : (Nat → Int32) × Nat) (mo : Bool) (G : Nat × Nat) (I : Nat → Nat → Int32) (J : Nat → Nat → Int64) (Q : Option Value → sm_M → Prop) (x1 : Int32) (x2 : Int32) :
    sm_wp X 140 33 [some (.ref 60), some (.int x1), some (.int x2)] [] (sM mo G I J) Q =
    (sm_wp X 140 2 [some (.ref 60), some (.int x1), some (.int (x2 + 1))] [] (sM mo G I J) Q) :=
  (sm_blk X 140 33 (tt_lin 140 (by decide)) rfl rfl _ _ _ _).trans rfl
set_option maxRecDepth 100000 in
theorem bkw_140_39 (X : (Nat → Int32) × Nat) (mo : Bool) (G : Nat × Nat) (I : Nat → Nat → Int32) (J : Nat → Nat → Int64) (Q : Option Value → sm_M → Prop) (x1 : Int32) (x2 : Int32) :
    sm_wp X 140 39 [some (.ref 60), some (.int x1), some (.int x2)] [] (sM mo G I J) Q =
    (sm_wp X 95 0 [some (.ref 1), some (.int x1)] [] (sM mo G I J) (fun v M => sm_wp X 140 47 [some (.ref 60), some (.int x1), some (.int x2)] (v.toList ++ []) M Q)) :=
  (sm_blk X 140 39 (tt_lin 140 (by decide)) rfl rfl _ _ _ _).trans rfl
set_option maxRecDepth 100000 in
theorem bkw_140_47 (X : (Nat → Int32) × Nat) (mo : Bool) (G : Nat × Nat) (I : Nat → Nat → Int32) (J : Nat → Nat → Int64) (Q : Option Value → sm_M → Prop) (x1 : Int32) (x2 : Int32) (s0 : Int32) :
    sm_wp X 140 47 [some (.ref 60), some (.int x1), some (.int x2)] [.int s0] (sM mo G I J) Q =
    (True ∧ Q (some (.int s0)) (sM mo G I J)) :=
  (sm_blk X 140 47 (tt_lin 140 (by decide)) rfl rfl _ _ _ _).trans rfl
set_option maxRecDepth 100000 in
theorem bk_141_0 (X : (Nat → Int32) × Nat) (mo : Bool) (G : Nat × Nat) (I : Nat → Nat → Int32) (J : Nat → Nat → Int64) (Q : Option Value → sm_M → Prop)  :
    sm_wp X 141 0 [some (.ref 52), none, none] [] (sM mo G I J) Q =
    (sm_wp X 131 0 [some (.ref 52)] [] (sM mo G I J) (fun v M => sm_wp X 141 4 [some (.ref 52), none, none] (v.toList ++ []) M Q)) :=
  (sm_blk X 141 0 (tt_lin 141 (by decide)) rfl rfl _ _ _ _).trans rfl
set_option maxRecDepth 100000 in
theorem bk_141_4 (X : (Nat → Int32) × Nat) (mo : Bool) (G : Nat × Nat) (I : Nat → Nat → Int32) (J : Nat → Nat → Int64) (Q : Option Value → sm_M → Prop) (s0 : Int32) :
    sm_wp X 141 4 [some (.ref 52), none, none] [.int s0] (sM mo G I J) Q =
    (if (s0 : Int32) = 0 then sm_wp X 141 9 [some (.ref 52), none, none] [] (sM mo G I J) Q else (True ∧ Q (some (.int (-1))) (sM mo G I J))) :=
  (sm_blk X 141 4 (tt_lin 141 (by decide)) rfl rfl _ _ _ _).trans rfl
set_option maxRecDepth 100000 in
theorem bk_141_9 (X : (Nat → Int32) × Nat) (mo : Bool) (G : Nat × Nat) (I : Nat → Nat → Int32) (J : Nat → Nat → Int64) (Q : Option Value → sm_M → Prop)  :
    sm_wp X 141 9 [some (.ref 52), none, none] [] (sM mo G I J) Q =
    (if (I 52 14 : Int32) ≤ 0 then sm_wp X 141 18 [some (.ref 52), none, none] [] (sM mo G I J) Q else (True ∧ Q (some (.int 0)) (sM mo G I J))) :=
  (sm_blk X 141 9 (tt_lin 141 (by decide)) rfl rfl _ _ _ _).trans rfl
set_option maxRecDepth 100000 in
theorem bk_141_18 (X : (Nat → Int32) × Nat) (mo : Bool) (G : Nat × Nat) (I : Nat → Nat → Int32) (J : Nat → Nat → Int64) (Q : Option Value → sm_M → Prop)  :
    sm_wp X 141 18 [some (.ref 52), none, none] [] (sM mo G I J) Q =
    (sm_wp X 141 20 [some (.ref 52), some (.int 1), none] [] (sM mo G I J) Q) :=
  (sm_blk X 141 18 (tt_lin 141 (by decide)) rfl rfl _ _ _ _).trans rfl
set_option maxRecDepth 100000 in
theorem bk_141_20 (X : (Nat → Int32) × Nat) (mo : Bool) (G : Nat × Nat) (I : Nat → Nat → Int32) (J : Nat → Nat → Int64) (Q : Option Value → sm_M → Prop) (x1 : Int32) :
    sm_wp X 141 20 [some (.ref 52), some (.int x1), none] [] (sM mo G I J) Q =
    (if (6 : Int32) < (x1 : Int32) then sm_wp X 141 75 [some (.ref 52), some (.int x1), none] [] (sM mo G I J) Q else (sm_wp X 141 28 [some (.ref 52), some (.int x1), some (.int 1)] [] (sM mo G I J) Q)) :=
  (sm_blk X 141 20 (tt_lin 141 (by decide)) rfl rfl _ _ _ _).trans rfl
set_option maxRecDepth 100000 in
theorem bk_141_28 (X : (Nat → Int32) × Nat) (mo : Bool) (G : Nat × Nat) (I : Nat → Nat → Int32) (J : Nat → Nat → Int64) (Q : Option Value → sm_M → Prop) (x1 : Int32) (x2 : Int32) :
    sm_wp X 141 28 [some (.ref 52), some (.int x1), some (.int x2)] [] (sM mo G I J) Q =
    (if (64 : Int32) ≤ (x2 : Int32) then sm_wp X 141 69 [some (.ref 52), some (.int x1), some (.int x2)] [] (sM mo G I J) Q else (sm_wp X 314 0 [some (.int x2)] [] (sM mo G I J) (fun v M => sm_wp X 141 38 [some (.ref 52), some (.int x1), some (.int x2)] (v.toList ++ []) M Q))) :=
  (sm_blk X 141 28 (tt_lin 141 (by decide)) rfl rfl _ _ _ _).trans rfl
set_option maxRecDepth 100000 in
theorem bk_141_38 (X : (Nat → Int32) × Nat) (mo : Bool) (G : Nat × Nat) (I : Nat → Nat → Int32) (J : Nat → Nat → Int64) (Q : Option Value → sm_M → Prop) (x1 : Int32) (x2 : Int32) (s0 : Int32) :
    sm_wp X 141 38 [some (.ref 52), some (.int x1), some (.int x2)] [.int s0] (sM mo G I J) Q =
    (if ¬ (s0 : Int32) = (x1 : Int32) then sm_wp X 141 63 [some (.ref 52), some (.int x1), some (.int x2)] [] (sM mo G I J) Q else (if ¬ (x2 &&& ((I 52 2) ^^^ (-1)) : Int32) = 0 then sm_wp X 141 63 [some (.ref 52), some (.int x1), some (.int x2)] [] (sM mo G I J) Q else (sm_wp X 142 0 [some (.ref 52), some (.int x2), none] [] (sM mo G I J) (fun v M => sm_wp X 141 58 [some (.ref 52), some (.int x1), some (.int x2)] (v.toList ++ []) M Q)))) :=
  (sm_blk X 141 38 (tt_lin 141 (by decide)) rfl rfl _ _ _ _).trans rfl
set_option maxRecDepth 100000 in
theorem bk_141_58 (X : (Nat → Int32) × Nat) (mo : Bool) (G : Nat × Nat) (I : Nat → Nat → Int32) (J : Nat → Nat → Int64) (Q : Option Value → sm_M → Prop) (x1 : Int32) (x2 : Int32) (s0 : Int32) :
    sm_wp X 141 58 [some (.ref 52), some (.int x1), some (.int x2)] [.int s0] (sM mo G I J) Q =
    (if ¬ (s0 : Int32) = 0 then sm_wp X 141 63 [some (.ref 52), some (.int x1), some (.int x2)] [] (sM mo G I J) Q else (True ∧ Q (some (.int x2)) (sM mo G I J))) :=
  (sm_blk X 141 58 (tt_lin 141 (by decide)) rfl rfl _ _ _ _).trans rfl
set_option maxRecDepth 100000 in
theorem bk_141_63 (X : (Nat → Int32) × Nat) (mo : Bool) (G : Nat × Nat) (I : Nat → Nat → Int32) (J : Nat → Nat → Int64) (Q : Option Value → sm_M → Prop) (x1 : Int32) (x2 : Int32) :
    sm_wp X 141 63 [some (.ref 52), some (.int x1), some (.int x2)] [] (sM mo G I J) Q =
    (sm_wp X 141 28 [some (.ref 52), some (.int x1), some (.int (x2 + 1))] [] (sM mo G I J) Q) :=
  (sm_blk X 141 63 (tt_lin 141 (by decide)) rfl rfl _ _ _ _).trans rfl
set_option maxRecDepth 100000 in
theorem bk_141_69 (X : (Nat → Int32) × Nat) (mo : Bool) (G : Nat × Nat) (I : Nat → Nat → Int32) (J : Nat → Nat → Int64) (Q : Option Value → sm_M → Prop) (x1 : Int32) (x2 : Int32) :
    sm_wp X 141 69 [some (.ref 52), some (.int x1), some (.int x2)] [] (sM mo G I J) Q =
    (sm_wp X 141 20 [some (.ref 52), some (.int (x1 + 1)), none] [] (sM mo G I J) Q) :=
  (sm_blk X 141 69 (tt_lin 141 (by decide)) rfl rfl _ _ _ _).trans rfl
set_option maxRecDepth 100000 in
theorem bk_141_75 (X : (Nat → Int32) × Nat) (mo : Bool) (G : Nat × Nat) (I : Nat → Nat → Int32) (J : Nat → Nat → Int64) (Q : Option Value → sm_M → Prop) (x1 : Int32) :
    sm_wp X 141 75 [some (.ref 52), some (.int x1), none] [] (sM mo G I J) Q =
    (True ∧ Q (some (.int 0)) (sM mo G I J)) :=
  (sm_blk X 141 75 (tt_lin 141 (by decide)) rfl rfl _ _ _ _).trans rfl
set_option maxRecDepth 100000 in
theorem bkw_141_0 (X : (Nat → Int32) × Nat) (mo : Bool) (G : Nat × Nat) (I : Nat → Nat → Int32) (J : Nat → Nat → Int64) (Q : Option Value → sm_M → Prop)  :
    sm_wp X 141 0 [some (.ref 60), none, none] [] (sM mo G I J) Q =
    (sm_wp X 131 0 [some (.ref 60)] [] (sM mo G I J) (fun v M => sm_wp X 141 4 [some (.ref 60), none, none] (v.toList ++ []) M Q)) :=
  (sm_blk X 141 0 (tt_lin 141 (by decide)) rfl rfl _ _ _ _).trans rfl
set_option maxRecDepth 100000 in
theorem bkw_141_4 (X : (Nat → Int32) × Nat) (mo : Bool) (G : Nat × Nat) (I : Nat → Nat → Int32) (J : Nat → Nat → Int64) (Q : Option Value → sm_M → Prop) (s0 : Int32) :
    sm_wp X 141 4 [some (.ref 60), none, none] [.int s0] (sM mo G I J) Q =
    (if (s0 : Int32) = 0 then sm_wp X 141 9 [some (.ref 60), none, none] [] (sM mo G I J) Q else (True ∧ Q (some (.int (-1))) (sM mo G I J))) :=
  (sm_blk X 141 4 (tt_lin 141 (by decide)) rfl rfl _ _ _ _).trans rfl
set_option maxRecDepth 100000 in
theorem bkw_141_9 (X : (Nat → Int32) × Nat) (mo : Bool) (G : Nat × Nat) (I : Nat → Nat → Int32) (J : Nat → Nat → Int64) (Q : Option Value → sm_M → Prop)  :
    sm_wp X 141 9 [some (.ref 60), none, none] [] (sM mo G I J) Q =
    (if (I 60 14 : Int32) ≤ 0 then sm_wp X 141 18 [some (.ref 60), none, none] [] (sM mo G I J) Q else (True ∧ Q (some (.int 0)) (sM mo G I J))) :=
  (sm_blk X 141 9 (tt_lin 141 (by decide)) rfl rfl _ _ _ _).trans rfl
set_option maxRecDepth 100000 in
theorem bkw_141_18 (X : (Nat → Int32) × Nat) (mo : Bool) (G : Nat × Nat) (I : Nat → Nat → Int32) (J : Nat → Nat → Int64) (Q : Option Value → sm_M → Prop)  :
    sm_wp X 141 18 [some (.ref 60), none, none] [] (sM mo G I J) Q =
    (sm_wp X 141 20 [some (.ref 60), some (.int 1), none] [] (sM mo G I J) Q) :=
  (sm_blk X 141 18 (tt_lin 141 (by decide)) rfl rfl _ _ _ _).trans rfl
set_option maxRecDepth 100000 in
theorem bkw_141_20 (X : (Nat → Int32) × Nat) (mo : Bool) (G : Nat × Nat) (I : Nat → Nat → Int32) (J : Nat → Nat → Int64) (Q : Option Value → sm_M → Prop) (x1 : Int32) :
    sm_wp X 141 20 [some (.ref 60), some (.int x1), none] [] (sM mo G I J) Q =
    (if (6 : Int32) < (x1 : Int32) then sm_wp X 141 75 [some (.ref 60), some (.int x1), none] [] (sM mo G I J) Q else (sm_wp X 141 28 [some (.ref 60), some (.int x1), some (.int 1)] [] (sM mo G I J) Q)) :=
  (sm_blk X 141 20 (tt_lin 141 (by decide)) rfl rfl _ _ _ _).trans rfl
set_option maxRecDepth 100000 in
theorem bkw_141_28 (X : (Nat → Int32) × Nat) (mo : Bool) (G : Nat × Nat) (I : Nat → Nat → Int32) (J : Nat → Nat → Int64) (Q : Option Value → sm_M → Prop) (x1 : Int32) (x2 : Int32) :
    sm_wp X 141 28 [some (.ref 60), some (.int x1), some (.int x2)] [] (sM mo G I J) Q =
    (if (64 : Int32) ≤ (x2 : Int32) then sm_wp X 141 69 [some (.ref 60), some (.int x1), some (.int x2)] [] (sM mo G I J) Q else (sm_wp X 314 0 [some (.int x2)] [] (sM mo G I J) (fun v M => sm_wp X 141 38 [some (.ref 60), some (.int x1), some (.int x2)] (v.toList ++ []) M Q))) :=
  (sm_blk X 141 28 (tt_lin 141 (by decide)) rfl rfl _ _ _ _).trans rfl
set_option maxRecDepth 100000 in
theorem bkw_141_38 (X : (Nat → Int32) × Nat) (mo : Bool) (G : Nat × Nat) (I : Nat → Nat → Int32) (J : Nat → Nat → Int64) (Q : Option Value → sm_M → Prop) (x1 : Int32) (x2 : Int32) (s0 : Int32) :
    sm_wp X 141 38 [some (.ref 60), some (.int x1), some (.int x2)] [.int s0] (sM mo G I J) Q =
    (if ¬ (s0 : Int32) = (x1 : Int32) then sm_wp X 141 63 [some (.ref 60), some (.int x1), some (.int x2)] [] (sM mo G I J) Q else (if ¬ (x2 &&& ((I 60 2) ^^^ (-1)) : Int32) = 0 then sm_wp X 141 63 [some (.ref 60), some (.int x1), some (.int x2)] [] (sM mo G I J) Q else (sm_wp X 142 0 [some (.ref 60), some (.int x2), none] [] (sM mo G I J) (fun v M => sm_wp X 141 58 [some (.ref 60), some (.int x1), some (.int x2)] (v.toList ++ []) M Q)))) :=
  (sm_blk X 141 38 (tt_lin 141 (by decide)) rfl rfl _ _ _ _).trans rfl
set_option maxRecDepth 100000 in
theorem bkw_141_58 (X : (Nat → Int32) × Nat) (mo : Bool) (G : Nat × Nat) (I : Nat → Nat → Int32) (J : Nat → Nat → Int64) (Q : Option Value → sm_M → Prop) (x1 : Int32) (x2 : Int32) (s0 : Int32) :
    sm_wp X 141 58 [some (.ref 60), some (.int x1), some (.int x2)] [.int s0] (sM mo G I J) Q =
    (if ¬ (s0 : Int32) = 0 then sm_wp X 141 63 [some (.ref 60), some (.int x1), some (.int x2)] [] (sM mo G I J) Q else (True ∧ Q (some (.int x2)) (sM mo G I J))) :=
  (sm_blk X 141 58 (tt_lin 141 (by decide)) rfl rfl _ _ _ _).trans rfl
set_option maxRecDepth 100000 in
theorem bkw_141_63 (X : (Nat → Int32) × Nat) (mo : Bool) (G : Nat × Nat) (I : Nat → Nat → Int32) (J : Nat → Nat → Int64) (Q : Option Value → sm_M → Prop) (x1 : Int32) (x2 : Int32) :
    sm_wp X 141 63 [some (.ref 60), some (.int x1), some (.int x2)] [] (sM mo G I J) Q =
    (sm_wp X 141 28 [some (.ref 60), some (.int x1), some (.int (x2 + 1))] [] (sM mo G I J) Q) :=
  (sm_blk X 141 63 (tt_lin 141 (by decide)) rfl rfl _ _ _ _).trans rfl
set_option maxRecDepth 100000 in
theorem bkw_141_69 (X : (Nat → Int32) × Nat) (mo : Bool) (G : Nat × Nat) (I : Nat → Nat → Int32) (J : Nat → Nat → Int64) (Q : Option Value → sm_M → Prop) (x1 : Int32) (x2 : Int32) :
    sm_wp X 141 69 [some (.ref 60), some (.int x1), some (.int x2)] [] (sM mo G I J) Q =
    (sm_wp X 141 20 [some (.ref 60), some (.int (x1 + 1)), none] [] (sM mo G I J) Q) :=
  (sm_blk X 141 69 (tt_lin 141 (by decide)) rfl rfl _ _ _ _).trans rfl
set_option maxRecDepth 100000 in
theorem bkw_141_75 (X : (Nat → Int32) × Nat) (mo : Bool) (G : Nat × Nat) (I : Nat → Nat → Int32) (J : Nat → Nat → Int64) (Q : Option Value → sm_M → Prop) (x1 : Int32) :
    sm_wp X 141 75 [some (.ref 60), some (.int x1), none] [] (sM mo G I J) Q =
    (True ∧ Q (some (.int 0)) (sM mo G I J)) :=
  (sm_blk X 141 75 (tt_lin 141 (by decide)) rfl rfl _ _ _ _).trans rfl
set_option maxRecDepth 100000 in
theorem bk_142_0 (X : (Nat → Int32) × Nat) (mo : Bool) (G : Nat × Nat) (I : Nat → Nat → Int32) (J : Nat → Nat → Int64) (Q : Option Value → sm_M → Prop) (x1 : Int32) :
    sm_wp X 142 0 [some (.ref 52), some (.int x1), none] [] (sM mo G I J) Q =
    (sm_wp X 142 2 [some (.ref 52), some (.int x1), some (.int 0)] [] (sM mo G I J) Q) :=
  (sm_blk X 142 0 (tt_lin 142 (by decide)) rfl rfl _ _ _ _).trans rfl
set_option maxRecDepth 100000 in
theorem bk_142_2 (X : (Nat → Int32) × Nat) (mo : Bool) (G : Nat × Nat) (I : Nat → Nat → Int32) (J : Nat → Nat → Int64) (Q : Option Value → sm_M → Prop) (x1 : Int32) (x2 : Int32) :
    sm_wp X 142 2 [some (.ref 52), some (.int x1), some (.int x2)] [] (sM mo G I J) Q =
    (if (64 : Int32) ≤ (x2 : Int32) then sm_wp X 142 37 [some (.ref 52), some (.int x1), some (.int x2)] [] (sM mo G I J) Q else (if (lg_cmp ((((J 52 16).toUInt64 >>> (x2.toInt64.toUInt64 &&& Int64.toUInt64 63)).toInt64) &&& 1) 0 : Int32) = 0 then sm_wp X 142 31 [some (.ref 52), some (.int x1), some (.int x2)] [] (sM mo G I J) Q else (if ¬ (x1 &&& (x2 ^^^ (-1)) : Int32) = 0 then sm_wp X 142 31 [some (.ref 52), some (.int x1), some (.int x2)] [] (sM mo G I J) Q else (sm_zb 1 ∧ Q (some (.int 1)) (sM mo G I J))))) :=
  (sm_blk X 142 2 (tt_lin 142 (by decide)) rfl rfl _ _ _ _).trans rfl
set_option maxRecDepth 100000 in
theorem bk_142_31 (X : (Nat → Int32) × Nat) (mo : Bool) (G : Nat × Nat) (I : Nat → Nat → Int32) (J : Nat → Nat → Int64) (Q : Option Value → sm_M → Prop) (x1 : Int32) (x2 : Int32) :
    sm_wp X 142 31 [some (.ref 52), some (.int x1), some (.int x2)] [] (sM mo G I J) Q =
    (sm_wp X 142 2 [some (.ref 52), some (.int x1), some (.int (x2 + 1))] [] (sM mo G I J) Q) :=
  (sm_blk X 142 31 (tt_lin 142 (by decide)) rfl rfl _ _ _ _).trans rfl
set_option maxRecDepth 100000 in
theorem bk_142_37 (X : (Nat → Int32) × Nat) (mo : Bool) (G : Nat × Nat) (I : Nat → Nat → Int32) (J : Nat → Nat → Int64) (Q : Option Value → sm_M → Prop) (x1 : Int32) (x2 : Int32) :
    sm_wp X 142 37 [some (.ref 52), some (.int x1), some (.int x2)] [] (sM mo G I J) Q =
    (sm_zb 0 ∧ Q (some (.int 0)) (sM mo G I J)) :=
  (sm_blk X 142 37 (tt_lin 142 (by decide)) rfl rfl _ _ _ _).trans rfl
set_option maxRecDepth 100000 in
theorem bkw_142_0 (X : (Nat → Int32) × Nat) (mo : Bool) (G : Nat × Nat) (I : Nat → Nat → Int32) (J : Nat → Nat → Int64) (Q : Option Value → sm_M → Prop) (x1 : Int32) :
    sm_wp X 142 0 [some (.ref 60), some (.int x1), none] [] (sM mo G I J) Q =
    (sm_wp X 142 2 [some (.ref 60), some (.int x1), some (.int 0)] [] (sM mo G I J) Q) :=
  (sm_blk X 142 0 (tt_lin 142 (by decide)) rfl rfl _ _ _ _).trans rfl
set_option maxRecDepth 100000 in
theorem bkw_142_2 (X : (Nat → Int32) × Nat) (mo : Bool) (G : Nat × Nat) (I : Nat → Nat → Int32) (J : Nat → Nat → Int64) (Q : Option Value → sm_M → Prop) (x1 : Int32) (x2 : Int32) :
    sm_wp X 142 2 [some (.ref 60), some (.int x1), some (.int x2)] [] (sM mo G I J) Q =
    (if (64 : Int32) ≤ (x2 : Int32) then sm_wp X 142 37 [some (.ref 60), some (.int x1), some (.int x2)] [] (sM mo G I J) Q else (if (lg_cmp ((((J 60 16).toUInt64 >>> (x2.toInt64.toUInt64 &&& Int64.toUInt64 63)).toInt64) &&& 1) 0 : Int32) = 0 then sm_wp X 142 31 [some (.ref 60), some (.int x1), some (.int x2)] [] (sM mo G I J) Q else (if ¬ (x1 &&& (x2 ^^^ (-1)) : Int32) = 0 then sm_wp X 142 31 [some (.ref 60), some (.int x1), some (.int x2)] [] (sM mo G I J) Q else (sm_zb 1 ∧ Q (some (.int 1)) (sM mo G I J))))) :=
  (sm_blk X 142 2 (tt_lin 142 (by decide)) rfl rfl _ _ _ _).trans rfl
set_option maxRecDepth 100000 in
theorem bkw_142_31 (X : (Nat → Int32) × Nat) (mo : Bool) (G : Nat × Nat) (I : Nat → Nat → Int32) (J : Nat → Nat → Int64) (Q : Option Value → sm_M → Prop) (x1 : Int32) (x2 : Int32) :
    sm_wp X 142 31 [some (.ref 60), some (.int x1), some (.int x2)] [] (sM mo G I J) Q =
    (sm_wp X 142 2 [some (.ref 60), some (.int x1), some (.int (x2 + 1))] [] (sM mo G I J) Q) :=
  (sm_blk X 142 31 (tt_lin 142 (by decide)) rfl rfl _ _ _ _).trans rfl
set_option maxRecDepth 100000 in
theorem bkw_142_37 (X : (Nat → Int32) × Nat) (mo : Bool) (G : Nat × Nat) (I : Nat → Nat → Int32) (J : Nat → Nat → Int64) (Q : Option Value → sm_M → Prop) (x1 : Int32) (x2 : Int32) :
    sm_wp X 142 37 [some (.ref 60), some (.int x1), some (.int x2)] [] (sM mo G I J) Q =
    (sm_zb 0 ∧ Q (some (.int 0)) (sM mo G I J)) :=
  (sm_blk X 142 37 (tt_lin 142 (by decide)) rfl rfl _ _ _ _).trans rfl
set_option maxRecDepth 100000 in
theorem bk_143_0 (X : (Nat → Int32) × Nat) (mo : Bool) (G : Nat × Nat) (I : Nat → Nat → Int32) (J : Nat → Nat → Int64) (Q : Option Value → sm_M → Prop) (x1 : Int32) (x2 : Int32) :
    sm_wp X 143 0 [some (.ref 52), some (.int x1), some (.int x2), none, none] [] (sM mo G I J) Q =
    (sm_wp X 129 0 [some (.ref 52), some (.int x1), none, none, none] [] (sM mo G I J) (fun v M => sm_wp X 143 5 [some (.ref 52), some (.int x1), some (.int x2), none, none] (v.toList ++ []) M Q)) :=
  (sm_blk X 143 0 (tt_lin 143 (by decide)) rfl rfl _ _ _ _).trans rfl
set_option maxRecDepth 100000 in
theorem bk_143_5 (X : (Nat → Int32) × Nat) (mo : Bool) (G : Nat × Nat) (I : Nat → Nat → Int32) (J : Nat → Nat → Int64) (Q : Option Value → sm_M → Prop) (x1 : Int32) (x2 : Int32) :
    sm_wp X 143 5 [some (.ref 52), some (.int x1), some (.int x2), none, none] [] (sM mo G I J) Q =
    (sm_wp X 131 0 [some (.ref 52)] [] (sM mo G I J) (fun v M => sm_wp X 143 9 [some (.ref 52), some (.int x1), some (.int x2), none, none] (v.toList ++ []) M Q)) :=
  (sm_blk X 143 5 (tt_lin 143 (by decide)) rfl rfl _ _ _ _).trans rfl
set_option maxRecDepth 100000 in
theorem bk_143_9 (X : (Nat → Int32) × Nat) (mo : Bool) (G : Nat × Nat) (I : Nat → Nat → Int32) (J : Nat → Nat → Int64) (Q : Option Value → sm_M → Prop) (x1 : Int32) (x2 : Int32) (s0 : Int32) :
    sm_wp X 143 9 [some (.ref 52), some (.int x1), some (.int x2), none, none] [.int s0] (sM mo G I J) Q =
    (if (s0 : Int32) = 0 then sm_wp X 143 14 [some (.ref 52), some (.int x1), some (.int x2), none, none] [] (sM mo G I J) Q else (True ∧ Q (some (.int (-1))) (sM mo G I J))) :=
  (sm_blk X 143 9 (tt_lin 143 (by decide)) rfl rfl _ _ _ _).trans rfl
set_option maxRecDepth 100000 in
theorem bk_143_14 (X : (Nat → Int32) × Nat) (mo : Bool) (G : Nat × Nat) (I : Nat → Nat → Int32) (J : Nat → Nat → Int64) (Q : Option Value → sm_M → Prop) (x1 : Int32) (x2 : Int32) :
    sm_wp X 143 14 [some (.ref 52), some (.int x1), some (.int x2), none, none] [] (sM mo G I J) Q =
    (sm_wp X 143 16 [some (.ref 52), none, some (.int x2), some (.int 0), none] [] (sM mo G I J) Q) :=
  (sm_blk X 143 14 (tt_lin 143 (by decide)) rfl rfl _ _ _ _).trans rfl
set_option maxRecDepth 100000 in
theorem bk_143_16 (X : (Nat → Int32) × Nat) (mo : Bool) (G : Nat × Nat) (I : Nat → Nat → Int32) (J : Nat → Nat → Int64) (Q : Option Value → sm_M → Prop) (x2 : Int32) (x3 : Int32) :
    sm_wp X 143 16 [some (.ref 52), none, some (.int x2), some (.int x3), none] [] (sM mo G I J) Q =
    (if (I 52 5 : Int32) ≤ (x3 : Int32) then sm_wp X 143 69 [some (.ref 52), none, some (.int x2), some (.int x3), none] [] (sM mo G I J) Q else (if (8 : Int32) ≤ (x3 : Int32) then sm_wp X 143 69 [some (.ref 52), none, some (.int x2), some (.int x3), none] [] (sM mo G I J) Q else (vp_in x3 8 ∧ (sm_wp X 169 0 [some (.int (I 54 (x3.toNatClampNeg))), some (.int (((x2.toUInt32 >>> ((3 * x3).toUInt32 &&& Int32.toUInt32 31)).toInt32) &&& 7))] [] (sM mo G I J) (fun v M => sm_wp X 143 51 [some (.ref 52), none, some (.int x2), some (.int x3), some (.int (((x2.toUInt32 >>> ((3 * x3).toUInt32 &&& Int32.toUInt32 31)).toInt32) &&& 7))] (v.toList ++ []) M Q))))) :=
  (sm_blk X 143 16 (tt_lin 143 (by decide)) rfl rfl _ _ _ _).trans rfl
set_option maxRecDepth 100000 in
theorem bk_143_51 (X : (Nat → Int32) × Nat) (mo : Bool) (G : Nat × Nat) (I : Nat → Nat → Int32) (J : Nat → Nat → Int64) (Q : Option Value → sm_M → Prop) (x2 : Int32) (x3 : Int32) (x4 : Int32) (s0 : Int32) :
    sm_wp X 143 51 [some (.ref 52), none, some (.int x2), some (.int x3), some (.int x4)] [.int s0] (sM mo G I J) Q =
    (if ¬ (s0 : Int32) = 0 then sm_wp X 143 56 [some (.ref 52), none, some (.int x2), some (.int x3), some (.int x4)] [] (sM mo G I J) Q else (True ∧ Q (some (.int 0)) (sM mo G I J))) :=
  (sm_blk X 143 51 (tt_lin 143 (by decide)) rfl rfl _ _ _ _).trans rfl
set_option maxRecDepth 100000 in
theorem bk_143_56 (X : (Nat → Int32) × Nat) (mo : Bool) (G : Nat × Nat) (I : Nat → Nat → Int32) (J : Nat → Nat → Int64) (Q : Option Value → sm_M → Prop) (x2 : Int32) (x3 : Int32) (x4 : Int32) :
    sm_wp X 143 56 [some (.ref 52), none, some (.int x2), some (.int x3), some (.int x4)] [] (sM mo G I J) Q =
    (sm_wp X 133 0 [some (.ref 52), some (.int x3), some (.int x4)] [] (sM mo G I J) (fun v M => sm_wp X 143 63 [some (.ref 52), none, some (.int x2), some (.int x3), some (.int x4)] (v.toList ++ []) M Q)) :=
  (sm_blk X 143 56 (tt_lin 143 (by decide)) rfl rfl _ _ _ _).trans rfl
set_option maxRecDepth 100000 in
theorem bk_143_63 (X : (Nat → Int32) × Nat) (mo : Bool) (G : Nat × Nat) (I : Nat → Nat → Int32) (J : Nat → Nat → Int64) (Q : Option Value → sm_M → Prop) (x2 : Int32) (x3 : Int32) (x4 : Int32) :
    sm_wp X 143 63 [some (.ref 52), none, some (.int x2), some (.int x3), some (.int x4)] [] (sM mo G I J) Q =
    (sm_wp X 143 16 [some (.ref 52), none, some (.int x2), some (.int (x3 + 1)), none] [] (sM mo G I J) Q) :=
  (sm_blk X 143 63 (tt_lin 143 (by decide)) rfl rfl _ _ _ _).trans rfl
set_option maxRecDepth 100000 in
theorem bk_143_69 (X : (Nat → Int32) × Nat) (mo : Bool) (G : Nat × Nat) (I : Nat → Nat → Int32) (J : Nat → Nat → Int64) (Q : Option Value → sm_M → Prop) (x2 : Int32) (x3 : Int32) :
    sm_wp X 143 69 [some (.ref 52), none, some (.int x2), some (.int x3), none] [] (sM mo G I J) Q =
    (if (I 52 12 : Int32) = (I 52 2 : Int32) then sm_wp X 143 82 [some (.ref 52), none, some (.int x2), some (.int x3), none] [] (sM mo G I J) Q else (True ∧ Q (some (.int 1)) (sM mo G I J))) :=
  (sm_blk X 143 69 (tt_lin 143 (by decide)) rfl rfl _ _ _ _).trans rfl
set_option maxRecDepth 100000 in
theorem bk_143_82 (X : (Nat → Int32) × Nat) (mo : Bool) (G : Nat × Nat) (I : Nat → Nat → Int32) (J : Nat → Nat → Int64) (Q : Option Value → sm_M → Prop) (x2 : Int32) (x3 : Int32) :
    sm_wp X 143 82 [some (.ref 52), none, some (.int x2), some (.int x3), none] [] (sM mo G I J) Q =
    (sm_wp X 135 0 [some (.ref 52), none, none, none] [] (sM mo G I J) (fun v M => sm_wp X 143 86 [some (.ref 52), none, some (.int x2), some (.int x3), none] (v.toList ++ []) M Q)) :=
  (sm_blk X 143 82 (tt_lin 143 (by decide)) rfl rfl _ _ _ _).trans rfl
set_option maxRecDepth 100000 in
theorem bk_143_86 (X : (Nat → Int32) × Nat) (mo : Bool) (G : Nat × Nat) (I : Nat → Nat → Int32) (J : Nat → Nat → Int64) (Q : Option Value → sm_M → Prop) (x2 : Int32) (x3 : Int32) (s0 : Int32) :
    sm_wp X 143 86 [some (.ref 52), none, some (.int x2), some (.int x3), none] [.int s0] (sM mo G I J) Q =
    (if (s0 : Int32) = 0 then sm_wp X 143 93 [some (.ref 52), none, some (.int x2), some (.int x3), none] [] (sM mo G I J) Q else (sm_wp X 143 94 [some (.ref 52), none, some (.int x2), some (.int x3), none] [.int 3] (sM mo G I J) Q)) :=
  (sm_blk X 143 86 (tt_lin 143 (by decide)) rfl rfl _ _ _ _).trans rfl
set_option maxRecDepth 100000 in
theorem bk_143_93 (X : (Nat → Int32) × Nat) (mo : Bool) (G : Nat × Nat) (I : Nat → Nat → Int32) (J : Nat → Nat → Int64) (Q : Option Value → sm_M → Prop) (x2 : Int32) (x3 : Int32) :
    sm_wp X 143 93 [some (.ref 52), none, some (.int x2), some (.int x3), none] [] (sM mo G I J) Q =
    (True ∧ Q (some (.int 2)) (sM mo G I J)) :=
  (sm_blk X 143 93 (tt_lin 143 (by decide)) rfl rfl _ _ _ _).trans rfl
set_option maxRecDepth 100000 in
theorem bk_143_94 (X : (Nat → Int32) × Nat) (mo : Bool) (G : Nat × Nat) (I : Nat → Nat → Int32) (J : Nat → Nat → Int64) (Q : Option Value → sm_M → Prop) (x2 : Int32) (x3 : Int32) (s0 : Int32) :
    sm_wp X 143 94 [some (.ref 52), none, some (.int x2), some (.int x3), none] [.int s0] (sM mo G I J) Q =
    (True ∧ Q (some (.int s0)) (sM mo G I J)) :=
  (sm_blk X 143 94 (tt_lin 143 (by decide)) rfl rfl _ _ _ _).trans rfl
set_option maxRecDepth 100000 in
theorem bkw_143_0 (X : (Nat → Int32) × Nat) (mo : Bool) (G : Nat × Nat) (I : Nat → Nat → Int32) (J : Nat → Nat → Int64) (Q : Option Value → sm_M → Prop) (x1 : Int32) (x2 : Int32) :
    sm_wp X 143 0 [some (.ref 60), some (.int x1), some (.int x2), none, none] [] (sM mo G I J) Q =
    (sm_wp X 129 0 [some (.ref 60), some (.int x1), none, none, none] [] (sM mo G I J) (fun v M => sm_wp X 143 5 [some (.ref 60), some (.int x1), some (.int x2), none, none] (v.toList ++ []) M Q)) :=
  (sm_blk X 143 0 (tt_lin 143 (by decide)) rfl rfl _ _ _ _).trans rfl
set_option maxRecDepth 100000 in
theorem bkw_143_5 (X : (Nat → Int32) × Nat) (mo : Bool) (G : Nat × Nat) (I : Nat → Nat → Int32) (J : Nat → Nat → Int64) (Q : Option Value → sm_M → Prop) (x1 : Int32) (x2 : Int32) :
    sm_wp X 143 5 [some (.ref 60), some (.int x1), some (.int x2), none, none] [] (sM mo G I J) Q =
    (sm_wp X 131 0 [some (.ref 60)] [] (sM mo G I J) (fun v M => sm_wp X 143 9 [some (.ref 60), some (.int x1), some (.int x2), none, none] (v.toList ++ []) M Q)) :=
  (sm_blk X 143 5 (tt_lin 143 (by decide)) rfl rfl _ _ _ _).trans rfl
set_option maxRecDepth 100000 in
theorem bkw_143_9 (X : (Nat → Int32) × Nat) (mo : Bool) (G : Nat × Nat) (I : Nat → Nat → Int32) (J : Nat → Nat → Int64) (Q : Option Value → sm_M → Prop) (x1 : Int32) (x2 : Int32) (s0 : Int32) :
    sm_wp X 143 9 [some (.ref 60), some (.int x1), some (.int x2), none, none] [.int s0] (sM mo G I J) Q =
    (if (s0 : Int32) = 0 then sm_wp X 143 14 [some (.ref 60), some (.int x1), some (.int x2), none, none] [] (sM mo G I J) Q else (True ∧ Q (some (.int (-1))) (sM mo G I J))) :=
  (sm_blk X 143 9 (tt_lin 143 (by decide)) rfl rfl _ _ _ _).trans rfl
set_option maxRecDepth 100000 in
theorem bkw_143_14 (X : (Nat → Int32) × Nat) (mo : Bool) (G : Nat × Nat) (I : Nat → Nat → Int32) (J : Nat → Nat → Int64) (Q : Option Value → sm_M → Prop) (x1 : Int32) (x2 : Int32) :
    sm_wp X 143 14 [some (.ref 60), some (.int x1), some (.int x2), none, none] [] (sM mo G I J) Q =
    (sm_wp X 143 16 [some (.ref 60), none, some (.int x2), some (.int 0), none] [] (sM mo G I J) Q) :=
  (sm_blk X 143 14 (tt_lin 143 (by decide)) rfl rfl _ _ _ _).trans rfl
set_option maxRecDepth 100000 in
theorem bkw_143_16 (X : (Nat → Int32) × Nat) (mo : Bool) (G : Nat × Nat) (I : Nat → Nat → Int32) (J : Nat → Nat → Int64) (Q : Option Value → sm_M → Prop) (x2 : Int32) (x3 : Int32) :
    sm_wp X 143 16 [some (.ref 60), none, some (.int x2), some (.int x3), none] [] (sM mo G I J) Q =
    (if (I 60 5 : Int32) ≤ (x3 : Int32) then sm_wp X 143 69 [some (.ref 60), none, some (.int x2), some (.int x3), none] [] (sM mo G I J) Q else (if (8 : Int32) ≤ (x3 : Int32) then sm_wp X 143 69 [some (.ref 60), none, some (.int x2), some (.int x3), none] [] (sM mo G I J) Q else (vp_in x3 8 ∧ (sm_wp X 169 0 [some (.int (I 62 (x3.toNatClampNeg))), some (.int (((x2.toUInt32 >>> ((3 * x3).toUInt32 &&& Int32.toUInt32 31)).toInt32) &&& 7))] [] (sM mo G I J) (fun v M => sm_wp X 143 51 [some (.ref 60), none, some (.int x2), some (.int x3), some (.int (((x2.toUInt32 >>> ((3 * x3).toUInt32 &&& Int32.toUInt32 31)).toInt32) &&& 7))] (v.toList ++ []) M Q))))) :=
  (sm_blk X 143 16 (tt_lin 143 (by decide)) rfl rfl _ _ _ _).trans rfl
set_option maxRecDepth 100000 in
theorem bkw_143_51 (X : (Nat → Int32) × Nat) (mo : Bool) (G : Nat × Nat) (I : Nat → Nat → Int32) (J : Nat → Nat → Int64) (Q : Option Value → sm_M → Prop) (x2 : Int32) (x3 : Int32) (x4 : Int32) (s0 : Int32) :
    sm_wp X 143 51 [some (.ref 60), none, some (.int x2), some (.int x3), some (.int x4)] [.int s0] (sM mo G I J) Q =
    (if ¬ (s0 : Int32) = 0 then sm_wp X 143 56 [some (.ref 60), none, some (.int x2), some (.int x3), some (.int x4)] [] (sM mo G I J) Q else (True ∧ Q (some (.int 0)) (sM mo G I J))) :=
  (sm_blk X 143 51 (tt_lin 143 (by decide)) rfl rfl _ _ _ _).trans rfl
set_option maxRecDepth 100000 in
theorem bkw_143_56 (X : (Nat → Int32) × Nat) (mo : Bool) (G : Nat × Nat) (I : Nat → Nat → Int32) (J : Nat → Nat → Int64) (Q : Option Value → sm_M → Prop) (x2 : Int32) (x3 : Int32) (x4 : Int32) :
    sm_wp X 143 56 [some (.ref 60), none, some (.int x2), some (.int x3), some (.int x4)] [] (sM mo G I J) Q =
    (sm_wp X 133 0 [some (.ref 60), some (.int x3), some (.int x4)] [] (sM mo G I J) (fun v M => sm_wp X 143 63 [some (.ref 60), none, some (.int x2), some (.int x3), some (.int x4)] (v.toList ++ []) M Q)) :=
  (sm_blk X 143 56 (tt_lin 143 (by decide)) rfl rfl _ _ _ _).trans rfl
set_option maxRecDepth 100000 in
theorem bkw_143_63 (X : (Nat → Int32) × Nat) (mo : Bool) (G : Nat × Nat) (I : Nat → Nat → Int32) (J : Nat → Nat → Int64) (Q : Option Value → sm_M → Prop) (x2 : Int32) (x3 : Int32) (x4 : Int32) :
    sm_wp X 143 63 [some (.ref 60), none, some (.int x2), some (.int x3), some (.int x4)] [] (sM mo G I J) Q =
    (sm_wp X 143 16 [some (.ref 60), none, some (.int x2), some (.int (x3 + 1)), none] [] (sM mo G I J) Q) :=
  (sm_blk X 143 63 (tt_lin 143 (by decide)) rfl rfl _ _ _ _).trans rfl
set_option maxRecDepth 100000 in
theorem bkw_143_69 (X : (Nat → Int32) × Nat) (mo : Bool) (G : Nat × Nat) (I : Nat → Nat → Int32) (J : Nat → Nat → Int64) (Q : Option Value → sm_M → Prop) (x2 : Int32) (x3 : Int32) :
    sm_wp X 143 69 [some (.ref 60), none, some (.int x2), some (.int x3), none] [] (sM mo G I J) Q =
    (if (I 60 12 : Int32) = (I 60 2 : Int32) then sm_wp X 143 82 [some (.ref 60), none, some (.int x2), some (.int x3), none] [] (sM mo G I J) Q else (True ∧ Q (some (.int 1)) (sM mo G I J))) :=
  (sm_blk X 143 69 (tt_lin 143 (by decide)) rfl rfl _ _ _ _).trans rfl
set_option maxRecDepth 100000 in
theorem bkw_143_82 (X : (Nat → Int32) × Nat) (mo : Bool) (G : Nat × Nat) (I : Nat → Nat → Int32) (J : Nat → Nat → Int64) (Q : Option Value → sm_M → Prop) (x2 : Int32) (x3 : Int32) :
    sm_wp X 143 82 [some (.ref 60), none, some (.int x2), some (.int x3), none] [] (sM mo G I J) Q =
    (sm_wp X 135 0 [some (.ref 60), none, none, none] [] (sM mo G I J) (fun v M => sm_wp X 143 86 [some (.ref 60), none, some (.int x2), some (.int x3), none] (v.toList ++ []) M Q)) :=
  (sm_blk X 143 82 (tt_lin 143 (by decide)) rfl rfl _ _ _ _).trans rfl
set_option maxRecDepth 100000 in
theorem bkw_143_86 (X : (Nat → Int32) × Nat) (mo : Bool) (G : Nat × Nat) (I : Nat → Nat → Int32) (J : Nat → Nat → Int64) (Q : Option Value → sm_M → Prop) (x2 : Int32) (x3 : Int32) (s0 : Int32) :
    sm_wp X 143 86 [some (.ref 60), none, some (.int x2), some (.int x3), none] [.int s0] (sM mo G I J) Q =
    (if (s0 : Int32) = 0 then sm_wp X 143 93 [some (.ref 60), none, some (.int x2), some (.int x3), none] [] (sM mo G I J) Q else (sm_wp X 143 94 [some (.ref 60), none, some (.int x2), some (.int x3), none] [.int 3] (sM mo G I J) Q)) :=
  (sm_blk X 143 86 (tt_lin 143 (by decide)) rfl rfl _ _ _ _).trans rfl
set_option maxRecDepth 100000 in
theorem bkw_143_93 (X : (Nat → Int32) × Nat) (mo : Bool) (G : Nat × Nat) (I : Nat → Nat → Int32) (J : Nat → Nat → Int64) (Q : Option Value → sm_M → Prop) (x2 : Int32) (x3 : Int32) :
    sm_wp X 143 93 [some (.ref 60), none, some (.int x2), some (.int x3), none] [] (sM mo G I J) Q =
    (True ∧ Q (some (.int 2)) (sM mo G I J)) :=
  (sm_blk X 143 93 (tt_lin 143 (by decide)) rfl rfl _ _ _ _).trans rfl
set_option maxRecDepth 100000 in
theorem bkw_143_94 (X : (Nat → Int32) × Nat) (mo : Bool) (G : Nat × Nat) (I : Nat → Nat → Int32) (J : Nat → Nat → Int64) (Q : Option Value → sm_M → Prop) (x2 : Int32) (x3 : Int32) (s0 : Int32) :
    sm_wp X 143 94 [some (.ref 60), none, some (.int x2), some (.int x3), none] [.int s0] (sM mo G I J) Q =
    (True ∧ Q (some (.int s0)) (sM mo G I J)) :=
  (sm_blk X 143 94 (tt_lin 143 (by decide)) rfl rfl _ _ _ _).trans rfl
end
section
set_option maxRecDepth 100000 in
theorem bk_145_0 (X : (Nat → Int32) × Nat) (G : Nat × Nat) (I : Nat → Nat → Int32) (J : Nat → Nat → Int64) (Q : Option Value → sm_M → Prop)  :
    sm_wp X 145 0 [some (.ref 48), none, none, none] [] (sM true G I J) Q =
    (if ¬ (I 48 1 : Int32) = (I 1 4 : Int32) then sm_wp X 145 19 [some (.ref 48), none, none, none] [] (sM true G I J) Q else (True ∧ Q (some (.int (I 48 2))) (sM true G I J))) :=
  (sm_blk X 145 0 (tt_lin 145 (by decide)) rfl rfl _ _ _ _).trans rfl
-- Shar_rivalPairs 145 at 19: newarray
set_option maxRecDepth 100000 in
theorem bk_145_55 (X : (Nat → Int32) × Nat) (G : Nat × Nat) (I : Nat → Nat → Int32) (J : Nat → Nat → Int64) (Q : Option Value → sm_M → Prop)  :
    sm_wp X 145 55 [some (.ref 48), none, none, none] [] (sM true G I J) Q =
    (sm_wp X 145 59 [some (.ref 48), some (.int 0), some (.int 1), none] [] (sM true G I J) Q) :=
  (sm_blk X 145 55 (tt_lin 145 (by decide)) rfl rfl _ _ _ _).trans rfl
set_option maxRecDepth 100000 in
theorem bk_145_59 (X : (Nat → Int32) × Nat) (G : Nat × Nat) (I : Nat → Nat → Int32) (J : Nat → Nat → Int64) (Q : Option Value → sm_M → Prop) (x1 : Int32) (x2 : Int32) :
    sm_wp X 145 59 [some (.ref 48), some (.int x1), some (.int x2), none] [] (sM true G I J) Q =
    (if (I 1 1 : Int32) ≤ (x2 : Int32) then sm_wp X 145 138 [some (.ref 48), some (.int x1), some (.int x2), none] [] (sM true G I J) Q else (sm_wp X 145 72 [some (.ref 48), some (.int x1), some (.int x2), some (.int 0)] [] (sM true G I J) Q)) :=
  (sm_blk X 145 59 (tt_lin 145 (by decide)) rfl rfl _ _ _ _).trans rfl
set_option maxRecDepth 100000 in
theorem bk_145_72 (X : (Nat → Int32) × Nat) (G : Nat × Nat) (I : Nat → Nat → Int32) (J : Nat → Nat → Int64) (Q : Option Value → sm_M → Prop) (x1 : Int32) (x2 : Int32) (x3 : Int32) :
    sm_wp X 145 72 [some (.ref 48), some (.int x1), some (.int x2), some (.int x3)] [] (sM true G I J) Q =
    (if (x2 : Int32) ≤ (x3 : Int32) then sm_wp X 145 132 [some (.ref 48), some (.int x1), some (.int x2), some (.int x3)] [] (sM true G I J) Q else (sm_wp X 146 0 [some (.ref 48), some (.int x1), some (.int x3), some (.int x2), none, none, none, none, none] [] (sM true G I J) (fun v M => sm_wp X 145 84 [some (.ref 48), some (.int x1), some (.int x2), some (.int x3)] (v.toList ++ []) M Q))) :=
  (sm_blk X 145 72 (tt_lin 145 (by decide)) rfl rfl _ _ _ _).trans rfl
set_option maxRecDepth 100000 in
theorem bk_145_84 (X : (Nat → Int32) × Nat) (G : Nat × Nat) (I : Nat → Nat → Int32) (J : Nat → Nat → Int64) (Q : Option Value → sm_M → Prop) (x1 : Int32) (x2 : Int32) (x3 : Int32) (s0 : Int32) :
    sm_wp X 145 84 [some (.ref 48), some (.int x1), some (.int x2), some (.int x3)] [.int s0] (sM true G I J) Q =
    (sm_wp X 111 0 [some (.ref 1), some (.int x3)] [] (sM true G I J) (fun v M => sm_wp X 145 96 [some (.ref 48), some (.int s0), some (.int x2), some (.int x3)] (v.toList ++ [.int x2, .int x3, .ref 48]) M Q)) :=
  (sm_blk X 145 84 (tt_lin 145 (by decide)) rfl rfl _ _ _ _).trans rfl
set_option maxRecDepth 100000 in
theorem bk_145_96 (X : (Nat → Int32) × Nat) (G : Nat × Nat) (I : Nat → Nat → Int32) (J : Nat → Nat → Int64) (Q : Option Value → sm_M → Prop) (x1 : Int32) (x2 : Int32) (x3 : Int32) (s1 : Int32) (s2 : Int32) (s3 : Int32) :
    sm_wp X 145 96 [some (.ref 48), some (.int x1), some (.int x2), some (.int x3)] [.int s3, .int s2, .int s1, .ref 48] (sM true G I J) Q =
    (sm_wp X 111 0 [some (.ref 1), some (.int x2)] [] (sM true G I J) (fun v M => sm_wp X 145 104 [some (.ref 48), some (.int x1), some (.int x2), some (.int x3)] (v.toList ++ [.int s3, .int s2, .int s1, .ref 48]) M Q)) :=
  (sm_blk X 145 96 (tt_lin 145 (by decide)) rfl rfl _ _ _ _).trans rfl
set_option maxRecDepth 100000 in
theorem bk_145_104 (X : (Nat → Int32) × Nat) (G : Nat × Nat) (I : Nat → Nat → Int32) (J : Nat → Nat → Int64) (Q : Option Value → sm_M → Prop) (x1 : Int32) (x2 : Int32) (x3 : Int32) (s1 : Int32) (s2 : Int32) (s3 : Int32) (s4 : Int32) :
    sm_wp X 145 104 [some (.ref 48), some (.int x1), some (.int x2), some (.int x3)] [.int s4, .int s3, .int s2, .int s1, .ref 48] (sM true G I J) Q =
    (sm_wp X 149 0 [some (.ref 48), some (.int s1), some (.int s2), some (.int s3), some (.int s4), none, none] [] (sM true G I J) (fun v M => sm_wp X 145 107 [some (.ref 48), some (.int x1), some (.int x2), some (.int x3)] (v.toList ++ []) M Q)) :=
  (sm_blk X 145 104 (tt_lin 145 (by decide)) rfl rfl _ _ _ _).trans rfl
set_option maxRecDepth 100000 in
theorem bk_145_107 (X : (Nat → Int32) × Nat) (G : Nat × Nat) (I : Nat → Nat → Int32) (J : Nat → Nat → Int64) (Q : Option Value → sm_M → Prop) (x1 : Int32) (x2 : Int32) (x3 : Int32) (s0 : Int32) :
    sm_wp X 145 107 [some (.ref 48), some (.int x1), some (.int x2), some (.int x3)] [.int s0] (sM true G I J) Q =
    (if (s0 : Int32) = 0 then sm_wp X 145 126 [some (.ref 48), some (.int x1), some (.int x2), some (.int x3)] [] (sM true G I J) Q else (sm_wp X 147 0 [some (.int x3), some (.int x2)] [] (sM true G I J) (fun v M => sm_wp X 145 121 [some (.ref 48), some (.int x1), some (.int x2), some (.int x3)] (v.toList ++ [.int 1, .int (I 48 2), .ref 48]) M Q))) :=
  (sm_blk X 145 107 (tt_lin 145 (by decide)) rfl rfl _ _ _ _).trans rfl
set_option maxRecDepth 100000 in
theorem bk_145_121 (X : (Nat → Int32) × Nat) (G : Nat × Nat) (I : Nat → Nat → Int32) (J : Nat → Nat → Int64) (Q : Option Value → sm_M → Prop) (x1 : Int32) (x2 : Int32) (x3 : Int32) (s1 : Int32) (s2 : Int32) (s3 : Int32) :
    sm_wp X 145 121 [some (.ref 48), some (.int x1), some (.int x2), some (.int x3)] [.int s3, .int s2, .int s1, .ref 48] (sM true G I J) Q =
    (sm_wp X 145 72 [some (.ref 48), some (.int x1), some (.int x2), some (.int (x3 + 1))] [] (sM true G (up2 I 48 2 (s1 ||| (s2 <<< (s3 &&& 31)))) J) Q) :=
  (sm_blk X 145 121 (tt_lin 145 (by decide)) rfl rfl _ _ _ _).trans rfl
set_option maxRecDepth 100000 in
theorem bk_145_126 (X : (Nat → Int32) × Nat) (G : Nat × Nat) (I : Nat → Nat → Int32) (J : Nat → Nat → Int64) (Q : Option Value → sm_M → Prop) (x1 : Int32) (x2 : Int32) (x3 : Int32) :
    sm_wp X 145 126 [some (.ref 48), some (.int x1), some (.int x2), some (.int x3)] [] (sM true G I J) Q =
    (sm_wp X 145 72 [some (.ref 48), some (.int x1), some (.int x2), some (.int (x3 + 1))] [] (sM true G I J) Q) :=
  (sm_blk X 145 126 (tt_lin 145 (by decide)) rfl rfl _ _ _ _).trans rfl
set_option maxRecDepth 100000 in
theorem bk_145_132 (X : (Nat → Int32) × Nat) (G : Nat × Nat) (I : Nat → Nat → Int32) (J : Nat → Nat → Int64) (Q : Option Value → sm_M → Prop) (x1 : Int32) (x2 : Int32) (x3 : Int32) :
    sm_wp X 145 132 [some (.ref 48), some (.int x1), some (.int x2), some (.int x3)] [] (sM true G I J) Q =
    (sm_wp X 145 59 [some (.ref 48), some (.int x1), some (.int (x2 + 1)), none] [] (sM true G I J) Q) :=
  (sm_blk X 145 132 (tt_lin 145 (by decide)) rfl rfl _ _ _ _).trans rfl
set_option maxRecDepth 100000 in
theorem bk_145_138 (X : (Nat → Int32) × Nat) (G : Nat × Nat) (I : Nat → Nat → Int32) (J : Nat → Nat → Int64) (Q : Option Value → sm_M → Prop) (x1 : Int32) (x2 : Int32) :
    sm_wp X 145 138 [some (.ref 48), some (.int x1), some (.int x2), none] [] (sM true G I J) Q =
    (True ∧ Q (some (.int (I 48 2))) (sM true G I J)) :=
  (sm_blk X 145 138 (tt_lin 145 (by decide)) rfl rfl _ _ _ _).trans rfl
set_option maxRecDepth 100000 in
theorem bkf_145_0 (X : (Nat → Int32) × Nat) (G : Nat × Nat) (I : Nat → Nat → Int32) (J : Nat → Nat → Int64) (Q : Option Value → sm_M → Prop)  :
    sm_wp X 145 0 [some (.ref 48), none, none, none] [] (sM false G I J) Q =
    (if ¬ (I 48 1 : Int32) = (I 1 4 : Int32) then sm_wp X 145 19 [some (.ref 48), none, none, none] [] (sM false G I J) Q else (True ∧ Q (some (.int (I 48 2))) (sM false G I J))) :=
  (sm_blk X 145 0 (tt_lin 145 (by decide)) rfl rfl _ _ _ _).trans rfl
-- Shar_rivalPairs 145 at 19: newarray
set_option maxRecDepth 100000 in
theorem bkf_145_55 (X : (Nat → Int32) × Nat) (G : Nat × Nat) (I : Nat → Nat → Int32) (J : Nat → Nat → Int64) (Q : Option Value → sm_M → Prop)  :
    sm_wp X 145 55 [some (.ref 48), none, none, none] [] (sM false G I J) Q =
    (sm_wp X 145 59 [some (.ref 48), some (.int 0), some (.int 1), none] [] (sM false G I J) Q) :=
  (sm_blk X 145 55 (tt_lin 145 (by decide)) rfl rfl _ _ _ _).trans rfl
set_option maxRecDepth 100000 in
theorem bkf_145_59 (X : (Nat → Int32) × Nat) (G : Nat × Nat) (I : Nat → Nat → Int32) (J : Nat → Nat → Int64) (Q : Option Value → sm_M → Prop) (x1 : Int32) (x2 : Int32) :
    sm_wp X 145 59 [some (.ref 48), some (.int x1), some (.int x2), none] [] (sM false G I J) Q =
    (if (I 1 1 : Int32) ≤ (x2 : Int32) then sm_wp X 145 138 [some (.ref 48), some (.int x1), some (.int x2), none] [] (sM false G I J) Q else (sm_wp X 145 72 [some (.ref 48), some (.int x1), some (.int x2), some (.int 0)] [] (sM false G I J) Q)) :=
  (sm_blk X 145 59 (tt_lin 145 (by decide)) rfl rfl _ _ _ _).trans rfl
set_option maxRecDepth 100000 in
theorem bkf_145_72 (X : (Nat → Int32) × Nat) (G : Nat × Nat) (I : Nat → Nat → Int32) (J : Nat → Nat → Int64) (Q : Option Value → sm_M → Prop) (x1 : Int32) (x2 : Int32) (x3 : Int32) :
    sm_wp X 145 72 [some (.ref 48), some (.int x1), some (.int x2), some (.int x3)] [] (sM false G I J) Q =
    (if (x2 : Int32) ≤ (x3 : Int32) then sm_wp X 145 132 [some (.ref 48), some (.int x1), some (.int x2), some (.int x3)] [] (sM false G I J) Q else (sm_wp X 146 0 [some (.ref 48), some (.int x1), some (.int x3), some (.int x2), none, none, none, none, none] [] (sM false G I J) (fun v M => sm_wp X 145 84 [some (.ref 48), some (.int x1), some (.int x2), some (.int x3)] (v.toList ++ []) M Q))) :=
  (sm_blk X 145 72 (tt_lin 145 (by decide)) rfl rfl _ _ _ _).trans rfl
set_option maxRecDepth 100000 in
theorem bkf_145_84 (X : (Nat → Int32) × Nat) (G : Nat × Nat) (I : Nat → Nat → Int32) (J : Nat → Nat → Int64) (Q : Option Value → sm_M → Prop) (x1 : Int32) (x2 : Int32) (x3 : Int32) (s0 : Int32) :
    sm_wp X 145 84 [some (.ref 48), some (.int x1), some (.int x2), some (.int x3)] [.int s0] (sM false G I J) Q =
    (sm_wp X 111 0 [some (.ref 1), some (.int x3)] [] (sM false G I J) (fun v M => sm_wp X 145 96 [some (.ref 48), some (.int s0), some (.int x2), some (.int x3)] (v.toList ++ [.int x2, .int x3, .ref 48]) M Q)) :=
  (sm_blk X 145 84 (tt_lin 145 (by decide)) rfl rfl _ _ _ _).trans rfl
set_option maxRecDepth 100000 in
theorem bkf_145_96 (X : (Nat → Int32) × Nat) (G : Nat × Nat) (I : Nat → Nat → Int32) (J : Nat → Nat → Int64) (Q : Option Value → sm_M → Prop) (x1 : Int32) (x2 : Int32) (x3 : Int32) (s1 : Int32) (s2 : Int32) (s3 : Int32) :
    sm_wp X 145 96 [some (.ref 48), some (.int x1), some (.int x2), some (.int x3)] [.int s3, .int s2, .int s1, .ref 48] (sM false G I J) Q =
    (sm_wp X 111 0 [some (.ref 1), some (.int x2)] [] (sM false G I J) (fun v M => sm_wp X 145 104 [some (.ref 48), some (.int x1), some (.int x2), some (.int x3)] (v.toList ++ [.int s3, .int s2, .int s1, .ref 48]) M Q)) :=
  (sm_blk X 145 96 (tt_lin 145 (by decide)) rfl rfl _ _ _ _).trans rfl
set_option maxRecDepth 100000 in
theorem bkf_145_104 (X : (Nat → Int32) × Nat) (G : Nat × Nat) (I : Nat → Nat → Int32) (J : Nat → Nat → Int64) (Q : Option Value → sm_M → Prop) (x1 : Int32) (x2 : Int32) (x3 : Int32) (s1 : Int32) (s2 : Int32) (s3 : Int32) (s4 : Int32) :
    sm_wp X 145 104 [some (.ref 48), some (.int x1), some (.int x2), some (.int x3)] [.int s4, .int s3, .int s2, .int s1, .ref 48] (sM false G I J) Q =
    (sm_wp X 149 0 [some (.ref 48), some (.int s1), some (.int s2), some (.int s3), some (.int s4), none, none] [] (sM false G I J) (fun v M => sm_wp X 145 107 [some (.ref 48), some (.int x1), some (.int x2), some (.int x3)] (v.toList ++ []) M Q)) :=
  (sm_blk X 145 104 (tt_lin 145 (by decide)) rfl rfl _ _ _ _).trans rfl
set_option maxRecDepth 100000 in
theorem bkf_145_107 (X : (Nat → Int32) × Nat) (G : Nat × Nat) (I : Nat → Nat → Int32) (J : Nat → Nat → Int64) (Q : Option Value → sm_M → Prop) (x1 : Int32) (x2 : Int32) (x3 : Int32) (s0 : Int32) :
    sm_wp X 145 107 [some (.ref 48), some (.int x1), some (.int x2), some (.int x3)] [.int s0] (sM false G I J) Q =
    (if (s0 : Int32) = 0 then sm_wp X 145 126 [some (.ref 48), some (.int x1), some (.int x2), some (.int x3)] [] (sM false G I J) Q else (sm_wp X 147 0 [some (.int x3), some (.int x2)] [] (sM false G I J) (fun v M => sm_wp X 145 121 [some (.ref 48), some (.int x1), some (.int x2), some (.int x3)] (v.toList ++ [.int 1, .int (I 48 2), .ref 48]) M Q))) :=
  (sm_blk X 145 107 (tt_lin 145 (by decide)) rfl rfl _ _ _ _).trans rfl
set_option maxRecDepth 100000 in
theorem bkf_145_121 (X : (Nat → Int32) × Nat) (G : Nat × Nat) (I : Nat → Nat → Int32) (J : Nat → Nat → Int64) (Q : Option Value → sm_M → Prop) (x1 : Int32) (x2 : Int32) (x3 : Int32) (s1 : Int32) (s2 : Int32) (s3 : Int32) :
    sm_wp X 145 121 [some (.ref 48), some (.int x1), some (.int x2), some (.int x3)] [.int s3, .int s2, .int s1, .ref 48] (sM false G I J) Q =
    (sm_wp X 145 72 [some (.ref 48), some (.int x1), some (.int x2), some (.int (x3 + 1))] [] (sM false G (up2 I 48 2 (s1 ||| (s2 <<< (s3 &&& 31)))) J) Q) :=
  (sm_blk X 145 121 (tt_lin 145 (by decide)) rfl rfl _ _ _ _).trans rfl
set_option maxRecDepth 100000 in
theorem bkf_145_126 (X : (Nat → Int32) × Nat) (G : Nat × Nat) (I : Nat → Nat → Int32) (J : Nat → Nat → Int64) (Q : Option Value → sm_M → Prop) (x1 : Int32) (x2 : Int32) (x3 : Int32) :
    sm_wp X 145 126 [some (.ref 48), some (.int x1), some (.int x2), some (.int x3)] [] (sM false G I J) Q =
    (sm_wp X 145 72 [some (.ref 48), some (.int x1), some (.int x2), some (.int (x3 + 1))] [] (sM false G I J) Q) :=
  (sm_blk X 145 126 (tt_lin 145 (by decide)) rfl rfl _ _ _ _).trans rfl
set_option maxRecDepth 100000 in
theorem bkf_145_132 (X : (Nat → Int32) × Nat) (G : Nat × Nat) (I : Nat → Nat → Int32) (J : Nat → Nat → Int64) (Q : Option Value → sm_M → Prop) (x1 : Int32) (x2 : Int32) (x3 : Int32) :
    sm_wp X 145 132 [some (.ref 48), some (.int x1), some (.int x2), some (.int x3)] [] (sM false G I J) Q =
    (sm_wp X 145 59 [some (.ref 48), some (.int x1), some (.int (x2 + 1)), none] [] (sM false G I J) Q) :=
  (sm_blk X 145 132 (tt_lin 145 (by decide)) rfl rfl _ _ _ _).trans rfl
set_option maxRecDepth 100000 in
theorem bkf_145_138 (X : (Nat → Int32) × Nat) (G : Nat × Nat) (I : Nat → Nat → Int32) (J : Nat → Nat → Int64) (Q : Option Value → sm_M → Prop) (x1 : Int32) (x2 : Int32) :
    sm_wp X 145 138 [some (.ref 48), some (.int x1), some (.int x2), none] [] (sM false G I J) Q =
    (True ∧ Q (some (.int (I 48 2))) (sM false G I J)) :=
  (sm_blk X 145 138 (tt_lin 145 (by decide)) rfl rfl _ _ _ _).trans rfl
set_option maxRecDepth 100000 in
theorem bk_146_0 (X : (Nat → Int32) × Nat) (G : Nat × Nat) (I : Nat → Nat → Int32) (J : Nat → Nat → Int64) (Q : Option Value → sm_M → Prop) (x1 : Int32) (x2 : Int32) (x3 : Int32) :
    sm_wp X 146 0 [some (.ref 48), some (.int x1), some (.int x2), some (.int x3), none, none, none, none, none] [] (sM true G I J) Q =
    (sm_wp X 147 0 [some (.int x2), some (.int x3)] [] (sM true G I J) (fun v M => sm_wp X 146 5 [some (.ref 48), some (.int x1), some (.int x2), some (.int x3), none, none, none, none, none] (v.toList ++ []) M Q)) :=
  (sm_blk X 146 0 (tt_lin 146 (by decide)) rfl rfl _ _ _ _).trans rfl
set_option maxRecDepth 100000 in
theorem bk_146_5 (X : (Nat → Int32) × Nat) (G : Nat × Nat) (I : Nat → Nat → Int32) (J : Nat → Nat → Int64) (Q : Option Value → sm_M → Prop) (x1 : Int32) (x2 : Int32) (x3 : Int32) (s0 : Int32) :
    sm_wp X 146 5 [some (.ref 48), some (.int x1), some (.int x2), some (.int x3), none, none, none, none, none] [.int s0] (sM true G I J) Q =
    (sm_wp X 105 0 [some (.ref 1), some (.int x2), none, none] [] (sM true G I J) (fun v M => sm_wp X 146 15 [some (.ref 48), some (.int x1), some (.int x2), some (.int x3), some (.int s0), none, none, none, none] (v.toList ++ []) M Q)) :=
  (sm_blk X 146 5 (tt_lin 146 (by decide)) rfl rfl _ _ _ _).trans rfl
set_option maxRecDepth 100000 in
theorem bk_146_15 (X : (Nat → Int32) × Nat) (G : Nat × Nat) (I : Nat → Nat → Int32) (J : Nat → Nat → Int64) (Q : Option Value → sm_M → Prop) (x1 : Int32) (x2 : Int32) (x3 : Int32) (x4 : Int32) (s0 : Int32) :
    sm_wp X 146 15 [some (.ref 48), some (.int x1), some (.int x2), some (.int x3), some (.int x4), none, none, none, none] [.int s0] (sM true G I J) Q =
    (sm_wp X 105 0 [some (.ref 1), some (.int x3), none, none] [] (sM true G I J) (fun v M => sm_wp X 146 23 [some (.ref 48), some (.int x1), some (.int x2), some (.int x3), some (.int x4), none, none, none, none] (v.toList ++ [.int s0]) M Q)) :=
  (sm_blk X 146 15 (tt_lin 146 (by decide)) rfl rfl _ _ _ _).trans rfl
set_option maxRecDepth 100000 in
theorem bk_146_23 (X : (Nat → Int32) × Nat) (G : Nat × Nat) (I : Nat → Nat → Int32) (J : Nat → Nat → Int64) (Q : Option Value → sm_M → Prop) (x1 : Int32) (x2 : Int32) (x3 : Int32) (x4 : Int32) (s0 : Int32) (s1 : Int32) :
    sm_wp X 146 23 [some (.ref 48), some (.int x1), some (.int x2), some (.int x3), some (.int x4), none, none, none, none] [.int s1, .int s0] (sM true G I J) Q =
    (sm_wp X 103 0 [some (.ref 1), some (.int x2), some (.int (s0 ||| s1)), none, none] [] (sM true G I J) (fun v M => sm_wp X 146 37 [some (.ref 48), some (.int x1), some (.int x2), some (.int x3), some (.int x4), some (.int (s0 ||| s1)), none, none, none] (v.toList ++ [.int x1]) M Q)) :=
  (sm_blk X 146 23 (tt_lin 146 (by decide)) rfl rfl _ _ _ _).trans rfl
set_option maxRecDepth 100000 in
theorem bk_146_37 (X : (Nat → Int32) × Nat) (G : Nat × Nat) (I : Nat → Nat → Int32) (J : Nat → Nat → Int64) (Q : Option Value → sm_M → Prop) (x1 : Int32) (x2 : Int32) (x3 : Int32) (x4 : Int32) (x5 : Int32) (s0 : Int32) (s1 : Int32) :
    sm_wp X 146 37 [some (.ref 48), some (.int x1), some (.int x2), some (.int x3), some (.int x4), some (.int x5), none, none, none] [.int s1, .int s0] (sM true G I J) Q =
    (if (x4 : Int32) < 0 then sm_wp X 146 66 [some (.ref 48), some (.int x1), some (.int x2), some (.int x3), some (.int x4), some (.int x5), some (.int (s0 + s1)), none, none] [] (sM true G I J) Q else (if (15 : Int32) ≤ (x4 : Int32) then sm_wp X 146 66 [some (.ref 48), some (.int x1), some (.int x2), some (.int x3), some (.int x4), some (.int x5), some (.int (s0 + s1)), none, none] [] (sM true G I J) Q else (if (x1 : Int32) < 0 then sm_wp X 146 66 [some (.ref 48), some (.int x1), some (.int x2), some (.int x3), some (.int x4), some (.int x5), some (.int (s0 + s1)), none, none] [] (sM true G I J) Q else (if (s0 + s1 : Int32) < (Int32.ofNat 5955 : Int32) then sm_wp X 146 68 [some (.ref 48), some (.int x1), some (.int x2), some (.int x3), some (.int x4), some (.int x5), some (.int (s0 + s1)), none, none] [] (sM true G I J) Q else (True ∧ Q (some (.int x1)) (sM true G I J)))))) :=
  (sm_blk X 146 37 (tt_lin 146 (by decide)) rfl rfl _ _ _ _).trans rfl
set_option maxRecDepth 100000 in
theorem bk_146_66 (X : (Nat → Int32) × Nat) (G : Nat × Nat) (I : Nat → Nat → Int32) (J : Nat → Nat → Int64) (Q : Option Value → sm_M → Prop) (x1 : Int32) (x2 : Int32) (x3 : Int32) (x4 : Int32) (x5 : Int32) (x6 : Int32) :
    sm_wp X 146 66 [some (.ref 48), some (.int x1), some (.int x2), some (.int x3), some (.int x4), some (.int x5), some (.int x6), none, none] [] (sM true G I J) Q =
    (True ∧ Q (some (.int x1)) (sM true G I J)) :=
  (sm_blk X 146 66 (tt_lin 146 (by decide)) rfl rfl _ _ _ _).trans rfl
set_option maxRecDepth 100000 in
theorem bk_146_68 (X : (Nat → Int32) × Nat) (G : Nat × Nat) (I : Nat → Nat → Int32) (J : Nat → Nat → Int64) (Q : Option Value → sm_M → Prop) (x1 : Int32) (x2 : Int32) (x3 : Int32) (x4 : Int32) (x5 : Int32) (x6 : Int32) :
    sm_wp X 146 68 [some (.ref 48), some (.int x1), some (.int x2), some (.int x3), some (.int x4), some (.int x5), some (.int x6), none, none] [] (sM true G I J) Q =
    (vp_in x4 15 ∧ (vp_in x4 15 ∧ (sm_wp X 146 90 [some (.ref 48), some (.int x1), some (.int x2), some (.int x3), none, some (.int x5), some (.int x6), some (.int x1), none] [] (sM true G (up2 (up2 I 49 x4.toNatClampNeg x1) 50 x4.toNatClampNeg (x6 - x1)) J) Q))) :=
  (sm_blk X 146 68 (tt_lin 146 (by decide)) rfl rfl _ _ _ _).trans rfl
set_option maxRecDepth 100000 in
theorem bk_146_90 (X : (Nat → Int32) × Nat) (G : Nat × Nat) (I : Nat → Nat → Int32) (J : Nat → Nat → Int64) (Q : Option Value → sm_M → Prop) (x1 : Int32) (x2 : Int32) (x3 : Int32) (x5 : Int32) (x6 : Int32) (x7 : Int32) :
    sm_wp X 146 90 [some (.ref 48), some (.int x1), some (.int x2), some (.int x3), none, some (.int x5), some (.int x6), some (.int x7), none] [] (sM true G I J) Q =
    (if (x6 : Int32) < (x7 : Int32) then sm_wp X 146 121 [some (.ref 48), some (.int x1), some (.int x2), some (.int x3), none, some (.int x5), some (.int x6), some (.int x7), none] [] (sM true G I J) Q else (if ¬ (x7 : Int32) = (x1 : Int32) then sm_wp X 146 113 [some (.ref 48), some (.int x1), some (.int x2), some (.int x3), none, some (.int x5), some (.int x6), some (.int x7), none] [.int x7, .ref 143] (sM true G I J) Q else (sm_wp X 146 114 [some (.ref 48), some (.int x1), some (.int x2), some (.int x3), none, some (.int x5), some (.int x6), some (.int x7), none] [.int 0, .int x7, .ref 143] (sM true G I J) Q))) :=
  (sm_blk X 146 90 (tt_lin 146 (by decide)) rfl rfl _ _ _ _).trans rfl
set_option maxRecDepth 100000 in
theorem bk_146_113 (X : (Nat → Int32) × Nat) (G : Nat × Nat) (I : Nat → Nat → Int32) (J : Nat → Nat → Int64) (Q : Option Value → sm_M → Prop) (x1 : Int32) (x2 : Int32) (x3 : Int32) (x5 : Int32) (x6 : Int32) (x7 : Int32) (s1 : Int32) :
    sm_wp X 146 113 [some (.ref 48), some (.int x1), some (.int x2), some (.int x3), none, some (.int x5), some (.int x6), some (.int x7), none] [.int s1, .ref 143] (sM true G I J) Q =
    (vp_in s1 5955 ∧ (sm_wp X 146 90 [some (.ref 48), some (.int x1), some (.int x2), some (.int x3), none, some (.int x5), some (.int x6), some (.int (x7 + 1)), none] [] (sM true G (up2 I 143 s1.toNatClampNeg (-1)) J) Q)) :=
  (sm_blk X 146 113 (tt_lin 146 (by decide)) rfl rfl _ _ _ _).trans rfl
set_option maxRecDepth 100000 in
theorem bk_146_114 (X : (Nat → Int32) × Nat) (G : Nat × Nat) (I : Nat → Nat → Int32) (J : Nat → Nat → Int64) (Q : Option Value → sm_M → Prop) (x1 : Int32) (x2 : Int32) (x3 : Int32) (x5 : Int32) (x6 : Int32) (x7 : Int32) (s1 : Int32) (s2 : Int32) :
    sm_wp X 146 114 [some (.ref 48), some (.int x1), some (.int x2), some (.int x3), none, some (.int x5), some (.int x6), some (.int x7), none] [.int s2, .int s1, .ref 143] (sM true G I J) Q =
    (vp_in s1 5955 ∧ (sm_wp X 146 90 [some (.ref 48), some (.int x1), some (.int x2), some (.int x3), none, some (.int x5), some (.int x6), some (.int (x7 + 1)), none] [] (sM true G (up2 I 143 s1.toNatClampNeg s2) J) Q)) :=
  (sm_blk X 146 114 (tt_lin 146 (by decide)) rfl rfl _ _ _ _).trans rfl
set_option maxRecDepth 100000 in
theorem bk_146_121 (X : (Nat → Int32) × Nat) (G : Nat × Nat) (I : Nat → Nat → Int32) (J : Nat → Nat → Int64) (Q : Option Value → sm_M → Prop) (x1 : Int32) (x2 : Int32) (x3 : Int32) (x5 : Int32) (x6 : Int32) (x7 : Int32) :
    sm_wp X 146 121 [some (.ref 48), some (.int x1), some (.int x2), some (.int x3), none, some (.int x5), some (.int x6), some (.int x7), none] [] (sM true G I J) Q =
    (sm_wp X 146 127 [some (.ref 48), some (.int x1), some (.int x2), some (.int x3), none, some (.int x5), some (.int x6), some (.int x1), some (.int 0)] [] (sM true G I J) Q) :=
  (sm_blk X 146 121 (tt_lin 146 (by decide)) rfl rfl _ _ _ _).trans rfl
set_option maxRecDepth 100000 in
theorem bk_146_127 (X : (Nat → Int32) × Nat) (G : Nat × Nat) (I : Nat → Nat → Int32) (J : Nat → Nat → Int64) (Q : Option Value → sm_M → Prop) (x1 : Int32) (x2 : Int32) (x3 : Int32) (x5 : Int32) (x6 : Int32) (x7 : Int32) (x8 : Int32) :
    sm_wp X 146 127 [some (.ref 48), some (.int x1), some (.int x2), some (.int x3), none, some (.int x5), some (.int x6), some (.int x7), some (.int x8)] [] (sM true G I J) Q =
    (if (12 : Int32) ≤ (x8 : Int32) then sm_wp X 146 192 [some (.ref 48), some (.int x1), some (.int x2), some (.int x3), none, some (.int x5), some (.int x6), some (.int x7), some (.int x8)] [] (sM true G I J) Q else (sm_wp X 169 0 [some (.int x5), some (.int x8)] [] (sM true G I J) (fun v M => sm_wp X 146 141 [some (.ref 48), some (.int x1), some (.int x2), some (.int x3), none, some (.int x5), some (.int x6), some (.int x7), some (.int x8)] (v.toList ++ []) M Q))) :=
  (sm_blk X 146 127 (tt_lin 146 (by decide)) rfl rfl _ _ _ _).trans rfl
set_option maxRecDepth 100000 in
theorem bk_146_141 (X : (Nat → Int32) × Nat) (G : Nat × Nat) (I : Nat → Nat → Int32) (J : Nat → Nat → Int64) (Q : Option Value → sm_M → Prop) (x1 : Int32) (x2 : Int32) (x3 : Int32) (x5 : Int32) (x6 : Int32) (x7 : Int32) (x8 : Int32) (s0 : Int32) :
    sm_wp X 146 141 [some (.ref 48), some (.int x1), some (.int x2), some (.int x3), none, some (.int x5), some (.int x6), some (.int x7), some (.int x8)] [.int s0] (sM true G I J) Q =
    (if (s0 : Int32) = 0 then sm_wp X 146 186 [some (.ref 48), some (.int x1), some (.int x2), some (.int x3), none, some (.int x5), some (.int x6), some (.int x7), some (.int x8)] [] (sM true G I J) Q else (sm_wp X 104 0 [some (.ref 1), some (.int x2), some (.int x8)] [] (sM true G I J) (fun v M => sm_wp X 146 156 [some (.ref 48), some (.int x1), some (.int x2), some (.int x3), none, some (.int x5), some (.int x6), some (.int x7), some (.int x8)] (v.toList ++ [.int x7]) M Q))) :=
  (sm_blk X 146 141 (tt_lin 146 (by decide)) rfl rfl _ _ _ _).trans rfl
set_option maxRecDepth 100000 in
theorem bk_146_156 (X : (Nat → Int32) × Nat) (G : Nat × Nat) (I : Nat → Nat → Int32) (J : Nat → Nat → Int64) (Q : Option Value → sm_M → Prop) (x1 : Int32) (x2 : Int32) (x3 : Int32) (x5 : Int32) (x6 : Int32) (x7 : Int32) (x8 : Int32) (s0 : Int32) (s1 : Int32) :
    sm_wp X 146 156 [some (.ref 48), some (.int x1), some (.int x2), some (.int x3), none, some (.int x5), some (.int x6), some (.int x7), some (.int x8)] [.int s1, .int s0] (sM true G I J) Q =
    (sm_wp X 104 0 [some (.ref 1), some (.int x2), some (.int x8)] [] (sM true G I J) (fun v M => sm_wp X 146 173 [some (.ref 48), some (.int x1), some (.int x2), some (.int x3), none, some (.int x5), some (.int x6), some (.int (s0 + s1)), some (.int x8)] (v.toList ++ [.int (s0 + s1), .int x1, .ref 48]) M Q)) :=
  (sm_blk X 146 156 (tt_lin 146 (by decide)) rfl rfl _ _ _ _).trans rfl
set_option maxRecDepth 100000 in
theorem bk_146_173 (X : (Nat → Int32) × Nat) (G : Nat × Nat) (I : Nat → Nat → Int32) (J : Nat → Nat → Int64) (Q : Option Value → sm_M → Prop) (x1 : Int32) (x2 : Int32) (x3 : Int32) (x5 : Int32) (x6 : Int32) (x7 : Int32) (x8 : Int32) (s1 : Int32) (s2 : Int32) (s3 : Int32) :
    sm_wp X 146 173 [some (.ref 48), some (.int x1), some (.int x2), some (.int x3), none, some (.int x5), some (.int x6), some (.int x7), some (.int x8)] [.int s3, .int s2, .int s1, .ref 48] (sM true G I J) Q =
    (sm_wp X 104 0 [some (.ref 1), some (.int x3), some (.int x8)] [] (sM true G I J) (fun v M => sm_wp X 146 183 [some (.ref 48), some (.int x1), some (.int x2), some (.int x3), none, some (.int x5), some (.int x6), some (.int x7), some (.int x8)] (v.toList ++ [.int s3, .int s2, .int s1, .ref 48]) M Q)) :=
  (sm_blk X 146 173 (tt_lin 146 (by decide)) rfl rfl _ _ _ _).trans rfl
set_option maxRecDepth 100000 in
theorem bk_146_183 (X : (Nat → Int32) × Nat) (G : Nat × Nat) (I : Nat → Nat → Int32) (J : Nat → Nat → Int64) (Q : Option Value → sm_M → Prop) (x1 : Int32) (x2 : Int32) (x3 : Int32) (x5 : Int32) (x6 : Int32) (x7 : Int32) (x8 : Int32) (s1 : Int32) (s2 : Int32) (s3 : Int32) (s4 : Int32) :
    sm_wp X 146 183 [some (.ref 48), some (.int x1), some (.int x2), some (.int x3), none, some (.int x5), some (.int x6), some (.int x7), some (.int x8)] [.int s4, .int s3, .int s2, .int s1, .ref 48] (sM true G I J) Q =
    (sm_wp X 148 0 [some (.ref 48), some (.int s1), some (.int s2), some (.int s3), some (.int s4), none, none, none] [] (sM true G I J) (fun v M => sm_wp X 146 186 [some (.ref 48), some (.int x1), some (.int x2), some (.int x3), none, some (.int x5), some (.int x6), some (.int x7), some (.int x8)] (v.toList ++ []) M Q)) :=
  (sm_blk X 146 183 (tt_lin 146 (by decide)) rfl rfl _ _ _ _).trans rfl
set_option maxRecDepth 100000 in
theorem bk_146_186 (X : (Nat → Int32) × Nat) (G : Nat × Nat) (I : Nat → Nat → Int32) (J : Nat → Nat → Int64) (Q : Option Value → sm_M → Prop) (x1 : Int32) (x2 : Int32) (x3 : Int32) (x5 : Int32) (x6 : Int32) (x7 : Int32) (x8 : Int32) :
    sm_wp X 146 186 [some (.ref 48), some (.int x1), some (.int x2), some (.int x3), none, some (.int x5), some (.int x6), some (.int x7), some (.int x8)] [] (sM true G I J) Q =
    (sm_wp X 146 127 [some (.ref 48), some (.int x1), some (.int x2), some (.int x3), none, some (.int x5), some (.int x6), some (.int x7), some (.int (x8 + 1))] [] (sM true G I J) Q) :=
  (sm_blk X 146 186 (tt_lin 146 (by decide)) rfl rfl _ _ _ _).trans rfl
set_option maxRecDepth 100000 in
theorem bk_146_192 (X : (Nat → Int32) × Nat) (G : Nat × Nat) (I : Nat → Nat → Int32) (J : Nat → Nat → Int64) (Q : Option Value → sm_M → Prop) (x1 : Int32) (x2 : Int32) (x3 : Int32) (x5 : Int32) (x6 : Int32) (x7 : Int32) (x8 : Int32) :
    sm_wp X 146 192 [some (.ref 48), some (.int x1), some (.int x2), some (.int x3), none, some (.int x5), some (.int x6), some (.int x7), some (.int x8)] [] (sM true G I J) Q =
    (sm_wp X 146 198 [some (.ref 48), some (.int x1), none, none, none, none, some (.int x6), none, some (.int (x6 - 1))] [] (sM true G I J) Q) :=
  (sm_blk X 146 192 (tt_lin 146 (by decide)) rfl rfl _ _ _ _).trans rfl
set_option maxRecDepth 100000 in
theorem bk_146_198 (X : (Nat → Int32) × Nat) (G : Nat × Nat) (I : Nat → Nat → Int32) (J : Nat → Nat → Int64) (Q : Option Value → sm_M → Prop) (x1 : Int32) (x6 : Int32) (x8 : Int32) :
    sm_wp X 146 198 [some (.ref 48), some (.int x1), none, none, none, none, some (.int x6), none, some (.int x8)] [] (sM true G I J) Q =
    (if (x8 : Int32) < (x1 : Int32) then sm_wp X 146 236 [some (.ref 48), some (.int x1), none, none, none, none, some (.int x6), none, some (.int x8)] [] (sM true G I J) Q else (vp_in x8 5955 ∧ (vp_in (x8 + 1) 5955 ∧ (True ∧ (vp_in x8 5955 ∧ (sm_wp X 146 198 [some (.ref 48), some (.int x1), none, none, none, none, some (.int x6), none, some (.int (x8 + (-1)))] [] (sM true G (up2 I 143 x8.toNatClampNeg (if (I 143 (x8.toNatClampNeg) : Int32) < I 143 ((x8 + 1).toNatClampNeg) then I 143 ((x8 + 1).toNatClampNeg) else I 143 (x8.toNatClampNeg))) J) Q)))))) :=
  (sm_blk X 146 198 (tt_lin 146 (by decide)) rfl rfl _ _ _ _).trans rfl
set_option maxRecDepth 100000 in
theorem bk_146_236 (X : (Nat → Int32) × Nat) (G : Nat × Nat) (I : Nat → Nat → Int32) (J : Nat → Nat → Int64) (Q : Option Value → sm_M → Prop) (x1 : Int32) (x6 : Int32) (x8 : Int32) :
    sm_wp X 146 236 [some (.ref 48), some (.int x1), none, none, none, none, some (.int x6), none, some (.int x8)] [] (sM true G I J) Q =
    (True ∧ Q (some (.int (x6 + 1))) (sM true G I J)) :=
  (sm_blk X 146 236 (tt_lin 146 (by decide)) rfl rfl _ _ _ _).trans rfl
set_option maxRecDepth 100000 in
theorem bk_147_0 (X : (Nat → Int32) × Nat) (G : Nat × Nat) (I : Nat → Nat → Int32) (J : Nat → Nat → Int64) (Q : Option Value → sm_M → Prop) (x0 : Int32) (x1 : Int32) :
    sm_wp X 147 0 [some (.int x0), some (.int x1)] [] (sM true G I J) Q =
    (¬ (2 : Int32) = 0 ∧ (True ∧ Q (some (.int (((x1 * (x1 - 1)) / 2) + x0))) (sM true G I J))) :=
  (sm_blk X 147 0 (tt_lin 147 (by decide)) rfl rfl _ _ _ _).trans rfl
set_option maxRecDepth 100000 in
theorem bk_148_0 (X : (Nat → Int32) × Nat) (G : Nat × Nat) (I : Nat → Nat → Int32) (J : Nat → Nat → Int64) (Q : Option Value → sm_M → Prop) (x1 : Int32) (x2 : Int32) (x3 : Int32) (x4 : Int32) :
    sm_wp X 148 0 [some (.ref 48), some (.int x1), some (.int x2), some (.int x3), some (.int x4), none, none, none] [] (sM true G I J) Q =
    (if (x1 : Int32) < 0 then sm_wp X 148 17 [some (.ref 48), some (.int x1), some (.int x2), some (.int x3), some (.int x4), none, none, none] [] (sM true G I J) Q else (if (Int32.ofNat 5955 : Int32) ≤ (x2 : Int32) then sm_wp X 148 17 [some (.ref 48), some (.int x1), some (.int x2), some (.int x3), some (.int x4), none, none, none] [] (sM true G I J) Q else (if 0 ≤ (x3 : Int32) then sm_wp X 148 18 [some (.ref 48), some (.int x1), some (.int x2), some (.int x3), some (.int x4), none, none, none] [] (sM true G I J) Q else (True ∧ Q none (sM true G I J))))) :=
  (sm_blk X 148 0 (tt_lin 148 (by decide)) rfl rfl _ _ _ _).trans rfl
set_option maxRecDepth 100000 in
theorem bk_148_17 (X : (Nat → Int32) × Nat) (G : Nat × Nat) (I : Nat → Nat → Int32) (J : Nat → Nat → Int64) (Q : Option Value → sm_M → Prop) (x1 : Int32) (x2 : Int32) (x3 : Int32) (x4 : Int32) :
    sm_wp X 148 17 [some (.ref 48), some (.int x1), some (.int x2), some (.int x3), some (.int x4), none, none, none] [] (sM true G I J) Q =
    (True ∧ Q none (sM true G I J)) :=
  (sm_blk X 148 17 (tt_lin 148 (by decide)) rfl rfl _ _ _ _).trans rfl
set_option maxRecDepth 100000 in
theorem bk_148_18 (X : (Nat → Int32) × Nat) (G : Nat × Nat) (I : Nat → Nat → Int32) (J : Nat → Nat → Int64) (Q : Option Value → sm_M → Prop) (x1 : Int32) (x2 : Int32) (x3 : Int32) (x4 : Int32) :
    sm_wp X 148 18 [some (.ref 48), some (.int x1), some (.int x2), some (.int x3), some (.int x4), none, none, none] [] (sM true G I J) Q =
    (sm_wp X 148 21 [some (.ref 48), some (.int x1), none, some (.int x3), some (.int x4), some (.int x2), none, none] [] (sM true G I J) Q) :=
  (sm_blk X 148 18 (tt_lin 148 (by decide)) rfl rfl _ _ _ _).trans rfl
set_option maxRecDepth 100000 in
theorem bk_148_21 (X : (Nat → Int32) × Nat) (G : Nat × Nat) (I : Nat → Nat → Int32) (J : Nat → Nat → Int64) (Q : Option Value → sm_M → Prop) (x1 : Int32) (x3 : Int32) (x4 : Int32) (x5 : Int32) :
    sm_wp X 148 21 [some (.ref 48), some (.int x1), none, some (.int x3), some (.int x4), some (.int x5), none, none] [] (sM true G I J) Q =
    (if (x5 : Int32) < (x1 : Int32) then sm_wp X 148 104 [some (.ref 48), some (.int x1), none, some (.int x3), some (.int x4), some (.int x5), none, none] [] (sM true G I J) Q else (vp_in x5 5955 ∧ (if ¬ (I 143 (x5.toNatClampNeg) : Int32) = ((-1) : Int32) then sm_wp X 148 42 [some (.ref 48), some (.int x1), none, some (.int x3), some (.int x4), some (.int x5), none, none] [] (sM true G I J) Q else (sm_wp X 148 52 [some (.ref 48), some (.int x1), none, some (.int x3), some (.int x4), some (.int x5), none, none] [.int (-1)] (sM true G I J) Q)))) :=
  (sm_blk X 148 21 (tt_lin 148 (by decide)) rfl rfl _ _ _ _).trans rfl
set_option maxRecDepth 100000 in
theorem bk_148_42 (X : (Nat → Int32) × Nat) (G : Nat × Nat) (I : Nat → Nat → Int32) (J : Nat → Nat → Int64) (Q : Option Value → sm_M → Prop) (x1 : Int32) (x3 : Int32) (x4 : Int32) (x5 : Int32) :
    sm_wp X 148 42 [some (.ref 48), some (.int x1), none, some (.int x3), some (.int x4), some (.int x5), none, none] [] (sM true G I J) Q =
    (vp_in x5 5955 ∧ (if (x5 - x3 : Int32) < (x1 : Int32) then sm_wp X 148 74 [some (.ref 48), some (.int x1), none, some (.int x3), some (.int x4), some (.int x5), some (.int ((I 143 (x5.toNatClampNeg)) + x4)), none] [] (sM true G I J) Q else (vp_in (x5 - x3) 5955 ∧ (sm_wp X 148 75 [some (.ref 48), some (.int x1), none, some (.int x3), some (.int x4), some (.int x5), some (.int ((I 143 (x5.toNatClampNeg)) + x4)), none] [.int (I 143 ((x5 - x3).toNatClampNeg))] (sM true G I J) Q)))) :=
  (sm_blk X 148 42 (tt_lin 148 (by decide)) rfl rfl _ _ _ _).trans rfl
set_option maxRecDepth 100000 in
theorem bk_148_52 (X : (Nat → Int32) × Nat) (G : Nat × Nat) (I : Nat → Nat → Int32) (J : Nat → Nat → Int64) (Q : Option Value → sm_M → Prop) (x1 : Int32) (x3 : Int32) (x4 : Int32) (x5 : Int32) (s0 : Int32) :
    sm_wp X 148 52 [some (.ref 48), some (.int x1), none, some (.int x3), some (.int x4), some (.int x5), none, none] [.int s0] (sM true G I J) Q =
    (if (x5 - x3 : Int32) < (x1 : Int32) then sm_wp X 148 74 [some (.ref 48), some (.int x1), none, some (.int x3), some (.int x4), some (.int x5), some (.int s0), none] [] (sM true G I J) Q else (vp_in (x5 - x3) 5955 ∧ (sm_wp X 148 75 [some (.ref 48), some (.int x1), none, some (.int x3), some (.int x4), some (.int x5), some (.int s0), none] [.int (I 143 ((x5 - x3).toNatClampNeg))] (sM true G I J) Q))) :=
  (sm_blk X 148 52 (tt_lin 148 (by decide)) rfl rfl _ _ _ _).trans rfl
set_option maxRecDepth 100000 in
theorem bk_148_74 (X : (Nat → Int32) × Nat) (G : Nat × Nat) (I : Nat → Nat → Int32) (J : Nat → Nat → Int64) (Q : Option Value → sm_M → Prop) (x1 : Int32) (x3 : Int32) (x4 : Int32) (x5 : Int32) (x6 : Int32) :
    sm_wp X 148 74 [some (.ref 48), some (.int x1), none, some (.int x3), some (.int x4), some (.int x5), some (.int x6), none] [] (sM true G I J) Q =
    (if ((-1) : Int32) ≤ (x6 : Int32) then sm_wp X 148 95 [some (.ref 48), some (.int x1), none, some (.int x3), some (.int x4), some (.int x5), some (.int x6), some (.int (-1))] [.int x5, .ref 143] (sM true G I J) Q else (sm_wp X 148 97 [some (.ref 48), some (.int x1), none, some (.int x3), some (.int x4), some (.int x5), some (.int x6), some (.int (-1))] [.int (-1), .int x5, .ref 143] (sM true G I J) Q)) :=
  (sm_blk X 148 74 (tt_lin 148 (by decide)) rfl rfl _ _ _ _).trans rfl
set_option maxRecDepth 100000 in
theorem bk_148_75 (X : (Nat → Int32) × Nat) (G : Nat × Nat) (I : Nat → Nat → Int32) (J : Nat → Nat → Int64) (Q : Option Value → sm_M → Prop) (x1 : Int32) (x3 : Int32) (x4 : Int32) (x5 : Int32) (x6 : Int32) (s0 : Int32) :
    sm_wp X 148 75 [some (.ref 48), some (.int x1), none, some (.int x3), some (.int x4), some (.int x5), some (.int x6), none] [.int s0] (sM true G I J) Q =
    (if (s0 : Int32) ≤ (x6 : Int32) then sm_wp X 148 95 [some (.ref 48), some (.int x1), none, some (.int x3), some (.int x4), some (.int x5), some (.int x6), some (.int s0)] [.int x5, .ref 143] (sM true G I J) Q else (sm_wp X 148 97 [some (.ref 48), some (.int x1), none, some (.int x3), some (.int x4), some (.int x5), some (.int x6), some (.int s0)] [.int s0, .int x5, .ref 143] (sM true G I J) Q)) :=
  (sm_blk X 148 75 (tt_lin 148 (by decide)) rfl rfl _ _ _ _).trans rfl
set_option maxRecDepth 100000 in
theorem bk_148_95 (X : (Nat → Int32) × Nat) (G : Nat × Nat) (I : Nat → Nat → Int32) (J : Nat → Nat → Int64) (Q : Option Value → sm_M → Prop) (x1 : Int32) (x3 : Int32) (x4 : Int32) (x5 : Int32) (x6 : Int32) (x7 : Int32) (s1 : Int32) :
    sm_wp X 148 95 [some (.ref 48), some (.int x1), none, some (.int x3), some (.int x4), some (.int x5), some (.int x6), some (.int x7)] [.int s1, .ref 143] (sM true G I J) Q =
    (vp_in s1 5955 ∧ (sm_wp X 148 21 [some (.ref 48), some (.int x1), none, some (.int x3), some (.int x4), some (.int (x5 + (-1))), none, none] [] (sM true G (up2 I 143 s1.toNatClampNeg x6) J) Q)) :=
  (sm_blk X 148 95 (tt_lin 148 (by decide)) rfl rfl _ _ _ _).trans rfl
set_option maxRecDepth 100000 in
theorem bk_148_97 (X : (Nat → Int32) × Nat) (G : Nat × Nat) (I : Nat → Nat → Int32) (J : Nat → Nat → Int64) (Q : Option Value → sm_M → Prop) (x1 : Int32) (x3 : Int32) (x4 : Int32) (x5 : Int32) (x6 : Int32) (x7 : Int32) (s1 : Int32) (s2 : Int32) :
    sm_wp X 148 97 [some (.ref 48), some (.int x1), none, some (.int x3), some (.int x4), some (.int x5), some (.int x6), some (.int x7)] [.int s2, .int s1, .ref 143] (sM true G I J) Q =
    (vp_in s1 5955 ∧ (sm_wp X 148 21 [some (.ref 48), some (.int x1), none, some (.int x3), some (.int x4), some (.int (x5 + (-1))), none, none] [] (sM true G (up2 I 143 s1.toNatClampNeg s2) J) Q)) :=
  (sm_blk X 148 97 (tt_lin 148 (by decide)) rfl rfl _ _ _ _).trans rfl
set_option maxRecDepth 100000 in
theorem bk_148_104 (X : (Nat → Int32) × Nat) (G : Nat × Nat) (I : Nat → Nat → Int32) (J : Nat → Nat → Int64) (Q : Option Value → sm_M → Prop) (x1 : Int32) (x3 : Int32) (x4 : Int32) (x5 : Int32) :
    sm_wp X 148 104 [some (.ref 48), some (.int x1), none, some (.int x3), some (.int x4), some (.int x5), none, none] [] (sM true G I J) Q =
    (True ∧ Q none (sM true G I J)) :=
  (sm_blk X 148 104 (tt_lin 148 (by decide)) rfl rfl _ _ _ _).trans rfl
set_option maxRecDepth 100000 in
theorem bk_149_0 (X : (Nat → Int32) × Nat) (G : Nat × Nat) (I : Nat → Nat → Int32) (J : Nat → Nat → Int64) (Q : Option Value → sm_M → Prop) (x1 : Int32) (x2 : Int32) (x3 : Int32) (x4 : Int32) :
    sm_wp X 149 0 [some (.ref 48), some (.int x1), some (.int x2), some (.int x3), some (.int x4), none, none] [] (sM true G I J) Q =
    (sm_wp X 147 0 [some (.int x1), some (.int x2)] [] (sM true G I J) (fun v M => sm_wp X 149 5 [some (.ref 48), some (.int x1), some (.int x2), some (.int x3), some (.int x4), none, none] (v.toList ++ []) M Q)) :=
  (sm_blk X 149 0 (tt_lin 149 (by decide)) rfl rfl _ _ _ _).trans rfl
set_option maxRecDepth 100000 in
theorem bk_149_5 (X : (Nat → Int32) × Nat) (G : Nat × Nat) (I : Nat → Nat → Int32) (J : Nat → Nat → Int64) (Q : Option Value → sm_M → Prop) (x1 : Int32) (x2 : Int32) (x3 : Int32) (x4 : Int32) (s0 : Int32) :
    sm_wp X 149 5 [some (.ref 48), some (.int x1), some (.int x2), some (.int x3), some (.int x4), none, none] [.int s0] (sM true G I J) Q =
    (if (x1 : Int32) < 0 then sm_wp X 149 38 [some (.ref 48), some (.int x1), some (.int x2), some (.int x3), some (.int x4), some (.int s0), none] [] (sM true G I J) Q else (if (x2 : Int32) ≤ (x1 : Int32) then sm_wp X 149 38 [some (.ref 48), some (.int x1), some (.int x2), some (.int x3), some (.int x4), some (.int s0), none] [] (sM true G I J) Q else (if (15 : Int32) ≤ (s0 : Int32) then sm_wp X 149 38 [some (.ref 48), some (.int x1), some (.int x2), some (.int x3), some (.int x4), some (.int s0), none] [] (sM true G I J) Q else (if (x3 : Int32) < 0 then sm_wp X 149 38 [some (.ref 48), some (.int x1), some (.int x2), some (.int x3), some (.int x4), some (.int s0), none] [] (sM true G I J) Q else (vp_in s0 15 ∧ (if (x3 : Int32) < (I 50 (s0.toNatClampNeg) : Int32) then sm_wp X 149 40 [some (.ref 48), some (.int x1), some (.int x2), some (.int x3), some (.int x4), some (.int s0), none] [] (sM true G I J) Q else (sm_zb 0 ∧ Q (some (.int 0)) (sM true G I J)))))))) :=
  (sm_blk X 149 5 (tt_lin 149 (by decide)) rfl rfl _ _ _ _).trans rfl
set_option maxRecDepth 100000 in
theorem bk_149_38 (X : (Nat → Int32) × Nat) (G : Nat × Nat) (I : Nat → Nat → Int32) (J : Nat → Nat → Int64) (Q : Option Value → sm_M → Prop) (x1 : Int32) (x2 : Int32) (x3 : Int32) (x4 : Int32) (x5 : Int32) :
    sm_wp X 149 38 [some (.ref 48), some (.int x1), some (.int x2), some (.int x3), some (.int x4), some (.int x5), none] [] (sM true G I J) Q =
    (sm_zb 0 ∧ Q (some (.int 0)) (sM true G I J)) :=
  (sm_blk X 149 38 (tt_lin 149 (by decide)) rfl rfl _ _ _ _).trans rfl
set_option maxRecDepth 100000 in
theorem bk_149_40 (X : (Nat → Int32) × Nat) (G : Nat × Nat) (I : Nat → Nat → Int32) (J : Nat → Nat → Int64) (Q : Option Value → sm_M → Prop) (x1 : Int32) (x2 : Int32) (x3 : Int32) (x4 : Int32) (x5 : Int32) :
    sm_wp X 149 40 [some (.ref 48), some (.int x1), some (.int x2), some (.int x3), some (.int x4), some (.int x5), none] [] (sM true G I J) Q =
    (vp_in x5 15 ∧ (if (((I 49 (x5.toNatClampNeg)) + x3) + 1 : Int32) < 0 then sm_wp X 149 84 [some (.ref 48), some (.int x1), some (.int x2), some (.int x3), some (.int x4), some (.int x5), some (.int (((I 49 (x5.toNatClampNeg)) + x3) + 1))] [] (sM true G I J) Q else (if (Int32.ofNat 5955 : Int32) ≤ (((I 49 (x5.toNatClampNeg)) + x3) + 1 : Int32) then sm_wp X 149 84 [some (.ref 48), some (.int x1), some (.int x2), some (.int x3), some (.int x4), some (.int x5), some (.int (((I 49 (x5.toNatClampNeg)) + x3) + 1))] [] (sM true G I J) Q else (vp_in (((I 49 (x5.toNatClampNeg)) + x3) + 1) 5955 ∧ (if (I 143 ((((I 49 (x5.toNatClampNeg)) + x3) + 1).toNatClampNeg) : Int32) ≤ (x4 : Int32) then sm_wp X 149 84 [some (.ref 48), some (.int x1), some (.int x2), some (.int x3), some (.int x4), some (.int x5), some (.int (((I 49 (x5.toNatClampNeg)) + x3) + 1))] [] (sM true G I J) Q else (sm_wp X 149 85 [some (.ref 48), some (.int x1), some (.int x2), some (.int x3), some (.int x4), some (.int x5), some (.int (((I 49 (x5.toNatClampNeg)) + x3) + 1))] [.int 1] (sM true G I J) Q)))))) :=
  (sm_blk X 149 40 (tt_lin 149 (by decide)) rfl rfl _ _ _ _).trans rfl
set_option maxRecDepth 100000 in
theorem bk_149_84 (X : (Nat → Int32) × Nat) (G : Nat × Nat) (I : Nat → Nat → Int32) (J : Nat → Nat → Int64) (Q : Option Value → sm_M → Prop) (x1 : Int32) (x2 : Int32) (x3 : Int32) (x4 : Int32) (x5 : Int32) (x6 : Int32) :
    sm_wp X 149 84 [some (.ref 48), some (.int x1), some (.int x2), some (.int x3), some (.int x4), some (.int x5), some (.int x6)] [] (sM true G I J) Q =
    (sm_zb 0 ∧ Q (some (.int 0)) (sM true G I J)) :=
  (sm_blk X 149 84 (tt_lin 149 (by decide)) rfl rfl _ _ _ _).trans rfl
set_option maxRecDepth 100000 in
theorem bk_149_85 (X : (Nat → Int32) × Nat) (G : Nat × Nat) (I : Nat → Nat → Int32) (J : Nat → Nat → Int64) (Q : Option Value → sm_M → Prop) (x1 : Int32) (x2 : Int32) (x3 : Int32) (x4 : Int32) (x5 : Int32) (x6 : Int32) (s0 : Int32) :
    sm_wp X 149 85 [some (.ref 48), some (.int x1), some (.int x2), some (.int x3), some (.int x4), some (.int x5), some (.int x6)] [.int s0] (sM true G I J) Q =
    (sm_zb s0 ∧ Q (some (.int s0)) (sM true G I J)) :=
  (sm_blk X 149 85 (tt_lin 149 (by decide)) rfl rfl _ _ _ _).trans rfl
end
section
set_option maxRecDepth 100000 in
theorem bk_151_0 (X : (Nat → Int32) × Nat) (mo : Bool) (G : Nat × Nat) (I : Nat → Nat → Int32) (J : Nat → Nat → Int64) (Q : Option Value → sm_M → Prop) (x1 : Int32) (x2 : Int32) :
    sm_wp X 151 0 [some (.ref 26), some (.int x1), some (.int x2), none, none] [] (sM mo G I J) Q =
    (sm_wp X 151 5 [some (.ref 26), some (.int x1), some (.int x2), some (.int 0), some (.int 0)] [] (sM mo G I J) Q) :=
  (sm_blk X 151 0 (tt_lin 151 (by decide)) rfl rfl _ _ _ _).trans rfl
set_option maxRecDepth 100000 in
theorem bk_151_5 (X : (Nat → Int32) × Nat) (mo : Bool) (G : Nat × Nat) (I : Nat → Nat → Int32) (J : Nat → Nat → Int64) (Q : Option Value → sm_M → Prop) (x1 : Int32) (x2 : Int32) (x3 : Int32) (x4 : Int32) :
    sm_wp X 151 5 [some (.ref 26), some (.int x1), some (.int x2), some (.int x3), some (.int x4)] [] (sM mo G I J) Q =
    (if (I 26 0 : Int32) ≤ (x4 : Int32) then sm_wp X 151 72 [some (.ref 26), some (.int x1), some (.int x2), some (.int x3), some (.int x4)] [] (sM mo G I J) Q else (if (20 : Int32) ≤ (x4 : Int32) then sm_wp X 151 72 [some (.ref 26), some (.int x1), some (.int x2), some (.int x3), some (.int x4)] [] (sM mo G I J) Q else (vp_in x4 20 ∧ (if ¬ (I 28 (x4.toNatClampNeg) : Int32) = (x1 : Int32) then sm_wp X 151 66 [some (.ref 26), some (.int x1), some (.int x2), some (.int x3), some (.int x4)] [] (sM mo G I J) Q else (vp_in x4 20 ∧ (if (x2 : Int32) < (I 29 (x4.toNatClampNeg) : Int32) then sm_wp X 151 66 [some (.ref 26), some (.int x1), some (.int x2), some (.int x3), some (.int x4)] [] (sM mo G I J) Q else (vp_in x4 20 ∧ (if (I 30 (x4.toNatClampNeg) : Int32) < (x2 : Int32) then sm_wp X 151 66 [some (.ref 26), some (.int x1), some (.int x2), some (.int x3), some (.int x4)] [] (sM mo G I J) Q else (vp_in x4 20 ∧ (sm_wp X 151 5 [some (.ref 26), some (.int x1), some (.int x2), some (.int (x3 ||| (1 <<< ((I 27 (x4.toNatClampNeg)) &&& 31)))), some (.int (x4 + 1))] [] (sM mo G I J) Q)))))))))) :=
  (sm_blk X 151 5 (tt_lin 151 (by decide)) rfl rfl _ _ _ _).trans rfl
set_option maxRecDepth 100000 in
theorem bk_151_66 (X : (Nat → Int32) × Nat) (mo : Bool) (G : Nat × Nat) (I : Nat → Nat → Int32) (J : Nat → Nat → Int64) (Q : Option Value → sm_M → Prop) (x1 : Int32) (x2 : Int32) (x3 : Int32) (x4 : Int32) :
    sm_wp X 151 66 [some (.ref 26), some (.int x1), some (.int x2), some (.int x3), some (.int x4)] [] (sM mo G I J) Q =
    (sm_wp X 151 5 [some (.ref 26), some (.int x1), some (.int x2), some (.int x3), some (.int (x4 + 1))] [] (sM mo G I J) Q) :=
  (sm_blk X 151 66 (tt_lin 151 (by decide)) rfl rfl _ _ _ _).trans rfl
set_option maxRecDepth 100000 in
theorem bk_151_72 (X : (Nat → Int32) × Nat) (mo : Bool) (G : Nat × Nat) (I : Nat → Nat → Int32) (J : Nat → Nat → Int64) (Q : Option Value → sm_M → Prop) (x1 : Int32) (x2 : Int32) (x3 : Int32) (x4 : Int32) :
    sm_wp X 151 72 [some (.ref 26), some (.int x1), some (.int x2), some (.int x3), some (.int x4)] [] (sM mo G I J) Q =
    (True ∧ Q (some (.int x3)) (sM mo G I J)) :=
  (sm_blk X 151 72 (tt_lin 151 (by decide)) rfl rfl _ _ _ _).trans rfl
set_option maxRecDepth 100000 in
theorem bk_152_0 (X : (Nat → Int32) × Nat) (mo : Bool) (G : Nat × Nat) (I : Nat → Nat → Int32) (J : Nat → Nat → Int64) (Q : Option Value → sm_M → Prop) (x1 : Int32) (x2 : Int32) (x3 : Int32) (x4 : Int32) :
    sm_wp X 152 0 [some (.ref 26), some (.int x1), some (.int x2), some (.int x3), some (.int x4)] [] (sM mo G I J) Q =
    (if (I 26 0 : Int32) < (20 : Int32) then sm_wp X 152 11 [some (.ref 26), some (.int x1), some (.int x2), some (.int x3), some (.int x4)] [] (sM mo G I J) Q else (sm_zb 0 ∧ Q (some (.int 0)) (sM mo G I J))) :=
  (sm_blk X 152 0 (tt_lin 152 (by decide)) rfl rfl _ _ _ _).trans rfl
set_option maxRecDepth 100000 in
theorem bk_152_11 (X : (Nat → Int32) × Nat) (mo : Bool) (G : Nat × Nat) (I : Nat → Nat → Int32) (J : Nat → Nat → Int64) (Q : Option Value → sm_M → Prop) (x1 : Int32) (x2 : Int32) (x3 : Int32) (x4 : Int32) :
    sm_wp X 152 11 [some (.ref 26), some (.int x1), some (.int x2), some (.int x3), some (.int x4)] [] (sM mo G I J) Q =
    (vp_in (I 26 0) 20 ∧ (vp_in ((up2 I 27 (I 26 0).toNatClampNeg x1) 26 0) 20 ∧ (vp_in ((up2 (up2 I 27 (I 26 0).toNatClampNeg x1) 28 ((up2 I 27 (I 26 0).toNatClampNeg x1) 26 0).toNatClampNeg x2) 26 0) 20 ∧ (vp_in ((up2 (up2 (up2 I 27 (I 26 0).toNatClampNeg x1) 28 ((up2 I 27 (I 26 0).toNatClampNeg x1) 26 0).toNatClampNeg x2) 29 ((up2 (up2 I 27 (I 26 0).toNatClampNeg x1) 28 ((up2 I 27 (I 26 0).toNatClampNeg x1) 26 0).toNatClampNeg x2) 26 0).toNatClampNeg x3) 26 0) 20 ∧ (sm_zb 1 ∧ Q (some (.int 1)) (sM mo G (up2 (up2 (up2 (up2 (up2 I 27 (I 26 0).toNatClampNeg x1) 28 ((up2 I 27 (I 26 0).toNatClampNeg x1) 26 0).toNatClampNeg x2) 29 ((up2 (up2 I 27 (I 26 0).toNatClampNeg x1) 28 ((up2 I 27 (I 26 0).toNatClampNeg x1) 26 0).toNatClampNeg x2) 26 0).toNatClampNeg x3) 30 ((up2 (up2 (up2 I 27 (I 26 0).toNatClampNeg x1) 28 ((up2 I 27 (I 26 0).toNatClampNeg x1) 26 0).toNatClampNeg x2) 29 ((up2 (up2 I 27 (I 26 0).toNatClampNeg x1) 28 ((up2 I 27 (I 26 0).toNatClampNeg x1) 26 0).toNatClampNeg x2) 26 0).toNatClampNeg x3) 26 0).toNatClampNeg x4) 26 0 (((up2 (up2 (up2 (up2 I 27 (I 26 0).toNatClampNeg x1) 28 ((up2 I 27 (I 26 0).toNatClampNeg x1) 26 0).toNatClampNeg x2) 29 ((up2 (up2 I 27 (I 26 0).toNatClampNeg x1) 28 ((up2 I 27 (I 26 0).toNatClampNeg x1) 26 0).toNatClampNeg x2) 26 0).toNatClampNeg x3) 30 ((up2 (up2 (up2 I 27 (I 26 0).toNatClampNeg x1) 28 ((up2 I 27 (I 26 0).toNatClampNeg x1) 26 0).toNatClampNeg x2) 29 ((up2 (up2 I 27 (I 26 0).toNatClampNeg x1) 28 ((up2 I 27 (I 26 0).toNatClampNeg x1) 26 0).toNatClampNeg x2) 26 0).toNatClampNeg x3) 26 0).toNatClampNeg x4) 26 0) + 1)) J)))))) :=
  (sm_blk X 152 11 (tt_lin 152 (by decide)) rfl rfl _ _ _ _).trans rfl
end
section
set_option maxRecDepth 100000 in
theorem bk_154_0 (X : (Nat → Int32) × Nat) (mo : Bool) (G : Nat × Nat) (I : Nat → Nat → Int32) (J : Nat → Nat → Int64) (Q : Option Value → sm_M → Prop) (x1 : Int32) :
    sm_wp X 154 0 [some (.ref 14), some (.int x1), none] [] (sM mo G I J) Q =
    (sm_wp X 154 3 [some (.ref 14), some (.int x1), some (.int 24)] [] (sM mo G I J) Q) :=
  (sm_blk X 154 0 (tt_lin 154 (by decide)) rfl rfl _ _ _ _).trans rfl
set_option maxRecDepth 100000 in
theorem bk_154_3 (X : (Nat → Int32) × Nat) (mo : Bool) (G : Nat × Nat) (I : Nat → Nat → Int32) (J : Nat → Nat → Int64) (Q : Option Value → sm_M → Prop) (x1 : Int32) (x2 : Int32) :
    sm_wp X 154 3 [some (.ref 14), some (.int x1), some (.int x2)] [] (sM mo G I J) Q =
    (if (x2 : Int32) < 0 then sm_wp X 154 53 [some (.ref 14), some (.int x1), some (.int x2)] [] (sM mo G I J) Q else (if (I 14 0 : Int32) < 0 then sm_wp X 154 47 [some (.ref 14), some (.int x1), some (.int x2)] [] (sM mo G I J) Q else (if (400 : Int32) ≤ (I 14 0 : Int32) then sm_wp X 154 47 [some (.ref 14), some (.int x1), some (.int x2)] [] (sM mo G I J) Q else (vp_in (I 14 0) 400 ∧ (sm_wp X 154 3 [some (.ref 14), some (.int x1), some (.int (x2 + (-8)))] [] (sM mo G (up2 (up2 I 15 (I 14 0).toNatClampNeg (vp_nar .byte (((x1.toUInt32 >>> (x2.toUInt32 &&& Int32.toUInt32 31)).toInt32).toInt8.toInt32))) 14 0 (((up2 I 15 (I 14 0).toNatClampNeg (vp_nar .byte (((x1.toUInt32 >>> (x2.toUInt32 &&& Int32.toUInt32 31)).toInt32).toInt8.toInt32))) 14 0) + 1)) J) Q))))) :=
  (sm_blk X 154 3 (tt_lin 154 (by decide)) rfl rfl _ _ _ _).trans rfl
set_option maxRecDepth 100000 in
theorem bk_154_47 (X : (Nat → Int32) × Nat) (mo : Bool) (G : Nat × Nat) (I : Nat → Nat → Int32) (J : Nat → Nat → Int64) (Q : Option Value → sm_M → Prop) (x1 : Int32) (x2 : Int32) :
    sm_wp X 154 47 [some (.ref 14), some (.int x1), some (.int x2)] [] (sM mo G I J) Q =
    (sm_wp X 154 3 [some (.ref 14), some (.int x1), some (.int (x2 + (-8)))] [] (sM mo G I J) Q) :=
  (sm_blk X 154 47 (tt_lin 154 (by decide)) rfl rfl _ _ _ _).trans rfl
set_option maxRecDepth 100000 in
theorem bk_154_53 (X : (Nat → Int32) × Nat) (mo : Bool) (G : Nat × Nat) (I : Nat → Nat → Int32) (J : Nat → Nat → Int64) (Q : Option Value → sm_M → Prop) (x1 : Int32) (x2 : Int32) :
    sm_wp X 154 53 [some (.ref 14), some (.int x1), some (.int x2)] [] (sM mo G I J) Q =
    (True ∧ Q none (sM mo G I J)) :=
  (sm_blk X 154 53 (tt_lin 154 (by decide)) rfl rfl _ _ _ _).trans rfl
set_option maxRecDepth 100000 in
theorem bk_155_0 (X : (Nat → Int32) × Nat) (mo : Bool) (G : Nat × Nat) (I : Nat → Nat → Int32) (J : Nat → Nat → Int64) (Q : Option Value → sm_M → Prop) (x1 : Int32) :
    sm_wp X 155 0 [some (.ref 14), some (.int x1)] [] (sM mo G I J) Q =
    (True ∧ (True ∧ (True ∧ Q none (sM mo G (up2 (up2 (up2 I 14 4 (if (0 : Int32) < if (I 14 0 : Int32) < x1 then I 14 0 else x1 then if (I 14 0 : Int32) < x1 then I 14 0 else x1 else 0)) 14 5 0) 14 0 0) J)))) :=
  (sm_blk X 155 0 (tt_lin 155 (by decide)) rfl rfl _ _ _ _).trans rfl
set_option maxRecDepth 100000 in
theorem bk_156_0 (X : (Nat → Int32) × Nat) (mo : Bool) (G : Nat × Nat) (I : Nat → Nat → Int32) (J : Nat → Nat → Int64) (Q : Option Value → sm_M → Prop)  :
    sm_wp X 156 0 [some (.ref 14), none] [] (sM mo G I J) Q =
    (if (I 14 4 : Int32) ≤ (I 14 5 : Int32) then sm_wp X 156 38 [some (.ref 14), none] [] (sM mo G I J) Q else (sm_wp X 157 0 [some (.ref 14), some (.int (I 14 5))] [] (sM mo G I J) (fun v M => sm_wp X 156 19 [some (.ref 14), none] (v.toList ++ []) M Q))) :=
  (sm_blk X 156 0 (tt_lin 156 (by decide)) rfl rfl _ _ _ _).trans rfl
set_option maxRecDepth 100000 in
theorem bk_156_19 (X : (Nat → Int32) × Nat) (mo : Bool) (G : Nat × Nat) (I : Nat → Nat → Int32) (J : Nat → Nat → Int64) (Q : Option Value → sm_M → Prop) (s0 : Int32) :
    sm_wp X 156 19 [some (.ref 14), none] [.int s0] (sM mo G I J) Q =
    (sm_wp X 158 0 [some (.int s0)] [] (sM mo G I J) (fun v M => sm_wp X 156 22 [some (.ref 14), none] (v.toList ++ []) M Q)) :=
  (sm_blk X 156 19 (tt_lin 156 (by decide)) rfl rfl _ _ _ _).trans rfl
set_option maxRecDepth 100000 in
theorem bk_156_22 (X : (Nat → Int32) × Nat) (mo : Bool) (G : Nat × Nat) (I : Nat → Nat → Int32) (J : Nat → Nat → Int64) (Q : Option Value → sm_M → Prop) (s0 : Int32) :
    sm_wp X 156 22 [some (.ref 14), none] [.int s0] (sM mo G I J) Q =
    (if (s0 : Int32) = 0 then sm_wp X 156 38 [some (.ref 14), none] [] (sM mo G I J) Q else (sm_wp X 156 0 [some (.ref 14), none] [] (sM mo G (up2 I 14 5 ((I 14 5) + 1)) J) Q)) :=
  (sm_blk X 156 22 (tt_lin 156 (by decide)) rfl rfl _ _ _ _).trans rfl
set_option maxRecDepth 100000 in
theorem bk_156_38 (X : (Nat → Int32) × Nat) (mo : Bool) (G : Nat × Nat) (I : Nat → Nat → Int32) (J : Nat → Nat → Int64) (Q : Option Value → sm_M → Prop)  :
    sm_wp X 156 38 [some (.ref 14), none] [] (sM mo G I J) Q =
    (if ((up2 I 14 1 (I 14 5)) 14 5 : Int32) < ((up2 I 14 1 (I 14 5)) 14 4 : Int32) then sm_wp X 156 60 [some (.ref 14), none] [] (sM mo G (up2 I 14 1 (I 14 5)) J) Q else (True ∧ Q (some (.int 34)) (sM mo G (up2 I 14 1 (I 14 5)) J))) :=
  (sm_blk X 156 38 (tt_lin 156 (by decide)) rfl rfl _ _ _ _).trans rfl
set_option maxRecDepth 100000 in
theorem bk_156_60 (X : (Nat → Int32) × Nat) (mo : Bool) (G : Nat × Nat) (I : Nat → Nat → Int32) (J : Nat → Nat → Int64) (Q : Option Value → sm_M → Prop)  :
    sm_wp X 156 60 [some (.ref 14), none] [] (sM mo G I J) Q =
    (sm_wp X 157 0 [some (.ref 14), some (.int (I 14 5))] [] (sM mo G I J) (fun v M => sm_wp X 156 68 [some (.ref 14), none] (v.toList ++ []) M Q)) :=
  (sm_blk X 156 60 (tt_lin 156 (by decide)) rfl rfl _ _ _ _).trans rfl
set_option maxRecDepth 100000 in
theorem bk_156_68 (X : (Nat → Int32) × Nat) (mo : Bool) (G : Nat × Nat) (I : Nat → Nat → Int32) (J : Nat → Nat → Int64) (Q : Option Value → sm_M → Prop) (s0 : Int32) :
    sm_wp X 156 68 [some (.ref 14), none] [.int s0] (sM mo G I J) Q =
    (sm_wp X 159 0 [some (.int s0)] [] (sM mo G I J) (fun v M => sm_wp X 156 73 [some (.ref 14), some (.int s0)] (v.toList ++ []) M Q)) :=
  (sm_blk X 156 68 (tt_lin 156 (by decide)) rfl rfl _ _ _ _).trans rfl
set_option maxRecDepth 100000 in
theorem bk_156_73 (X : (Nat → Int32) × Nat) (mo : Bool) (G : Nat × Nat) (I : Nat → Nat → Int32) (J : Nat → Nat → Int64) (Q : Option Value → sm_M → Prop) (x1 : Int32) (s0 : Int32) :
    sm_wp X 156 73 [some (.ref 14), some (.int x1)] [.int s0] (sM mo G I J) Q =
    (if (s0 : Int32) = 0 then sm_wp X 156 81 [some (.ref 14), some (.int x1)] [] (sM mo G I J) Q else (sm_wp X 160 0 [some (.ref 14), none, none, none, none, none] [] (sM mo G I J) (fun v M => sm_wp X 156 80 [some (.ref 14), some (.int x1)] (v.toList ++ []) M Q))) :=
  (sm_blk X 156 73 (tt_lin 156 (by decide)) rfl rfl _ _ _ _).trans rfl
set_option maxRecDepth 100000 in
theorem bk_156_80 (X : (Nat → Int32) × Nat) (mo : Bool) (G : Nat × Nat) (I : Nat → Nat → Int32) (J : Nat → Nat → Int64) (Q : Option Value → sm_M → Prop) (x1 : Int32) (s0 : Int32) :
    sm_wp X 156 80 [some (.ref 14), some (.int x1)] [.int s0] (sM mo G I J) Q =
    (True ∧ Q (some (.int s0)) (sM mo G I J)) :=
  (sm_blk X 156 80 (tt_lin 156 (by decide)) rfl rfl _ _ _ _).trans rfl
set_option maxRecDepth 100000 in
theorem bk_156_81 (X : (Nat → Int32) × Nat) (mo : Bool) (G : Nat × Nat) (I : Nat → Nat → Int32) (J : Nat → Nat → Int64) (Q : Option Value → sm_M → Prop) (x1 : Int32) :
    sm_wp X 156 81 [some (.ref 14), some (.int x1)] [] (sM mo G I J) Q =
    (sm_wp X 161 0 [some (.int x1)] [] (sM mo G I J) (fun v M => sm_wp X 156 85 [some (.ref 14), some (.int x1)] (v.toList ++ []) M Q)) :=
  (sm_blk X 156 81 (tt_lin 156 (by decide)) rfl rfl _ _ _ _).trans rfl
set_option maxRecDepth 100000 in
theorem bk_156_85 (X : (Nat → Int32) × Nat) (mo : Bool) (G : Nat × Nat) (I : Nat → Nat → Int32) (J : Nat → Nat → Int64) (Q : Option Value → sm_M → Prop) (x1 : Int32) (s0 : Int32) :
    sm_wp X 156 85 [some (.ref 14), some (.int x1)] [.int s0] (sM mo G I J) Q =
    (if (s0 : Int32) = 0 then sm_wp X 156 95 [some (.ref 14), some (.int x1)] [] (sM mo G I J) Q else (sm_wp X 162 0 [some (.ref 14)] [] (sM mo G I J) (fun v M => sm_wp X 156 92 [some (.ref 14), some (.int x1)] (v.toList ++ []) M Q))) :=
  (sm_blk X 156 85 (tt_lin 156 (by decide)) rfl rfl _ _ _ _).trans rfl
set_option maxRecDepth 100000 in
theorem bk_156_92 (X : (Nat → Int32) × Nat) (mo : Bool) (G : Nat × Nat) (I : Nat → Nat → Int32) (J : Nat → Nat → Int64) (Q : Option Value → sm_M → Prop) (x1 : Int32) (s0 : Int32) :
    sm_wp X 156 92 [some (.ref 14), some (.int x1)] [.int s0] (sM mo G I J) Q =
    (sm_wp X 156 100 [some (.ref 14), some (.int x1)] [.int s0] (sM mo G I J) Q) :=
  (sm_blk X 156 92 (tt_lin 156 (by decide)) rfl rfl _ _ _ _).trans rfl
set_option maxRecDepth 100000 in
theorem bk_156_95 (X : (Nat → Int32) × Nat) (mo : Bool) (G : Nat × Nat) (I : Nat → Nat → Int32) (J : Nat → Nat → Int64) (Q : Option Value → sm_M → Prop) (x1 : Int32) :
    sm_wp X 156 95 [some (.ref 14), some (.int x1)] [] (sM mo G I J) Q =
    (sm_wp X 163 0 [some (.ref 14), some (.int x1)] [] (sM mo G I J) (fun v M => sm_wp X 156 100 [some (.ref 14), some (.int x1)] (v.toList ++ []) M Q)) :=
  (sm_blk X 156 95 (tt_lin 156 (by decide)) rfl rfl _ _ _ _).trans rfl
set_option maxRecDepth 100000 in
theorem bk_156_100 (X : (Nat → Int32) × Nat) (mo : Bool) (G : Nat × Nat) (I : Nat → Nat → Int32) (J : Nat → Nat → Int64) (Q : Option Value → sm_M → Prop) (x1 : Int32) (s0 : Int32) :
    sm_wp X 156 100 [some (.ref 14), some (.int x1)] [.int s0] (sM mo G I J) Q =
    (True ∧ Q (some (.int s0)) (sM mo G I J)) :=
  (sm_blk X 156 100 (tt_lin 156 (by decide)) rfl rfl _ _ _ _).trans rfl
set_option maxRecDepth 100000 in
theorem bk_157_0 (X : (Nat → Int32) × Nat) (mo : Bool) (G : Nat × Nat) (I : Nat → Nat → Int32) (J : Nat → Nat → Int64) (Q : Option Value → sm_M → Prop) (x1 : Int32) :
    sm_wp X 157 0 [some (.ref 14), some (.int x1)] [] (sM mo G I J) Q =
    (if (x1 : Int32) < 0 then sm_wp X 157 28 [some (.ref 14), some (.int x1)] [] (sM mo G I J) Q else (if (I 14 4 : Int32) ≤ (x1 : Int32) then sm_wp X 157 28 [some (.ref 14), some (.int x1)] [] (sM mo G I J) Q else (if (400 : Int32) ≤ (x1 : Int32) then sm_wp X 157 28 [some (.ref 14), some (.int x1)] [] (sM mo G I J) Q else (vp_in x1 400 ∧ (sm_wp X 157 29 [some (.ref 14), some (.int x1)] [.int (I 15 (x1.toNatClampNeg))] (sM mo G I J) Q))))) :=
  (sm_blk X 157 0 (tt_lin 157 (by decide)) rfl rfl _ _ _ _).trans rfl
set_option maxRecDepth 100000 in
theorem bk_157_28 (X : (Nat → Int32) × Nat) (mo : Bool) (G : Nat × Nat) (I : Nat → Nat → Int32) (J : Nat → Nat → Int64) (Q : Option Value → sm_M → Prop) (x1 : Int32) :
    sm_wp X 157 28 [some (.ref 14), some (.int x1)] [] (sM mo G I J) Q =
    (True ∧ Q (some (.int 0)) (sM mo G I J)) :=
  (sm_blk X 157 28 (tt_lin 157 (by decide)) rfl rfl _ _ _ _).trans rfl
set_option maxRecDepth 100000 in
theorem bk_157_29 (X : (Nat → Int32) × Nat) (mo : Bool) (G : Nat × Nat) (I : Nat → Nat → Int32) (J : Nat → Nat → Int64) (Q : Option Value → sm_M → Prop) (x1 : Int32) (s0 : Int32) :
    sm_wp X 157 29 [some (.ref 14), some (.int x1)] [.int s0] (sM mo G I J) Q =
    (True ∧ Q (some (.int s0)) (sM mo G I J)) :=
  (sm_blk X 157 29 (tt_lin 157 (by decide)) rfl rfl _ _ _ _).trans rfl
set_option maxRecDepth 100000 in
theorem bk_158_0 (X : (Nat → Int32) × Nat) (mo : Bool) (G : Nat × Nat) (I : Nat → Nat → Int32) (J : Nat → Nat → Int64) (Q : Option Value → sm_M → Prop) (x0 : Int32) :
    sm_wp X 158 0 [some (.int x0)] [] (sM mo G I J) Q =
    (if (x0 : Int32) = (10 : Int32) then sm_wp X 158 12 [some (.int x0)] [] (sM mo G I J) Q else (if ¬ (x0 : Int32) = (32 : Int32) then sm_wp X 158 16 [some (.int x0)] [] (sM mo G I J) Q else (sm_wp X 158 17 [some (.int x0)] [.int 1] (sM mo G I J) Q))) :=
  (sm_blk X 158 0 (tt_lin 158 (by decide)) rfl rfl _ _ _ _).trans rfl
set_option maxRecDepth 100000 in
theorem bk_158_12 (X : (Nat → Int32) × Nat) (mo : Bool) (G : Nat × Nat) (I : Nat → Nat → Int32) (J : Nat → Nat → Int64) (Q : Option Value → sm_M → Prop) (x0 : Int32) :
    sm_wp X 158 12 [some (.int x0)] [] (sM mo G I J) Q =
    (sm_wp X 158 17 [some (.int x0)] [.int 1] (sM mo G I J) Q) :=
  (sm_blk X 158 12 (tt_lin 158 (by decide)) rfl rfl _ _ _ _).trans rfl
set_option maxRecDepth 100000 in
theorem bk_158_16 (X : (Nat → Int32) × Nat) (mo : Bool) (G : Nat × Nat) (I : Nat → Nat → Int32) (J : Nat → Nat → Int64) (Q : Option Value → sm_M → Prop) (x0 : Int32) :
    sm_wp X 158 16 [some (.int x0)] [] (sM mo G I J) Q =
    (sm_zb 0 ∧ Q (some (.int 0)) (sM mo G I J)) :=
  (sm_blk X 158 16 (tt_lin 158 (by decide)) rfl rfl _ _ _ _).trans rfl
set_option maxRecDepth 100000 in
theorem bk_158_17 (X : (Nat → Int32) × Nat) (mo : Bool) (G : Nat × Nat) (I : Nat → Nat → Int32) (J : Nat → Nat → Int64) (Q : Option Value → sm_M → Prop) (x0 : Int32) (s0 : Int32) :
    sm_wp X 158 17 [some (.int x0)] [.int s0] (sM mo G I J) Q =
    (sm_zb s0 ∧ Q (some (.int s0)) (sM mo G I J)) :=
  (sm_blk X 158 17 (tt_lin 158 (by decide)) rfl rfl _ _ _ _).trans rfl
set_option maxRecDepth 100000 in
theorem bk_159_0 (X : (Nat → Int32) × Nat) (mo : Bool) (G : Nat × Nat) (I : Nat → Nat → Int32) (J : Nat → Nat → Int64) (Q : Option Value → sm_M → Prop) (x0 : Int32) :
    sm_wp X 159 0 [some (.int x0)] [] (sM mo G I J) Q =
    (if (x0 : Int32) < (97 : Int32) then sm_wp X 159 16 [some (.int x0)] [] (sM mo G I J) Q else (if (122 : Int32) < (x0 : Int32) then sm_wp X 159 16 [some (.int x0)] [] (sM mo G I J) Q else (sm_wp X 159 17 [some (.int x0)] [.int 1] (sM mo G I J) Q))) :=
  (sm_blk X 159 0 (tt_lin 159 (by decide)) rfl rfl _ _ _ _).trans rfl
set_option maxRecDepth 100000 in
theorem bk_159_16 (X : (Nat → Int32) × Nat) (mo : Bool) (G : Nat × Nat) (I : Nat → Nat → Int32) (J : Nat → Nat → Int64) (Q : Option Value → sm_M → Prop) (x0 : Int32) :
    sm_wp X 159 16 [some (.int x0)] [] (sM mo G I J) Q =
    (sm_zb 0 ∧ Q (some (.int 0)) (sM mo G I J)) :=
  (sm_blk X 159 16 (tt_lin 159 (by decide)) rfl rfl _ _ _ _).trans rfl
set_option maxRecDepth 100000 in
theorem bk_159_17 (X : (Nat → Int32) × Nat) (mo : Bool) (G : Nat × Nat) (I : Nat → Nat → Int32) (J : Nat → Nat → Int64) (Q : Option Value → sm_M → Prop) (x0 : Int32) (s0 : Int32) :
    sm_wp X 159 17 [some (.int x0)] [.int s0] (sM mo G I J) Q =
    (sm_zb s0 ∧ Q (some (.int s0)) (sM mo G I J)) :=
  (sm_blk X 159 17 (tt_lin 159 (by decide)) rfl rfl _ _ _ _).trans rfl
set_option maxRecDepth 100000 in
theorem bk_160_0 (X : (Nat → Int32) × Nat) (mo : Bool) (G : Nat × Nat) (I : Nat → Nat → Int32) (J : Nat → Nat → Int64) (Q : Option Value → sm_M → Prop)  :
    sm_wp X 160 0 [some (.ref 14), none, none, none, none, none] [] (sM mo G I J) Q =
    (if (I 14 4 : Int32) ≤ (I 14 5 : Int32) then sm_wp X 160 38 [some (.ref 14), none, none, none, none, none] [] (sM mo G I J) Q else (sm_wp X 157 0 [some (.ref 14), some (.int (I 14 5))] [] (sM mo G I J) (fun v M => sm_wp X 160 19 [some (.ref 14), none, none, none, none, none] (v.toList ++ []) M Q))) :=
  (sm_blk X 160 0 (tt_lin 160 (by decide)) rfl rfl _ _ _ _).trans rfl
set_option maxRecDepth 100000 in
theorem bk_160_19 (X : (Nat → Int32) × Nat) (mo : Bool) (G : Nat × Nat) (I : Nat → Nat → Int32) (J : Nat → Nat → Int64) (Q : Option Value → sm_M → Prop) (s0 : Int32) :
    sm_wp X 160 19 [some (.ref 14), none, none, none, none, none] [.int s0] (sM mo G I J) Q =
    (sm_wp X 159 0 [some (.int s0)] [] (sM mo G I J) (fun v M => sm_wp X 160 22 [some (.ref 14), none, none, none, none, none] (v.toList ++ []) M Q)) :=
  (sm_blk X 160 19 (tt_lin 160 (by decide)) rfl rfl _ _ _ _).trans rfl
set_option maxRecDepth 100000 in
theorem bk_160_22 (X : (Nat → Int32) × Nat) (mo : Bool) (G : Nat × Nat) (I : Nat → Nat → Int32) (J : Nat → Nat → Int64) (Q : Option Value → sm_M → Prop) (s0 : Int32) :
    sm_wp X 160 22 [some (.ref 14), none, none, none, none, none] [.int s0] (sM mo G I J) Q =
    (if (s0 : Int32) = 0 then sm_wp X 160 38 [some (.ref 14), none, none, none, none, none] [] (sM mo G I J) Q else (sm_wp X 160 0 [some (.ref 14), none, none, none, none, none] [] (sM mo G (up2 I 14 5 ((I 14 5) + 1)) J) Q)) :=
  (sm_blk X 160 22 (tt_lin 160 (by decide)) rfl rfl _ _ _ _).trans rfl
set_option maxRecDepth 100000 in
theorem bk_160_38 (X : (Nat → Int32) × Nat) (mo : Bool) (G : Nat × Nat) (I : Nat → Nat → Int32) (J : Nat → Nat → Int64) (Q : Option Value → sm_M → Prop)  :
    sm_wp X 160 38 [some (.ref 14), none, none, none, none, none] [] (sM mo G I J) Q =
    (sm_wp X 160 50 [some (.ref 14), some (.int 0), some (.int (I 14 1)), some (.int 1), some (.int 0), none] [] (sM mo G I J) Q) :=
  (sm_blk X 160 38 (tt_lin 160 (by decide)) rfl rfl _ _ _ _).trans rfl
set_option maxRecDepth 100000 in
theorem bk_160_50 (X : (Nat → Int32) × Nat) (mo : Bool) (G : Nat × Nat) (I : Nat → Nat → Int32) (J : Nat → Nat → Int64) (Q : Option Value → sm_M → Prop) (x1 : Int32) (x2 : Int32) (x3 : Int32) (x4 : Int32) :
    sm_wp X 160 50 [some (.ref 14), some (.int x1), some (.int x2), some (.int x3), some (.int x4), none] [] (sM mo G I J) Q =
    (True ∧ (if (95 : Int32) ≤ (x4 : Int32) then sm_wp X 160 140 [some (.ref 14), some (.int x1), some (.int x2), some (.int x3), some (.int x4), none] [] (sM mo G I J) Q else (vp_in x4 95 ∧ (if (sm_words.getD x4.toNatClampNeg 0 : Int32) = (32 : Int32) then sm_wp X 160 110 [some (.ref 14), some (.int x1), some (.int x2), some (.int x3), some (.int x4), some (.int (sm_words.getD x4.toNatClampNeg 0))] [] (sM mo G I J) Q else (if (x3 : Int32) = 0 then sm_wp X 160 102 [some (.ref 14), some (.int x1), some (.int x2), some (.int x3), some (.int x4), some (.int (sm_words.getD x4.toNatClampNeg 0))] [] (sM mo G I J) Q else (if (I 14 5 : Int32) ≤ (x2 : Int32) then sm_wp X 160 102 [some (.ref 14), some (.int x1), some (.int x2), some (.int x3), some (.int x4), some (.int (sm_words.getD x4.toNatClampNeg 0))] [] (sM mo G I J) Q else (sm_wp X 157 0 [some (.ref 14), some (.int x2)] [] (sM mo G I J) (fun v M => sm_wp X 160 93 [some (.ref 14), some (.int x1), some (.int x2), some (.int x3), some (.int x4), some (.int (sm_words.getD x4.toNatClampNeg 0))] (v.toList ++ []) M Q)))))))) :=
  (sm_blk X 160 50 (tt_lin 160 (by decide)) rfl rfl _ _ _ _).trans rfl
set_option maxRecDepth 100000 in
theorem bk_160_93 (X : (Nat → Int32) × Nat) (mo : Bool) (G : Nat × Nat) (I : Nat → Nat → Int32) (J : Nat → Nat → Int64) (Q : Option Value → sm_M → Prop) (x1 : Int32) (x2 : Int32) (x3 : Int32) (x4 : Int32) (x5 : Int32) (s0 : Int32) :
    sm_wp X 160 93 [some (.ref 14), some (.int x1), some (.int x2), some (.int x3), some (.int x4), some (.int x5)] [.int s0] (sM mo G I J) Q =
    (if ¬ (s0 : Int32) = (x5 : Int32) then sm_wp X 160 102 [some (.ref 14), some (.int x1), some (.int x2), some (.int x3), some (.int x4), some (.int x5)] [] (sM mo G I J) Q else (sm_wp X 160 103 [some (.ref 14), some (.int x1), some (.int x2), some (.int x3), some (.int x4), some (.int x5)] [.int 1] (sM mo G I J) Q)) :=
  (sm_blk X 160 93 (tt_lin 160 (by decide)) rfl rfl _ _ _ _).trans rfl
set_option maxRecDepth 100000 in
theorem bk_160_102 (X : (Nat → Int32) × Nat) (mo : Bool) (G : Nat × Nat) (I : Nat → Nat → Int32) (J : Nat → Nat → Int64) (Q : Option Value → sm_M → Prop) (x1 : Int32) (x2 : Int32) (x3 : Int32) (x4 : Int32) (x5 : Int32) :
    sm_wp X 160 102 [some (.ref 14), some (.int x1), some (.int x2), some (.int x3), some (.int x4), some (.int x5)] [] (sM mo G I J) Q =
    (sm_wp X 160 134 [some (.ref 14), some (.int x1), some (.int (x2 + 1)), some (.int 0), some (.int x4), some (.int x5)] [] (sM mo G I J) Q) :=
  (sm_blk X 160 102 (tt_lin 160 (by decide)) rfl rfl _ _ _ _).trans rfl
set_option maxRecDepth 100000 in
theorem bk_160_103 (X : (Nat → Int32) × Nat) (mo : Bool) (G : Nat × Nat) (I : Nat → Nat → Int32) (J : Nat → Nat → Int64) (Q : Option Value → sm_M → Prop) (x1 : Int32) (x2 : Int32) (x3 : Int32) (x4 : Int32) (x5 : Int32) (s0 : Int32) :
    sm_wp X 160 103 [some (.ref 14), some (.int x1), some (.int x2), some (.int x3), some (.int x4), some (.int x5)] [.int s0] (sM mo G I J) Q =
    (sm_wp X 160 134 [some (.ref 14), some (.int x1), some (.int (x2 + 1)), some (.int s0), some (.int x4), some (.int x5)] [] (sM mo G I J) Q) :=
  (sm_blk X 160 103 (tt_lin 160 (by decide)) rfl rfl _ _ _ _).trans rfl
set_option maxRecDepth 100000 in
theorem bk_160_110 (X : (Nat → Int32) × Nat) (mo : Bool) (G : Nat × Nat) (I : Nat → Nat → Int32) (J : Nat → Nat → Int64) (Q : Option Value → sm_M → Prop) (x1 : Int32) (x2 : Int32) (x3 : Int32) (x4 : Int32) (x5 : Int32) :
    sm_wp X 160 110 [some (.ref 14), some (.int x1), some (.int x2), some (.int x3), some (.int x4), some (.int x5)] [] (sM mo G I J) Q =
    (if (x3 : Int32) = 0 then sm_wp X 160 124 [some (.ref 14), some (.int x1), some (.int x2), some (.int x3), some (.int x4), some (.int x5)] [] (sM mo G I J) Q else (if ¬ (x2 : Int32) = (I 14 5 : Int32) then sm_wp X 160 124 [some (.ref 14), some (.int x1), some (.int x2), some (.int x3), some (.int x4), some (.int x5)] [] (sM mo G I J) Q else (True ∧ Q (some (.int x1)) (sM mo G I J)))) :=
  (sm_blk X 160 110 (tt_lin 160 (by decide)) rfl rfl _ _ _ _).trans rfl
set_option maxRecDepth 100000 in
theorem bk_160_124 (X : (Nat → Int32) × Nat) (mo : Bool) (G : Nat × Nat) (I : Nat → Nat → Int32) (J : Nat → Nat → Int64) (Q : Option Value → sm_M → Prop) (x1 : Int32) (x2 : Int32) (x3 : Int32) (x4 : Int32) (x5 : Int32) :
    sm_wp X 160 124 [some (.ref 14), some (.int x1), some (.int x2), some (.int x3), some (.int x4), some (.int x5)] [] (sM mo G I J) Q =
    (sm_wp X 160 50 [some (.ref 14), some (.int (x1 + 1)), some (.int (I 14 1)), some (.int 1), some (.int (x4 + 1)), none] [] (sM mo G I J) Q) :=
  (sm_blk X 160 124 (tt_lin 160 (by decide)) rfl rfl _ _ _ _).trans rfl
set_option maxRecDepth 100000 in
theorem bk_160_134 (X : (Nat → Int32) × Nat) (mo : Bool) (G : Nat × Nat) (I : Nat → Nat → Int32) (J : Nat → Nat → Int64) (Q : Option Value → sm_M → Prop) (x1 : Int32) (x2 : Int32) (x3 : Int32) (x4 : Int32) (x5 : Int32) :
    sm_wp X 160 134 [some (.ref 14), some (.int x1), some (.int x2), some (.int x3), some (.int x4), some (.int x5)] [] (sM mo G I J) Q =
    (sm_wp X 160 50 [some (.ref 14), some (.int x1), some (.int x2), some (.int x3), some (.int (x4 + 1)), none] [] (sM mo G I J) Q) :=
  (sm_blk X 160 134 (tt_lin 160 (by decide)) rfl rfl _ _ _ _).trans rfl
set_option maxRecDepth 100000 in
theorem bk_160_140 (X : (Nat → Int32) × Nat) (mo : Bool) (G : Nat × Nat) (I : Nat → Nat → Int32) (J : Nat → Nat → Int64) (Q : Option Value → sm_M → Prop) (x1 : Int32) (x2 : Int32) (x3 : Int32) (x4 : Int32) :
    sm_wp X 160 140 [some (.ref 14), some (.int x1), some (.int x2), some (.int x3), some (.int x4), none] [] (sM mo G I J) Q =
    (True ∧ Q (some (.int 35)) (sM mo G I J)) :=
  (sm_blk X 160 140 (tt_lin 160 (by decide)) rfl rfl _ _ _ _).trans rfl
set_option maxRecDepth 100000 in
theorem bk_161_0 (X : (Nat → Int32) × Nat) (mo : Bool) (G : Nat × Nat) (I : Nat → Nat → Int32) (J : Nat → Nat → Int64) (Q : Option Value → sm_M → Prop) (x0 : Int32) :
    sm_wp X 161 0 [some (.int x0)] [] (sM mo G I J) Q =
    (if (x0 : Int32) < (48 : Int32) then sm_wp X 161 16 [some (.int x0)] [] (sM mo G I J) Q else (if (57 : Int32) < (x0 : Int32) then sm_wp X 161 16 [some (.int x0)] [] (sM mo G I J) Q else (sm_wp X 161 17 [some (.int x0)] [.int 1] (sM mo G I J) Q))) :=
  (sm_blk X 161 0 (tt_lin 161 (by decide)) rfl rfl _ _ _ _).trans rfl
set_option maxRecDepth 100000 in
theorem bk_161_16 (X : (Nat → Int32) × Nat) (mo : Bool) (G : Nat × Nat) (I : Nat → Nat → Int32) (J : Nat → Nat → Int64) (Q : Option Value → sm_M → Prop) (x0 : Int32) :
    sm_wp X 161 16 [some (.int x0)] [] (sM mo G I J) Q =
    (sm_zb 0 ∧ Q (some (.int 0)) (sM mo G I J)) :=
  (sm_blk X 161 16 (tt_lin 161 (by decide)) rfl rfl _ _ _ _).trans rfl
set_option maxRecDepth 100000 in
theorem bk_161_17 (X : (Nat → Int32) × Nat) (mo : Bool) (G : Nat × Nat) (I : Nat → Nat → Int32) (J : Nat → Nat → Int64) (Q : Option Value → sm_M → Prop) (x0 : Int32) (s0 : Int32) :
    sm_wp X 161 17 [some (.int x0)] [.int s0] (sM mo G I J) Q =
    (sm_zb s0 ∧ Q (some (.int s0)) (sM mo G I J)) :=
  (sm_blk X 161 17 (tt_lin 161 (by decide)) rfl rfl _ _ _ _).trans rfl
set_option maxRecDepth 100000 in
theorem bk_162_0 (X : (Nat → Int32) × Nat) (mo : Bool) (G : Nat × Nat) (I : Nat → Nat → Int32) (J : Nat → Nat → Int64) (Q : Option Value → sm_M → Prop)  :
    sm_wp X 162 0 [some (.ref 14)] [] (sM mo G I J) Q =
    (sm_wp X 162 5 [some (.ref 14)] [] (sM mo G (up2 I 14 2 0) J) Q) :=
  (sm_blk X 162 0 (tt_lin 162 (by decide)) rfl rfl _ _ _ _).trans rfl
set_option maxRecDepth 100000 in
theorem bk_162_5 (X : (Nat → Int32) × Nat) (mo : Bool) (G : Nat × Nat) (I : Nat → Nat → Int32) (J : Nat → Nat → Int64) (Q : Option Value → sm_M → Prop)  :
    sm_wp X 162 5 [some (.ref 14)] [] (sM mo G I J) Q =
    (if (I 14 4 : Int32) ≤ (I 14 5 : Int32) then sm_wp X 162 71 [some (.ref 14)] [] (sM mo G I J) Q else (sm_wp X 157 0 [some (.ref 14), some (.int (I 14 5))] [] (sM mo G I J) (fun v M => sm_wp X 162 24 [some (.ref 14)] (v.toList ++ []) M Q))) :=
  (sm_blk X 162 5 (tt_lin 162 (by decide)) rfl rfl _ _ _ _).trans rfl
set_option maxRecDepth 100000 in
theorem bk_162_24 (X : (Nat → Int32) × Nat) (mo : Bool) (G : Nat × Nat) (I : Nat → Nat → Int32) (J : Nat → Nat → Int64) (Q : Option Value → sm_M → Prop) (s0 : Int32) :
    sm_wp X 162 24 [some (.ref 14)] [.int s0] (sM mo G I J) Q =
    (sm_wp X 161 0 [some (.int s0)] [] (sM mo G I J) (fun v M => sm_wp X 162 27 [some (.ref 14)] (v.toList ++ []) M Q)) :=
  (sm_blk X 162 24 (tt_lin 162 (by decide)) rfl rfl _ _ _ _).trans rfl
set_option maxRecDepth 100000 in
theorem bk_162_27 (X : (Nat → Int32) × Nat) (mo : Bool) (G : Nat × Nat) (I : Nat → Nat → Int32) (J : Nat → Nat → Int64) (Q : Option Value → sm_M → Prop) (s0 : Int32) :
    sm_wp X 162 27 [some (.ref 14)] [.int s0] (sM mo G I J) Q =
    (if (s0 : Int32) = 0 then sm_wp X 162 71 [some (.ref 14)] [] (sM mo G I J) Q else (sm_wp X 157 0 [some (.ref 14), some (.int (I 14 5))] [] (sM mo G I J) (fun v M => sm_wp X 162 46 [some (.ref 14)] (v.toList ++ [.int ((I 14 2) * 10), .ref 14]) M Q))) :=
  (sm_blk X 162 27 (tt_lin 162 (by decide)) rfl rfl _ _ _ _).trans rfl
set_option maxRecDepth 100000 in
theorem bk_162_46 (X : (Nat → Int32) × Nat) (mo : Bool) (G : Nat × Nat) (I : Nat → Nat → Int32) (J : Nat → Nat → Int64) (Q : Option Value → sm_M → Prop) (s1 : Int32) (s2 : Int32) :
    sm_wp X 162 46 [some (.ref 14)] [.int s2, .int s1, .ref 14] (sM mo G I J) Q =
    (True ∧ (sm_wp X 162 5 [some (.ref 14)] [] (sM mo G (up2 (up2 I 14 2 (if (100000 : Int32) < (s1 + s2) - 48 then 100000 else (s1 + s2) - 48)) 14 5 (((up2 I 14 2 (if (100000 : Int32) < (s1 + s2) - 48 then 100000 else (s1 + s2) - 48)) 14 5) + 1)) J) Q)) :=
  (sm_blk X 162 46 (tt_lin 162 (by decide)) rfl rfl _ _ _ _).trans rfl
set_option maxRecDepth 100000 in
theorem bk_162_71 (X : (Nat → Int32) × Nat) (mo : Bool) (G : Nat × Nat) (I : Nat → Nat → Int32) (J : Nat → Nat → Int64) (Q : Option Value → sm_M → Prop)  :
    sm_wp X 162 71 [some (.ref 14)] [] (sM mo G I J) Q =
    (True ∧ Q (some (.int 36)) (sM mo G I J)) :=
  (sm_blk X 162 71 (tt_lin 162 (by decide)) rfl rfl _ _ _ _).trans rfl
set_option maxRecDepth 100000 in
theorem bk_163_0 (X : (Nat → Int32) × Nat) (mo : Bool) (G : Nat × Nat) (I : Nat → Nat → Int32) (J : Nat → Nat → Int64) (Q : Option Value → sm_M → Prop) (x1 : Int32) :
    sm_wp X 163 0 [some (.ref 14), some (.int x1)] [] (sM mo G I J) Q =
    (if (x1 : Int32) = 37 then sm_wp X 163 140 [some (.ref 14), some (.int x1)] [] (sM mo G (up2 I 14 5 ((I 14 5) + 1)) J) Q else if (x1 : Int32) = 38 then sm_wp X 163 177 [some (.ref 14), some (.int x1)] [] (sM mo G (up2 I 14 5 ((I 14 5) + 1)) J) Q else if (x1 : Int32) = 39 then sm_wp X 163 177 [some (.ref 14), some (.int x1)] [] (sM mo G (up2 I 14 5 ((I 14 5) + 1)) J) Q else if (x1 : Int32) = 40 then sm_wp X 163 168 [some (.ref 14), some (.int x1)] [] (sM mo G (up2 I 14 5 ((I 14 5) + 1)) J) Q else if (x1 : Int32) = 41 then sm_wp X 163 171 [some (.ref 14), some (.int x1)] [] (sM mo G (up2 I 14 5 ((I 14 5) + 1)) J) Q else if (x1 : Int32) = 42 then sm_wp X 163 134 [some (.ref 14), some (.int x1)] [] (sM mo G (up2 I 14 5 ((I 14 5) + 1)) J) Q else if (x1 : Int32) = 43 then sm_wp X 163 128 [some (.ref 14), some (.int x1)] [] (sM mo G (up2 I 14 5 ((I 14 5) + 1)) J) Q else if (x1 : Int32) = 44 then sm_wp X 163 177 [some (.ref 14), some (.int x1)] [] (sM mo G (up2 I 14 5 ((I 14 5) + 1)) J) Q else if (x1 : Int32) = 45 then sm_wp X 163 131 [some (.ref 14), some (.int x1)] [] (sM mo G (up2 I 14 5 ((I 14 5) + 1)) J) Q else if (x1 : Int32) = 46 then sm_wp X 163 177 [some (.ref 14), some (.int x1)] [] (sM mo G (up2 I 14 5 ((I 14 5) + 1)) J) Q else if (x1 : Int32) = 47 then sm_wp X 163 137 [some (.ref 14), some (.int x1)] [] (sM mo G (up2 I 14 5 ((I 14 5) + 1)) J) Q else if (x1 : Int32) = 48 then sm_wp X 163 177 [some (.ref 14), some (.int x1)] [] (sM mo G (up2 I 14 5 ((I 14 5) + 1)) J) Q else if (x1 : Int32) = 49 then sm_wp X 163 177 [some (.ref 14), some (.int x1)] [] (sM mo G (up2 I 14 5 ((I 14 5) + 1)) J) Q else if (x1 : Int32) = 50 then sm_wp X 163 177 [some (.ref 14), some (.int x1)] [] (sM mo G (up2 I 14 5 ((I 14 5) + 1)) J) Q else if (x1 : Int32) = 51 then sm_wp X 163 177 [some (.ref 14), some (.int x1)] [] (sM mo G (up2 I 14 5 ((I 14 5) + 1)) J) Q else if (x1 : Int32) = 52 then sm_wp X 163 177 [some (.ref 14), some (.int x1)] [] (sM mo G (up2 I 14 5 ((I 14 5) + 1)) J) Q else if (x1 : Int32) = 53 then sm_wp X 163 177 [some (.ref 14), some (.int x1)] [] (sM mo G (up2 I 14 5 ((I 14 5) + 1)) J) Q else if (x1 : Int32) = 54 then sm_wp X 163 177 [some (.ref 14), some (.int x1)] [] (sM mo G (up2 I 14 5 ((I 14 5) + 1)) J) Q else if (x1 : Int32) = 55 then sm_wp X 163 177 [some (.ref 14), some (.int x1)] [] (sM mo G (up2 I 14 5 ((I 14 5) + 1)) J) Q else if (x1 : Int32) = 56 then sm_wp X 163 177 [some (.ref 14), some (.int x1)] [] (sM mo G (up2 I 14 5 ((I 14 5) + 1)) J) Q else if (x1 : Int32) = 57 then sm_wp X 163 177 [some (.ref 14), some (.int x1)] [] (sM mo G (up2 I 14 5 ((I 14 5) + 1)) J) Q else if (x1 : Int32) = 58 then sm_wp X 163 177 [some (.ref 14), some (.int x1)] [] (sM mo G (up2 I 14 5 ((I 14 5) + 1)) J) Q else if (x1 : Int32) = 59 then sm_wp X 163 174 [some (.ref 14), some (.int x1)] [] (sM mo G (up2 I 14 5 ((I 14 5) + 1)) J) Q else if (x1 : Int32) = 60 then sm_wp X 163 146 [some (.ref 14), some (.int x1)] [] (sM mo G (up2 I 14 5 ((I 14 5) + 1)) J) Q else if (x1 : Int32) = 61 then sm_wp X 163 143 [some (.ref 14), some (.int x1)] [] (sM mo G (up2 I 14 5 ((I 14 5) + 1)) J) Q else if (x1 : Int32) = 62 then sm_wp X 163 151 [some (.ref 14), some (.int x1)] [] (sM mo G (up2 I 14 5 ((I 14 5) + 1)) J) Q else sm_wp X 163 177 [some (.ref 14), some (.int x1)] [] (sM mo G (up2 I 14 5 ((I 14 5) + 1)) J) Q) :=
  (sm_blk X 163 0 (tt_lin 163 (by decide)) rfl rfl _ _ _ _).trans rfl
set_option maxRecDepth 100000 in
theorem bk_163_128 (X : (Nat → Int32) × Nat) (mo : Bool) (G : Nat × Nat) (I : Nat → Nat → Int32) (J : Nat → Nat → Int64) (Q : Option Value → sm_M → Prop) (x1 : Int32) :
    sm_wp X 163 128 [some (.ref 14), some (.int x1)] [] (sM mo G I J) Q =
    (True ∧ Q (some (.int 19)) (sM mo G I J)) :=
  (sm_blk X 163 128 (tt_lin 163 (by decide)) rfl rfl _ _ _ _).trans rfl
set_option maxRecDepth 100000 in
theorem bk_163_131 (X : (Nat → Int32) × Nat) (mo : Bool) (G : Nat × Nat) (I : Nat → Nat → Int32) (J : Nat → Nat → Int64) (Q : Option Value → sm_M → Prop) (x1 : Int32) :
    sm_wp X 163 131 [some (.ref 14), some (.int x1)] [] (sM mo G I J) Q =
    (True ∧ Q (some (.int 20)) (sM mo G I J)) :=
  (sm_blk X 163 131 (tt_lin 163 (by decide)) rfl rfl _ _ _ _).trans rfl
set_option maxRecDepth 100000 in
theorem bk_163_134 (X : (Nat → Int32) × Nat) (mo : Bool) (G : Nat × Nat) (I : Nat → Nat → Int32) (J : Nat → Nat → Int64) (Q : Option Value → sm_M → Prop) (x1 : Int32) :
    sm_wp X 163 134 [some (.ref 14), some (.int x1)] [] (sM mo G I J) Q =
    (True ∧ Q (some (.int 21)) (sM mo G I J)) :=
  (sm_blk X 163 134 (tt_lin 163 (by decide)) rfl rfl _ _ _ _).trans rfl
set_option maxRecDepth 100000 in
theorem bk_163_137 (X : (Nat → Int32) × Nat) (mo : Bool) (G : Nat × Nat) (I : Nat → Nat → Int32) (J : Nat → Nat → Int64) (Q : Option Value → sm_M → Prop) (x1 : Int32) :
    sm_wp X 163 137 [some (.ref 14), some (.int x1)] [] (sM mo G I J) Q =
    (True ∧ Q (some (.int 22)) (sM mo G I J)) :=
  (sm_blk X 163 137 (tt_lin 163 (by decide)) rfl rfl _ _ _ _).trans rfl
set_option maxRecDepth 100000 in
theorem bk_163_140 (X : (Nat → Int32) × Nat) (mo : Bool) (G : Nat × Nat) (I : Nat → Nat → Int32) (J : Nat → Nat → Int64) (Q : Option Value → sm_M → Prop) (x1 : Int32) :
    sm_wp X 163 140 [some (.ref 14), some (.int x1)] [] (sM mo G I J) Q =
    (True ∧ Q (some (.int 23)) (sM mo G I J)) :=
  (sm_blk X 163 140 (tt_lin 163 (by decide)) rfl rfl _ _ _ _).trans rfl
set_option maxRecDepth 100000 in
theorem bk_163_143 (X : (Nat → Int32) × Nat) (mo : Bool) (G : Nat × Nat) (I : Nat → Nat → Int32) (J : Nat → Nat → Int64) (Q : Option Value → sm_M → Prop) (x1 : Int32) :
    sm_wp X 163 143 [some (.ref 14), some (.int x1)] [] (sM mo G I J) Q =
    (True ∧ Q (some (.int 26)) (sM mo G I J)) :=
  (sm_blk X 163 143 (tt_lin 163 (by decide)) rfl rfl _ _ _ _).trans rfl
set_option maxRecDepth 100000 in
theorem bk_163_146 (X : (Nat → Int32) × Nat) (mo : Bool) (G : Nat × Nat) (I : Nat → Nat → Int32) (J : Nat → Nat → Int64) (Q : Option Value → sm_M → Prop) (x1 : Int32) :
    sm_wp X 163 146 [some (.ref 14), some (.int x1)] [] (sM mo G I J) Q =
    (sm_wp X 164 0 [some (.ref 14)] [] (sM mo G I J) (fun v M => sm_wp X 163 150 [some (.ref 14), some (.int x1)] (v.toList ++ []) M Q)) :=
  (sm_blk X 163 146 (tt_lin 163 (by decide)) rfl rfl _ _ _ _).trans rfl
set_option maxRecDepth 100000 in
theorem bk_163_150 (X : (Nat → Int32) × Nat) (mo : Bool) (G : Nat × Nat) (I : Nat → Nat → Int32) (J : Nat → Nat → Int64) (Q : Option Value → sm_M → Prop) (x1 : Int32) (s0 : Int32) :
    sm_wp X 163 150 [some (.ref 14), some (.int x1)] [.int s0] (sM mo G I J) Q =
    (True ∧ Q (some (.int s0)) (sM mo G I J)) :=
  (sm_blk X 163 150 (tt_lin 163 (by decide)) rfl rfl _ _ _ _).trans rfl
set_option maxRecDepth 100000 in
theorem bk_163_151 (X : (Nat → Int32) × Nat) (mo : Bool) (G : Nat × Nat) (I : Nat → Nat → Int32) (J : Nat → Nat → Int64) (Q : Option Value → sm_M → Prop) (x1 : Int32) :
    sm_wp X 163 151 [some (.ref 14), some (.int x1)] [] (sM mo G I J) Q =
    (sm_wp X 165 0 [some (.ref 14), some (.int 61)] [] (sM mo G I J) (fun v M => sm_wp X 163 157 [some (.ref 14), some (.int x1)] (v.toList ++ []) M Q)) :=
  (sm_blk X 163 151 (tt_lin 163 (by decide)) rfl rfl _ _ _ _).trans rfl
set_option maxRecDepth 100000 in
theorem bk_163_157 (X : (Nat → Int32) × Nat) (mo : Bool) (G : Nat × Nat) (I : Nat → Nat → Int32) (J : Nat → Nat → Int64) (Q : Option Value → sm_M → Prop) (x1 : Int32) (s0 : Int32) :
    sm_wp X 163 157 [some (.ref 14), some (.int x1)] [.int s0] (sM mo G I J) Q =
    (if (s0 : Int32) = 0 then sm_wp X 163 165 [some (.ref 14), some (.int x1)] [] (sM mo G I J) Q else (sm_wp X 163 167 [some (.ref 14), some (.int x1)] [.int 28] (sM mo G I J) Q)) :=
  (sm_blk X 163 157 (tt_lin 163 (by decide)) rfl rfl _ _ _ _).trans rfl
set_option maxRecDepth 100000 in
theorem bk_163_165 (X : (Nat → Int32) × Nat) (mo : Bool) (G : Nat × Nat) (I : Nat → Nat → Int32) (J : Nat → Nat → Int64) (Q : Option Value → sm_M → Prop) (x1 : Int32) :
    sm_wp X 163 165 [some (.ref 14), some (.int x1)] [] (sM mo G I J) Q =
    (True ∧ Q (some (.int 29)) (sM mo G I J)) :=
  (sm_blk X 163 165 (tt_lin 163 (by decide)) rfl rfl _ _ _ _).trans rfl
set_option maxRecDepth 100000 in
theorem bk_163_167 (X : (Nat → Int32) × Nat) (mo : Bool) (G : Nat × Nat) (I : Nat → Nat → Int32) (J : Nat → Nat → Int64) (Q : Option Value → sm_M → Prop) (x1 : Int32) (s0 : Int32) :
    sm_wp X 163 167 [some (.ref 14), some (.int x1)] [.int s0] (sM mo G I J) Q =
    (True ∧ Q (some (.int s0)) (sM mo G I J)) :=
  (sm_blk X 163 167 (tt_lin 163 (by decide)) rfl rfl _ _ _ _).trans rfl
set_option maxRecDepth 100000 in
theorem bk_163_168 (X : (Nat → Int32) × Nat) (mo : Bool) (G : Nat × Nat) (I : Nat → Nat → Int32) (J : Nat → Nat → Int64) (Q : Option Value → sm_M → Prop) (x1 : Int32) :
    sm_wp X 163 168 [some (.ref 14), some (.int x1)] [] (sM mo G I J) Q =
    (True ∧ Q (some (.int 30)) (sM mo G I J)) :=
  (sm_blk X 163 168 (tt_lin 163 (by decide)) rfl rfl _ _ _ _).trans rfl
set_option maxRecDepth 100000 in
theorem bk_163_171 (X : (Nat → Int32) × Nat) (mo : Bool) (G : Nat × Nat) (I : Nat → Nat → Int32) (J : Nat → Nat → Int64) (Q : Option Value → sm_M → Prop) (x1 : Int32) :
    sm_wp X 163 171 [some (.ref 14), some (.int x1)] [] (sM mo G I J) Q =
    (True ∧ Q (some (.int 31)) (sM mo G I J)) :=
  (sm_blk X 163 171 (tt_lin 163 (by decide)) rfl rfl _ _ _ _).trans rfl
set_option maxRecDepth 100000 in
theorem bk_163_174 (X : (Nat → Int32) × Nat) (mo : Bool) (G : Nat × Nat) (I : Nat → Nat → Int32) (J : Nat → Nat → Int64) (Q : Option Value → sm_M → Prop) (x1 : Int32) :
    sm_wp X 163 174 [some (.ref 14), some (.int x1)] [] (sM mo G I J) Q =
    (True ∧ Q (some (.int 32)) (sM mo G I J)) :=
  (sm_blk X 163 174 (tt_lin 163 (by decide)) rfl rfl _ _ _ _).trans rfl
set_option maxRecDepth 100000 in
theorem bk_163_177 (X : (Nat → Int32) × Nat) (mo : Bool) (G : Nat × Nat) (I : Nat → Nat → Int32) (J : Nat → Nat → Int64) (Q : Option Value → sm_M → Prop) (x1 : Int32) :
    sm_wp X 163 177 [some (.ref 14), some (.int x1)] [] (sM mo G I J) Q =
    (True ∧ Q (some (.int 35)) (sM mo G I J)) :=
  (sm_blk X 163 177 (tt_lin 163 (by decide)) rfl rfl _ _ _ _).trans rfl
set_option maxRecDepth 100000 in
theorem bk_164_0 (X : (Nat → Int32) × Nat) (mo : Bool) (G : Nat × Nat) (I : Nat → Nat → Int32) (J : Nat → Nat → Int64) (Q : Option Value → sm_M → Prop)  :
    sm_wp X 164 0 [some (.ref 14)] [] (sM mo G I J) Q =
    (sm_wp X 165 0 [some (.ref 14), some (.int 61)] [] (sM mo G I J) (fun v M => sm_wp X 164 6 [some (.ref 14)] (v.toList ++ []) M Q)) :=
  (sm_blk X 164 0 (tt_lin 164 (by decide)) rfl rfl _ _ _ _).trans rfl
set_option maxRecDepth 100000 in
theorem bk_164_6 (X : (Nat → Int32) × Nat) (mo : Bool) (G : Nat × Nat) (I : Nat → Nat → Int32) (J : Nat → Nat → Int64) (Q : Option Value → sm_M → Prop) (s0 : Int32) :
    sm_wp X 164 6 [some (.ref 14)] [.int s0] (sM mo G I J) Q =
    (if (s0 : Int32) = 0 then sm_wp X 164 12 [some (.ref 14)] [] (sM mo G I J) Q else (True ∧ Q (some (.int 25)) (sM mo G I J))) :=
  (sm_blk X 164 6 (tt_lin 164 (by decide)) rfl rfl _ _ _ _).trans rfl
set_option maxRecDepth 100000 in
theorem bk_164_12 (X : (Nat → Int32) × Nat) (mo : Bool) (G : Nat × Nat) (I : Nat → Nat → Int32) (J : Nat → Nat → Int64) (Q : Option Value → sm_M → Prop)  :
    sm_wp X 164 12 [some (.ref 14)] [] (sM mo G I J) Q =
    (sm_wp X 165 0 [some (.ref 14), some (.int 62)] [] (sM mo G I J) (fun v M => sm_wp X 164 18 [some (.ref 14)] (v.toList ++ []) M Q)) :=
  (sm_blk X 164 12 (tt_lin 164 (by decide)) rfl rfl _ _ _ _).trans rfl
set_option maxRecDepth 100000 in
theorem bk_164_18 (X : (Nat → Int32) × Nat) (mo : Bool) (G : Nat × Nat) (I : Nat → Nat → Int32) (J : Nat → Nat → Int64) (Q : Option Value → sm_M → Prop) (s0 : Int32) :
    sm_wp X 164 18 [some (.ref 14)] [.int s0] (sM mo G I J) Q =
    (if (s0 : Int32) = 0 then sm_wp X 164 26 [some (.ref 14)] [] (sM mo G I J) Q else (sm_wp X 164 28 [some (.ref 14)] [.int 27] (sM mo G I J) Q)) :=
  (sm_blk X 164 18 (tt_lin 164 (by decide)) rfl rfl _ _ _ _).trans rfl
set_option maxRecDepth 100000 in
theorem bk_164_26 (X : (Nat → Int32) × Nat) (mo : Bool) (G : Nat × Nat) (I : Nat → Nat → Int32) (J : Nat → Nat → Int64) (Q : Option Value → sm_M → Prop)  :
    sm_wp X 164 26 [some (.ref 14)] [] (sM mo G I J) Q =
    (True ∧ Q (some (.int 24)) (sM mo G I J)) :=
  (sm_blk X 164 26 (tt_lin 164 (by decide)) rfl rfl _ _ _ _).trans rfl
set_option maxRecDepth 100000 in
theorem bk_164_28 (X : (Nat → Int32) × Nat) (mo : Bool) (G : Nat × Nat) (I : Nat → Nat → Int32) (J : Nat → Nat → Int64) (Q : Option Value → sm_M → Prop) (s0 : Int32) :
    sm_wp X 164 28 [some (.ref 14)] [.int s0] (sM mo G I J) Q =
    (True ∧ Q (some (.int s0)) (sM mo G I J)) :=
  (sm_blk X 164 28 (tt_lin 164 (by decide)) rfl rfl _ _ _ _).trans rfl
set_option maxRecDepth 100000 in
theorem bk_165_0 (X : (Nat → Int32) × Nat) (mo : Bool) (G : Nat × Nat) (I : Nat → Nat → Int32) (J : Nat → Nat → Int64) (Q : Option Value → sm_M → Prop) (x1 : Int32) :
    sm_wp X 165 0 [some (.ref 14), some (.int x1)] [] (sM mo G I J) Q =
    (if (I 14 4 : Int32) ≤ (I 14 5 : Int32) then sm_wp X 165 23 [some (.ref 14), some (.int x1)] [] (sM mo G I J) Q else (sm_wp X 157 0 [some (.ref 14), some (.int (I 14 5))] [] (sM mo G I J) (fun v M => sm_wp X 165 19 [some (.ref 14), some (.int x1)] (v.toList ++ []) M Q))) :=
  (sm_blk X 165 0 (tt_lin 165 (by decide)) rfl rfl _ _ _ _).trans rfl
set_option maxRecDepth 100000 in
theorem bk_165_19 (X : (Nat → Int32) × Nat) (mo : Bool) (G : Nat × Nat) (I : Nat → Nat → Int32) (J : Nat → Nat → Int64) (Q : Option Value → sm_M → Prop) (x1 : Int32) (s0 : Int32) :
    sm_wp X 165 19 [some (.ref 14), some (.int x1)] [.int s0] (sM mo G I J) Q =
    (if (s0 : Int32) = (x1 : Int32) then sm_wp X 165 25 [some (.ref 14), some (.int x1)] [] (sM mo G I J) Q else (sm_zb 0 ∧ Q (some (.int 0)) (sM mo G I J))) :=
  (sm_blk X 165 19 (tt_lin 165 (by decide)) rfl rfl _ _ _ _).trans rfl
set_option maxRecDepth 100000 in
theorem bk_165_23 (X : (Nat → Int32) × Nat) (mo : Bool) (G : Nat × Nat) (I : Nat → Nat → Int32) (J : Nat → Nat → Int64) (Q : Option Value → sm_M → Prop) (x1 : Int32) :
    sm_wp X 165 23 [some (.ref 14), some (.int x1)] [] (sM mo G I J) Q =
    (sm_zb 0 ∧ Q (some (.int 0)) (sM mo G I J)) :=
  (sm_blk X 165 23 (tt_lin 165 (by decide)) rfl rfl _ _ _ _).trans rfl
set_option maxRecDepth 100000 in
theorem bk_165_25 (X : (Nat → Int32) × Nat) (mo : Bool) (G : Nat × Nat) (I : Nat → Nat → Int32) (J : Nat → Nat → Int64) (Q : Option Value → sm_M → Prop) (x1 : Int32) :
    sm_wp X 165 25 [some (.ref 14), some (.int x1)] [] (sM mo G I J) Q =
    (sm_zb 1 ∧ Q (some (.int 1)) (sM mo G (up2 I 14 5 ((I 14 5) + 1)) J)) :=
  (sm_blk X 165 25 (tt_lin 165 (by decide)) rfl rfl _ _ _ _).trans rfl
end
section
/-! Reads over writes elsewhere. -/
theorem up2_ne {α : Type} {I : Nat → Nat → α} {a k : Nat} {v : α} {c : Nat} (h : c ≠ a) : up2 I a k v c = I c := by simp [up2, va_up, h]
end
