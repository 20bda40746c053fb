set_option maxRecDepth 100000 in
theorem bk_128_0 (X : (Nat → Int32) × Nat) (mo : Bool) (G : Nat × Nat) (I : Nat → Nat → Int32) (J : Nat → Nat → Int64) (Q : Option Value → sm_M → Prop) (x1 : Int32) :
    sm_wp X 128 0 [some (.ref 52), some (.int x1), none, none] [] (sM mo G I J) Q =
    (if ¬ (I 52 3 : Int32) = (x1 : Int32) then sm_wp X 128 23 [some (.ref 52), some (.int x1), none, none] [] (sM mo G I J) Q else (if ¬ (I 52 4 : Int32) = (I 1 4 : Int32) then sm_wp X 128 23 [some (.ref 52), some (.int x1), none, none] [] (sM mo G I J) Q else (True ∧ Q none (sM mo G I J)))) :=
  (sm_blk X 128 0 (tt_lin 128 (by decide)) rfl rfl _ _ _ _).trans rfl
set_option maxRecDepth 100000 in
theorem bk_128_23 (X : (Nat → Int32) × Nat) (mo : Bool) (G : Nat × Nat) (I : Nat → Nat → Int32) (J : Nat → Nat → Int64) (Q : Option Value → sm_M → Prop) (x1 : Int32) :
    sm_wp X 128 23 [some (.ref 52), some (.int x1), none, none] [] (sM mo G I J) Q =
    (sm_wp X 129 0 [some (.ref 52), some (.int x1), none, none, none] [] (sM mo G (up2 (up2 (up2 (up2 (up2 (up2 I 52 3 x1) 52 4 ((up2 I 52 3 x1) 1 4)) 52 13 0) 52 14 0) 52 15 0) 52 17 (-1)) (up2 J 52 16 0)) (fun v M => sm_wp X 128 69 [some (.ref 52), some (.int x1), none, none] (v.toList ++ []) M Q)) :=
  (sm_blk X 128 23 (tt_lin 128 (by decide)) rfl rfl _ _ _ _).trans rfl
set_option maxRecDepth 100000 in
theorem bk_128_69 (X : (Nat → Int32) × Nat) (mo : Bool) (G : Nat × Nat) (I : Nat → Nat → Int32) (J : Nat → Nat → Int64) (Q : Option Value → sm_M → Prop) (x1 : Int32) :
    sm_wp X 128 69 [some (.ref 52), some (.int x1), none, none] [] (sM mo G I J) Q =
    (sm_wp X 131 0 [some (.ref 52)] [] (sM mo G I J) (fun v M => sm_wp X 128 73 [some (.ref 52), some (.int x1), none, none] (v.toList ++ []) M Q)) :=
  (sm_blk X 128 69 (tt_lin 128 (by decide)) rfl rfl _ _ _ _).trans rfl
set_option maxRecDepth 100000 in
theorem bk_128_73 (X : (Nat → Int32) × Nat) (mo : Bool) (G : Nat × Nat) (I : Nat → Nat → Int32) (J : Nat → Nat → Int64) (Q : Option Value → sm_M → Prop) (x1 : Int32) (s0 : Int32) :
    sm_wp X 128 73 [some (.ref 52), some (.int x1), none, none] [.int s0] (sM mo G I J) Q =
    (if (s0 : Int32) = 0 then sm_wp X 128 77 [some (.ref 52), some (.int x1), none, none] [] (sM mo G I J) Q else (True ∧ Q none (sM mo G I J))) :=
  (sm_blk X 128 73 (tt_lin 128 (by decide)) rfl rfl _ _ _ _).trans rfl
set_option maxRecDepth 100000 in
theorem bk_128_77 (X : (Nat → Int32) × Nat) (mo : Bool) (G : Nat × Nat) (I : Nat → Nat → Int32) (J : Nat → Nat → Int64) (Q : Option Value → sm_M → Prop) (x1 : Int32) :
    sm_wp X 128 77 [some (.ref 52), some (.int x1), none, none] [] (sM mo G I J) Q =
    (sm_wp X 128 79 [some (.ref 52), none, some (.int 0), none] [] (sM mo G I J) Q) :=
  (sm_blk X 128 77 (tt_lin 128 (by decide)) rfl rfl _ _ _ _).trans rfl
set_option maxRecDepth 100000 in
theorem bk_128_79 (X : (Nat → Int32) × Nat) (mo : Bool) (G : Nat × Nat) (I : Nat → Nat → Int32) (J : Nat → Nat → Int64) (Q : Option Value → sm_M → Prop) (x2 : Int32) :
    sm_wp X 128 79 [some (.ref 52), none, some (.int x2), none] [] (sM mo G I J) Q =
    (if (I 52 5 : Int32) ≤ (x2 : Int32) then sm_wp X 128 110 [some (.ref 52), none, some (.int x2), none] [] (sM mo G I J) Q else (if (8 : Int32) ≤ (x2 : Int32) then sm_wp X 128 110 [some (.ref 52), none, some (.int x2), none] [] (sM mo G I J) Q else (sm_wp X 132 0 [some (.ref 52), some (.int x2), some (.int (-1)), none] [] (sM mo G I J) (fun v M => sm_wp X 128 101 [some (.ref 52), none, some (.int x2), none] (v.toList ++ [.int x2, .ref 52]) M Q)))) :=
  (sm_blk X 128 79 (tt_lin 128 (by decide)) rfl rfl _ _ _ _).trans rfl
set_option maxRecDepth 100000 in
theorem bk_128_101 (X : (Nat → Int32) × Nat) (mo : Bool) (G : Nat × Nat) (I : Nat → Nat → Int32) (J : Nat → Nat → Int64) (Q : Option Value → sm_M → Prop) (x2 : Int32) (s1 : Int32) (s2 : Int32) :
    sm_wp X 128 101 [some (.ref 52), none, some (.int x2), none] [.int s2, .int s1, .ref 52] (sM mo G I J) Q =
    (sm_wp X 133 0 [some (.ref 52), some (.int s1), some (.int s2)] [] (sM mo G I J) (fun v M => sm_wp X 128 104 [some (.ref 52), none, some (.int x2), none] (v.toList ++ []) M Q)) :=
  (sm_blk X 128 101 (tt_lin 128 (by decide)) rfl rfl _ _ _ _).trans rfl
set_option maxRecDepth 100000 in
theorem bk_128_104 (X : (Nat → Int32) × Nat) (mo : Bool) (G : Nat × Nat) (I : Nat → Nat → Int32) (J : Nat → Nat → Int64) (Q : Option Value → sm_M → Prop) (x2 : Int32) :
    sm_wp X 128 104 [some (.ref 52), none, some (.int x2), none] [] (sM mo G I J) Q =
    (sm_wp X 128 79 [some (.ref 52), none, some (.int (x2 + 1)), none] [] (sM mo G I J) Q) :=
  (sm_blk X 128 104 (tt_lin 128 (by decide)) rfl rfl _ _ _ _).trans rfl
set_option maxRecDepth 100000 in
theorem bk_128_110 (X : (Nat → Int32) × Nat) (mo : Bool) (G : Nat × Nat) (I : Nat → Nat → Int32) (J : Nat → Nat → Int64) (Q : Option Value → sm_M → Prop) (x2 : Int32) :
    sm_wp X 128 110 [some (.ref 52), none, some (.int x2), none] [] (sM mo G I J) Q =
    (sm_wp X 128 114 [some (.ref 52), none, some (.int 1), some (.int 0)] [] (sM mo G I J) Q) :=
  (sm_blk X 128 110 (tt_lin 128 (by decide)) rfl rfl _ _ _ _).trans rfl
set_option maxRecDepth 100000 in
theorem bk_128_114 (X : (Nat → Int32) × Nat) (mo : Bool) (G : Nat × Nat) (I : Nat → Nat → Int32) (J : Nat → Nat → Int64) (Q : Option Value → sm_M → Prop) (x2 : Int32) (x3 : Int32) :
    sm_wp X 128 114 [some (.ref 52), none, some (.int x2), some (.int x3)] [] (sM mo G I J) Q =
    (if (6561 : Int32) ≤ (x3 : Int32) then sm_wp X 128 140 [some (.ref 52), none, some (.int x2), some (.int x3)] [] (sM mo G I J) Q else (if (x2 : Int32) = 0 then sm_wp X 128 140 [some (.ref 52), none, some (.int x2), some (.int x3)] [] (sM mo G I J) Q else (sm_wp X 134 0 [some (.ref 52)] [] (sM mo G I J) (fun v M => sm_wp X 128 129 [some (.ref 52), none, some (.int x2), some (.int x3)] (v.toList ++ []) M Q)))) :=
  (sm_blk X 128 114 (tt_lin 128 (by decide)) rfl rfl _ _ _ _).trans rfl
set_option maxRecDepth 100000 in
theorem bk_128_129 (X : (Nat → Int32) × Nat) (mo : Bool) (G : Nat × Nat) (I : Nat → Nat → Int32) (J : Nat → Nat → Int64) (Q : Option Value → sm_M → Prop) (x2 : Int32) (x3 : Int32) :
    sm_wp X 128 129 [some (.ref 52), none, some (.int x2), some (.int x3)] [] (sM mo G I J) Q =
    (sm_wp X 137 0 [some (.ref 52), none, none] [] (sM mo G I J) (fun v M => sm_wp X 128 133 [some (.ref 52), none, some (.int x2), some (.int x3)] (v.toList ++ []) M Q)) :=
  (sm_blk X 128 129 (tt_lin 128 (by decide)) rfl rfl _ _ _ _).trans rfl
set_option maxRecDepth 100000 in
theorem bk_128_133 (X : (Nat → Int32) × Nat) (mo : Bool) (G : Nat × Nat) (I : Nat → Nat → Int32) (J : Nat → Nat → Int64) (Q : Option Value → sm_M → Prop) (x2 : Int32) (x3 : Int32) (s0 : Int32) :
    sm_wp X 128 133 [some (.ref 52), none, some (.int x2), some (.int x3)] [.int s0] (sM mo G I J) Q =
    (sm_wp X 128 114 [some (.ref 52), none, some (.int s0), some (.int (x3 + 1))] [] (sM mo G I J) Q) :=
  (sm_blk X 128 133 (tt_lin 128 (by decide)) rfl rfl _ _ _ _).trans rfl
set_option maxRecDepth 100000 in
theorem bk_128_140 (X : (Nat → Int32) × Nat) (mo : Bool) (G : Nat × Nat) (I : Nat → Nat → Int32) (J : Nat → Nat → Int64) (Q : Option Value → sm_M → Prop) (x2 : Int32) (x3 : Int32) :
    sm_wp X 128 140 [some (.ref 52), none, some (.int x2), some (.int x3)] [] (sM mo G I J) Q =
    (True ∧ Q none (sM mo G I J)) :=
  (sm_blk X 128 140 (tt_lin 128 (by decide)) rfl rfl _ _ _ _).trans rfl
set_option maxRecDepth 100000 in
theorem bkw_128_0 (X : (Nat → Int32) × Nat) (mo : Bool) (G : Nat × Nat) (I : Nat → Nat → Int32) (J : Nat → Nat → Int64) (Q : Option Value → sm_M → Prop) (x1 : Int32) :
    sm_wp X 128 0 [some (.ref 60), some (.int x1), none, none] [] (sM mo G I J) Q =
    (if ¬ (I 60 3 : Int32) = (x1 : Int32) then sm_wp X 128 23 [some (.ref 60), some (.int x1), none, none] [] (sM mo G I J) Q else (if ¬ (I 60 4 : Int32) = (I 1 4 : Int32) then sm_wp X 128 23 [some (.ref 60), some (.int x1), none, none] [] (sM mo G I J) Q else (True ∧ Q none (sM mo G I J)))) :=
  (sm_blk X 128 0 (tt_lin 128 (by decide)) rfl rfl _ _ _ _).trans rfl
set_option maxRecDepth 100000 in
theorem bkw_128_23 (X : (Nat → Int32) × Nat) (mo : Bool) (G : Nat × Nat) (I : Nat → Nat → Int32) (J : Nat → Nat → Int64) (Q : Option Value → sm_M → Prop) (x1 : Int32) :
    sm_wp X 128 23 [some (.ref 60), some (.int x1), none, none] [] (sM mo G I J) Q =
    (sm_wp X 129 0 [some (.ref 60), some (.int x1), none, none, none] [] (sM mo G (up2 (up2 (up2 (up2 (up2 (up2 I 60 3 x1) 60 4 ((up2 I 60 3 x1) 1 4)) 60 13 0) 60 14 0) 60 15 0) 60 17 (-1)) (up2 J 60 16 0)) (fun v M => sm_wp X 128 69 [some (.ref 60), some (.int x1), none, none] (v.toList ++ []) M Q)) :=
  (sm_blk X 128 23 (tt_lin 128 (by decide)) rfl rfl _ _ _ _).trans rfl
set_option maxRecDepth 100000 in
theorem bkw_128_69 (X : (Nat → Int32) × Nat) (mo : Bool) (G : Nat × Nat) (I : Nat → Nat → Int32) (J : Nat → Nat → Int64) (Q : Option Value → sm_M → Prop) (x1 : Int32) :
    sm_wp X 128 69 [some (.ref 60), some (.int x1), none, none] [] (sM mo G I J) Q =
    (sm_wp X 131 0 [some (.ref 60)] [] (sM mo G I J) (fun v M => sm_wp X 128 73 [some (.ref 60), some (.int x1), none, none] (v.toList ++ []) M Q)) :=
  (sm_blk X 128 69 (tt_lin 128 (by decide)) rfl rfl _ _ _ _).trans rfl
set_option maxRecDepth 100000 in
theorem bkw_128_73 (X : (Nat → Int32) × Nat) (mo : Bool) (G : Nat × Nat) (I : Nat → Nat → Int32) (J : Nat → Nat → Int64) (Q : Option Value → sm_M → Prop) (x1 : Int32) (s0 : Int32) :
    sm_wp X 128 73 [some (.ref 60), some (.int x1), none, none] [.int s0] (sM mo G I J) Q =
    (if (s0 : Int32) = 0 then sm_wp X 128 77 [some (.ref 60), some (.int x1), none, none] [] (sM mo G I J) Q else (True ∧ Q none (sM mo G I J))) :=
  (sm_blk X 128 73 (tt_lin 128 (by decide)) rfl rfl _ _ _ _).trans rfl
set_option maxRecDepth 100000 in
theorem bkw_128_77 (X : (Nat → Int32) × Nat) (mo : Bool) (G : Nat × Nat) (I : Nat → Nat → Int32) (J : Nat → Nat → Int64) (Q : Option Value → sm_M → Prop) (x1 : Int32) :
    sm_wp X 128 77 [some (.ref 60), some (.int x1), none, none] [] (sM mo G I J) Q =
    (sm_wp X 128 79 [some (.ref 60), none, some (.int 0), none] [] (sM mo G I J) Q) :=
  (sm_blk X 128 77 (tt_lin 128 (by decide)) rfl rfl _ _ _ _).trans rfl
set_option maxRecDepth 100000 in
theorem bkw_128_79 (X : (Nat → Int32) × Nat) (mo : Bool) (G : Nat × Nat) (I : Nat → Nat → Int32) (J : Nat → Nat → Int64) (Q : Option Value → sm_M → Prop) (x2 : Int32) :
    sm_wp X 128 79 [some (.ref 60), none, some (.int x2), none] [] (sM mo G I J) Q =
    (if (I 60 5 : Int32) ≤ (x2 : Int32) then sm_wp X 128 110 [some (.ref 60), none, some (.int x2), none] [] (sM mo G I J) Q else (if (8 : Int32) ≤ (x2 : Int32) then sm_wp X 128 110 [some (.ref 60), none, some (.int x2), none] [] (sM mo G I J) Q else (sm_wp X 132 0 [some (.ref 60), some (.int x2), some (.int (-1)), none] [] (sM mo G I J) (fun v M => sm_wp X 128 101 [some (.ref 60), none, some (.int x2), none] (v.toList ++ [.int x2, .ref 60]) M Q)))) :=
  (sm_blk X 128 79 (tt_lin 128 (by decide)) rfl rfl _ _ _ _).trans rfl
set_option maxRecDepth 100000 in
theorem bkw_128_101 (X : (Nat → Int32) × Nat) (mo : Bool) (G : Nat × Nat) (I : Nat → Nat → Int32) (J : Nat → Nat → Int64) (Q : Option Value → sm_M → Prop) (x2 : Int32) (s1 : Int32) (s2 : Int32) :
    sm_wp X 128 101 [some (.ref 60), none, some (.int x2), none] [.int s2, .int s1, .ref 60] (sM mo G I J) Q =
    (sm_wp X 133 0 [some (.ref 60), some (.int s1), some (.int s2)] [] (sM mo G I J) (fun v M => sm_wp X 128 104 [some (.ref 60), none, some (.int x2), none] (v.toList ++ []) M Q)) :=
  (sm_blk X 128 101 (tt_lin 128 (by decide)) rfl rfl _ _ _ _).trans rfl
set_option maxRecDepth 100000 in
theorem bkw_128_104 (X : (Nat → Int32) × Nat) (mo : Bool) (G : Nat × Nat) (I : Nat → Nat → Int32) (J : Nat → Nat → Int64) (Q : Option Value → sm_M → Prop) (x2 : Int32) :
    sm_wp X 128 104 [some (.ref 60), none, some (.int x2), none] [] (sM mo G I J) Q =
    (sm_wp X 128 79 [some (.ref 60), none, some (.int (x2 + 1)), none] [] (sM mo G I J) Q) :=
  (sm_blk X 128 104 (tt_lin 128 (by decide)) rfl rfl _ _ _ _).trans rfl
set_option maxRecDepth 100000 in
theorem bkw_128_110 (X : (Nat → Int32) × Nat) (mo : Bool) (G : Nat × Nat) (I : Nat → Nat → Int32) (J : Nat → Nat → Int64) (Q : Option Value → sm_M → Prop) (x2 : Int32) :
    sm_wp X 128 110 [some (.ref 60), none, some (.int x2), none] [] (sM mo G I J) Q =
    (sm_wp X 128 114 [some (.ref 60), none, some (.int 1), some (.int 0)] [] (sM mo G I J) Q) :=
  (sm_blk X 128 110 (tt_lin 128 (by decide)) rfl rfl _ _ _ _).trans rfl
set_option maxRecDepth 100000 in
theorem bkw_128_114 (X : (Nat → Int32) × Nat) (mo : Bool) (G : Nat × Nat) (I : Nat → Nat → Int32) (J : Nat → Nat → Int64) (Q : Option Value → sm_M → Prop) (x2 : Int32) (x3 : Int32) :
    sm_wp X 128 114 [some (.ref 60), none, some (.int x2), some (.int x3)] [] (sM mo G I J) Q =
    (if (6561 : Int32) ≤ (x3 : Int32) then sm_wp X 128 140 [some (.ref 60), none, some (.int x2), some (.int x3)] [] (sM mo G I J) Q else (if (x2 : Int32) = 0 then sm_wp X 128 140 [some (.ref 60), none, some (.int x2), some (.int x3)] [] (sM mo G I J) Q else (sm_wp X 134 0 [some (.ref 60)] [] (sM mo G I J) (fun v M => sm_wp X 128 129 [some (.ref 60), none, some (.int x2), some (.int x3)] (v.toList ++ []) M Q)))) :=
  (sm_blk X 128 114 (tt_lin 128 (by decide)) rfl rfl _ _ _ _).trans rfl
set_option maxRecDepth 100000 in
theorem bkw_128_129 (X : (Nat → Int32) × Nat) (mo : Bool) (G : Nat × Nat) (I : Nat → Nat → Int32) (J : Nat → Nat → Int64) (Q : Option Value → sm_M → Prop) (x2 : Int32) (x3 : Int32) :
    sm_wp X 128 129 [some (.ref 60), none, some (.int x2), some (.int x3)] [] (sM mo G I J) Q =
    (sm_wp X 137 0 [some (.ref 60), none, none] [] (sM mo G I J) (fun v M => sm_wp X 128 133 [some (.ref 60), none, some (.int x2), some (.int x3)] (v.toList ++ []) M Q)) :=
  (sm_blk X 128 129 (tt_lin 128 (by decide)) rfl rfl _ _ _ _).trans rfl
set_option maxRecDepth 100000 in
theorem bkw_128_133 (X : (Nat → Int32) × Nat) (mo : Bool) (G : Nat × Nat) (I : Nat → Nat → Int32) (J : Nat → Nat → Int64) (Q : Option Value → sm_M → Prop) (x2 : Int32) (x3 : Int32) (s0 : Int32) :
    sm_wp X 128 133 [some (.ref 60), none, some (.int x2), some (.int x3)] [.int s0] (sM mo G I J) Q =
    (sm_wp X 128 114 [some (.ref 60), none, some (.int s0), some (.int (x3 + 1))] [] (sM mo G I J) Q) :=
  (sm_blk X 128 133 (tt_lin 128 (by decide)) rfl rfl _ _ _ _).trans rfl
set_option maxRecDepth 100000 in
theorem bkw_128_140 (X : (Nat → Int32) × Nat) (mo : Bool) (G : Nat × Nat) (I : Nat → Nat → Int32) (J : Nat → Nat → Int64) (Q : Option Value → sm_M → Prop) (x2 : Int32) (x3 : Int32) :
    sm_wp X 128 140 [some (.ref 60), none, some (.int x2), some (.int x3)] [] (sM mo G I J) Q =
    (True ∧ Q none (sM mo G I J)) :=
  (sm_blk X 128 140 (tt_lin 128 (by decide)) rfl rfl _ _ _ _).trans rfl
set_option maxRecDepth 100000 in
theorem bk_129_0 (X : (Nat → Int32) × Nat) (mo : Bool) (G : Nat × Nat) (I : Nat → Nat → Int32) (J : Nat → Nat → Int64) (Q : Option Value → sm_M → Prop) (x1 : Int32) :
    sm_wp X 129 0 [some (.ref 52), some (.int x1), none, none, none] [] (sM mo G I J) Q =
    (sm_wp X 129 19 [some (.ref 52), some (.int x1), some (.int 0), some (.int 0), none] [] (sM mo G (up2 (up2 (up2 I 52 2 x1) 52 12 0) 52 5 0) J) Q) :=
  (sm_blk X 129 0 (tt_lin 129 (by decide)) rfl rfl _ _ _ _).trans rfl
set_option maxRecDepth 100000 in
theorem bk_129_19 (X : (Nat → Int32) × Nat) (mo : Bool) (G : Nat × Nat) (I : Nat → Nat → Int32) (J : Nat → Nat → Int64) (Q : Option Value → sm_M → Prop) (x1 : Int32) (x2 : Int32) (x3 : Int32) :
    sm_wp X 129 19 [some (.ref 52), some (.int x1), some (.int x2), some (.int x3), none] [] (sM mo G I J) Q =
    (if (I 1 0 : Int32) ≤ (x3 : Int32) then sm_wp X 129 115 [some (.ref 52), some (.int x1), some (.int x2), some (.int x3), none] [] (sM mo G I J) Q else (sm_wp X 113 0 [some (.ref 1), some (.int x3), some (.int x1)] [] (sM mo G I J) (fun v M => sm_wp X 129 39 [some (.ref 52), some (.int x1), some (.int x2), some (.int x3), none] (v.toList ++ []) M Q))) :=
  (sm_blk X 129 19 (tt_lin 129 (by decide)) rfl rfl _ _ _ _).trans rfl
set_option maxRecDepth 100000 in
theorem bk_129_39 (X : (Nat → Int32) × Nat) (mo : Bool) (G : Nat × Nat) (I : Nat → Nat → Int32) (J : Nat → Nat → Int64) (Q : Option Value → sm_M → Prop) (x1 : Int32) (x2 : Int32) (x3 : Int32) (s0 : Int32) :
    sm_wp X 129 39 [some (.ref 52), some (.int x1), some (.int x2), some (.int x3), none] [.int s0] (sM mo G I J) Q =
    (if ¬ (s0 : Int32) = 0 then sm_wp X 129 51 [some (.ref 52), some (.int x1), some (.int x2), some (.int x3), none] [] (sM mo G I J) Q else (sm_wp X 129 109 [some (.ref 52), some (.int x1), some (.int (x2 ||| (1 <<< (x3 &&& 31)))), some (.int x3), none] [] (sM mo G I J) Q)) :=
  (sm_blk X 129 39 (tt_lin 129 (by decide)) rfl rfl _ _ _ _).trans rfl
set_option maxRecDepth 100000 in
theorem bk_129_51 (X : (Nat → Int32) × Nat) (mo : Bool) (G : Nat × Nat) (I : Nat → Nat → Int32) (J : Nat → Nat → Int64) (Q : Option Value → sm_M → Prop) (x1 : Int32) (x2 : Int32) (x3 : Int32) :
    sm_wp X 129 51 [some (.ref 52), some (.int x1), some (.int x2), some (.int x3), none] [] (sM mo G I J) Q =
    (if (8 : Int32) ≤ (I 52 5 : Int32) then sm_wp X 129 99 [some (.ref 52), some (.int x1), some (.int x2), some (.int x3), none] [] (sM mo G I J) Q else (vp_in (I 52 5) 8 ∧ (sm_wp X 98 0 [some (.ref 1), some (.int x3)] [] (sM mo G (up2 I 53 (I 52 5).toNatClampNeg x3) J) (fun v M => sm_wp X 129 86 [some (.ref 52), some (.int x1), some (.int x2), some (.int x3), none] (v.toList ++ [.int ((up2 I 53 (I 52 5).toNatClampNeg x3) 52 5), .ref 54]) M Q)))) :=
  (sm_blk X 129 51 (tt_lin 129 (by decide)) rfl rfl _ _ _ _).trans rfl
set_option maxRecDepth 100000 in
theorem bk_129_86 (X : (Nat → Int32) × Nat) (mo : Bool) (G : Nat × Nat) (I : Nat → Nat → Int32) (J : Nat → Nat → Int64) (Q : Option Value → sm_M → Prop) (x1 : Int32) (x2 : Int32) (x3 : Int32) (s1 : Int32) (s2 : Int32) :
    sm_wp X 129 86 [some (.ref 52), some (.int x1), some (.int x2), some (.int x3), none] [.int s2, .int s1, .ref 54] (sM mo G I J) Q =
    (vp_in s1 8 ∧ (vp_in ((up2 I 54 s1.toNatClampNeg (s2 &&& x1)) 52 5) 8 ∧ (sm_wp X 129 19 [some (.ref 52), some (.int x1), some (.int x2), some (.int (x3 + 1)), none] [] (sM mo G (up2 (up2 (up2 I 54 s1.toNatClampNeg (s2 &&& x1)) 55 ((up2 I 54 s1.toNatClampNeg (s2 &&& x1)) 52 5).toNatClampNeg (-1)) 52 5 (((up2 (up2 I 54 s1.toNatClampNeg (s2 &&& x1)) 55 ((up2 I 54 s1.toNatClampNeg (s2 &&& x1)) 52 5).toNatClampNeg (-1)) 52 5) + 1)) J) Q))) :=
  (sm_blk X 129 86 (tt_lin 129 (by decide)) rfl rfl _ _ _ _).trans rfl
set_option maxRecDepth 100000 in
theorem bk_129_99 (X : (Nat → Int32) × Nat) (mo : Bool) (G : Nat × Nat) (I : Nat → Nat → Int32) (J : Nat → Nat → Int64) (Q : Option Value → sm_M → Prop) (x1 : Int32) (x2 : Int32) (x3 : Int32) :
    sm_wp X 129 99 [some (.ref 52), some (.int x1), some (.int x2), some (.int x3), none] [] (sM mo G I J) Q =
    (sm_wp X 129 19 [some (.ref 52), some (.int x1), some (.int x2), some (.int (x3 + 1)), none] [] (sM mo G (up2 I 52 5 ((I 52 5) + 1)) J) Q) :=
  (sm_blk X 129 99 (tt_lin 129 (by decide)) rfl rfl _ _ _ _).trans rfl
set_option maxRecDepth 100000 in
theorem bk_129_109 (X : (Nat → Int32) × Nat) (mo : Bool) (G : Nat × Nat) (I : Nat → Nat → Int32) (J : Nat → Nat → Int64) (Q : Option Value → sm_M → Prop) (x1 : Int32) (x2 : Int32) (x3 : Int32) :
    sm_wp X 129 109 [some (.ref 52), some (.int x1), some (.int x2), some (.int x3), none] [] (sM mo G I J) Q =
    (sm_wp X 129 19 [some (.ref 52), some (.int x1), some (.int x2), some (.int (x3 + 1)), none] [] (sM mo G I J) Q) :=
  (sm_blk X 129 109 (tt_lin 129 (by decide)) rfl rfl _ _ _ _).trans rfl
set_option maxRecDepth 100000 in
theorem bk_129_115 (X : (Nat → Int32) × Nat) (mo : Bool) (G : Nat × Nat) (I : Nat → Nat → Int32) (J : Nat → Nat → Int64) (Q : Option Value → sm_M → Prop) (x1 : Int32) (x2 : Int32) (x3 : Int32) :
    sm_wp X 129 115 [some (.ref 52), some (.int x1), some (.int x2), some (.int x3), none] [] (sM mo G I J) Q =
    (sm_wp X 129 117 [some (.ref 52), none, some (.int x2), some (.int 0), none] [] (sM mo G I J) Q) :=
  (sm_blk X 129 115 (tt_lin 129 (by decide)) rfl rfl _ _ _ _).trans rfl
set_option maxRecDepth 100000 in
theorem bk_129_117 (X : (Nat → Int32) × Nat) (mo : Bool) (G : Nat × Nat) (I : Nat → Nat → Int32) (J : Nat → Nat → Int64) (Q : Option Value → sm_M → Prop) (x2 : Int32) (x3 : Int32) :
    sm_wp X 129 117 [some (.ref 52), none, some (.int x2), some (.int x3), none] [] (sM mo G I J) Q =
    (if (6 : Int32) ≤ (x3 : Int32) then sm_wp X 129 193 [some (.ref 52), none, some (.int x2), some (.int x3), none] [] (sM mo G I J) Q else (sm_wp X 105 0 [some (.ref 1), some (.int x3), none, none] [] (sM mo G I J) (fun v M => sm_wp X 129 131 [some (.ref 52), none, some (.int x2), some (.int x3), none] (v.toList ++ []) M Q))) :=
  (sm_blk X 129 117 (tt_lin 129 (by decide)) rfl rfl _ _ _ _).trans rfl
set_option maxRecDepth 100000 in
theorem bk_129_131 (X : (Nat → Int32) × Nat) (mo : Bool) (G : Nat × Nat) (I : Nat → Nat → Int32) (J : Nat → Nat → Int64) (Q : Option Value → sm_M → Prop) (x2 : Int32) (x3 : Int32) (s0 : Int32) :
    sm_wp X 129 131 [some (.ref 52), none, some (.int x2), some (.int x3), none] [.int s0] (sM mo G I J) Q =
    (sm_wp X 103 0 [some (.ref 1), some (.int x3), some (.int s0), none, none] [] (sM mo G I J) (fun v M => sm_wp X 129 148 [some (.ref 52), none, some (.int x2), some (.int x3), some (.int s0)] (v.toList ++ [.int x3, .ref 57]) M Q)) :=
  (sm_blk X 129 131 (tt_lin 129 (by decide)) rfl rfl _ _ _ _).trans rfl
set_option maxRecDepth 100000 in
theorem bk_129_148 (X : (Nat → Int32) × Nat) (mo : Bool) (G : Nat × Nat) (I : Nat → Nat → Int32) (J : Nat → Nat → Int64) (Q : Option Value → sm_M → Prop) (x2 : Int32) (x3 : Int32) (x4 : Int32) (s1 : Int32) (s2 : Int32) :
    sm_wp X 129 148 [some (.ref 52), none, some (.int x2), some (.int x3), some (.int x4)] [.int s2, .int s1, .ref 57] (sM mo G I J) Q =
    (vp_in s1 6 ∧ (sm_wp X 108 0 [some (.ref 1), some (.int x3)] [] (sM mo G (up2 I 57 s1.toNatClampNeg s2) J) (fun v M => sm_wp X 129 162 [some (.ref 52), none, some (.int x2), some (.int x3), some (.int x4)] (v.toList ++ [.int x3, .ref 58]) M Q))) :=
  (sm_blk X 129 148 (tt_lin 129 (by decide)) rfl rfl _ _ _ _).trans rfl
set_option maxRecDepth 100000 in
theorem bk_129_162 (X : (Nat → Int32) × Nat) (mo : Bool) (G : Nat × Nat) (I : Nat → Nat → Int32) (J : Nat → Nat → Int64) (Q : Option Value → sm_M → Prop) (x2 : Int32) (x3 : Int32) (x4 : Int32) (s1 : Int32) (s2 : Int32) :
    sm_wp X 129 162 [some (.ref 52), none, some (.int x2), some (.int x3), some (.int x4)] [.int s2, .int s1, .ref 58] (sM mo G I J) Q =
    (vp_in s1 6 ∧ (vp_in x3 6 ∧ (sm_wp X 103 0 [some (.ref 1), some (.int x3), some (.int (x4 &&& x2)), none, none] [] (sM mo G (up2 (up2 I 58 s1.toNatClampNeg s2) 56 x3.toNatClampNeg 0) J) (fun v M => sm_wp X 129 184 [some (.ref 52), none, some (.int x2), some (.int x3), some (.int x4)] (v.toList ++ [.int x3, .ref 52]) M Q)))) :=
  (sm_blk X 129 162 (tt_lin 129 (by decide)) rfl rfl _ _ _ _).trans rfl
set_option maxRecDepth 100000 in
theorem bk_129_184 (X : (Nat → Int32) × Nat) (mo : Bool) (G : Nat × Nat) (I : Nat → Nat → Int32) (J : Nat → Nat → Int64) (Q : Option Value → sm_M → Prop) (x2 : Int32) (x3 : Int32) (x4 : Int32) (s1 : Int32) (s2 : Int32) :
    sm_wp X 129 184 [some (.ref 52), none, some (.int x2), some (.int x3), some (.int x4)] [.int s2, .int s1, .ref 52] (sM mo G I J) Q =
    (sm_wp X 130 0 [some (.ref 52), some (.int s1), some (.int s2)] [] (sM mo G I J) (fun v M => sm_wp X 129 187 [some (.ref 52), none, some (.int x2), some (.int x3), some (.int x4)] (v.toList ++ []) M Q)) :=
  (sm_blk X 129 184 (tt_lin 129 (by decide)) rfl rfl _ _ _ _).trans rfl
set_option maxRecDepth 100000 in
theorem bk_129_187 (X : (Nat → Int32) × Nat) (mo : Bool) (G : Nat × Nat) (I : Nat → Nat → Int32) (J : Nat → Nat → Int64) (Q : Option Value → sm_M → Prop) (x2 : Int32) (x3 : Int32) (x4 : Int32) :
    sm_wp X 129 187 [some (.ref 52), none, some (.int x2), some (.int x3), some (.int x4)] [] (sM mo G I J) Q =
    (sm_wp X 129 117 [some (.ref 52), none, some (.int x2), some (.int (x3 + 1)), none] [] (sM mo G I J) Q) :=
  (sm_blk X 129 187 (tt_lin 129 (by decide)) rfl rfl _ _ _ _).trans rfl
set_option maxRecDepth 100000 in
theorem bk_129_193 (X : (Nat → Int32) × Nat) (mo : Bool) (G : Nat × Nat) (I : Nat → Nat → Int32) (J : Nat → Nat → Int64) (Q : Option Value → sm_M → Prop) (x2 : Int32) (x3 : Int32) :
    sm_wp X 129 193 [some (.ref 52), none, some (.int x2), some (.int x3), none] [] (sM mo G I J) Q =
    (True ∧ Q none (sM mo G I J)) :=
  (sm_blk X 129 193 (tt_lin 129 (by decide)) rfl rfl _ _ _ _).trans rfl
set_option maxRecDepth 100000 in
theorem bkw_129_0 (X : (Nat → Int32) × Nat) (mo : Bool) (G : Nat × Nat) (I : Nat → Nat → Int32) (J : Nat → Nat → Int64) (Q : Option Value → sm_M → Prop) (x1 : Int32) :
    sm_wp X 129 0 [some (.ref 60), some (.int x1), none, none, none] [] (sM mo G I J) Q =
    (sm_wp X 129 19 [some (.ref 60), some (.int x1), some (.int 0), some (.int 0), none] [] (sM mo G (up2 (up2 (up2 I 60 2 x1) 60 12 0) 60 5 0) J) Q) :=
  (sm_blk X 129 0 (tt_lin 129 (by decide)) rfl rfl _ _ _ _).trans rfl
set_option maxRecDepth 100000 in
theorem bkw_129_19 (X : (Nat → Int32) × Nat) (mo : Bool) (G : Nat × Nat) (I : Nat → Nat → Int32) (J : Nat → Nat → Int64) (Q : Option Value → sm_M → Prop) (x1 : Int32) (x2 : Int32) (x3 : Int32) :
    sm_wp X 129 19 [some (.ref 60), some (.int x1), some (.int x2), some (.int x3), none] [] (sM mo G I J) Q =
    (if (I 1 0 : Int32) ≤ (x3 : Int32) then sm_wp X 129 115 [some (.ref 60), some (.int x1), some (.int x2), some (.int x3), none] [] (sM mo G I J) Q else (sm_wp X 113 0 [some (.ref 1), some (.int x3), some (.int x1)] [] (sM mo G I J) (fun v M => sm_wp X 129 39 [some (.ref 60), some (.int x1), some (.int x2), some (.int x3), none] (v.toList ++ []) M Q))) :=
  (sm_blk X 129 19 (tt_lin 129 (by decide)) rfl rfl _ _ _ _).trans rfl
set_option maxRecDepth 100000 in
theorem bkw_129_39 (X : (Nat → Int32) × Nat) (mo : Bool) (G : Nat × Nat) (I : Nat → Nat → Int32) (J : Nat → Nat → Int64) (Q : Option Value → sm_M → Prop) (x1 : Int32) (x2 : Int32) (x3 : Int32) (s0 : Int32) :
    sm_wp X 129 39 [some (.ref 60), some (.int x1), some (.int x2), some (.int x3), none] [.int s0] (sM mo G I J) Q =
    (if ¬ (s0 : Int32) = 0 then sm_wp X 129 51 [some (.ref 60), some (.int x1), some (.int x2), some (.int x3), none] [] (sM mo G I J) Q else (sm_wp X 129 109 [some (.ref 60), some (.int x1), some (.int (x2 ||| (1 <<< (x3 &&& 31)))), some (.int x3), none] [] (sM mo G I J) Q)) :=
  (sm_blk X 129 39 (tt_lin 129 (by decide)) rfl rfl _ _ _ _).trans rfl
set_option maxRecDepth 100000 in
theorem bkw_129_51 (X : (Nat → Int32) × Nat) (mo : Bool) (G : Nat × Nat) (I : Nat → Nat → Int32) (J : Nat → Nat → Int64) (Q : Option Value → sm_M → Prop) (x1 : Int32) (x2 : Int32) (x3 : Int32) :
    sm_wp X 129 51 [some (.ref 60), some (.int x1), some (.int x2), some (.int x3), none] [] (sM mo G I J) Q =
    (if (8 : Int32) ≤ (I 60 5 : Int32) then sm_wp X 129 99 [some (.ref 60), some (.int x1), some (.int x2), some (.int x3), none] [] (sM mo G I J) Q else (vp_in (I 60 5) 8 ∧ (sm_wp X 98 0 [some (.ref 1), some (.int x3)] [] (sM mo G (up2 I 61 (I 60 5).toNatClampNeg x3) J) (fun v M => sm_wp X 129 86 [some (.ref 60), some (.int x1), some (.int x2), some (.int x3), none] (v.toList ++ [.int ((up2 I 61 (I 60 5).toNatClampNeg x3) 60 5), .ref 62]) M Q)))) :=
  (sm_blk X 129 51 (tt_lin 129 (by decide)) rfl rfl _ _ _ _).trans rfl
set_option maxRecDepth 100000 in
theorem bkw_129_86 (X : (Nat → Int32) × Nat) (mo : Bool) (G : Nat × Nat) (I : Nat → Nat → Int32) (J : Nat → Nat → Int64) (Q : Option Value → sm_M → Prop) (x1 : Int32) (x2 : Int32) (x3 : Int32) (s1 : Int32) (s2 : Int32) :
    sm_wp X 129 86 [some (.ref 60), some (.int x1), some (.int x2), some (.int x3), none] [.int s2, .int s1, .ref 62] (sM mo G I J) Q =
    (vp_in s1 8 ∧ (vp_in ((up2 I 62 s1.toNatClampNeg (s2 &&& x1)) 60 5) 8 ∧ (sm_wp X 129 19 [some (.ref 60), some (.int x1), some (.int x2), some (.int (x3 + 1)), none] [] (sM mo G (up2 (up2 (up2 I 62 s1.toNatClampNeg (s2 &&& x1)) 63 ((up2 I 62 s1.toNatClampNeg (s2 &&& x1)) 60 5).toNatClampNeg (-1)) 60 5 (((up2 (up2 I 62 s1.toNatClampNeg (s2 &&& x1)) 63 ((up2 I 62 s1.toNatClampNeg (s2 &&& x1)) 60 5).toNatClampNeg (-1)) 60 5) + 1)) J) Q))) :=
  (sm_blk X 129 86 (tt_lin 129 (by decide)) rfl rfl _ _ _ _).trans rfl
set_option maxRecDepth 100000 in
theorem bkw_129_99 (X : (Nat → Int32) × Nat) (mo : Bool) (G : Nat × Nat) (I : Nat → Nat → Int32) (J : Nat → Nat → Int64) (Q : Option Value → sm_M → Prop) (x1 : Int32) (x2 : Int32) (x3 : Int32) :
    sm_wp X 129 99 [some (.ref 60), some (.int x1), some (.int x2), some (.int x3), none] [] (sM mo G I J) Q =
    (sm_wp X 129 19 [some (.ref 60), some (.int x1), some (.int x2), some (.int (x3 + 1)), none] [] (sM mo G (up2 I 60 5 ((I 60 5) + 1)) J) Q) :=
  (sm_blk X 129 99 (tt_lin 129 (by decide)) rfl rfl _ _ _ _).trans rfl
set_option maxRecDepth 100000 in
theorem bkw_129_109 (X : (Nat → Int32) × Nat) (mo : Bool) (G : Nat × Nat) (I : Nat → Nat → Int32) (J : Nat → Nat → Int64) (Q : Option Value → sm_M → Prop) (x1 : Int32) (x2 : Int32) (x3 : Int32) :
    sm_wp X 129 109 [some (.ref 60), some (.int x1), some (.int x2), some (.int x3), none] [] (sM mo G I J) Q =
    (sm_wp X 129 19 [some (.ref 60), some (.int x1), some (.int x2), some (.int (x3 + 1)), none] [] (sM mo G I J) Q) :=
  (sm_blk X 129 109 (tt_lin 129 (by decide)) rfl rfl _ _ _ _).trans rfl
set_option maxRecDepth 100000 in
theorem bkw_129_115 (X : (Nat → Int32) × Nat) (mo : Bool) (G : Nat × Nat) (I : Nat → Nat → Int32) (J : Nat → Nat → Int64) (Q : Option Value → sm_M → Prop) (x1 : Int32) (x2 : Int32) (x3 : Int32) :
    sm_wp X 129 115 [some (.ref 60), some (.int x1), some (.int x2), some (.int x3), none] [] (sM mo G I J) Q =
    (sm_wp X 129 117 [some (.ref 60), none, some (.int x2), some (.int 0), none] [] (sM mo G I J) Q) :=
  (sm_blk X 129 115 (tt_lin 129 (by decide)) rfl rfl _ _ _ _).trans rfl
set_option maxRecDepth 100000 in
theorem bkw_129_117 (X : (Nat → Int32) × Nat) (mo : Bool) (G : Nat × Nat) (I : Nat → Nat → Int32) (J : Nat → Nat → Int64) (Q : Option Value → sm_M → Prop) (x2 : Int32) (x3 : Int32) :
    sm_wp X 129 117 [some (.ref 60), none, some (.int x2), some (.int x3), none] [] (sM mo G I J) Q =
    (if (6 : Int32) ≤ (x3 : Int32) then sm_wp X 129 193 [some (.ref 60), none, some (.int x2), some (.int x3), none] [] (sM mo G I J) Q else (sm_wp X 105 0 [some (.ref 1), some (.int x3), none, none] [] (sM mo G I J) (fun v M => sm_wp X 129 131 [some (.ref 60), none, some (.int x2), some (.int x3), none] (v.toList ++ []) M Q))) :=
  (sm_blk X 129 117 (tt_lin 129 (by decide)) rfl rfl _ _ _ _).trans rfl
set_option maxRecDepth 100000 in
theorem bkw_129_131 (X : (Nat → Int32) × Nat) (mo : Bool) (G : Nat × Nat) (I : Nat → Nat → Int32) (J : Nat → Nat → Int64) (Q : Option Value → sm_M → Prop) (x2 : Int32) (x3 : Int32) (s0 : Int32) :
    sm_wp X 129 131 [some (.ref 60), none, some (.int x2), some (.int x3), none] [.int s0] (sM mo G I J) Q =
    (sm_wp X 103 0 [some (.ref 1), some (.int x3), some (.int s0), none, none] [] (sM mo G I J) (fun v M => sm_wp X 129 148 [some (.ref 60), none, some (.int x2), some (.int x3), some (.int s0)] (v.toList ++ [.int x3, .ref 65]) M Q)) :=
  (sm_blk X 129 131 (tt_lin 129 (by decide)) rfl rfl _ _ _ _).trans rfl
set_option maxRecDepth 100000 in
theorem bkw_129_148 (X : (Nat → Int32) × Nat) (mo : Bool) (G : Nat × Nat) (I : Nat → Nat → Int32) (J : Nat → Nat → Int64) (Q : Option Value → sm_M → Prop) (x2 : Int32) (x3 : Int32) (x4 : Int32) (s1 : Int32) (s2 : Int32) :
    sm_wp X 129 148 [some (.ref 60), none, some (.int x2), some (.int x3), some (.int x4)] [.int s2, .int s1, .ref 65] (sM mo G I J) Q =
    (vp_in s1 6 ∧ (sm_wp X 108 0 [some (.ref 1), some (.int x3)] [] (sM mo G (up2 I 65 s1.toNatClampNeg s2) J) (fun v M => sm_wp X 129 162 [some (.ref 60), none, some (.int x2), some (.int x3), some (.int x4)] (v.toList ++ [.int x3, .ref 66]) M Q))) :=
  (sm_blk X 129 148 (tt_lin 129 (by decide)) rfl rfl _ _ _ _).trans rfl
set_option maxRecDepth 100000 in
theorem bkw_129_162 (X : (Nat → Int32) × Nat) (mo : Bool) (G : Nat × Nat) (I : Nat → Nat → Int32) (J : Nat → Nat → Int64) (Q : Option Value → sm_M → Prop) (x2 : Int32) (x3 : Int32) (x4 : Int32) (s1 : Int32) (s2 : Int32) :
    sm_wp X 129 162 [some (.ref 60), none, some (.int x2), some (.int x3), some (.int x4)] [.int s2, .int s1, .ref 66] (sM mo G I J) Q =
    (vp_in s1 6 ∧ (vp_in x3 6 ∧ (sm_wp X 103 0 [some (.ref 1), some (.int x3), some (.int (x4 &&& x2)), none, none] [] (sM mo G (up2 (up2 I 66 s1.toNatClampNeg s2) 64 x3.toNatClampNeg 0) J) (fun v M => sm_wp X 129 184 [some (.ref 60), none, some (.int x2), some (.int x3), some (.int x4)] (v.toList ++ [.int x3, .ref 60]) M Q)))) :=
  (sm_blk X 129 162 (tt_lin 129 (by decide)) rfl rfl _ _ _ _).trans rfl
set_option maxRecDepth 100000 in
theorem bkw_129_184 (X : (Nat → Int32) × Nat) (mo : Bool) (G : Nat × Nat) (I : Nat → Nat → Int32) (J : Nat → Nat → Int64) (Q : Option Value → sm_M → Prop) (x2 : Int32) (x3 : Int32) (x4 : Int32) (s1 : Int32) (s2 : Int32) :
    sm_wp X 129 184 [some (.ref 60), none, some (.int x2), some (.int x3), some (.int x4)] [.int s2, .int s1, .ref 60] (sM mo G I J) Q =
    (sm_wp X 130 0 [some (.ref 60), some (.int s1), some (.int s2)] [] (sM mo G I J) (fun v M => sm_wp X 129 187 [some (.ref 60), none, some (.int x2), some (.int x3), some (.int x4)] (v.toList ++ []) M Q)) :=
  (sm_blk X 129 184 (tt_lin 129 (by decide)) rfl rfl _ _ _ _).trans rfl
set_option maxRecDepth 100000 in
theorem bkw_129_187 (X : (Nat → Int32) × Nat) (mo : Bool) (G : Nat × Nat) (I : Nat → Nat → Int32) (J : Nat → Nat → Int64) (Q : Option Value → sm_M → Prop) (x2 : Int32) (x3 : Int32) (x4 : Int32) :
    sm_wp X 129 187 [some (.ref 60), none, some (.int x2), some (.int x3), some (.int x4)] [] (sM mo G I J) Q =
    (sm_wp X 129 117 [some (.ref 60), none, some (.int x2), some (.int (x3 + 1)), none] [] (sM mo G I J) Q) :=
  (sm_blk X 129 187 (tt_lin 129 (by decide)) rfl rfl _ _ _ _).trans rfl
set_option maxRecDepth 100000 in
theorem bkw_129_193 (X : (Nat → Int32) × Nat) (mo : Bool) (G : Nat × Nat) (I : Nat → Nat → Int32) (J : Nat → Nat → Int64) (Q : Option Value → sm_M → Prop) (x2 : Int32) (x3 : Int32) :
    sm_wp X 129 193 [some (.ref 60), none, some (.int x2), some (.int x3), none] [] (sM mo G I J) Q =
    (True ∧ Q none (sM mo G I J)) :=
  (sm_blk X 129 193 (tt_lin 129 (by decide)) rfl rfl _ _ _ _).trans rfl
set_option maxRecDepth 100000 in
theorem bk_130_0 (X : (Nat → Int32) × Nat) (mo : Bool) (G : Nat × Nat) (I : Nat → Nat → Int32) (J : Nat → Nat → Int64) (Q : Option Value → sm_M → Prop) (x1 : Int32) (x2 : Int32) :
    sm_wp X 130 0 [some (.ref 52), some (.int x1), some (.int x2)] [] (sM mo G I J) Q =
    (if (x1 : Int32) < 0 then sm_wp X 130 10 [some (.ref 52), some (.int x1), some (.int x2)] [] (sM mo G I J) Q else (if (x1 : Int32) < (6 : Int32) then sm_wp X 130 11 [some (.ref 52), some (.int x1), some (.int x2)] [] (sM mo G I J) Q else (True ∧ Q none (sM mo G I J)))) :=
  (sm_blk X 130 0 (tt_lin 130 (by decide)) rfl rfl _ _ _ _).trans rfl
set_option maxRecDepth 100000 in
theorem bk_130_10 (X : (Nat → Int32) × Nat) (mo : Bool) (G : Nat × Nat) (I : Nat → Nat → Int32) (J : Nat → Nat → Int64) (Q : Option Value → sm_M → Prop) (x1 : Int32) (x2 : Int32) :
    sm_wp X 130 10 [some (.ref 52), some (.int x1), some (.int x2)] [] (sM mo G I J) Q =
    (True ∧ Q none (sM mo G I J)) :=
  (sm_blk X 130 10 (tt_lin 130 (by decide)) rfl rfl _ _ _ _).trans rfl
set_option maxRecDepth 100000 in
theorem bk_130_11 (X : (Nat → Int32) × Nat) (mo : Bool) (G : Nat × Nat) (I : Nat → Nat → Int32) (J : Nat → Nat → Int64) (Q : Option Value → sm_M → Prop) (x1 : Int32) (x2 : Int32) :
    sm_wp X 130 11 [some (.ref 52), some (.int x1), some (.int x2)] [] (sM mo G I J) Q =
    (vp_in x1 6 ∧ (vp_in x1 6 ∧ (vp_in x1 6 ∧ (vp_in x1 6 ∧ (if ((up2 I 56 x1.toNatClampNeg ((I 56 (x1.toNatClampNeg)) + x2)) 56 (x1.toNatClampNeg) : Int32) < ((up2 I 56 x1.toNatClampNeg ((I 56 (x1.toNatClampNeg)) + x2)) 58 (x1.toNatClampNeg) : Int32) then sm_wp X 130 56 [some (.ref 52), some (.int x1), some (.int x2)] [] (sM mo G (up2 I 56 x1.toNatClampNeg ((I 56 (x1.toNatClampNeg)) + x2)) J) Q else (sm_wp X 130 70 [some (.ref 52), some (.int x1), some (.int x2)] [] (sM mo G (up2 (up2 I 56 x1.toNatClampNeg ((I 56 (x1.toNatClampNeg)) + x2)) 52 12 (((up2 I 56 x1.toNatClampNeg ((I 56 (x1.toNatClampNeg)) + x2)) 52 12) ||| (((up2 I 56 x1.toNatClampNeg ((I 56 (x1.toNatClampNeg)) + x2)) 52 2) &&& (1 <<< (x1 &&& 31))))) J) Q)))))) :=
  (sm_blk X 130 11 (tt_lin 130 (by decide)) rfl rfl _ _ _ _).trans rfl
set_option maxRecDepth 100000 in
theorem bk_130_56 (X : (Nat → Int32) × Nat) (mo : Bool) (G : Nat × Nat) (I : Nat → Nat → Int32) (J : Nat → Nat → Int64) (Q : Option Value → sm_M → Prop) (x1 : Int32) (x2 : Int32) :
    sm_wp X 130 56 [some (.ref 52), some (.int x1), some (.int x2)] [] (sM mo G I J) Q =
    (True ∧ Q none (sM mo G (up2 I 52 12 ((I 52 12) &&& ((1 <<< (x1 &&& 31)) ^^^ (-1)))) J)) :=
  (sm_blk X 130 56 (tt_lin 130 (by decide)) rfl rfl _ _ _ _).trans rfl
set_option maxRecDepth 100000 in
theorem bk_130_70 (X : (Nat → Int32) × Nat) (mo : Bool) (G : Nat × Nat) (I : Nat → Nat → Int32) (J : Nat → Nat → Int64) (Q : Option Value → sm_M → Prop) (x1 : Int32) (x2 : Int32) :
    sm_wp X 130 70 [some (.ref 52), some (.int x1), some (.int x2)] [] (sM mo G I J) Q =
    (True ∧ Q none (sM mo G I J)) :=
  (sm_blk X 130 70 (tt_lin 130 (by decide)) rfl rfl _ _ _ _).trans rfl
set_option maxRecDepth 100000 in
theorem bkw_130_0 (X : (Nat → Int32) × Nat) (mo : Bool) (G : Nat × Nat) (I : Nat → Nat → Int32) (J : Nat → Nat → Int64) (Q : Option Value → sm_M → Prop) (x1 : Int32) (x2 : Int32) :
    sm_wp X 130 0 [some (.ref 60), some (.int x1), some (.int x2)] [] (sM mo G I J) Q =
    (if (x1 : Int32) < 0 then sm_wp X 130 10 [some (.ref 60), some (.int x1), some (.int x2)] [] (sM mo G I J) Q else (if (x1 : Int32) < (6 : Int32) then sm_wp X 130 11 [some (.ref 60), some (.int x1), some (.int x2)] [] (sM mo G I J) Q else (True ∧ Q none (sM mo G I J)))) :=
  (sm_blk X 130 0 (tt_lin 130 (by decide)) rfl rfl _ _ _ _).trans rfl
set_option maxRecDepth 100000 in
theorem bkw_130_10 (X : (Nat → Int32) × Nat) (mo : Bool) (G : Nat × Nat) (I : Nat → Nat → Int32) (J : Nat → Nat → Int64) (Q : Option Value → sm_M → Prop) (x1 : Int32) (x2 : Int32) :
    sm_wp X 130 10 [some (.ref 60), some (.int x1), some (.int x2)] [] (sM mo G I J) Q =
    (True ∧ Q none (sM mo G I J)) :=
  (sm_blk X 130 10 (tt_lin 130 (by decide)) rfl rfl _ _ _ _).trans rfl
set_option maxRecDepth 100000 in
theorem bkw_130_11 (X : (Nat → Int32) × Nat) (mo : Bool) (G : Nat × Nat) (I : Nat → Nat → Int32) (J : Nat → Nat → Int64) (Q : Option Value → sm_M → Prop) (x1 : Int32) (x2 : Int32) :
    sm_wp X 130 11 [some (.ref 60), some (.int x1), some (.int x2)] [] (sM mo G I J) Q =
    (vp_in x1 6 ∧ (vp_in x1 6 ∧ (vp_in x1 6 ∧ (vp_in x1 6 ∧ (if ((up2 I 64 x1.toNatClampNeg ((I 64 (x1.toNatClampNeg)) + x2)) 64 (x1.toNatClampNeg) : Int32) < ((up2 I 64 x1.toNatClampNeg ((I 64 (x1.toNatClampNeg)) + x2)) 66 (x1.toNatClampNeg) : Int32) then sm_wp X 130 56 [some (.ref 60), some (.int x1), some (.int x2)] [] (sM mo G (up2 I 64 x1.toNatClampNeg ((I 64 (x1.toNatClampNeg)) + x2)) J) Q else (sm_wp X 130 70 [some (.ref 60), some (.int x1), some (.int x2)] [] (sM mo G (up2 (up2 I 64 x1.toNatClampNeg ((I 64 (x1.toNatClampNeg)) + x2)) 60 12 (((up2 I 64 x1.toNatClampNeg ((I 64 (x1.toNatClampNeg)) + x2)) 60 12) ||| (((up2 I 64 x1.toNatClampNeg ((I 64 (x1.toNatClampNeg)) + x2)) 60 2) &&& (1 <<< (x1 &&& 31))))) J) Q)))))) :=
  (sm_blk X 130 11 (tt_lin 130 (by decide)) rfl rfl _ _ _ _).trans rfl
set_option maxRecDepth 100000 in
theorem bkw_130_56 (X : (Nat → Int32) × Nat) (mo : Bool) (G : Nat × Nat) (I : Nat → Nat → Int32) (J : Nat → Nat → Int64) (Q : Option Value → sm_M → Prop) (x1 : Int32) (x2 : Int32) :
    sm_wp X 130 56 [some (.ref 60), some (.int x1), some (.int x2)] [] (sM mo G I J) Q =
    (True ∧ Q none (sM mo G (up2 I 60 12 ((I 60 12) &&& ((1 <<< (x1 &&& 31)) ^^^ (-1)))) J)) :=
  (sm_blk X 130 56 (tt_lin 130 (by decide)) rfl rfl _ _ _ _).trans rfl
set_option maxRecDepth 100000 in
theorem bkw_130_70 (X : (Nat → Int32) × Nat) (mo : Bool) (G : Nat × Nat) (I : Nat → Nat → Int32) (J : Nat → Nat → Int64) (Q : Option Value → sm_M → Prop) (x1 : Int32) (x2 : Int32) :
    sm_wp X 130 70 [some (.ref 60), some (.int x1), some (.int x2)] [] (sM mo G I J) Q =
    (True ∧ Q none (sM mo G I J)) :=
  (sm_blk X 130 70 (tt_lin 130 (by decide)) rfl rfl _ _ _ _).trans rfl
set_option maxRecDepth 100000 in
theorem bk_131_0 (X : (Nat → Int32) × Nat) (mo : Bool) (G : Nat × Nat) (I : Nat → Nat → Int32) (J : Nat → Nat → Int64) (Q : Option Value → sm_M → Prop)  :
    sm_wp X 131 0 [some (.ref 52)] [] (sM mo G I J) Q =
    (if (I 52 5 : Int32) ≤ (8 : Int32) then sm_wp X 131 13 [some (.ref 52)] [] (sM mo G I J) Q else (sm_wp X 131 14 [some (.ref 52)] [.int 1] (sM mo G I J) Q)) :=
  (sm_blk X 131 0 (tt_lin 131 (by decide)) rfl rfl _ _ _ _).trans rfl
set_option maxRecDepth 100000 in
theorem bk_131_13 (X : (Nat → Int32) × Nat) (mo : Bool) (G : Nat × Nat) (I : Nat → Nat → Int32) (J : Nat → Nat → Int64) (Q : Option Value → sm_M → Prop)  :
    sm_wp X 131 13 [some (.ref 52)] [] (sM mo G I J) Q =
    (sm_zb 0 ∧ Q (some (.int 0)) (sM mo G I J)) :=
  (sm_blk X 131 13 (tt_lin 131 (by decide)) rfl rfl _ _ _ _).trans rfl
set_option maxRecDepth 100000 in
theorem bk_131_14 (X : (Nat → Int32) × Nat) (mo : Bool) (G : Nat × Nat) (I : Nat → Nat → Int32) (J : Nat → Nat → Int64) (Q : Option Value → sm_M → Prop) (s0 : Int32) :
    sm_wp X 131 14 [some (.ref 52)] [.int s0] (sM mo G I J) Q =
    (sm_zb s0 ∧ Q (some (.int s0)) (sM mo G I J)) :=
  (sm_blk X 131 14 (tt_lin 131 (by decide)) rfl rfl _ _ _ _).trans rfl
set_option maxRecDepth 100000 in
theorem bkw_131_0 (X : (Nat → Int32) × Nat) (mo : Bool) (G : Nat × Nat) (I : Nat → Nat → Int32) (J : Nat → Nat → Int64) (Q : Option Value → sm_M → Prop)  :
    sm_wp X 131 0 [some (.ref 60)] [] (sM mo G I J) Q =
    (if (I 60 5 : Int32) ≤ (8 : Int32) then sm_wp X 131 13 [some (.ref 60)] [] (sM mo G I J) Q else (sm_wp X 131 14 [some (.ref 60)] [.int 1] (sM mo G I J) Q)) :=
  (sm_blk X 131 0 (tt_lin 131 (by decide)) rfl rfl _ _ _ _).trans rfl
set_option maxRecDepth 100000 in
theorem bkw_131_13 (X : (Nat → Int32) × Nat) (mo : Bool) (G : Nat × Nat) (I : Nat → Nat → Int32) (J : Nat → Nat → Int64) (Q : Option Value → sm_M → Prop)  :
    sm_wp X 131 13 [some (.ref 60)] [] (sM mo G I J) Q =
    (sm_zb 0 ∧ Q (some (.int 0)) (sM mo G I J)) :=
  (sm_blk X 131 13 (tt_lin 131 (by decide)) rfl rfl _ _ _ _).trans rfl
set_option maxRecDepth 100000 in
theorem bkw_131_14 (X : (Nat → Int32) × Nat) (mo : Bool) (G : Nat × Nat) (I : Nat → Nat → Int32) (J : Nat → Nat → Int64) (Q : Option Value → sm_M → Prop) (s0 : Int32) :
    sm_wp X 131 14 [some (.ref 60)] [.int s0] (sM mo G I J) Q =
    (sm_zb s0 ∧ Q (some (.int s0)) (sM mo G I J)) :=
  (sm_blk X 131 14 (tt_lin 131 (by decide)) rfl rfl _ _ _ _).trans rfl
set_option maxRecDepth 100000 in
theorem bk_132_0 (X : (Nat → Int32) × Nat) (mo : Bool) (G : Nat × Nat) (I : Nat → Nat → Int32) (J : Nat → Nat → Int64) (Q : Option Value → sm_M → Prop) (x1 : Int32) (x2 : Int32) :
    sm_wp X 132 0 [some (.ref 52), some (.int x1), some (.int x2), none] [] (sM mo G I J) Q =
    (if (x1 : Int32) < 0 then sm_wp X 132 10 [some (.ref 52), some (.int x1), some (.int x2), none] [] (sM mo G I J) Q else (if (x1 : Int32) < (8 : Int32) then sm_wp X 132 12 [some (.ref 52), some (.int x1), some (.int x2), none] [] (sM mo G I J) Q else (True ∧ Q (some (.int (-1))) (sM mo G I J)))) :=
  (sm_blk X 132 0 (tt_lin 132 (by decide)) rfl rfl _ _ _ _).trans rfl
set_option maxRecDepth 100000 in
theorem bk_132_10 (X : (Nat → Int32) × Nat) (mo : Bool) (G : Nat × Nat) (I : Nat → Nat → Int32) (J : Nat → Nat → Int64) (Q : Option Value → sm_M → Prop) (x1 : Int32) (x2 : Int32) :
    sm_wp X 132 10 [some (.ref 52), some (.int x1), some (.int x2), none] [] (sM mo G I J) Q =
    (True ∧ Q (some (.int (-1))) (sM mo G I J)) :=
  (sm_blk X 132 10 (tt_lin 132 (by decide)) rfl rfl _ _ _ _).trans rfl
set_option maxRecDepth 100000 in
theorem bk_132_12 (X : (Nat → Int32) × Nat) (mo : Bool) (G : Nat × Nat) (I : Nat → Nat → Int32) (J : Nat → Nat → Int64) (Q : Option Value → sm_M → Prop) (x1 : Int32) (x2 : Int32) :
    sm_wp X 132 12 [some (.ref 52), some (.int x1), some (.int x2), none] [] (sM mo G I J) Q =
    (sm_wp X 132 16 [some (.ref 52), some (.int x1), none, some (.int (x2 + 1))] [] (sM mo G I J) Q) :=
  (sm_blk X 132 12 (tt_lin 132 (by decide)) rfl rfl _ _ _ _).trans rfl
set_option maxRecDepth 100000 in
theorem bk_132_16 (X : (Nat → Int32) × Nat) (mo : Bool) (G : Nat × Nat) (I : Nat → Nat → Int32) (J : Nat → Nat → Int64) (Q : Option Value → sm_M → Prop) (x1 : Int32) (x3 : Int32) :
    sm_wp X 132 16 [some (.ref 52), some (.int x1), none, some (.int x3)] [] (sM mo G I J) Q =
    (if (6 : Int32) ≤ (x3 : Int32) then sm_wp X 132 43 [some (.ref 52), some (.int x1), none, some (.int x3)] [] (sM mo G I J) Q else (vp_in x1 8 ∧ (if (((I 54 (x1.toNatClampNeg)) >>> (x3 &&& 31)) &&& 1 : Int32) = 0 then sm_wp X 132 37 [some (.ref 52), some (.int x1), none, some (.int x3)] [] (sM mo G I J) Q else (True ∧ Q (some (.int x3)) (sM mo G I J))))) :=
  (sm_blk X 132 16 (tt_lin 132 (by decide)) rfl rfl _ _ _ _).trans rfl
set_option maxRecDepth 100000 in
theorem bk_132_37 (X : (Nat → Int32) × Nat) (mo : Bool) (G : Nat × Nat) (I : Nat → Nat → Int32) (J : Nat → Nat → Int64) (Q : Option Value → sm_M → Prop) (x1 : Int32) (x3 : Int32) :
    sm_wp X 132 37 [some (.ref 52), some (.int x1), none, some (.int x3)] [] (sM mo G I J) Q =
    (sm_wp X 132 16 [some (.ref 52), some (.int x1), none, some (.int (x3 + 1))] [] (sM mo G I J) Q) :=
  (sm_blk X 132 37 (tt_lin 132 (by decide)) rfl rfl _ _ _ _).trans rfl
set_option maxRecDepth 100000 in
theorem bk_132_43 (X : (Nat → Int32) × Nat) (mo : Bool) (G : Nat × Nat) (I : Nat → Nat → Int32) (J : Nat → Nat → Int64) (Q : Option Value → sm_M → Prop) (x1 : Int32) (x3 : Int32) :
    sm_wp X 132 43 [some (.ref 52), some (.int x1), none, some (.int x3)] [] (sM mo G I J) Q =
    (True ∧ Q (some (.int (-1))) (sM mo G I J)) :=
  (sm_blk X 132 43 (tt_lin 132 (by decide)) rfl rfl _ _ _ _).trans rfl
set_option maxRecDepth 100000 in
theorem bkw_132_0 (X : (Nat → Int32) × Nat) (mo : Bool) (G : Nat × Nat) (I : Nat → Nat → Int32) (J : Nat → Nat → Int64) (Q : Option Value → sm_M → Prop) (x1 : Int32) (x2 : Int32) :
    sm_wp X 132 0 [some (.ref 60), some (.int x1), some (.int x2), none] [] (sM mo G I J) Q =
    (if (x1 : Int32) < 0 then sm_wp X 132 10 [some (.ref 60), some (.int x1), some (.int x2), none] [] (sM mo G I J) Q else (if (x1 : Int32) < (8 : Int32) then sm_wp X 132 12 [some (.ref 60), some (.int x1), some (.int x2), none] [] (sM mo G I J) Q else (True ∧ Q (some (.int (-1))) (sM mo G I J)))) :=
  (sm_blk X 132 0 (tt_lin 132 (by decide)) rfl rfl _ _ _ _).trans rfl
set_option maxRecDepth 100000 in
theorem bkw_132_10 (X : (Nat → Int32) × Nat) (mo : Bool) (G : Nat × Nat) (I : Nat → Nat → Int32) (J : Nat → Nat → Int64) (Q : Option Value → sm_M → Prop) (x1 : Int32) (x2 : Int32) :
    sm_wp X 132 10 [some (.ref 60), some (.int x1), some (.int x2), none] [] (sM mo G I J) Q =
    (True ∧ Q (some (.int (-1))) (sM mo G I J)) :=
  (sm_blk X 132 10 (tt_lin 132 (by decide)) rfl rfl _ _ _ _).trans rfl
set_option maxRecDepth 100000 in
theorem bkw_132_12 (X : (Nat → Int32) × Nat) (mo : Bool) (G : Nat × Nat) (I : Nat → Nat → Int32) (J : Nat → Nat → Int64) (Q : Option Value → sm_M → Prop) (x1 : Int32) (x2 : Int32) :
    sm_wp X 132 12 [some (.ref 60), some (.int x1), some (.int x2), none] [] (sM mo G I J) Q =
    (sm_wp X 132 16 [some (.ref 60), some (.int x1), none, some (.int (x2 + 1))] [] (sM mo G I J) Q) :=
  (sm_blk X 132 12 (tt_lin 132 (by decide)) rfl rfl _ _ _ _).trans rfl
set_option maxRecDepth 100000 in
theorem bkw_132_16 (X : (Nat → Int32) × Nat) (mo : Bool) (G : Nat × Nat) (I : Nat → Nat → Int32) (J : Nat → Nat → Int64) (Q : Option Value → sm_M → Prop) (x1 : Int32) (x3 : Int32) :
    sm_wp X 132 16 [some (.ref 60), some (.int x1), none, some (.int x3)] [] (sM mo G I J) Q =
    (if (6 : Int32) ≤ (x3 : Int32) then sm_wp X 132 43 [some (.ref 60), some (.int x1), none, some (.int x3)] [] (sM mo G I J) Q else (vp_in x1 8 ∧ (if (((I 62 (x1.toNatClampNeg)) >>> (x3 &&& 31)) &&& 1 : Int32) = 0 then sm_wp X 132 37 [some (.ref 60), some (.int x1), none, some (.int x3)] [] (sM mo G I J) Q else (True ∧ Q (some (.int x3)) (sM mo G I J))))) :=
  (sm_blk X 132 16 (tt_lin 132 (by decide)) rfl rfl _ _ _ _).trans rfl
set_option maxRecDepth 100000 in
theorem bkw_132_37 (X : (Nat → Int32) × Nat) (mo : Bool) (G : Nat × Nat) (I : Nat → Nat → Int32) (J : Nat → Nat → Int64) (Q : Option Value → sm_M → Prop) (x1 : Int32) (x3 : Int32) :
    sm_wp X 132 37 [some (.ref 60), some (.int x1), none, some (.int x3)] [] (sM mo G I J) Q =
    (sm_wp X 132 16 [some (.ref 60), some (.int x1), none, some (.int (x3 + 1))] [] (sM mo G I J) Q) :=
  (sm_blk X 132 37 (tt_lin 132 (by decide)) rfl rfl _ _ _ _).trans rfl
set_option maxRecDepth 100000 in
theorem bkw_132_43 (X : (Nat → Int32) × Nat) (mo : Bool) (G : Nat × Nat) (I : Nat → Nat → Int32) (J : Nat → Nat → Int64) (Q : Option Value → sm_M → Prop) (x1 : Int32) (x3 : Int32) :
    sm_wp X 132 43 [some (.ref 60), some (.int x1), none, some (.int x3)] [] (sM mo G I J) Q =
    (True ∧ Q (some (.int (-1))) (sM mo G I J)) :=
  (sm_blk X 132 43 (tt_lin 132 (by decide)) rfl rfl _ _ _ _).trans rfl
set_option maxRecDepth 100000 in
theorem bk_133_0 (X : (Nat → Int32) × Nat) (mo : Bool) (G : Nat × Nat) (I : Nat → Nat → Int32) (J : Nat → Nat → Int64) (Q : Option Value → sm_M → Prop) (x1 : Int32) (x2 : Int32) :
    sm_wp X 133 0 [some (.ref 52), some (.int x1), some (.int x2)] [] (sM mo G I J) Q =
    (if (x1 : Int32) < 0 then sm_wp X 133 10 [some (.ref 52), some (.int x1), some (.int x2)] [] (sM mo G I J) Q else (if (x1 : Int32) < (8 : Int32) then sm_wp X 133 11 [some (.ref 52), some (.int x1), some (.int x2)] [] (sM mo G I J) Q else (True ∧ Q none (sM mo G I J)))) :=
  (sm_blk X 133 0 (tt_lin 133 (by decide)) rfl rfl _ _ _ _).trans rfl
set_option maxRecDepth 100000 in
theorem bk_133_10 (X : (Nat → Int32) × Nat) (mo : Bool) (G : Nat × Nat) (I : Nat → Nat → Int32) (J : Nat → Nat → Int64) (Q : Option Value → sm_M → Prop) (x1 : Int32) (x2 : Int32) :
    sm_wp X 133 10 [some (.ref 52), some (.int x1), some (.int x2)] [] (sM mo G I J) Q =
    (True ∧ Q none (sM mo G I J)) :=
  (sm_blk X 133 10 (tt_lin 133 (by decide)) rfl rfl _ _ _ _).trans rfl
set_option maxRecDepth 100000 in
theorem bk_133_11 (X : (Nat → Int32) × Nat) (mo : Bool) (G : Nat × Nat) (I : Nat → Nat → Int32) (J : Nat → Nat → Int64) (Q : Option Value → sm_M → Prop) (x1 : Int32) (x2 : Int32) :
    sm_wp X 133 11 [some (.ref 52), some (.int x1), some (.int x2)] [] (sM mo G I J) Q =
    (vp_in x1 8 ∧ (vp_in x1 8 ∧ (vp_in x1 8 ∧ (sm_wp X 104 0 [some (.ref 1), some (.int (I 55 (x1.toNatClampNeg))), some (.int (I 53 (x1.toNatClampNeg)))] [] (sM mo G I J) (fun v M => sm_wp X 133 37 [some (.ref 52), some (.int x1), some (.int x2)] (v.toList ++ [.int (I 55 (x1.toNatClampNeg)), .ref 52]) M Q))))) :=
  (sm_blk X 133 11 (tt_lin 133 (by decide)) rfl rfl _ _ _ _).trans rfl
set_option maxRecDepth 100000 in
theorem bk_133_37 (X : (Nat → Int32) × Nat) (mo : Bool) (G : Nat × Nat) (I : Nat → Nat → Int32) (J : Nat → Nat → Int64) (Q : Option Value → sm_M → Prop) (x1 : Int32) (x2 : Int32) (s1 : Int32) (s2 : Int32) :
    sm_wp X 133 37 [some (.ref 52), some (.int x1), some (.int x2)] [.int s2, .int s1, .ref 52] (sM mo G I J) Q =
    (sm_wp X 130 0 [some (.ref 52), some (.int s1), some (.int (-s2))] [] (sM mo G I J) (fun v M => sm_wp X 133 41 [some (.ref 52), some (.int x1), some (.int x2)] (v.toList ++ []) M Q)) :=
  (sm_blk X 133 37 (tt_lin 133 (by decide)) rfl rfl _ _ _ _).trans rfl
set_option maxRecDepth 100000 in
theorem bk_133_41 (X : (Nat → Int32) × Nat) (mo : Bool) (G : Nat × Nat) (I : Nat → Nat → Int32) (J : Nat → Nat → Int64) (Q : Option Value → sm_M → Prop) (x1 : Int32) (x2 : Int32) :
    sm_wp X 133 41 [some (.ref 52), some (.int x1), some (.int x2)] [] (sM mo G I J) Q =
    (vp_in x1 8 ∧ (sm_wp X 104 0 [some (.ref 1), some (.int x2), some (.int (I 53 (x1.toNatClampNeg)))] [] (sM mo G I J) (fun v M => sm_wp X 133 57 [some (.ref 52), some (.int x1), some (.int x2)] (v.toList ++ [.int x2, .ref 52]) M Q))) :=
  (sm_blk X 133 41 (tt_lin 133 (by decide)) rfl rfl _ _ _ _).trans rfl
set_option maxRecDepth 100000 in
theorem bk_133_57 (X : (Nat → Int32) × Nat) (mo : Bool) (G : Nat × Nat) (I : Nat → Nat → Int32) (J : Nat → Nat → Int64) (Q : Option Value → sm_M → Prop) (x1 : Int32) (x2 : Int32) (s1 : Int32) (s2 : Int32) :
    sm_wp X 133 57 [some (.ref 52), some (.int x1), some (.int x2)] [.int s2, .int s1, .ref 52] (sM mo G I J) Q =
    (sm_wp X 130 0 [some (.ref 52), some (.int s1), some (.int s2)] [] (sM mo G I J) (fun v M => sm_wp X 133 60 [some (.ref 52), some (.int x1), some (.int x2)] (v.toList ++ []) M Q)) :=
  (sm_blk X 133 57 (tt_lin 133 (by decide)) rfl rfl _ _ _ _).trans rfl
set_option maxRecDepth 100000 in
theorem bk_133_60 (X : (Nat → Int32) × Nat) (mo : Bool) (G : Nat × Nat) (I : Nat → Nat → Int32) (J : Nat → Nat → Int64) (Q : Option Value → sm_M → Prop) (x1 : Int32) (x2 : Int32) :
    sm_wp X 133 60 [some (.ref 52), some (.int x1), some (.int x2)] [] (sM mo G I J) Q =
    (vp_in x1 8 ∧ (True ∧ Q none (sM mo G (up2 I 55 x1.toNatClampNeg x2) J))) :=
  (sm_blk X 133 60 (tt_lin 133 (by decide)) rfl rfl _ _ _ _).trans rfl
set_option maxRecDepth 100000 in
theorem bkw_133_0 (X : (Nat → Int32) × Nat) (mo : Bool) (G : Nat × Nat) (I : Nat → Nat → Int32) (J : Nat → Nat → Int64) (Q : Option Value → sm_M → Prop) (x1 : Int32) (x2 : Int32) :
    sm_wp X 133 0 [some (.ref 60), some (.int x1), some (.int x2)] [] (sM mo G I J) Q =
    (if (x1 : Int32) < 0 then sm_wp X 133 10 [some (.ref 60), some (.int x1), some (.int x2)] [] (sM mo G I J) Q else (if (x1 : Int32) < (8 : Int32) then sm_wp X 133 11 [some (.ref 60), some (.int x1), some (.int x2)] [] (sM mo G I J) Q else (True ∧ Q none (sM mo G I J)))) :=
  (sm_blk X 133 0 (tt_lin 133 (by decide)) rfl rfl _ _ _ _).trans rfl
set_option maxRecDepth 100000 in
theorem bkw_133_10 (X : (Nat → Int32) × Nat) (mo : Bool) (G : Nat × Nat) (I : Nat → Nat → Int32) (J : Nat → Nat → Int64) (Q : Option Value → sm_M → Prop) (x1 : Int32) (x2 : Int32) :
    sm_wp X 133 10 [some (.ref 60), some (.int x1), some (.int x2)] [] (sM mo G I J) Q =
    (True ∧ Q none (sM mo G I J)) :=
  (sm_blk X 133 10 (tt_lin 133 (by decide)) rfl rfl _ _ _ _).trans rfl
set_option maxRecDepth 100000 in
theorem bkw_133_11 (X : (Nat → Int32) × Nat) (mo : Bool) (G : Nat × Nat) (I : Nat → Nat → Int32) (J : Nat → Nat → Int64) (Q : Option Value → sm_M → Prop) (x1 : Int32) (x2 : Int32) :
    sm_wp X 133 11 [some (.ref 60), some (.int x1), some (.int x2)] [] (sM mo G I J) Q =
    (vp_in x1 8 ∧ (vp_in x1 8 ∧ (vp_in x1 8 ∧ (sm_wp X 104 0 [some (.ref 1), some (.int (I 63 (x1.toNatClampNeg))), some (.int (I 61 (x1.toNatClampNeg)))] [] (sM mo G I J) (fun v M => sm_wp X 133 37 [some (.ref 60), some (.int x1), some (.int x2)] (v.toList ++ [.int (I 63 (x1.toNatClampNeg)), .ref 60]) M Q))))) :=
  (sm_blk X 133 11 (tt_lin 133 (by decide)) rfl rfl _ _ _ _).trans rfl
set_option maxRecDepth 100000 in
theorem bkw_133_37 (X : (Nat → Int32) × Nat) (mo : Bool) (G : Nat × Nat) (I : Nat → Nat → Int32) (J : Nat → Nat → Int64) (Q : Option Value → sm_M → Prop) (x1 : Int32) (x2 : Int32) (s1 : Int32) (s2 : Int32) :
    sm_wp X 133 37 [some (.ref 60), some (.int x1), some (.int x2)] [.int s2, .int s1, .ref 60] (sM mo G I J) Q =
    (sm_wp X 130 0 [some (.ref 60), some (.int s1), some (.int (-s2))] [] (sM mo G I J) (fun v M => sm_wp X 133 41 [some (.ref 60), some (.int x1), some (.int x2)] (v.toList ++ []) M Q)) :=
  (sm_blk X 133 37 (tt_lin 133 (by decide)) rfl rfl _ _ _ _).trans rfl
set_option maxRecDepth 100000 in
theorem bkw_133_41 (X : (Nat → Int32) × Nat) (mo : Bool) (G : Nat × Nat) (I : Nat → Nat → Int32) (J : Nat → Nat → Int64) (Q : Option Value → sm_M → Prop) (x1 : Int32) (x2 : Int32) :
    sm_wp X 133 41 [some (.ref 60), some (.int x1), some (.int x2)] [] (sM mo G I J) Q =
    (vp_in x1 8 ∧ (sm_wp X 104 0 [some (.ref 1), some (.int x2), some (.int (I 61 (x1.toNatClampNeg)))] [] (sM mo G I J) (fun v M => sm_wp X 133 57 [some (.ref 60), some (.int x1), some (.int x2)] (v.toList ++ [.int x2, .ref 60]) M Q))) :=
  (sm_blk X 133 41 (tt_lin 133 (by decide)) rfl rfl _ _ _ _).trans rfl
set_option maxRecDepth 100000 in
theorem bkw_133_57 (X : (Nat → Int32) × Nat) (mo : Bool) (G : Nat × Nat) (I : Nat → Nat → Int32) (J : Nat → Nat → Int64) (Q : Option Value → sm_M → Prop) (x1 : Int32) (x2 : Int32) (s1 : Int32) (s2 : Int32) :
    sm_wp X 133 57 [some (.ref 60), some (.int x1), some (.int x2)] [.int s2, .int s1, .ref 60] (sM mo G I J) Q =
    (sm_wp X 130 0 [some (.ref 60), some (.int s1), some (.int s2)] [] (sM mo G I J) (fun v M => sm_wp X 133 60 [some (.ref 60), some (.int x1), some (.int x2)] (v.toList ++ []) M Q)) :=
  (sm_blk X 133 57 (tt_lin 133 (by decide)) rfl rfl _ _ _ _).trans rfl
set_option maxRecDepth 100000 in
theorem bkw_133_60 (X : (Nat → Int32) × Nat) (mo : Bool) (G : Nat × Nat) (I : Nat → Nat → Int32) (J : Nat → Nat → Int64) (Q : Option Value → sm_M → Prop) (x1 : Int32) (x2 : Int32) :
    sm_wp X 133 60 [some (.ref 60), some (.int x1), some (.int x2)] [] (sM mo G I J) Q =
    (vp_in x1 8 ∧ (True ∧ Q none (sM mo G (up2 I 63 x1.toNatClampNeg x2) J))) :=
  (sm_blk X 133 60 (tt_lin 133 (by decide)) rfl rfl _ _ _ _).trans rfl
set_option maxRecDepth 100000 in
theorem bk_134_0 (X : (Nat → Int32) × Nat) (mo : Bool) (G : Nat × Nat) (I : Nat → Nat → Int32) (J : Nat → Nat → Int64) (Q : Option Value → sm_M → Prop)  :
    sm_wp X 134 0 [some (.ref 52)] [] (sM mo G I J) Q =
    (if ((up2 I 52 13 ((I 52 13) + 1)) 52 12 : Int32) = ((up2 I 52 13 ((I 52 13) + 1)) 52 2 : Int32) then sm_wp X 134 37 [some (.ref 52)] [] (sM mo G (up2 I 52 13 ((I 52 13) + 1)) (up2 J 52 16 ((J 52 16) ||| (1 <<< (((up2 I 52 13 ((I 52 13) + 1)) 52 12).toInt64 &&& 63))))) Q else (True ∧ Q none (sM mo G (up2 I 52 13 ((I 52 13) + 1)) (up2 J 52 16 ((J 52 16) ||| (1 <<< (((up2 I 52 13 ((I 52 13) + 1)) 52 12).toInt64 &&& 63))))))) :=
  (sm_blk X 134 0 (tt_lin 134 (by decide)) rfl rfl _ _ _ _).trans rfl
set_option maxRecDepth 100000 in
theorem bk_134_37 (X : (Nat → Int32) × Nat) (mo : Bool) (G : Nat × Nat) (I : Nat → Nat → Int32) (J : Nat → Nat → Int64) (Q : Option Value → sm_M → Prop)  :
    sm_wp X 134 37 [some (.ref 52)] [] (sM mo G I J) Q =
    (sm_wp X 135 0 [some (.ref 52), none, none, none] [] (sM mo G (up2 I 52 14 ((I 52 14) + 1)) J) (fun v M => sm_wp X 134 51 [some (.ref 52)] (v.toList ++ []) M Q)) :=
  (sm_blk X 134 37 (tt_lin 134 (by decide)) rfl rfl _ _ _ _).trans rfl
set_option maxRecDepth 100000 in
theorem bk_134_51 (X : (Nat → Int32) × Nat) (mo : Bool) (G : Nat × Nat) (I : Nat → Nat → Int32) (J : Nat → Nat → Int64) (Q : Option Value → sm_M → Prop) (s0 : Int32) :
    sm_wp X 134 51 [some (.ref 52)] [.int s0] (sM mo G I J) Q =
    (if (s0 : Int32) = 0 then sm_wp X 134 68 [some (.ref 52)] [] (sM mo G I J) Q else (sm_wp X 136 0 [some (.ref 52), none, none, none, none] [] (sM mo G (up2 I 52 15 ((I 52 15) + 1)) J) (fun v M => sm_wp X 134 68 [some (.ref 52)] (v.toList ++ []) M Q))) :=
  (sm_blk X 134 51 (tt_lin 134 (by decide)) rfl rfl _ _ _ _).trans rfl
set_option maxRecDepth 100000 in
theorem bk_134_68 (X : (Nat → Int32) × Nat) (mo : Bool) (G : Nat × Nat) (I : Nat → Nat → Int32) (J : Nat → Nat → Int64) (Q : Option Value → sm_M → Prop)  :
    sm_wp X 134 68 [some (.ref 52)] [] (sM mo G I J) Q =
    (True ∧ Q none (sM mo G I J)) :=
  (sm_blk X 134 68 (tt_lin 134 (by decide)) rfl rfl _ _ _ _).trans rfl
set_option maxRecDepth 100000 in
theorem bkw_134_0 (X : (Nat → Int32) × Nat) (mo : Bool) (G : Nat × Nat) (I : Nat → Nat → Int32) (J : Nat → Nat → Int64) (Q : Option Value → sm_M → Prop)  :
    sm_wp X 134 0 [some (.ref 60)] [] (sM mo G I J) Q =
    (if ((up2 I 60 13 ((I 60 13) + 1)) 60 12 : Int32) = ((up2 I 60 13 ((I 60 13) + 1)) 60 2 : Int32) then sm_wp X 134 37 [some (.ref 60)] [] (sM mo G (up2 I 60 13 ((I 60 13) + 1)) (up2 J 60 16 ((J 60 16) ||| (1 <<< (((up2 I 60 13 ((I 60 13) + 1)) 60 12).toInt64 &&& 63))))) Q else (True ∧ Q none (sM mo G (up2 I 60 13 ((I 60 13) + 1)) (up2 J 60 16 ((J 60 16) ||| (1 <<< (((up2 I 60 13 ((I 60 13) + 1)) 60 12).toInt64 &&& 63))))))) :=
  (sm_blk X 134 0 (tt_lin 134 (by decide)) rfl rfl _ _ _ _).trans rfl
set_option maxRecDepth 100000 in
theorem bkw_134_37 (X : (Nat → Int32) × Nat) (mo : Bool) (G : Nat × Nat) (I : Nat → Nat → Int32) (J : Nat → Nat → Int64) (Q : Option Value → sm_M → Prop)  :
    sm_wp X 134 37 [some (.ref 60)] [] (sM mo G I J) Q =
    (sm_wp X 135 0 [some (.ref 60), none, none, none] [] (sM mo G (up2 I 60 14 ((I 60 14) + 1)) J) (fun v M => sm_wp X 134 51 [some (.ref 60)] (v.toList ++ []) M Q)) :=
  (sm_blk X 134 37 (tt_lin 134 (by decide)) rfl rfl _ _ _ _).trans rfl
set_option maxRecDepth 100000 in
theorem bkw_134_51 (X : (Nat → Int32) × Nat) (mo : Bool) (G : Nat × Nat) (I : Nat → Nat → Int32) (J : Nat → Nat → Int64) (Q : Option Value → sm_M → Prop) (s0 : Int32) :
    sm_wp X 134 51 [some (.ref 60)] [.int s0] (sM mo G I J) Q =
    (if (s0 : Int32) = 0 then sm_wp X 134 68 [some (.ref 60)] [] (sM mo G I J) Q else (sm_wp X 136 0 [some (.ref 60), none, none, none, none] [] (sM mo G (up2 I 60 15 ((I 60 15) + 1)) J) (fun v M => sm_wp X 134 68 [some (.ref 60)] (v.toList ++ []) M Q))) :=
  (sm_blk X 134 51 (tt_lin 134 (by decide)) rfl rfl _ _ _ _).trans rfl
set_option maxRecDepth 100000 in
theorem bkw_134_68 (X : (Nat → Int32) × Nat) (mo : Bool) (G : Nat × Nat) (I : Nat → Nat → Int32) (J : Nat → Nat → Int64) (Q : Option Value → sm_M → Prop)  :
    sm_wp X 134 68 [some (.ref 60)] [] (sM mo G I J) Q =
    (True ∧ Q none (sM mo G I J)) :=
  (sm_blk X 134 68 (tt_lin 134 (by decide)) rfl rfl _ _ _ _).trans rfl
set_option maxRecDepth 100000 in
theorem bk_135_0 (X : (Nat → Int32) × Nat) (mo : Bool) (G : Nat × Nat) (I : Nat → Nat → Int32) (J : Nat → Nat → Int64) (Q : Option Value → sm_M → Prop)  :
    sm_wp X 135 0 [some (.ref 52), none, none, none] [] (sM mo G I J) Q =
    (sm_wp X 135 2 [some (.ref 52), some (.int 0), none, none] [] (sM mo G I J) Q) :=
  (sm_blk X 135 0 (tt_lin 135 (by decide)) rfl rfl _ _ _ _).trans rfl
set_option maxRecDepth 100000 in
theorem bk_135_2 (X : (Nat → Int32) × Nat) (mo : Bool) (G : Nat × Nat) (I : Nat → Nat → Int32) (J : Nat → Nat → Int64) (Q : Option Value → sm_M → Prop) (x1 : Int32) :
    sm_wp X 135 2 [some (.ref 52), some (.int x1), none, none] [] (sM mo G I J) Q =
    (if (6 : Int32) ≤ (x1 : Int32) then sm_wp X 135 42 [some (.ref 52), some (.int x1), none, none] [] (sM mo G I J) Q else (sm_wp X 169 0 [some (.int (I 52 2)), some (.int x1)] [] (sM mo G I J) (fun v M => sm_wp X 135 16 [some (.ref 52), some (.int x1), none, none] (v.toList ++ []) M Q))) :=
  (sm_blk X 135 2 (tt_lin 135 (by decide)) rfl rfl _ _ _ _).trans rfl
set_option maxRecDepth 100000 in
theorem bk_135_16 (X : (Nat → Int32) × Nat) (mo : Bool) (G : Nat × Nat) (I : Nat → Nat → Int32) (J : Nat → Nat → Int64) (Q : Option Value → sm_M → Prop) (x1 : Int32) (s0 : Int32) :
    sm_wp X 135 16 [some (.ref 52), some (.int x1), none, none] [.int s0] (sM mo G I J) Q =
    (if (s0 : Int32) = 0 then sm_wp X 135 36 [some (.ref 52), some (.int x1), none, none] [] (sM mo G I J) Q else (vp_in x1 6 ∧ (vp_in x1 6 ∧ (if (I 57 (x1.toNatClampNeg) : Int32) ≤ (I 56 (x1.toNatClampNeg) : Int32) then sm_wp X 135 36 [some (.ref 52), some (.int x1), none, none] [] (sM mo G I J) Q else (sm_zb 0 ∧ Q (some (.int 0)) (sM mo G I J)))))) :=
  (sm_blk X 135 16 (tt_lin 135 (by decide)) rfl rfl _ _ _ _).trans rfl
set_option maxRecDepth 100000 in
theorem bk_135_36 (X : (Nat → Int32) × Nat) (mo : Bool) (G : Nat × Nat) (I : Nat → Nat → Int32) (J : Nat → Nat → Int64) (Q : Option Value → sm_M → Prop) (x1 : Int32) :
    sm_wp X 135 36 [some (.ref 52), some (.int x1), none, none] [] (sM mo G I J) Q =
    (sm_wp X 135 2 [some (.ref 52), some (.int (x1 + 1)), none, none] [] (sM mo G I J) Q) :=
  (sm_blk X 135 36 (tt_lin 135 (by decide)) rfl rfl _ _ _ _).trans rfl
set_option maxRecDepth 100000 in
theorem bk_135_42 (X : (Nat → Int32) × Nat) (mo : Bool) (G : Nat × Nat) (I : Nat → Nat → Int32) (J : Nat → Nat → Int64) (Q : Option Value → sm_M → Prop) (x1 : Int32) :
    sm_wp X 135 42 [some (.ref 52), some (.int x1), none, none] [] (sM mo G I J) Q =
    (sm_wp X 145 0 [some (.ref 48), none, none, none] [] (sM mo G I J) (fun v M => sm_wp X 135 49 [some (.ref 52), some (.int x1), none, none] (v.toList ++ []) M Q)) :=
  (sm_blk X 135 42 (tt_lin 135 (by decide)) rfl rfl _ _ _ _).trans rfl
set_option maxRecDepth 100000 in
theorem bk_135_49 (X : (Nat → Int32) × Nat) (mo : Bool) (G : Nat × Nat) (I : Nat → Nat → Int32) (J : Nat → Nat → Int64) (Q : Option Value → sm_M → Prop) (x1 : Int32) (s0 : Int32) :
    sm_wp X 135 49 [some (.ref 52), some (.int x1), none, none] [.int s0] (sM mo G I J) Q =
    (sm_wp X 135 52 [some (.ref 52), some (.int s0), some (.int 1), none] [] (sM mo G I J) Q) :=
  (sm_blk X 135 49 (tt_lin 135 (by decide)) rfl rfl _ _ _ _).trans rfl
set_option maxRecDepth 100000 in
theorem bk_135_52 (X : (Nat → Int32) × Nat) (mo : Bool) (G : Nat × Nat) (I : Nat → Nat → Int32) (J : Nat → Nat → Int64) (Q : Option Value → sm_M → Prop) (x1 : Int32) (x2 : Int32) :
    sm_wp X 135 52 [some (.ref 52), some (.int x1), some (.int x2), none] [] (sM mo G I J) Q =
    (if (6 : Int32) ≤ (x2 : Int32) then sm_wp X 135 141 [some (.ref 52), some (.int x1), some (.int x2), none] [] (sM mo G I J) Q else (if (x1 : Int32) = 0 then sm_wp X 135 141 [some (.ref 52), some (.int x1), some (.int x2), none] [] (sM mo G I J) Q else (sm_wp X 135 64 [some (.ref 52), some (.int x1), some (.int x2), some (.int 0)] [] (sM mo G I J) Q))) :=
  (sm_blk X 135 52 (tt_lin 135 (by decide)) rfl rfl _ _ _ _).trans rfl
set_option maxRecDepth 100000 in
theorem bk_135_64 (X : (Nat → Int32) × Nat) (mo : Bool) (G : Nat × Nat) (I : Nat → Nat → Int32) (J : Nat → Nat → Int64) (Q : Option Value → sm_M → Prop) (x1 : Int32) (x2 : Int32) (x3 : Int32) :
    sm_wp X 135 64 [some (.ref 52), some (.int x1), some (.int x2), some (.int x3)] [] (sM mo G I J) Q =
    (if (x2 : Int32) ≤ (x3 : Int32) then sm_wp X 135 135 [some (.ref 52), some (.int x1), some (.int x2), some (.int x3)] [] (sM mo G I J) Q else (sm_wp X 147 0 [some (.int x3), some (.int x2)] [] (sM mo G I J) (fun v M => sm_wp X 135 75 [some (.ref 52), some (.int x1), some (.int x2), some (.int x3)] (v.toList ++ [.int x1]) M Q))) :=
  (sm_blk X 135 64 (tt_lin 135 (by decide)) rfl rfl _ _ _ _).trans rfl
set_option maxRecDepth 100000 in
theorem bk_135_75 (X : (Nat → Int32) × Nat) (mo : Bool) (G : Nat × Nat) (I : Nat → Nat → Int32) (J : Nat → Nat → Int64) (Q : Option Value → sm_M → Prop) (x1 : Int32) (x2 : Int32) (x3 : Int32) (s0 : Int32) (s1 : Int32) :
    sm_wp X 135 75 [some (.ref 52), some (.int x1), some (.int x2), some (.int x3)] [.int s1, .int s0] (sM mo G I J) Q =
    (sm_wp X 169 0 [some (.int s0), some (.int s1)] [] (sM mo G I J) (fun v M => sm_wp X 135 78 [some (.ref 52), some (.int x1), some (.int x2), some (.int x3)] (v.toList ++ []) M Q)) :=
  (sm_blk X 135 75 (tt_lin 135 (by decide)) rfl rfl _ _ _ _).trans rfl
set_option maxRecDepth 100000 in
theorem bk_135_78 (X : (Nat → Int32) × Nat) (mo : Bool) (G : Nat × Nat) (I : Nat → Nat → Int32) (J : Nat → Nat → Int64) (Q : Option Value → sm_M → Prop) (x1 : Int32) (x2 : Int32) (x3 : Int32) (s0 : Int32) :
    sm_wp X 135 78 [some (.ref 52), some (.int x1), some (.int x2), some (.int x3)] [.int s0] (sM mo G I J) Q =
    (if (s0 : Int32) = 0 then sm_wp X 135 129 [some (.ref 52), some (.int x1), some (.int x2), some (.int x3)] [] (sM mo G I J) Q else (sm_wp X 169 0 [some (.int (I 52 2)), some (.int x3)] [] (sM mo G I J) (fun v M => sm_wp X 135 89 [some (.ref 52), some (.int x1), some (.int x2), some (.int x3)] (v.toList ++ []) M Q))) :=
  (sm_blk X 135 78 (tt_lin 135 (by decide)) rfl rfl _ _ _ _).trans rfl
set_option maxRecDepth 100000 in
theorem bk_135_89 (X : (Nat → Int32) × Nat) (mo : Bool) (G : Nat × Nat) (I : Nat → Nat → Int32) (J : Nat → Nat → Int64) (Q : Option Value → sm_M → Prop) (x1 : Int32) (x2 : Int32) (x3 : Int32) (s0 : Int32) :
    sm_wp X 135 89 [some (.ref 52), some (.int x1), some (.int x2), some (.int x3)] [.int s0] (sM mo G I J) Q =
    (if (s0 : Int32) = 0 then sm_wp X 135 129 [some (.ref 52), some (.int x1), some (.int x2), some (.int x3)] [] (sM mo G I J) Q else (sm_wp X 169 0 [some (.int (I 52 2)), some (.int x2)] [] (sM mo G I J) (fun v M => sm_wp X 135 100 [some (.ref 52), some (.int x1), some (.int x2), some (.int x3)] (v.toList ++ []) M Q))) :=
  (sm_blk X 135 89 (tt_lin 135 (by decide)) rfl rfl _ _ _ _).trans rfl
set_option maxRecDepth 100000 in
theorem bk_135_100 (X : (Nat → Int32) × Nat) (mo : Bool) (G : Nat × Nat) (I : Nat → Nat → Int32) (J : Nat → Nat → Int64) (Q : Option Value → sm_M → Prop) (x1 : Int32) (x2 : Int32) (x3 : Int32) (s0 : Int32) :
    sm_wp X 135 100 [some (.ref 52), some (.int x1), some (.int x2), some (.int x3)] [.int s0] (sM mo G I J) Q =
    (if (s0 : Int32) = 0 then sm_wp X 135 129 [some (.ref 52), some (.int x1), some (.int x2), some (.int x3)] [] (sM mo G I J) Q else (vp_in x3 6 ∧ (vp_in x2 6 ∧ (sm_wp X 149 0 [some (.ref 48), some (.int x3), some (.int x2), some (.int (I 56 (x3.toNatClampNeg))), some (.int (I 56 (x2.toNatClampNeg))), none, none] [] (sM mo G I J) (fun v M => sm_wp X 135 124 [some (.ref 52), some (.int x1), some (.int x2), some (.int x3)] (v.toList ++ []) M Q))))) :=
  (sm_blk X 135 100 (tt_lin 135 (by decide)) rfl rfl _ _ _ _).trans rfl
set_option maxRecDepth 100000 in
theorem bk_135_124 (X : (Nat → Int32) × Nat) (mo : Bool) (G : Nat × Nat) (I : Nat → Nat → Int32) (J : Nat → Nat → Int64) (Q : Option Value → sm_M → Prop) (x1 : Int32) (x2 : Int32) (x3 : Int32) (s0 : Int32) :
    sm_wp X 135 124 [some (.ref 52), some (.int x1), some (.int x2), some (.int x3)] [.int s0] (sM mo G I J) Q =
    (if (s0 : Int32) = 0 then sm_wp X 135 129 [some (.ref 52), some (.int x1), some (.int x2), some (.int x3)] [] (sM mo G I J) Q else (sm_zb 0 ∧ Q (some (.int 0)) (sM mo G I J))) :=
  (sm_blk X 135 124 (tt_lin 135 (by decide)) rfl rfl _ _ _ _).trans rfl
set_option maxRecDepth 100000 in
theorem bk_135_129 (X : (Nat → Int32) × Nat) (mo : Bool) (G : Nat × Nat) (I : Nat → Nat → Int32) (J : Nat → Nat → Int64) (Q : Option Value → sm_M → Prop) (x1 : Int32) (x2 : Int32) (x3 : Int32) :
    sm_wp X 135 129 [some (.ref 52), some (.int x1), some (.int x2), some (.int x3)] [] (sM mo G I J) Q =
    (sm_wp X 135 64 [some (.ref 52), some (.int x1), some (.int x2), some (.int (x3 + 1))] [] (sM mo G I J) Q) :=
  (sm_blk X 135 129 (tt_lin 135 (by decide)) rfl rfl _ _ _ _).trans rfl
set_option maxRecDepth 100000 in
theorem bk_135_135 (X : (Nat → Int32) × Nat) (mo : Bool) (G : Nat × Nat) (I : Nat → Nat → Int32) (J : Nat → Nat → Int64) (Q : Option Value → sm_M → Prop) (x1 : Int32) (x2 : Int32) (x3 : Int32) :
    sm_wp X 135 135 [some (.ref 52), some (.int x1), some (.int x2), some (.int x3)] [] (sM mo G I J) Q =
    (sm_wp X 135 52 [some (.ref 52), some (.int x1), some (.int (x2 + 1)), none] [] (sM mo G I J) Q) :=
  (sm_blk X 135 135 (tt_lin 135 (by decide)) rfl rfl _ _ _ _).trans rfl
set_option maxRecDepth 100000 in
theorem bk_135_141 (X : (Nat → Int32) × Nat) (mo : Bool) (G : Nat × Nat) (I : Nat → Nat → Int32) (J : Nat → Nat → Int64) (Q : Option Value → sm_M → Prop) (x1 : Int32) (x2 : Int32) :
    sm_wp X 135 141 [some (.ref 52), some (.int x1), some (.int x2), none] [] (sM mo G I J) Q =
    (sm_zb 1 ∧ Q (some (.int 1)) (sM mo G I J)) :=
  (sm_blk X 135 141 (tt_lin 135 (by decide)) rfl rfl _ _ _ _).trans rfl
set_option maxRecDepth 100000 in
theorem bkw_135_0 (X : (Nat → Int32) × Nat) (mo : Bool) (G : Nat × Nat) (I : Nat → Nat → Int32) (J : Nat → Nat → Int64) (Q : Option Value → sm_M → Prop)  :
    sm_wp X 135 0 [some (.ref 60), none, none, none] [] (sM mo G I J) Q =
    (sm_wp X 135 2 [some (.ref 60), some (.int 0), none, none] [] (sM mo G I J) Q) :=
  (sm_blk X 135 0 (tt_lin 135 (by decide)) rfl rfl _ _ _ _).trans rfl
set_option maxRecDepth 100000 in
theorem bkw_135_2 (X : (Nat → Int32) × Nat) (mo : Bool) (G : Nat × Nat) (I : Nat → Nat → Int32) (J : Nat → Nat → Int64) (Q : Option Value → sm_M → Prop) (x1 : Int32) :
    sm_wp X 135 2 [some (.ref 60), some (.int x1), none, none] [] (sM mo G I J) Q =
    (if (6 : Int32) ≤ (x1 : Int32) then sm_wp X 135 42 [some (.ref 60), some (.int x1), none, none] [] (sM mo G I J) Q else (sm_wp X 169 0 [some (.int (I 60 2)), some (.int x1)] [] (sM mo G I J) (fun v M => sm_wp X 135 16 [some (.ref 60), some (.int x1), none, none] (v.toList ++ []) M Q))) :=
  (sm_blk X 135 2 (tt_lin 135 (by decide)) rfl rfl _ _ _ _).trans rfl
set_option maxRecDepth 100000 in
theorem bkw_135_16 (X : (Nat → Int32) × Nat) (mo : Bool) (G : Nat × Nat) (I : Nat → Nat → Int32) (J : Nat → Nat → Int64) (Q : Option Value → sm_M → Prop) (x1 : Int32) (s0 : Int32) :
    sm_wp X 135 16 [some (.ref 60), some (.int x1), none, none] [.int s0] (sM mo G I J) Q =
    (if (s0 : Int32) = 0 then sm_wp X 135 36 [some (.ref 60), some (.int x1), none, none] [] (sM mo G I J) Q else (vp_in x1 6 ∧ (vp_in x1 6 ∧ (if (I 65 (x1.toNatClampNeg) : Int32) ≤ (I 64 (x1.toNatClampNeg) : Int32) then sm_wp X 135 36 [some (.ref 60), some (.int x1), none, none] [] (sM mo G I J) Q else (sm_zb 0 ∧ Q (some (.int 0)) (sM mo G I J)))))) :=
  (sm_blk X 135 16 (tt_lin 135 (by decide)) rfl rfl _ _ _ _).trans rfl
set_option maxRecDepth 100000 in
theorem bkw_135_36 (X : (Nat → Int32) × Nat) (mo : Bool) (G : Nat × Nat) (I : Nat → Nat → Int32) (J : Nat → Nat → Int64) (Q : Option Value → sm_M → Prop) (x1 : Int32) :
    sm_wp X 135 36 [some (.ref 60), some (.int x1), none, none] [] (sM mo G I J) Q =
    (sm_wp X 135 2 [some (.ref 60), some (.int (x1 + 1)), none, none] [] (sM mo G I J) Q) :=
  (sm_blk X 135 36 (tt_lin 135 (by decide)) rfl rfl _ _ _ _).trans rfl
set_option maxRecDepth 100000 in
theorem bkw_135_42 (X : (Nat → Int32) × Nat) (mo : Bool) (G : Nat × Nat) (I : Nat → Nat → Int32) (J : Nat → Nat → Int64) (Q : Option Value → sm_M → Prop) (x1 : Int32) :
    sm_wp X 135 42 [some (.ref 60), some (.int x1), none, none] [] (sM mo G I J) Q =
    (sm_wp X 145 0 [some (.ref 48), none, none, none] [] (sM mo G I J) (fun v M => sm_wp X 135 49 [some (.ref 60), some (.int x1), none, none] (v.toList ++ []) M Q)) :=
  (sm_blk X 135 42 (tt_lin 135 (by decide)) rfl rfl _ _ _ _).trans rfl
set_option maxRecDepth 100000 in
theorem bkw_135_49 (X : (Nat → Int32) × Nat) (mo : Bool) (G : Nat × Nat) (I : Nat → Nat → Int32) (J : Nat → Nat → Int64) (Q : Option Value → sm_M → Prop) (x1 : Int32) (s0 : Int32) :
    sm_wp X 135 49 [some (.ref 60), some (.int x1), none, none] [.int s0] (sM mo G I J) Q =
    (sm_wp X 135 52 [some (.ref 60), some (.int s0), some (.int 1), none] [] (sM mo G I J) Q) :=
  (sm_blk X 135 49 (tt_lin 135 (by decide)) rfl rfl _ _ _ _).trans rfl
set_option maxRecDepth 100000 in
theorem bkw_135_52 (X : (Nat → Int32) × Nat) (mo : Bool) (G : Nat × Nat) (I : Nat → Nat → Int32) (J : Nat → Nat → Int64) (Q : Option Value → sm_M → Prop) (x1 : Int32) (x2 : Int32) :
    sm_wp X 135 52 [some (.ref 60), some (.int x1), some (.int x2), none] [] (sM mo G I J) Q =
    (if (6 : Int32) ≤ (x2 : Int32) then sm_wp X 135 141 [some (.ref 60), some (.int x1), some (.int x2), none] [] (sM mo G I J) Q else (if (x1 : Int32) = 0 then sm_wp X 135 141 [some (.ref 60), some (.int x1), some (.int x2), none] [] (sM mo G I J) Q else (sm_wp X 135 64 [some (.ref 60), some (.int x1), some (.int x2), some (.int 0)] [] (sM mo G I J) Q))) :=
  (sm_blk X 135 52 (tt_lin 135 (by decide)) rfl rfl _ _ _ _).trans rfl
set_option maxRecDepth 100000 in
theorem bkw_135_64 (X : (Nat → Int32) × Nat) (mo : Bool) (G : Nat × Nat) (I : Nat → Nat → Int32) (J : Nat → Nat → Int64) (Q : Option Value → sm_M → Prop) (x1 : Int32) (x2 : Int32) (x3 : Int32) :
    sm_wp X 135 64 [some (.ref 60), some (.int x1), some (.int x2), some (.int x3)] [] (sM mo G I J) Q =
    (if (x2 : Int32) ≤ (x3 : Int32) then sm_wp X 135 135 [some (.ref 60), some (.int x1), some (.int x2), some (.int x3)] [] (sM mo G I J) Q else (sm_wp X 147 0 [some (.int x3), some (.int x2)] [] (sM mo G I J) (fun v M => sm_wp X 135 75 [some (.ref 60), some (.int x1), some (.int x2), some (.int x3)] (v.toList ++ [.int x1]) M Q))) :=
  (sm_blk X 135 64 (tt_lin 135 (by decide)) rfl rfl _ _ _ _).trans rfl
set_option maxRecDepth 100000 in
theorem bkw_135_75 (X : (Nat → Int32) × Nat) (mo : Bool) (G : Nat × Nat) (I : Nat → Nat → Int32) (J : Nat → Nat → Int64) (Q : Option Value → sm_M → Prop) (x1 : Int32) (x2 : Int32) (x3 : Int32) (s0 : Int32) (s1 : Int32) :
    sm_wp X 135 75 [some (.ref 60), some (.int x1), some (.int x2), some (.int x3)] [.int s1, .int s0] (sM mo G I J) Q =
    (sm_wp X 169 0 [some (.int s0), some (.int s1)] [] (sM mo G I J) (fun v M => sm_wp X 135 78 [some (.ref 60), some (.int x1), some (.int x2), some (.int x3)] (v.toList ++ []) M Q)) :=
  (sm_blk X 135 75 (tt_lin 135 (by decide)) rfl rfl _ _ _ _).trans rfl
set_option maxRecDepth 100000 in
theorem bkw_135_78 (X : (Nat → Int32) × Nat) (mo : Bool) (G : Nat × Nat) (I : Nat → Nat → Int32) (J : Nat → Nat → Int64) (Q : Option Value → sm_M → Prop) (x1 : Int32) (x2 : Int32) (x3 : Int32) (s0 : Int32) :
    sm_wp X 135 78 [some (.ref 60), some (.int x1), some (.int x2), some (.int x3)] [.int s0] (sM mo G I J) Q =
    (if (s0 : Int32) = 0 then sm_wp X 135 129 [some (.ref 60), some (.int x1), some (.int x2), some (.int x3)] [] (sM mo G I J) Q else (sm_wp X 169 0 [some (.int (I 60 2)), some (.int x3)] [] (sM mo G I J) (fun v M => sm_wp X 135 89 [some (.ref 60), some (.int x1), some (.int x2), some (.int x3)] (v.toList ++ []) M Q))) :=
  (sm_blk X 135 78 (tt_lin 135 (by decide)) rfl rfl _ _ _ _).trans rfl
set_option maxRecDepth 100000 in
theorem bkw_135_89 (X : (Nat → Int32) × Nat) (mo : Bool) (G : Nat × Nat) (I : Nat → Nat → Int32) (J : Nat → Nat → Int64) (Q : Option Value → sm_M → Prop) (x1 : Int32) (x2 : Int32) (x3 : Int32) (s0 : Int32) :
    sm_wp X 135 89 [some (.ref 60), some (.int x1), some (.int x2), some (.int x3)] [.int s0] (sM mo G I J) Q =
    (if (s0 : Int32) = 0 then sm_wp X 135 129 [some (.ref 60), some (.int x1), some (.int x2), some (.int x3)] [] (sM mo G I J) Q else (sm_wp X 169 0 [some (.int (I 60 2)), some (.int x2)] [] (sM mo G I J) (fun v M => sm_wp X 135 100 [some (.ref 60), some (.int x1), some (.int x2), some (.int x3)] (v.toList ++ []) M Q))) :=
  (sm_blk X 135 89 (tt_lin 135 (by decide)) rfl rfl _ _ _ _).trans rfl
set_option maxRecDepth 100000 in
theorem bkw_135_100 (X : (Nat → Int32) × Nat) (mo : Bool) (G : Nat × Nat) (I : Nat → Nat → Int32) (J : Nat → Nat → Int64) (Q : Option Value → sm_M → Prop) (x1 : Int32) (x2 : Int32) (x3 : Int32) (s0 : Int32) :
    sm_wp X 135 100 [some (.ref 60), some (.int x1), some (.int x2), some (.int x3)] [.int s0] (sM mo G I J) Q =
    (if (s0 : Int32) = 0 then sm_wp X 135 129 [some (.ref 60), some (.int x1), some (.int x2), some (.int x3)] [] (sM mo G I J) Q else (vp_in x3 6 ∧ (vp_in x2 6 ∧ (sm_wp X 149 0 [some (.ref 48), some (.int x3), some (.int x2), some (.int (I 64 (x3.toNatClampNeg))), some (.int (I 64 (x2.toNatClampNeg))), none, none] [] (sM mo G I J) (fun v M => sm_wp X 135 124 [some (.ref 60), some (.int x1), some (.int x2), some (.int x3)] (v.toList ++ []) M Q))))) :=
  (sm_blk X 135 100 (tt_lin 135 (by decide)) rfl rfl _ _ _ _).trans rfl
set_option maxRecDepth 100000 in
theorem bkw_135_124 (X : (Nat → Int32) × Nat) (mo : Bool) (G : Nat × Nat) (I : Nat → Nat → Int32) (J : Nat → Nat → Int64) (Q : Option Value → sm_M → Prop) (x1 : Int32) (x2 : Int32) (x3 : Int32) (s0 : Int32) :
    sm_wp X 135 124 [some (.ref 60), some (.int x1), some (.int x2), some (.int x3)] [.int s0] (sM mo G I J) Q =
    (if (s0 : Int32) = 0 then sm_wp X 135 129 [some (.ref 60), some (.int x1), some (.int x2), some (.int x3)] [] (sM mo G I J) Q else (sm_zb 0 ∧ Q (some (.int 0)) (sM mo G I J))) :=
  (sm_blk X 135 124 (tt_lin 135 (by decide)) rfl rfl _ _ _ _).trans rfl
set_option maxRecDepth 100000 in
theorem bkw_135_129 (X : (Nat → Int32) × Nat) (mo : Bool) (G : Nat × Nat) (I : Nat → Nat → Int32) (J : Nat → Nat → Int64) (Q : Option Value → sm_M → Prop) (x1 : Int32) (x2 : Int32) (x3 : Int32) :
    sm_wp X 135 129 [some (.ref 60), some (.int x1), some (.int x2), some (.int x3)] [] (sM mo G I J) Q =
    (sm_wp X 135 64 [some (.ref 60), some (.int x1), some (.int x2), some (.int (x3 + 1))] [] (sM mo G I J) Q) :=
  (sm_blk X 135 129 (tt_lin 135 (by decide)) rfl rfl _ _ _ _).trans rfl
set_option maxRecDepth 100000 in
theorem bkw_135_135 (X : (Nat → Int32) × Nat) (mo : Bool) (G : Nat × Nat) (I : Nat → Nat → Int32) (J : Nat → Nat → Int64) (Q : Option Value → sm_M → Prop) (x1 : Int32) (x2 : Int32) (x3 : Int32) :
    sm_wp X 135 135 [some (.ref 60), some (.int x1), some (.int x2), some (.int x3)] [] (sM mo G I J) Q =
    (sm_wp X 135 52 [some (.ref 60), some (.int x1), some (.int (x2 + 1)), none] [] (sM mo G I J) Q) :=
  (sm_blk X 135 135 (tt_lin 135 (by decide)) rfl rfl _ _ _ _).trans rfl
set_option maxRecDepth 100000 in
theorem bkw_135_141 (X : (Nat → Int32) × Nat) (mo : Bool) (G : Nat × Nat) (I : Nat → Nat → Int32) (J : Nat → Nat → Int64) (Q : Option Value → sm_M → Prop) (x1 : Int32) (x2 : Int32) :
    sm_wp X 135 141 [some (.ref 60), some (.int x1), some (.int x2), none] [] (sM mo G I J) Q =
    (sm_zb 1 ∧ Q (some (.int 1)) (sM mo G I J)) :=
  (sm_blk X 135 141 (tt_lin 135 (by decide)) rfl rfl _ _ _ _).trans rfl
set_option maxRecDepth 100000 in
theorem bk_136_0 (X : (Nat → Int32) × Nat) (mo : Bool) (G : Nat × Nat) (I : Nat → Nat → Int32) (J : Nat → Nat → Int64) (Q : Option Value → sm_M → Prop)  :
    sm_wp X 136 0 [some (.ref 52), none, none, none, none] [] (sM mo G I J) Q =
    (sm_wp X 136 8 [some (.ref 52), some (.int 1188), some (.int 0), some (.int 0), none] [] (sM mo G I J) Q) :=
  (sm_blk X 136 0 (tt_lin 136 (by decide)) rfl rfl _ _ _ _).trans rfl
set_option maxRecDepth 100000 in
theorem bk_136_8 (X : (Nat → Int32) × Nat) (mo : Bool) (G : Nat × Nat) (I : Nat → Nat → Int32) (J : Nat → Nat → Int64) (Q : Option Value → sm_M → Prop) (x1 : Int32) (x2 : Int32) (x3 : Int32) :
    sm_wp X 136 8 [some (.ref 52), some (.int x1), some (.int x2), some (.int x3), none] [] (sM mo G I J) Q =
    (if (6 : Int32) ≤ (x3 : Int32) then sm_wp X 136 58 [some (.ref 52), some (.int x1), some (.int x2), some (.int x3), none] [] (sM mo G I J) Q else (sm_wp X 169 0 [some (.int (I 52 2)), some (.int x3)] [] (sM mo G I J) (fun v M => sm_wp X 136 22 [some (.ref 52), some (.int x1), some (.int x2), some (.int x3), none] (v.toList ++ []) M Q))) :=
  (sm_blk X 136 8 (tt_lin 136 (by decide)) rfl rfl _ _ _ _).trans rfl
set_option maxRecDepth 100000 in
theorem bk_136_22 (X : (Nat → Int32) × Nat) (mo : Bool) (G : Nat × Nat) (I : Nat → Nat → Int32) (J : Nat → Nat → Int64) (Q : Option Value → sm_M → Prop) (x1 : Int32) (x2 : Int32) (x3 : Int32) (s0 : Int32) :
    sm_wp X 136 22 [some (.ref 52), some (.int x1), some (.int x2), some (.int x3), none] [.int s0] (sM mo G I J) Q =
    (if (s0 : Int32) = 0 then sm_wp X 136 52 [some (.ref 52), some (.int x1), some (.int x2), some (.int x3), none] [] (sM mo G I J) Q else (vp_in x3 6 ∧ (vp_in x3 6 ∧ (True ∧ (vp_in x3 6 ∧ (sm_wp X 136 8 [some (.ref 52), some (.int (if ((I 56 (x3.toNatClampNeg)) - (I 58 (x3.toNatClampNeg)) : Int32) < x1 then (I 56 (x3.toNatClampNeg)) - (I 58 (x3.toNatClampNeg)) else x1)), some (.int (x2 + (I 56 (x3.toNatClampNeg)))), some (.int (x3 + 1)), none] [] (sM mo G I J) Q)))))) :=
  (sm_blk X 136 22 (tt_lin 136 (by decide)) rfl rfl _ _ _ _).trans rfl
set_option maxRecDepth 100000 in
theorem bk_136_52 (X : (Nat → Int32) × Nat) (mo : Bool) (G : Nat × Nat) (I : Nat → Nat → Int32) (J : Nat → Nat → Int64) (Q : Option Value → sm_M → Prop) (x1 : Int32) (x2 : Int32) (x3 : Int32) :
    sm_wp X 136 52 [some (.ref 52), some (.int x1), some (.int x2), some (.int x3), none] [] (sM mo G I J) Q =
    (sm_wp X 136 8 [some (.ref 52), some (.int x1), some (.int x2), some (.int (x3 + 1)), none] [] (sM mo G I J) Q) :=
  (sm_blk X 136 52 (tt_lin 136 (by decide)) rfl rfl _ _ _ _).trans rfl
set_option maxRecDepth 100000 in
theorem bk_136_58 (X : (Nat → Int32) × Nat) (mo : Bool) (G : Nat × Nat) (I : Nat → Nat → Int32) (J : Nat → Nat → Int64) (Q : Option Value → sm_M → Prop) (x1 : Int32) (x2 : Int32) (x3 : Int32) :
    sm_wp X 136 58 [some (.ref 52), some (.int x1), some (.int x2), some (.int x3), none] [] (sM mo G I J) Q =
    (if (I 52 17 : Int32) < (x1 : Int32) then sm_wp X 136 82 [some (.ref 52), some (.int x1), some (.int x2), some (.int x3), none] [] (sM mo G I J) Q else (if ¬ (x1 : Int32) = (I 52 17 : Int32) then sm_wp X 136 86 [some (.ref 52), some (.int x1), some (.int x2), some (.int x3), none] [] (sM mo G I J) Q else (if (x2 : Int32) ≤ (I 52 18 : Int32) then sm_wp X 136 86 [some (.ref 52), some (.int x1), some (.int x2), some (.int x3), none] [] (sM mo G I J) Q else (sm_wp X 136 87 [some (.ref 52), some (.int x1), some (.int x2), some (.int x3), none] [.int 1] (sM mo G I J) Q)))) :=
  (sm_blk X 136 58 (tt_lin 136 (by decide)) rfl rfl _ _ _ _).trans rfl
set_option maxRecDepth 100000 in
theorem bk_136_82 (X : (Nat → Int32) × Nat) (mo : Bool) (G : Nat × Nat) (I : Nat → Nat → Int32) (J : Nat → Nat → Int64) (Q : Option Value → sm_M → Prop) (x1 : Int32) (x2 : Int32) (x3 : Int32) :
    sm_wp X 136 82 [some (.ref 52), some (.int x1), some (.int x2), some (.int x3), none] [] (sM mo G I J) Q =
    (sm_wp X 136 87 [some (.ref 52), some (.int x1), some (.int x2), some (.int x3), none] [.int 1] (sM mo G I J) Q) :=
  (sm_blk X 136 82 (tt_lin 136 (by decide)) rfl rfl _ _ _ _).trans rfl
set_option maxRecDepth 100000 in
theorem bk_136_86 (X : (Nat → Int32) × Nat) (mo : Bool) (G : Nat × Nat) (I : Nat → Nat → Int32) (J : Nat → Nat → Int64) (Q : Option Value → sm_M → Prop) (x1 : Int32) (x2 : Int32) (x3 : Int32) :
    sm_wp X 136 86 [some (.ref 52), some (.int x1), some (.int x2), some (.int x3), none] [] (sM mo G I J) Q =
    (if (I 52 2 : Int32) = 0 then sm_wp X 136 99 [some (.ref 52), some (.int x1), some (.int x2), some (.int 0), none] [] (sM mo G I J) Q else (if ¬ (0 : Int32) = 0 then sm_wp X 136 100 [some (.ref 52), some (.int x1), some (.int x2), some (.int 0), none] [] (sM mo G I J) Q else (True ∧ Q none (sM mo G I J)))) :=
  (sm_blk X 136 86 (tt_lin 136 (by decide)) rfl rfl _ _ _ _).trans rfl
set_option maxRecDepth 100000 in
theorem bk_136_87 (X : (Nat → Int32) × Nat) (mo : Bool) (G : Nat × Nat) (I : Nat → Nat → Int32) (J : Nat → Nat → Int64) (Q : Option Value → sm_M → Prop) (x1 : Int32) (x2 : Int32) (x3 : Int32) (s0 : Int32) :
    sm_wp X 136 87 [some (.ref 52), some (.int x1), some (.int x2), some (.int x3), none] [.int s0] (sM mo G I J) Q =
    (if (I 52 2 : Int32) = 0 then sm_wp X 136 99 [some (.ref 52), some (.int x1), some (.int x2), some (.int s0), none] [] (sM mo G I J) Q else (if ¬ (s0 : Int32) = 0 then sm_wp X 136 100 [some (.ref 52), some (.int x1), some (.int x2), some (.int s0), none] [] (sM mo G I J) Q else (True ∧ Q none (sM mo G I J)))) :=
  (sm_blk X 136 87 (tt_lin 136 (by decide)) rfl rfl _ _ _ _).trans rfl
set_option maxRecDepth 100000 in
theorem bk_136_99 (X : (Nat → Int32) × Nat) (mo : Bool) (G : Nat × Nat) (I : Nat → Nat → Int32) (J : Nat → Nat → Int64) (Q : Option Value → sm_M → Prop) (x1 : Int32) (x2 : Int32) (x3 : Int32) :
    sm_wp X 136 99 [some (.ref 52), some (.int x1), some (.int x2), some (.int x3), none] [] (sM mo G I J) Q =
    (True ∧ Q none (sM mo G I J)) :=
  (sm_blk X 136 99 (tt_lin 136 (by decide)) rfl rfl _ _ _ _).trans rfl
set_option maxRecDepth 100000 in
theorem bk_136_100 (X : (Nat → Int32) × Nat) (mo : Bool) (G : Nat × Nat) (I : Nat → Nat → Int32) (J : Nat → Nat → Int64) (Q : Option Value → sm_M → Prop) (x1 : Int32) (x2 : Int32) (x3 : Int32) :
    sm_wp X 136 100 [some (.ref 52), some (.int x1), some (.int x2), some (.int x3), none] [] (sM mo G I J) Q =
    (sm_wp X 136 113 [some (.ref 52), none, none, none, some (.int 0)] [] (sM mo G (up2 (up2 I 52 17 x1) 52 18 x2) J) Q) :=
  (sm_blk X 136 100 (tt_lin 136 (by decide)) rfl rfl _ _ _ _).trans rfl
set_option maxRecDepth 100000 in
theorem bk_136_113 (X : (Nat → Int32) × Nat) (mo : Bool) (G : Nat × Nat) (I : Nat → Nat → Int32) (J : Nat → Nat → Int64) (Q : Option Value → sm_M → Prop) (x4 : Int32) :
    sm_wp X 136 113 [some (.ref 52), none, none, none, some (.int x4)] [] (sM mo G I J) Q =
    (if (8 : Int32) ≤ (x4 : Int32) then sm_wp X 136 140 [some (.ref 52), none, none, none, some (.int x4)] [] (sM mo G I J) Q else (vp_in x4 8 ∧ (vp_in x4 8 ∧ (sm_wp X 136 113 [some (.ref 52), none, none, none, some (.int (x4 + 1))] [] (sM mo G (up2 I 59 x4.toNatClampNeg (I 55 (x4.toNatClampNeg))) J) Q)))) :=
  (sm_blk X 136 113 (tt_lin 136 (by decide)) rfl rfl _ _ _ _).trans rfl
set_option maxRecDepth 100000 in
theorem bk_136_140 (X : (Nat → Int32) × Nat) (mo : Bool) (G : Nat × Nat) (I : Nat → Nat → Int32) (J : Nat → Nat → Int64) (Q : Option Value → sm_M → Prop) (x4 : Int32) :
    sm_wp X 136 140 [some (.ref 52), none, none, none, some (.int x4)] [] (sM mo G I J) Q =
    (True ∧ Q none (sM mo G I J)) :=
  (sm_blk X 136 140 (tt_lin 136 (by decide)) rfl rfl _ _ _ _).trans rfl
set_option maxRecDepth 100000 in
theorem bkw_136_0 (X : (Nat → Int32) × Nat) (mo : Bool) (G : Nat × Nat) (I : Nat → Nat → Int32) (J : Nat → Nat → Int64) (Q : Option Value → sm_M → Prop)  :
    sm_wp X 136 0 [some (.ref 60), none, none, none, none] [] (sM mo G I J) Q =
    (sm_wp X 136 8 [some (.ref 60), some (.int 1188), some (.int 0), some (.int 0), none] [] (sM mo G I J) Q) :=
  (sm_blk X 136 0 (tt_lin 136 (by decide)) rfl rfl _ _ _ _).trans rfl
set_option maxRecDepth 100000 in
theorem bkw_136_8 (X : (Nat → Int32) × Nat) (mo : Bool) (G : Nat × Nat) (I : Nat → Nat → Int32) (J : Nat → Nat → Int64) (Q : Option Value → sm_M → Prop) (x1 : Int32) (x2 : Int32) (x3 : Int32) :
    sm_wp X 136 8 [some (.ref 60), some (.int x1), some (.int x2), some (.int x3), none] [] (sM mo G I J) Q =
    (if (6 : Int32) ≤ (x3 : Int32) then sm_wp X 136 58 [some (.ref 60), some (.int x1), some (.int x2), some (.int x3), none] [] (sM mo G I J) Q else (sm_wp X 169 0 [some (.int (I 60 2)), some (.int x3)] [] (sM mo G I J) (fun v M => sm_wp X 136 22 [some (.ref 60), some (.int x1), some (.int x2), some (.int x3), none] (v.toList ++ []) M Q))) :=
  (sm_blk X 136 8 (tt_lin 136 (by decide)) rfl rfl _ _ _ _).trans rfl
set_option maxRecDepth 100000 in
theorem bkw_136_22 (X : (Nat → Int32) × Nat) (mo : Bool) (G : Nat × Nat) (I : Nat → Nat → Int32) (J : Nat → Nat → Int64) (Q : Option Value → sm_M → Prop) (x1 : Int32) (x2 : Int32) (x3 : Int32) (s0 : Int32) :
    sm_wp X 136 22 [some (.ref 60), some (.int x1), some (.int x2), some (.int x3), none] [.int s0] (sM mo G I J) Q =
    (if (s0 : Int32) = 0 then sm_wp X 136 52 [some (.ref 60), some (.int x1), some (.int x2), some (.int x3), none] [] (sM mo G I J) Q else (vp_in x3 6 ∧ (vp_in x3 6 ∧ (True ∧ (vp_in x3 6 ∧ (sm_wp X 136 8 [some (.ref 60), some (.int (if ((I 64 (x3.toNatClampNeg)) - (I 66 (x3.toNatClampNeg)) : Int32) < x1 then (I 64 (x3.toNatClampNeg)) - (I 66 (x3.toNatClampNeg)) else x1)), some (.int (x2 + (I 64 (x3.toNatClampNeg)))), some (.int (x3 + 1)), none] [] (sM mo G I J) Q)))))) :=
  (sm_blk X 136 22 (tt_lin 136 (by decide)) rfl rfl _ _ _ _).trans rfl
set_option maxRecDepth 100000 in
theorem bkw_136_52 (X : (Nat → Int32) × Nat) (mo : Bool) (G : Nat × Nat) (I : Nat → Nat → Int32) (J : Nat → Nat → Int64) (Q : Option Value → sm_M → Prop) (x1 : Int32) (x2 : Int32) (x3 : Int32) :
    sm_wp X 136 52 [some (.ref 60), some (.int x1), some (.int x2), some (.int x3), none] [] (sM mo G I J) Q =
    (sm_wp X 136 8 [some (.ref 60), some (.int x1), some (.int x2), some (.int (x3 + 1)), none] [] (sM mo G I J) Q) :=
  (sm_blk X 136 52 (tt_lin 136 (by decide)) rfl rfl _ _ _ _).trans rfl
set_option maxRecDepth 100000 in
theorem bkw_136_58 (X : (Nat → Int32) × Nat) (mo : Bool) (G : Nat × Nat) (I : Nat → Nat → Int32) (J : Nat → Nat → Int64) (Q : Option Value → sm_M → Prop) (x1 : Int32) (x2 : Int32) (x3 : Int32) :
    sm_wp X 136 58 [some (.ref 60), some (.int x1), some (.int x2), some (.int x3), none] [] (sM mo G I J) Q =
    (if (I 60 17 : Int32) < (x1 : Int32) then sm_wp X 136 82 [some (.ref 60), some (.int x1), some (.int x2), some (.int x3), none] [] (sM mo G I J) Q else (if ¬ (x1 : Int32) = (I 60 17 : Int32) then sm_wp X 136 86 [some (.ref 60), some (.int x1), some (.int x2), some (.int x3), none] [] (sM mo G I J) Q else (if (x2 : Int32) ≤ (I 60 18 : Int32) then sm_wp X 136 86 [some (.ref 60), some (.int x1), some (.int x2), some (.int x3), none] [] (sM mo G I J) Q else (sm_wp X 136 87 [some (.ref 60), some (.int x1), some (.int x2), some (.int x3), none] [.int 1] (sM mo G I J) Q)))) :=
  (sm_blk X 136 58 (tt_lin 136 (by decide)) rfl rfl _ _ _ _).trans rfl
set_option maxRecDepth 100000 in
theorem bkw_136_82 (X : (Nat → Int32) × Nat) (mo : Bool) (G : Nat × Nat) (I : Nat → Nat → Int32) (J : Nat → Nat → Int64) (Q : Option Value → sm_M → Prop) (x1 : Int32) (x2 : Int32) (x3 : Int32) :
    sm_wp X 136 82 [some (.ref 60), some (.int x1), some (.int x2), some (.int x3), none] [] (sM mo G I J) Q =
    (sm_wp X 136 87 [some (.ref 60), some (.int x1), some (.int x2), some (.int x3), none] [.int 1] (sM mo G I J) Q) :=
  (sm_blk X 136 82 (tt_lin 136 (by decide)) rfl rfl _ _ _ _).trans rfl
set_option maxRecDepth 100000 in
theorem bkw_136_86 (X : (Nat → Int32) × Nat) (mo : Bool) (G : Nat × Nat) (I : Nat → Nat → Int32) (J : Nat → Nat → Int64) (Q : Option Value → sm_M → Prop) (x1 : Int32) (x2 : Int32) (x3 : Int32) :
    sm_wp X 136 86 [some (.ref 60), some (.int x1), some (.int x2), some (.int x3), none] [] (sM mo G I J) Q =
    (if (I 60 2 : Int32) = 0 then sm_wp X 136 99 [some (.ref 60), some (.int x1), some (.int x2), some (.int 0), none] [] (sM mo G I J) Q else (if ¬ (0 : Int32) = 0 then sm_wp X 136 100 [some (.ref 60), some (.int x1), some (.int x2), some (.int 0), none] [] (sM mo G I J) Q else (True ∧ Q none (sM mo G I J)))) :=
  (sm_blk X 136 86 (tt_lin 136 (by decide)) rfl rfl _ _ _ _).trans rfl
set_option maxRecDepth 100000 in
theorem bkw_136_87 (X : (Nat → Int32) × Nat) (mo : Bool) (G : Nat × Nat) (I : Nat → Nat → Int32) (J : Nat → Nat → Int64) (Q : Option Value → sm_M → Prop) (x1 : Int32) (x2 : Int32) (x3 : Int32) (s0 : Int32) :
    sm_wp X 136 87 [some (.ref 60), some (.int x1), some (.int x2), some (.int x3), none] [.int s0] (sM mo G I J) Q =
    (if (I 60 2 : Int32) = 0 then sm_wp X 136 99 [some (.ref 60), some (.int x1), some (.int x2), some (.int s0), none] [] (sM mo G I J) Q else (if ¬ (s0 : Int32) = 0 then sm_wp X 136 100 [some (.ref 60), some (.int x1), some (.int x2), some (.int s0), none] [] (sM mo G I J) Q else (True ∧ Q none (sM mo G I J)))) :=
  (sm_blk X 136 87 (tt_lin 136 (by decide)) rfl rfl _ _ _ _).trans rfl
set_option maxRecDepth 100000 in
theorem bkw_136_99 (X : (Nat → Int32) × Nat) (mo : Bool) (G : Nat × Nat) (I : Nat → Nat → Int32) (J : Nat → Nat → Int64) (Q : Option Value → sm_M → Prop) (x1 : Int32) (x2 : Int32) (x3 : Int32) :
    sm_wp X 136 99 [some (.ref 60), some (.int x1), some (.int x2), some (.int x3), none] [] (sM mo G I J) Q =
    (True ∧ Q none (sM mo G I J)) :=
  (sm_blk X 136 99 (tt_lin 136 (by decide)) rfl rfl _ _ _ _).trans rfl
set_option maxRecDepth 100000 in
theorem bkw_136_100 (X : (Nat → Int32) × Nat) (mo : Bool) (G : Nat × Nat) (I : Nat → Nat → Int32) (J : Nat → Nat → Int64) (Q : Option Value → sm_M → Prop) (x1 : Int32) (x2 : Int32) (x3 : Int32) :
    sm_wp X 136 100 [some (.ref 60), some (.int x1), some (.int x2), some (.int x3), none] [] (sM mo G I J) Q =
    (sm_wp X 136 113 [some (.ref 60), none, none, none, some (.int 0)] [] (sM mo G (up2 (up2 I 60 17 x1) 60 18 x2) J) Q) :=
  (sm_blk X 136 100 (tt_lin 136 (by decide)) rfl rfl _ _ _ _).trans rfl
set_option maxRecDepth 100000 in
theorem bkw_136_113 (X : (Nat → Int32) × Nat) (mo : Bool) (G : Nat × Nat) (I : Nat → Nat → Int32) (J : Nat → Nat → Int64) (Q : Option Value → sm_M → Prop) (x4 : Int32) :
    sm_wp X 136 113 [some (.ref 60), none, none, none, some (.int x4)] [] (sM mo G I J) Q =
    (if (8 : Int32) ≤ (x4 : Int32) then sm_wp X 136 140 [some (.ref 60), none, none, none, some (.int x4)] [] (sM mo G I J) Q else (vp_in x4 8 ∧ (vp_in x4 8 ∧ (sm_wp X 136 113 [some (.ref 60), none, none, none, some (.int (x4 + 1))] [] (sM mo G (up2 I 67 x4.toNatClampNeg (I 63 (x4.toNatClampNeg))) J) Q)))) :=
  (sm_blk X 136 113 (tt_lin 136 (by decide)) rfl rfl _ _ _ _).trans rfl
set_option maxRecDepth 100000 in
theorem bkw_136_140 (X : (Nat → Int32) × Nat) (mo : Bool) (G : Nat × Nat) (I : Nat → Nat → Int32) (J : Nat → Nat → Int64) (Q : Option Value → sm_M → Prop) (x4 : Int32) :
    sm_wp X 136 140 [some (.ref 60), none, none, none, some (.int x4)] [] (sM mo G I J) Q =
    (True ∧ Q none (sM mo G I J)) :=
  (sm_blk X 136 140 (tt_lin 136 (by decide)) rfl rfl _ _ _ _).trans rfl
set_option maxRecDepth 100000 in
theorem bk_137_0 (X : (Nat → Int32) × Nat) (mo : Bool) (G : Nat × Nat) (I : Nat → Nat → Int32) (J : Nat → Nat → Int64) (Q : Option Value → sm_M → Prop)  :
    sm_wp X 137 0 [some (.ref 52), none, none] [] (sM mo G I J) Q =
    (True ∧ (sm_wp X 137 12 [some (.ref 52), some (.int ((if (8 : Int32) < I 52 5 then 8 else I 52 5) - 1)), none] [] (sM mo G I J) Q)) :=
  (sm_blk X 137 0 (tt_lin 137 (by decide)) rfl rfl _ _ _ _).trans rfl
set_option maxRecDepth 100000 in
theorem bk_137_12 (X : (Nat → Int32) × Nat) (mo : Bool) (G : Nat × Nat) (I : Nat → Nat → Int32) (J : Nat → Nat → Int64) (Q : Option Value → sm_M → Prop) (x1 : Int32) :
    sm_wp X 137 12 [some (.ref 52), some (.int x1), none] [] (sM mo G I J) Q =
    (if (x1 : Int32) < 0 then sm_wp X 137 58 [some (.ref 52), some (.int x1), none] [] (sM mo G I J) Q else (vp_in x1 8 ∧ (sm_wp X 132 0 [some (.ref 52), some (.int x1), some (.int (I 55 (x1.toNatClampNeg))), none] [] (sM mo G I J) (fun v M => sm_wp X 137 27 [some (.ref 52), some (.int x1), none] (v.toList ++ []) M Q)))) :=
  (sm_blk X 137 12 (tt_lin 137 (by decide)) rfl rfl _ _ _ _).trans rfl
set_option maxRecDepth 100000 in
theorem bk_137_27 (X : (Nat → Int32) × Nat) (mo : Bool) (G : Nat × Nat) (I : Nat → Nat → Int32) (J : Nat → Nat → Int64) (Q : Option Value → sm_M → Prop) (x1 : Int32) (s0 : Int32) :
    sm_wp X 137 27 [some (.ref 52), some (.int x1), none] [.int s0] (sM mo G I J) Q =
    (if (s0 : Int32) = ((-1) : Int32) then sm_wp X 137 41 [some (.ref 52), some (.int x1), some (.int s0)] [] (sM mo G I J) Q else (sm_wp X 133 0 [some (.ref 52), some (.int x1), some (.int s0)] [] (sM mo G I J) (fun v M => sm_wp X 137 39 [some (.ref 52), some (.int x1), some (.int s0)] (v.toList ++ []) M Q))) :=
  (sm_blk X 137 27 (tt_lin 137 (by decide)) rfl rfl _ _ _ _).trans rfl
set_option maxRecDepth 100000 in
theorem bk_137_39 (X : (Nat → Int32) × Nat) (mo : Bool) (G : Nat × Nat) (I : Nat → Nat → Int32) (J : Nat → Nat → Int64) (Q : Option Value → sm_M → Prop) (x1 : Int32) (x2 : Int32) :
    sm_wp X 137 39 [some (.ref 52), some (.int x1), some (.int x2)] [] (sM mo G I J) Q =
    (sm_zb 1 ∧ Q (some (.int 1)) (sM mo G I J)) :=
  (sm_blk X 137 39 (tt_lin 137 (by decide)) rfl rfl _ _ _ _).trans rfl
set_option maxRecDepth 100000 in
theorem bk_137_41 (X : (Nat → Int32) × Nat) (mo : Bool) (G : Nat × Nat) (I : Nat → Nat → Int32) (J : Nat → Nat → Int64) (Q : Option Value → sm_M → Prop) (x1 : Int32) (x2 : Int32) :
    sm_wp X 137 41 [some (.ref 52), some (.int x1), some (.int x2)] [] (sM mo G I J) Q =
    (sm_wp X 132 0 [some (.ref 52), some (.int x1), some (.int (-1)), none] [] (sM mo G I J) (fun v M => sm_wp X 137 49 [some (.ref 52), some (.int x1), some (.int x2)] (v.toList ++ [.int x1, .ref 52]) M Q)) :=
  (sm_blk X 137 41 (tt_lin 137 (by decide)) rfl rfl _ _ _ _).trans rfl
set_option maxRecDepth 100000 in
theorem bk_137_49 (X : (Nat → Int32) × Nat) (mo : Bool) (G : Nat × Nat) (I : Nat → Nat → Int32) (J : Nat → Nat → Int64) (Q : Option Value → sm_M → Prop) (x1 : Int32) (x2 : Int32) (s1 : Int32) (s2 : Int32) :
    sm_wp X 137 49 [some (.ref 52), some (.int x1), some (.int x2)] [.int s2, .int s1, .ref 52] (sM mo G I J) Q =
    (sm_wp X 133 0 [some (.ref 52), some (.int s1), some (.int s2)] [] (sM mo G I J) (fun v M => sm_wp X 137 52 [some (.ref 52), some (.int x1), some (.int x2)] (v.toList ++ []) M Q)) :=
  (sm_blk X 137 49 (tt_lin 137 (by decide)) rfl rfl _ _ _ _).trans rfl
set_option maxRecDepth 100000 in
theorem bk_137_52 (X : (Nat → Int32) × Nat) (mo : Bool) (G : Nat × Nat) (I : Nat → Nat → Int32) (J : Nat → Nat → Int64) (Q : Option Value → sm_M → Prop) (x1 : Int32) (x2 : Int32) :
    sm_wp X 137 52 [some (.ref 52), some (.int x1), some (.int x2)] [] (sM mo G I J) Q =
    (sm_wp X 137 12 [some (.ref 52), some (.int (x1 + (-1))), none] [] (sM mo G I J) Q) :=
  (sm_blk X 137 52 (tt_lin 137 (by decide)) rfl rfl _ _ _ _).trans rfl
set_option maxRecDepth 100000 in
theorem bk_137_58 (X : (Nat → Int32) × Nat) (mo : Bool) (G : Nat × Nat) (I : Nat → Nat → Int32) (J : Nat → Nat → Int64) (Q : Option Value → sm_M → Prop) (x1 : Int32) :
    sm_wp X 137 58 [some (.ref 52), some (.int x1), none] [] (sM mo G I J) Q =
    (sm_zb 0 ∧ Q (some (.int 0)) (sM mo G I J)) :=
  (sm_blk X 137 58 (tt_lin 137 (by decide)) rfl rfl _ _ _ _).trans rfl
set_option maxRecDepth 100000 in
theorem bkw_137_0 (X : (Nat → Int32) × Nat) (mo : Bool) (G : Nat × Nat) (I : Nat → Nat → Int32) (J : Nat → Nat → Int64) (Q : Option Value → sm_M → Prop)  :
    sm_wp X 137 0 [some (.ref 60), none, none] [] (sM mo G I J) Q =
    (True ∧ (sm_wp X 137 12 [some (.ref 60), some (.int ((if (8 : Int32) < I 60 5 then 8 else I 60 5) - 1)), none] [] (sM mo G I J) Q)) :=
  (sm_blk X 137 0 (tt_lin 137 (by decide)) rfl rfl _ _ _ _).trans rfl
set_option maxRecDepth 100000 in
theorem bkw_137_12 (X : (Nat → Int32) × Nat) (mo : Bool) (G : Nat × Nat) (I : Nat → Nat → Int32) (J : Nat → Nat → Int64) (Q : Option Value → sm_M → Prop) (x1 : Int32) :
    sm_wp X 137 12 [some (.ref 60), some (.int x1), none] [] (sM mo G I J) Q =
    (if (x1 : Int32) < 0 then sm_wp X 137 58 [some (.ref 60), some (.int x1), none] [] (sM mo G I J) Q else (vp_in x1 8 ∧ (sm_wp X 132 0 [some (.ref 60), some (.int x1), some (.int (I 63 (x1.toNatClampNeg))), none] [] (sM mo G I J) (fun v M => sm_wp X 137 27 [some (.ref 60), some (.int x1), none] (v.toList ++ []) M Q)))) :=
  (sm_blk X 137 12 (tt_lin 137 (by decide)) rfl rfl _ _ _ _).trans rfl
set_option maxRecDepth 100000 in
theorem bkw_137_27 (X : (Nat → Int32) × Nat) (mo : Bool) (G : Nat × Nat) (I : Nat → Nat → Int32) (J : Nat → Nat → Int64) (Q : Option Value → sm_M → Prop) (x1 : Int32) (s0 : Int32) :
    sm_wp X 137 27 [some (.ref 60), some (.int x1), none] [.int s0] (sM mo G I J) Q =
    (if (s0 : Int32) = ((-1) : Int32) then sm_wp X 137 41 [some (.ref 60), some (.int x1), some (.int s0)] [] (sM mo G I J) Q else (sm_wp X 133 0 [some (.ref 60), some (.int x1), some (.int s0)] [] (sM mo G I J) (fun v M => sm_wp X 137 39 [some (.ref 60), some (.int x1), some (.int s0)] (v.toList ++ []) M Q))) :=
  (sm_blk X 137 27 (tt_lin 137 (by decide)) rfl rfl _ _ _ _).trans rfl
set_option maxRecDepth 100000 in
theorem bkw_137_39 (X : (Nat → Int32) × Nat) (mo : Bool) (G : Nat × Nat) (I : Nat → Nat → Int32) (J : Nat → Nat → Int64) (Q : Option Value → sm_M → Prop) (x1 : Int32) (x2 : Int32) :
    sm_wp X 137 39 [some (.ref 60), some (.int x1), some (.int x2)] [] (sM mo G I J) Q =
    (sm_zb 1 ∧ Q (some (.int 1)) (sM mo G I J)) :=
  (sm_blk X 137 39 (tt_lin 137 (by decide)) rfl rfl _ _ _ _).trans rfl
set_option maxRecDepth 100000 in
theorem bkw_137_41 (X : (Nat → Int32) × Nat) (mo : Bool) (G : Nat × Nat) (I : Nat → Nat → Int32) (J : Nat → Nat → Int64) (Q : Option Value → sm_M → Prop) (x1 : Int32) (x2 : Int32) :
    sm_wp X 137 41 [some (.ref 60), some (.int x1), some (.int x2)] [] (sM mo G I J) Q =
    (sm_wp X 132 0 [some (.ref 60), some (.int x1), some (.int (-1)), none] [] (sM mo G I J) (fun v M => sm_wp X 137 49 [some (.ref 60), some (.int x1), some (.int x2)] (v.toList ++ [.int x1, .ref 60]) M Q)) :=
  (sm_blk X 137 41 (tt_lin 137 (by decide)) rfl rfl _ _ _ _).trans rfl
set_option maxRecDepth 100000 in
theorem bkw_137_49 (X : (Nat → Int32) × Nat) (mo : Bool) (G : Nat × Nat) (I : Nat → Nat → Int32) (J : Nat → Nat → Int64) (Q : Option Value → sm_M → Prop) (x1 : Int32) (x2 : Int32) (s1 : Int32) (s2 : Int32) :
    sm_wp X 137 49 [some (.ref 60), some (.int x1), some (.int x2)] [.int s2, .int s1, .ref 60] (sM mo G I J) Q =
    (sm_wp X 133 0 [some (.ref 60), some (.int s1), some (.int s2)] [] (sM mo G I J) (fun v M => sm_wp X 137 52 [some (.ref 60), some (.int x1), some (.int x2)] (v.toList ++ []) M Q)) :=
  (sm_blk X 137 49 (tt_lin 137 (by decide)) rfl rfl _ _ _ _).trans rfl
set_option maxRecDepth 100000 in
theorem bkw_137_52 (X : (Nat → Int32) × Nat) (mo : Bool) (G : Nat × Nat) (I : Nat → Nat → Int32) (J : Nat → Nat → Int64) (Q : Option Value → sm_M → Prop) (x1 : Int32) (x2 : Int32) :
    sm_wp X 137 52 [some (.ref 60), some (.int x1), some (.int x2)] [] (sM mo G I J) Q =
    (sm_wp X 137 12 [some (.ref 60), some (.int (x1 + (-1))), none] [] (sM mo G I J) Q) :=
  (sm_blk X 137 52 (tt_lin 137 (by decide)) rfl rfl _ _ _ _).trans rfl
set_option maxRecDepth 100000 in
theorem bkw_137_58 (X : (Nat → Int32) × Nat) (mo : Bool) (G : Nat × Nat) (I : Nat → Nat → Int32) (J : Nat → Nat → Int64) (Q : Option Value → sm_M → Prop) (x1 : Int32) :
    sm_wp X 137 58 [some (.ref 60), some (.int x1), none] [] (sM mo G I J) Q =
    (sm_zb 0 ∧ Q (some (.int 0)) (sM mo G I J)) :=
  (sm_blk X 137 58 (tt_lin 137 (by decide)) rfl rfl _ _ _ _).trans rfl
set_option maxRecDepth 100000 in
theorem bk_138_0 (X : (Nat → Int32) × Nat) (mo : Bool) (G : Nat × Nat) (I : Nat → Nat → Int32) (J : Nat → Nat → Int64) (Q : Option Value → sm_M → Prop) (x1 : Int32) :
    sm_wp X 138 0 [some (.ref 52), some (.int x1)] [] (sM mo G I J) Q =
    (sm_wp X 131 0 [some (.ref 52)] [] (sM mo G I J) (fun v M => sm_wp X 138 4 [some (.ref 52), some (.int x1)] (v.toList ++ []) M Q)) :=
  (sm_blk X 138 0 (tt_lin 138 (by decide)) rfl rfl _ _ _ _).trans rfl
set_option maxRecDepth 100000 in
theorem bk_138_4 (X : (Nat → Int32) × Nat) (mo : Bool) (G : Nat × Nat) (I : Nat → Nat → Int32) (J : Nat → Nat → Int64) (Q : Option Value → sm_M → Prop) (x1 : Int32) (s0 : Int32) :
    sm_wp X 138 4 [some (.ref 52), some (.int x1)] [.int s0] (sM mo G I J) Q =
    (if (s0 : Int32) = 0 then sm_wp X 138 9 [some (.ref 52), some (.int x1)] [] (sM mo G I J) Q else (True ∧ Q (some (.int (-1))) (sM mo G I J))) :=
  (sm_blk X 138 4 (tt_lin 138 (by decide)) rfl rfl _ _ _ _).trans rfl
set_option maxRecDepth 100000 in
theorem bk_138_9 (X : (Nat → Int32) × Nat) (mo : Bool) (G : Nat × Nat) (I : Nat → Nat → Int32) (J : Nat → Nat → Int64) (Q : Option Value → sm_M → Prop) (x1 : Int32) :
    sm_wp X 138 9 [some (.ref 52), some (.int x1)] [] (sM mo G I J) Q =
    (if (x1 : Int32) = 1 then sm_wp X 138 36 [some (.ref 52), some (.int x1)] [] (sM mo G I J) Q else if (x1 : Int32) = 2 then sm_wp X 138 41 [some (.ref 52), some (.int x1)] [] (sM mo G I J) Q else if (x1 : Int32) = 3 then sm_wp X 138 46 [some (.ref 52), some (.int x1)] [] (sM mo G I J) Q else sm_wp X 138 51 [some (.ref 52), some (.int x1)] [] (sM mo G I J) Q) :=
  (sm_blk X 138 9 (tt_lin 138 (by decide)) rfl rfl _ _ _ _).trans rfl
set_option maxRecDepth 100000 in
theorem bk_138_36 (X : (Nat → Int32) × Nat) (mo : Bool) (G : Nat × Nat) (I : Nat → Nat → Int32) (J : Nat → Nat → Int64) (Q : Option Value → sm_M → Prop) (x1 : Int32) :
    sm_wp X 138 36 [some (.ref 52), some (.int x1)] [] (sM mo G I J) Q =
    (True ∧ Q (some (.int (I 52 13))) (sM mo G I J)) :=
  (sm_blk X 138 36 (tt_lin 138 (by decide)) rfl rfl _ _ _ _).trans rfl
set_option maxRecDepth 100000 in
theorem bk_138_41 (X : (Nat → Int32) × Nat) (mo : Bool) (G : Nat × Nat) (I : Nat → Nat → Int32) (J : Nat → Nat → Int64) (Q : Option Value → sm_M → Prop) (x1 : Int32) :
    sm_wp X 138 41 [some (.ref 52), some (.int x1)] [] (sM mo G I J) Q =
    (True ∧ Q (some (.int (I 52 14))) (sM mo G I J)) :=
  (sm_blk X 138 41 (tt_lin 138 (by decide)) rfl rfl _ _ _ _).trans rfl
set_option maxRecDepth 100000 in
theorem bk_138_46 (X : (Nat → Int32) × Nat) (mo : Bool) (G : Nat × Nat) (I : Nat → Nat → Int32) (J : Nat → Nat → Int64) (Q : Option Value → sm_M → Prop) (x1 : Int32) :
    sm_wp X 138 46 [some (.ref 52), some (.int x1)] [] (sM mo G I J) Q =
    (True ∧ Q (some (.int (I 52 15))) (sM mo G I J)) :=
  (sm_blk X 138 46 (tt_lin 138 (by decide)) rfl rfl _ _ _ _).trans rfl
set_option maxRecDepth 100000 in
theorem bk_138_51 (X : (Nat → Int32) × Nat) (mo : Bool) (G : Nat × Nat) (I : Nat → Nat → Int32) (J : Nat → Nat → Int64) (Q : Option Value → sm_M → Prop) (x1 : Int32) :
    sm_wp X 138 51 [some (.ref 52), some (.int x1)] [] (sM mo G I J) Q =
    (True ∧ Q (some (.int (-1))) (sM mo G I J)) :=
  (sm_blk X 138 51 (tt_lin 138 (by decide)) rfl rfl _ _ _ _).trans rfl
set_option maxRecDepth 100000 in
theorem bkw_138_0 (X : (Nat → Int32) × Nat) (mo : Bool) (G : Nat × Nat) (I : Nat → Nat → Int32) (J : Nat → Nat → Int64) (Q : Option Value → sm_M → Prop) (x1 : Int32) :
    sm_wp X 138 0 [some (.ref 60), some (.int x1)] [] (sM mo G I J) Q =
    (sm_wp X 131 0 [some (.ref 60)] [] (sM mo G I J) (fun v M => sm_wp X 138 4 [some (.ref 60), some (.int x1)] (v.toList ++ []) M Q)) :=
  (sm_blk X 138 0 (tt_lin 138 (by decide)) rfl rfl _ _ _ _).trans rfl
set_option maxRecDepth 100000 in
theorem bkw_138_4 (X : (Nat → Int32) × Nat) (mo : Bool) (G : Nat × Nat) (I : Nat → Nat → Int32) (J : Nat → Nat → Int64) (Q : Option Value → sm_M → Prop) (x1 : Int32) (s0 : Int32) :
    sm_wp X 138 4 [some (.ref 60), some (.int x1)] [.int s0] (sM mo G I J) Q =
    (if (s0 : Int32) = 0 then sm_wp X 138 9 [some (.ref 60), some (.int x1)] [] (sM mo G I J) Q else (True ∧ Q (some (.int (-1))) (sM mo G I J))) :=
  (sm_blk X 138 4 (tt_lin 138 (by decide)) rfl rfl _ _ _ _).trans rfl
set_option maxRecDepth 100000 in
theorem bkw_138_9 (X : (Nat → Int32) × Nat) (mo : Bool) (G : Nat × Nat) (I : Nat → Nat → Int32) (J : Nat → Nat → Int64) (Q : Option Value → sm_M → Prop) (x1 : Int32) :
    sm_wp X 138 9 [some (.ref 60), some (.int x1)] [] (sM mo G I J) Q =
    (if (x1 : Int32) = 1 then sm_wp X 138 36 [some (.ref 60), some (.int x1)] [] (sM mo G I J) Q else if (x1 : Int32) = 2 then sm_wp X 138 41 [some (.ref 60), some (.int x1)] [] (sM mo G I J) Q else if (x1 : Int32) = 3 then sm_wp X 138 46 [some (.ref 60), some (.int x1)] [] (sM mo G I J) Q else sm_wp X 138 51 [some (.ref 60), some (.int x1)] [] (sM mo G I J) Q) :=
  (sm_blk X 138 9 (tt_lin 138 (by decide)) rfl rfl _ _ _ _).trans rfl
set_option maxRecDepth 100000 in
theorem bkw_138_36 (X : (Nat → Int32) × Nat) (mo : Bool) (G : Nat × Nat) (I : Nat → Nat → Int32) (J : Nat → Nat → Int64) (Q : Option Value → sm_M → Prop) (x1 : Int32) :
    sm_wp X 138 36 [some (.ref 60), some (.int x1)] [] (sM mo G I J) Q =
    (True ∧ Q (some (.int (I 60 13))) (sM mo G I J)) :=
  (sm_blk X 138 36 (tt_lin 138 (by decide)) rfl rfl _ _ _ _).trans rfl
set_option maxRecDepth 100000 in
theorem bkw_138_41 (X : (Nat → Int32) × Nat) (mo : Bool) (G : Nat × Nat) (I : Nat → Nat → Int32) (J : Nat → Nat → Int64) (Q : Option Value → sm_M → Prop) (x1 : Int32) :
    sm_wp X 138 41 [some (.ref 60), some (.int x1)] [] (sM mo G I J) Q =
    (True ∧ Q (some (.int (I 60 14))) (sM mo G I J)) :=
  (sm_blk X 138 41 (tt_lin 138 (by decide)) rfl rfl _ _ _ _).trans rfl
set_option maxRecDepth 100000 in
theorem bkw_138_46 (X : (Nat → Int32) × Nat) (mo : Bool) (G : Nat × Nat) (I : Nat → Nat → Int32) (J : Nat → Nat → Int64) (Q : Option Value → sm_M → Prop) (x1 : Int32) :
    sm_wp X 138 46 [some (.ref 60), some (.int x1)] [] (sM mo G I J) Q =
    (True ∧ Q (some (.int (I 60 15))) (sM mo G I J)) :=
  (sm_blk X 138 46 (tt_lin 138 (by decide)) rfl rfl _ _ _ _).trans rfl
set_option maxRecDepth 100000 in
theorem bkw_138_51 (X : (Nat → Int32) × Nat) (mo : Bool) (G : Nat × Nat) (I : Nat → Nat → Int32) (J : Nat → Nat → Int64) (Q : Option Value → sm_M → Prop) (x1 : Int32) :
    sm_wp X 138 51 [some (.ref 60), some (.int x1)] [] (sM mo G I J) Q =
    (True ∧ Q (some (.int (-1))) (sM mo G I J)) :=
  (sm_blk X 138 51 (tt_lin 138 (by decide)) rfl rfl _ _ _ _).trans rfl
set_option maxRecDepth 100000 in
theorem bk_139_0 (X : (Nat → Int32) × Nat) (mo : Bool) (G : Nat × Nat) (I : Nat → Nat → Int32) (J : Nat → Nat → Int64) (Q : Option Value → sm_M → Prop) (x1 : Int32) :
    sm_wp X 139 0 [some (.ref 52), some (.int x1)] [] (sM mo G I J) Q =
    (if ¬ (I 52 17 : Int32) = ((-1) : Int32) then sm_wp X 139 10 [some (.ref 52), some (.int x1)] [] (sM mo G I J) Q else (True ∧ Q (some (.int (-1))) (sM mo G I J))) :=
  (sm_blk X 139 0 (tt_lin 139 (by decide)) rfl rfl _ _ _ _).trans rfl
set_option maxRecDepth 100000 in
theorem bk_139_10 (X : (Nat → Int32) × Nat) (mo : Bool) (G : Nat × Nat) (I : Nat → Nat → Int32) (J : Nat → Nat → Int64) (Q : Option Value → sm_M → Prop) (x1 : Int32) :
    sm_wp X 139 10 [some (.ref 52), some (.int x1)] [] (sM mo G I J) Q =
    (if ¬ (x1 : Int32) = (12 : Int32) then sm_wp X 139 21 [some (.ref 52), some (.int x1)] [] (sM mo G I J) Q else (True ∧ Q (some (.int (I 52 17))) (sM mo G I J))) :=
  (sm_blk X 139 10 (tt_lin 139 (by decide)) rfl rfl _ _ _ _).trans rfl
set_option maxRecDepth 100000 in
theorem bk_139_21 (X : (Nat → Int32) × Nat) (mo : Bool) (G : Nat × Nat) (I : Nat → Nat → Int32) (J : Nat → Nat → Int64) (Q : Option Value → sm_M → Prop) (x1 : Int32) :
    sm_wp X 139 21 [some (.ref 52), some (.int x1)] [] (sM mo G I J) Q =
    (if ¬ (x1 : Int32) = (13 : Int32) then sm_wp X 139 34 [some (.ref 52), some (.int x1)] [] (sM mo G I J) Q else (sm_wp X 139 39 [some (.ref 52), some (.int x1)] [.int (I 52 18)] (sM mo G I J) Q)) :=
  (sm_blk X 139 21 (tt_lin 139 (by decide)) rfl rfl _ _ _ _).trans rfl
set_option maxRecDepth 100000 in
theorem bk_139_34 (X : (Nat → Int32) × Nat) (mo : Bool) (G : Nat × Nat) (I : Nat → Nat → Int32) (J : Nat → Nat → Int64) (Q : Option Value → sm_M → Prop) (x1 : Int32) :
    sm_wp X 139 34 [some (.ref 52), some (.int x1)] [] (sM mo G I J) Q =
    (sm_wp X 140 0 [some (.ref 52), some (.int x1), none] [] (sM mo G I J) (fun v M => sm_wp X 139 39 [some (.ref 52), some (.int x1)] (v.toList ++ []) M Q)) :=
  (sm_blk X 139 34 (tt_lin 139 (by decide)) rfl rfl _ _ _ _).trans rfl
set_option maxRecDepth 100000 in
theorem bk_139_39 (X : (Nat → Int32) × Nat) (mo : Bool) (G : Nat × Nat) (I : Nat → Nat → Int32) (J : Nat → Nat → Int64) (Q : Option Value → sm_M → Prop) (x1 : Int32) (s0 : Int32) :
    sm_wp X 139 39 [some (.ref 52), some (.int x1)] [.int s0] (sM mo G I J) Q =
    (True ∧ Q (some (.int s0)) (sM mo G I J)) :=
  (sm_blk X 139 39 (tt_lin 139 (by decide)) rfl rfl _ _ _ _).trans rfl
set_option maxRecDepth 100000 in
theorem bkw_139_0 (X : (Nat → Int32) × Nat) (mo : Bool) (G : Nat × Nat) (I : Nat → Nat → Int32) (J : Nat → Nat → Int64) (Q : Option Value → sm_M → Prop) (x1 : Int32) :
    sm_wp X 139 0 [some (.ref 60), some (.int x1)] [] (sM mo G I J) Q =
    (if ¬ (I 60 17 : Int32) = ((-1) : Int32) then sm_wp X 139 10 [some (.ref 60), some (.int x1)] [] (sM mo G I J) Q else (True ∧ Q (some (.int (-1))) (sM mo G I J))) :=
  (sm_blk X 139 0 (tt_lin 139 (by decide)) rfl rfl _ _ _ _).trans rfl
set_option maxRecDepth 100000 in
theorem bkw_139_10 (X : (Nat → Int32) × Nat) (mo : Bool) (G : Nat × Nat) (I : Nat → Nat → Int32) (J : Nat → Nat → Int64) (Q : Option Value → sm_M → Prop) (x1 : Int32) :
    sm_wp X 139 10 [some (.ref 60), some (.int x1)] [] (sM mo G I J) Q =
    (if ¬ (x1 : Int32) = (12 : Int32) then sm_wp X 139 21 [some (.ref 60), some (.int x1)] [] (sM mo G I J) Q else (True ∧ Q (some (.int (I 60 17))) (sM mo G I J))) :=
  (sm_blk X 139 10 (tt_lin 139 (by decide)) rfl rfl _ _ _ _).trans rfl
set_option maxRecDepth 100000 in
theorem bkw_139_21 (X : (Nat → Int32) × Nat) (mo : Bool) (G : Nat × Nat) (I : Nat → Nat → Int32) (J : Nat → Nat → Int64) (Q : Option Value → sm_M → Prop) (x1 : Int32) :
    sm_wp X 139 21 [some (.ref 60), some (.int x1)] [] (sM mo G I J) Q =
    (if ¬ (x1 : Int32) = (13 : Int32) then sm_wp X 139 34 [some (.ref 60), some (.int x1)] [] (sM mo G I J) Q else (sm_wp X 139 39 [some (.ref 60), some (.int x1)] [.int (I 60 18)] (sM mo G I J) Q)) :=
  (sm_blk X 139 21 (tt_lin 139 (by decide)) rfl rfl _ _ _ _).trans rfl
set_option maxRecDepth 100000 in
theorem bkw_139_34 (X : (Nat → Int32) × Nat) (mo : Bool) (G : Nat × Nat) (I : Nat → Nat → Int32) (J : Nat → Nat → Int64) (Q : Option Value → sm_M → Prop) (x1 : Int32) :
    sm_wp X 139 34 [some (.ref 60), some (.int x1)] [] (sM mo G I J) Q =
    (sm_wp X 140 0 [some (.ref 60), some (.int x1), none] [] (sM mo G I J) (fun v M => sm_wp X 139 39 [some (.ref 60), some (.int x1)] (v.toList ++ []) M Q)) :=
  (sm_blk X 139 34 (tt_lin 139 (by decide)) rfl rfl _ _ _ _).trans rfl
set_option maxRecDepth 100000 in
theorem bkw_139_39 (X : (Nat → Int32) × Nat) (mo : Bool) (G : Nat × Nat) (I : Nat → Nat → Int32) (J : Nat → Nat → Int64) (Q : Option Value → sm_M → Prop) (x1 : Int32) (s0 : Int32) :
    sm_wp X 139 39 [some (.ref 60), some (.int x1)] [.int s0] (sM mo G I J) Q =
    (True ∧ Q (some (.int s0)) (sM mo G I J)) :=
  (sm_blk X 139 39 (tt_lin 139 (by decide)) rfl rfl _ _ _ _).trans rfl
set_option maxRecDepth 100000 in
theorem bk_140_0 (X : (Nat → Int32) × Nat) (mo : Bool) (G : Nat × Nat) (I : Nat → Nat → Int32) (J : Nat → Nat → Int64) (Q : Option Value → sm_M → Prop) (x1 : Int32) :
    sm_wp X 140 0 [some (.ref 52), some (.int x1), none] [] (sM mo G I J) Q =
    (sm_wp X 140 2 [some (.ref 52), some (.int x1), some (.int 0)] [] (sM mo G I J) Q) :=
  (sm_blk X 140 0 (tt_lin 140 (by decide)) rfl rfl _ _ _ _).trans rfl
set_option maxRecDepth 100000 in
theorem bk_140_2 (X : (Nat → Int32) × Nat) (mo : Bool) (G : Nat × Nat) (I : Nat → Nat → Int32) (J : Nat → Nat → Int64) (Q : Option Value → sm_M → Prop) (x1 : Int32) (x2 : Int32) :
    sm_wp X 140 2 [some (.ref 52), some (.int x1), some (.int x2)] [] (sM mo G I J) Q =
    (if (I 52 5 : Int32) ≤ (x2 : Int32) then sm_wp X 140 39 [some (.ref 52), some (.int x1), some (.int x2)] [] (sM mo G I J) Q else (if (8 : Int32) ≤ (x2 : Int32) then sm_wp X 140 39 [some (.ref 52), some (.int x1), some (.int x2)] [] (sM mo G I J) Q else (vp_in x2 8 ∧ (if ¬ (I 53 (x2.toNatClampNeg) : Int32) = (x1 : Int32) then sm_wp X 140 33 [some (.ref 52), some (.int x1), some (.int x2)] [] (sM mo G I J) Q else (vp_in x2 8 ∧ (True ∧ Q (some (.int (I 59 (x2.toNatClampNeg)))) (sM mo G I J))))))) :=
  (sm_blk X 140 2 (tt_lin 140 (by decide)) rfl rfl _ _ _ _).trans rfl
set_option maxRecDepth 100000 in
theorem bk_140_33 (X : (Nat → Int32) × Nat) (mo : Bool) (G : Nat × Nat) (I : Nat → Nat → Int32) (J : Nat → Nat → Int64) (Q : Option Value → sm_M → Prop) (x1 : Int32) (x2 : Int32) :
    sm_wp X 140 33 [some (.ref 52), some (.int x1), some (.int x2)] [] (sM mo G I J) Q =
    (sm_wp X 140 2 [some (.ref 52), some (.int x1), some (.int (x2 + 1))] [] (sM mo G I J) Q) :=
  (sm_blk X 140 33 (tt_lin 140 (by decide)) rfl rfl _ _ _ _).trans rfl
set_option maxRecDepth 100000 in
theorem bk_140_39 (X : (Nat → Int32) × Nat) (mo : Bool) (G : Nat × Nat) (I : Nat → Nat → Int32) (J : Nat → Nat → Int64) (Q : Option Value → sm_M → Prop) (x1 : Int32) (x2 : Int32) :
    sm_wp X 140 39 [some (.ref 52), some (.int x1), some (.int x2)] [] (sM mo G I J) Q =
    (sm_wp X 95 0 [some (.ref 1), some (.int x1)] [] (sM mo G I J) (fun v M => sm_wp X 140 47 [some (.ref 52), some (.int x1), some (.int x2)] (v.toList ++ []) M Q)) :=
  (sm_blk X 140 39 (tt_lin 140 (by decide)) rfl rfl _ _ _ _).trans rfl
set_option maxRecDepth 100000 in
theorem bk_140_47 (X : (Nat → Int32) × Nat) (mo : Bool) (G : Nat × Nat) (I : Nat → Nat → Int32) (J : Nat → Nat → Int64) (Q : Option Value → sm_M → Prop) (x1 : Int32) (x2 : Int32) (s0 : Int32) :
    sm_wp X 140 47 [some (.ref 52), some (.int x1), some (.int x2)] [.int s0] (sM mo G I J) Q =
    (True ∧ Q (some (.int s0)) (sM mo G I J)) :=
  (sm_blk X 140 47 (tt_lin 140 (by decide)) rfl rfl _ _ _ _).trans rfl
set_option maxRecDepth 100000 in
theorem bkw_140_0 (X : (Nat → Int32) × Nat) (mo : Bool) (G : Nat × Nat) (I : Nat → Nat → Int32) (J : Nat → Nat → Int64) (Q : Option Value → sm_M → Prop) (x1 : Int32) :
    sm_wp X 140 0 [some (.ref 60), some (.int x1), none] [] (sM mo G I J) Q =
    (sm_wp X 140 2 [some (.ref 60), some (.int x1), some (.int 0)] [] (sM mo G I J) Q) :=
  (sm_blk X 140 0 (tt_lin 140 (by decide)) rfl rfl _ _ _ _).trans rfl
set_option maxRecDepth 100000 in
theorem bkw_140_2 (X : (Nat → Int32) × Nat) (mo : Bool) (G : Nat × Nat) (I : Nat → Nat → Int32) (J : Nat → Nat → Int64) (Q : Option Value → sm_M → Prop) (x1 : Int32) (x2 : Int32) :
    sm_wp X 140 2 [some (.ref 60), some (.int x1), some (.int x2)] [] (sM mo G I J) Q =
    (if (I 60 5 : Int32) ≤ (x2 : Int32) then sm_wp X 140 39 [some (.ref 60), some (.int x1), some (.int x2)] [] (sM mo G I J) Q else (if (8 : Int32) ≤ (x2 : Int32) then sm_wp X 140 39 [some (.ref 60), some (.int x1), some (.int x2)] [] (sM mo G I J) Q else (vp_in x2 8 ∧ (if ¬ (I 61 (x2.toNatClampNeg) : Int32) = (x1 : Int32) then sm_wp X 140 33 [some (.ref 60), some (.int x1), some (.int x2)] [] (sM mo G I J) Q else (vp_in x2 8 ∧ (True ∧ Q (some (.int (I 67 (x2.toNatClampNeg)))) (sM mo G I J))))))) :=
  (sm_blk X 140 2 (tt_lin 140 (by decide)) rfl rfl _ _ _ _).trans rfl
set_option maxRecDepth 100000 in
theorem bkw_140_33 (X : (Nat → Int32) × Nat) (mo : Bool) (G : Nat × Nat) (I : Nat → Nat → Int32) (J : Nat → Nat → Int64) (Q : Option Value → sm_M → Prop) (x1 : Int32) (x2 : Int32) :
    sm_wp X 140 33 [some (.ref 60), some (.int x1), some (.int x2)] [] (sM mo G I J) Q =
    (sm_wp X 140 2 [some (.ref 60), some (.int x1), some (.int (x2 + 1))] [] (sM mo G I J) Q) :=
  (sm_blk X 140 33 (tt_lin 140 (by decide)) rfl rfl _ _ _ _).trans rfl
set_option maxRecDepth 100000 in
theorem bkw_140_39 (X : (Nat → Int32) × Nat) (mo : Bool) (G : Nat × Nat) (I : Nat → Nat → Int32) (J : Nat → Nat → Int64) (Q : Option Value → sm_M → Prop) (x1 : Int32) (x2 : Int32) :
    sm_wp X 140 39 [some (.ref 60), some (.int x1), some (.int x2)] [] (sM mo G I J) Q =
    (sm_wp X 95 0 [some (.ref 1), some (.int x1)] [] (sM mo G I J) (fun v M => sm_wp X 140 47 [some (.ref 60), some (.int x1), some (.int x2)] (v.toList ++ []) M Q)) :=
  (sm_blk X 140 39 (tt_lin 140 (by decide)) rfl rfl _ _ _ _).trans rfl
set_option maxRecDepth 100000 in
theorem bkw_140_47 (X : (Nat → Int32) × Nat) (mo : Bool) (G : Nat × Nat) (I : Nat → Nat → Int32) (J : Nat → Nat → Int64) (Q : Option Value → sm_M → Prop) (x1 : Int32) (x2 : Int32) (s0 : Int32) :
    sm_wp X 140 47 [some (.ref 60), some (.int x1), some (.int x2)] [.int s0] (sM mo G I J) Q =
    (True ∧ Q (some (.int s0)) (sM mo G I J)) :=
  (sm_blk X 140 47 (tt_lin 140 (by decide)) rfl rfl _ _ _ _).trans rfl
set_option maxRecDepth 100000 in
theorem bk_141_0 (X : (Nat → Int32) × Nat) (mo : Bool) (G : Nat × Nat) (I : Nat → Nat → Int32) (J : Nat → Nat → Int64) (Q : Option Value → sm_M → Prop)  :
    sm_wp X 141 0 [some (.ref 52), none, none] [] (sM mo G I J) Q =
    (sm_wp X 131 0 [some (.ref 52)] [] (sM mo G I J) (fun v M => sm_wp X 141 4 [some (.ref 52), none, none] (v.toList ++ []) M Q)) :=
  (sm_blk X 141 0 (tt_lin 141 (by decide)) rfl rfl _ _ _ _).trans rfl
set_option maxRecDepth 100000 in
theorem bk_141_4 (X : (Nat → Int32) × Nat) (mo : Bool) (G : Nat × Nat) (I : Nat → Nat → Int32) (J : Nat → Nat → Int64) (Q : Option Value → sm_M → Prop) (s0 : Int32) :
    sm_wp X 141 4 [some (.ref 52), none, none] [.int s0] (sM mo G I J) Q =
    (if (s0 : Int32) = 0 then sm_wp X 141 9 [some (.ref 52), none, none] [] (sM mo G I J) Q else (True ∧ Q (some (.int (-1))) (sM mo G I J))) :=
  (sm_blk X 141 4 (tt_lin 141 (by decide)) rfl rfl _ _ _ _).trans rfl
set_option maxRecDepth 100000 in
theorem bk_141_9 (X : (Nat → Int32) × Nat) (mo : Bool) (G : Nat × Nat) (I : Nat → Nat → Int32) (J : Nat → Nat → Int64) (Q : Option Value → sm_M → Prop)  :
    sm_wp X 141 9 [some (.ref 52), none, none] [] (sM mo G I J) Q =
    (if (I 52 14 : Int32) ≤ 0 then sm_wp X 141 18 [some (.ref 52), none, none] [] (sM mo G I J) Q else (True ∧ Q (some (.int 0)) (sM mo G I J))) :=
  (sm_blk X 141 9 (tt_lin 141 (by decide)) rfl rfl _ _ _ _).trans rfl
set_option maxRecDepth 100000 in
theorem bk_141_18 (X : (Nat → Int32) × Nat) (mo : Bool) (G : Nat × Nat) (I : Nat → Nat → Int32) (J : Nat → Nat → Int64) (Q : Option Value → sm_M → Prop)  :
    sm_wp X 141 18 [some (.ref 52), none, none] [] (sM mo G I J) Q =
    (sm_wp X 141 20 [some (.ref 52), some (.int 1), none] [] (sM mo G I J) Q) :=
  (sm_blk X 141 18 (tt_lin 141 (by decide)) rfl rfl _ _ _ _).trans rfl
set_option maxRecDepth 100000 in
theorem bk_141_20 (X : (Nat → Int32) × Nat) (mo : Bool) (G : Nat × Nat) (I : Nat → Nat → Int32) (J : Nat → Nat → Int64) (Q : Option Value → sm_M → Prop) (x1 : Int32) :
    sm_wp X 141 20 [some (.ref 52), some (.int x1), none] [] (sM mo G I J) Q =
    (if (6 : Int32) < (x1 : Int32) then sm_wp X 141 75 [some (.ref 52), some (.int x1), none] [] (sM mo G I J) Q else (sm_wp X 141 28 [some (.ref 52), some (.int x1), some (.int 1)] [] (sM mo G I J) Q)) :=
  (sm_blk X 141 20 (tt_lin 141 (by decide)) rfl rfl _ _ _ _).trans rfl
set_option maxRecDepth 100000 in
theorem bk_141_28 (X : (Nat → Int32) × Nat) (mo : Bool) (G : Nat × Nat) (I : Nat → Nat → Int32) (J : Nat → Nat → Int64) (Q : Option Value → sm_M → Prop) (x1 : Int32) (x2 : Int32) :
    sm_wp X 141 28 [some (.ref 52), some (.int x1), some (.int x2)] [] (sM mo G I J) Q =
    (if (64 : Int32) ≤ (x2 : Int32) then sm_wp X 141 69 [some (.ref 52), some (.int x1), some (.int x2)] [] (sM mo G I J) Q else (sm_wp X 314 0 [some (.int x2)] [] (sM mo G I J) (fun v M => sm_wp X 141 38 [some (.ref 52), some (.int x1), some (.int x2)] (v.toList ++ []) M Q))) :=
  (sm_blk X 141 28 (tt_lin 141 (by decide)) rfl rfl _ _ _ _).trans rfl
set_option maxRecDepth 100000 in
theorem bk_141_38 (X : (Nat → Int32) × Nat) (mo : Bool) (G : Nat × Nat) (I : Nat → Nat → Int32) (J : Nat → Nat → Int64) (Q : Option Value → sm_M → Prop) (x1 : Int32) (x2 : Int32) (s0 : Int32) :
    sm_wp X 141 38 [some (.ref 52), some (.int x1), some (.int x2)] [.int s0] (sM mo G I J) Q =
    (if ¬ (s0 : Int32) = (x1 : Int32) then sm_wp X 141 63 [some (.ref 52), some (.int x1), some (.int x2)] [] (sM mo G I J) Q else (if ¬ (x2 &&& ((I 52 2) ^^^ (-1)) : Int32) = 0 then sm_wp X 141 63 [some (.ref 52), some (.int x1), some (.int x2)] [] (sM mo G I J) Q else (sm_wp X 142 0 [some (.ref 52), some (.int x2), none] [] (sM mo G I J) (fun v M => sm_wp X 141 58 [some (.ref 52), some (.int x1), some (.int x2)] (v.toList ++ []) M Q)))) :=
  (sm_blk X 141 38 (tt_lin 141 (by decide)) rfl rfl _ _ _ _).trans rfl
set_option maxRecDepth 100000 in
theorem bk_141_58 (X : (Nat → Int32) × Nat) (mo : Bool) (G : Nat × Nat) (I : Nat → Nat → Int32) (J : Nat → Nat → Int64) (Q : Option Value → sm_M → Prop) (x1 : Int32) (x2 : Int32) (s0 : Int32) :
    sm_wp X 141 58 [some (.ref 52), some (.int x1), some (.int x2)] [.int s0] (sM mo G I J) Q =
    (if ¬ (s0 : Int32) = 0 then sm_wp X 141 63 [some (.ref 52), some (.int x1), some (.int x2)] [] (sM mo G I J) Q else (True ∧ Q (some (.int x2)) (sM mo G I J))) :=
  (sm_blk X 141 58 (tt_lin 141 (by decide)) rfl rfl _ _ _ _).trans rfl
set_option maxRecDepth 100000 in
theorem bk_141_63 (X : (Nat → Int32) × Nat) (mo : Bool) (G : Nat × Nat) (I : Nat → Nat → Int32) (J : Nat → Nat → Int64) (Q : Option Value → sm_M → Prop) (x1 : Int32) (x2 : Int32) :
    sm_wp X 141 63 [some (.ref 52), some (.int x1), some (.int x2)] [] (sM mo G I J) Q =
    (sm_wp X 141 28 [some (.ref 52), some (.int x1), some (.int (x2 + 1))] [] (sM mo G I J) Q) :=
  (sm_blk X 141 63 (tt_lin 141 (by decide)) rfl rfl _ _ _ _).trans rfl
set_option maxRecDepth 100000 in
theorem bk_141_69 (X : (Nat → Int32) × Nat) (mo : Bool) (G : Nat × Nat) (I : Nat → Nat → Int32) (J : Nat → Nat → Int64) (Q : Option Value → sm_M → Prop) (x1 : Int32) (x2 : Int32) :
    sm_wp X 141 69 [some (.ref 52), some (.int x1), some (.int x2)] [] (sM mo G I J) Q =
    (sm_wp X 141 20 [some (.ref 52), some (.int (x1 + 1)), none] [] (sM mo G I J) Q) :=
  (sm_blk X 141 69 (tt_lin 141 (by decide)) rfl rfl _ _ _ _).trans rfl
set_option maxRecDepth 100000 in
theorem bk_141_75 (X : (Nat → Int32) × Nat) (mo : Bool) (G : Nat × Nat) (I : Nat → Nat → Int32) (J : Nat → Nat → Int64) (Q : Option Value → sm_M → Prop) (x1 : Int32) :
    sm_wp X 141 75 [some (.ref 52), some (.int x1), none] [] (sM mo G I J) Q =
    (True ∧ Q (some (.int 0)) (sM mo G I J)) :=
  (sm_blk X 141 75 (tt_lin 141 (by decide)) rfl rfl _ _ _ _).trans rfl
set_option maxRecDepth 100000 in
theorem bkw_141_0 (X : (Nat → Int32) × Nat) (mo : Bool) (G : Nat × Nat) (I : Nat → Nat → Int32) (J : Nat → Nat → Int64) (Q : Option Value → sm_M → Prop)  :
    sm_wp X 141 0 [some (.ref 60), none, none] [] (sM mo G I J) Q =
    (sm_wp X 131 0 [some (.ref 60)] [] (sM mo G I J) (fun v M => sm_wp X 141 4 [some (.ref 60), none, none] (v.toList ++ []) M Q)) :=
  (sm_blk X 141 0 (tt_lin 141 (by decide)) rfl rfl _ _ _ _).trans rfl
set_option maxRecDepth 100000 in
theorem bkw_141_4 (X : (Nat → Int32) × Nat) (mo : Bool) (G : Nat × Nat) (I : Nat → Nat → Int32) (J : Nat → Nat → Int64) (Q : Option Value → sm_M → Prop) (s0 : Int32) :
    sm_wp X 141 4 [some (.ref 60), none, none] [.int s0] (sM mo G I J) Q =
    (if (s0 : Int32) = 0 then sm_wp X 141 9 [some (.ref 60), none, none] [] (sM mo G I J) Q else (True ∧ Q (some (.int (-1))) (sM mo G I J))) :=
  (sm_blk X 141 4 (tt_lin 141 (by decide)) rfl rfl _ _ _ _).trans rfl
set_option maxRecDepth 100000 in
theorem bkw_141_9 (X : (Nat → Int32) × Nat) (mo : Bool) (G : Nat × Nat) (I : Nat → Nat → Int32) (J : Nat → Nat → Int64) (Q : Option Value → sm_M → Prop)  :
    sm_wp X 141 9 [some (.ref 60), none, none] [] (sM mo G I J) Q =
    (if (I 60 14 : Int32) ≤ 0 then sm_wp X 141 18 [some (.ref 60), none, none] [] (sM mo G I J) Q else (True ∧ Q (some (.int 0)) (sM mo G I J))) :=
  (sm_blk X 141 9 (tt_lin 141 (by decide)) rfl rfl _ _ _ _).trans rfl
set_option maxRecDepth 100000 in
theorem bkw_141_18 (X : (Nat → Int32) × Nat) (mo : Bool) (G : Nat × Nat) (I : Nat → Nat → Int32) (J : Nat → Nat → Int64) (Q : Option Value → sm_M → Prop)  :
    sm_wp X 141 18 [some (.ref 60), none, none] [] (sM mo G I J) Q =
    (sm_wp X 141 20 [some (.ref 60), some (.int 1), none] [] (sM mo G I J) Q) :=
  (sm_blk X 141 18 (tt_lin 141 (by decide)) rfl rfl _ _ _ _).trans rfl
set_option maxRecDepth 100000 in
theorem bkw_141_20 (X : (Nat → Int32) × Nat) (mo : Bool) (G : Nat × Nat) (I : Nat → Nat → Int32) (J : Nat → Nat → Int64) (Q : Option Value → sm_M → Prop) (x1 : Int32) :
    sm_wp X 141 20 [some (.ref 60), some (.int x1), none] [] (sM mo G I J) Q =
    (if (6 : Int32) < (x1 : Int32) then sm_wp X 141 75 [some (.ref 60), some (.int x1), none] [] (sM mo G I J) Q else (sm_wp X 141 28 [some (.ref 60), some (.int x1), some (.int 1)] [] (sM mo G I J) Q)) :=
  (sm_blk X 141 20 (tt_lin 141 (by decide)) rfl rfl _ _ _ _).trans rfl
set_option maxRecDepth 100000 in
theorem bkw_141_28 (X : (Nat → Int32) × Nat) (mo : Bool) (G : Nat × Nat) (I : Nat → Nat → Int32) (J : Nat → Nat → Int64) (Q : Option Value → sm_M → Prop) (x1 : Int32) (x2 : Int32) :
    sm_wp X 141 28 [some (.ref 60), some (.int x1), some (.int x2)] [] (sM mo G I J) Q =
    (if (64 : Int32) ≤ (x2 : Int32) then sm_wp X 141 69 [some (.ref 60), some (.int x1), some (.int x2)] [] (sM mo G I J) Q else (sm_wp X 314 0 [some (.int x2)] [] (sM mo G I J) (fun v M => sm_wp X 141 38 [some (.ref 60), some (.int x1), some (.int x2)] (v.toList ++ []) M Q))) :=
  (sm_blk X 141 28 (tt_lin 141 (by decide)) rfl rfl _ _ _ _).trans rfl
set_option maxRecDepth 100000 in
theorem bkw_141_38 (X : (Nat → Int32) × Nat) (mo : Bool) (G : Nat × Nat) (I : Nat → Nat → Int32) (J : Nat → Nat → Int64) (Q : Option Value → sm_M → Prop) (x1 : Int32) (x2 : Int32) (s0 : Int32) :
    sm_wp X 141 38 [some (.ref 60), some (.int x1), some (.int x2)] [.int s0] (sM mo G I J) Q =
    (if ¬ (s0 : Int32) = (x1 : Int32) then sm_wp X 141 63 [some (.ref 60), some (.int x1), some (.int x2)] [] (sM mo G I J) Q else (if ¬ (x2 &&& ((I 60 2) ^^^ (-1)) : Int32) = 0 then sm_wp X 141 63 [some (.ref 60), some (.int x1), some (.int x2)] [] (sM mo G I J) Q else (sm_wp X 142 0 [some (.ref 60), some (.int x2), none] [] (sM mo G I J) (fun v M => sm_wp X 141 58 [some (.ref 60), some (.int x1), some (.int x2)] (v.toList ++ []) M Q)))) :=
  (sm_blk X 141 38 (tt_lin 141 (by decide)) rfl rfl _ _ _ _).trans rfl
set_option maxRecDepth 100000 in
theorem bkw_141_58 (X : (Nat → Int32) × Nat) (mo : Bool) (G : Nat × Nat) (I : Nat → Nat → Int32) (J : Nat → Nat → Int64) (Q : Option Value → sm_M → Prop) (x1 : Int32) (x2 : Int32) (s0 : Int32) :
    sm_wp X 141 58 [some (.ref 60), some (.int x1), some (.int x2)] [.int s0] (sM mo G I J) Q =
    (if ¬ (s0 : Int32) = 0 then sm_wp X 141 63 [some (.ref 60), some (.int x1), some (.int x2)] [] (sM mo G I J) Q else (True ∧ Q (some (.int x2)) (sM mo G I J))) :=
  (sm_blk X 141 58 (tt_lin 141 (by decide)) rfl rfl _ _ _ _).trans rfl
set_option maxRecDepth 100000 in
theorem bkw_141_63 (X : (Nat → Int32) × Nat) (mo : Bool) (G : Nat × Nat) (I : Nat → Nat → Int32) (J : Nat → Nat → Int64) (Q : Option Value → sm_M → Prop) (x1 : Int32) (x2 : Int32) :
    sm_wp X 141 63 [some (.ref 60), some (.int x1), some (.int x2)] [] (sM mo G I J) Q =
    (sm_wp X 141 28 [some (.ref 60), some (.int x1), some (.int (x2 + 1))] [] (sM mo G I J) Q) :=
  (sm_blk X 141 63 (tt_lin 141 (by decide)) rfl rfl _ _ _ _).trans rfl
set_option maxRecDepth 100000 in
theorem bkw_141_69 (X : (Nat → Int32) × Nat) (mo : Bool) (G : Nat × Nat) (I : Nat → Nat → Int32) (J : Nat → Nat → Int64) (Q : Option Value → sm_M → Prop) (x1 : Int32) (x2 : Int32) :
    sm_wp X 141 69 [some (.ref 60), some (.int x1), some (.int x2)] [] (sM mo G I J) Q =
    (sm_wp X 141 20 [some (.ref 60), some (.int (x1 + 1)), none] [] (sM mo G I J) Q) :=
  (sm_blk X 141 69 (tt_lin 141 (by decide)) rfl rfl _ _ _ _).trans rfl
set_option maxRecDepth 100000 in
theorem bkw_141_75 (X : (Nat → Int32) × Nat) (mo : Bool) (G : Nat × Nat) (I : Nat → Nat → Int32) (J : Nat → Nat → Int64) (Q : Option Value → sm_M → Prop) (x1 : Int32) :
    sm_wp X 141 75 [some (.ref 60), some (.int x1), none] [] (sM mo G I J) Q =
    (True ∧ Q (some (.int 0)) (sM mo G I J)) :=
  (sm_blk X 141 75 (tt_lin 141 (by decide)) rfl rfl _ _ _ _).trans rfl
set_option maxRecDepth 100000 in
theorem bk_142_0 (X : (Nat → Int32) × Nat) (mo : Bool) (G : Nat × Nat) (I : Nat → Nat → Int32) (J : Nat → Nat → Int64) (Q : Option Value → sm_M → Prop) (x1 : Int32) :
    sm_wp X 142 0 [some (.ref 52), some (.int x1), none] [] (sM mo G I J) Q =
    (sm_wp X 142 2 [some (.ref 52), some (.int x1), some (.int 0)] [] (sM mo G I J) Q) :=
  (sm_blk X 142 0 (tt_lin 142 (by decide)) rfl rfl _ _ _ _).trans rfl
set_option maxRecDepth 100000 in
theorem bk_142_2 (X : (Nat → Int32) × Nat) (mo : Bool) (G : Nat × Nat) (I : Nat → Nat → Int32) (J : Nat → Nat → Int64) (Q : Option Value → sm_M → Prop) (x1 : Int32) (x2 : Int32) :
    sm_wp X 142 2 [some (.ref 52), some (.int x1), some (.int x2)] [] (sM mo G I J) Q =
    (if (64 : Int32) ≤ (x2 : Int32) then sm_wp X 142 37 [some (.ref 52), some (.int x1), some (.int x2)] [] (sM mo G I J) Q else (if (lg_cmp ((((J 52 16).toUInt64 >>> (x2.toInt64.toUInt64 &&& Int64.toUInt64 63)).toInt64) &&& 1) 0 : Int32) = 0 then sm_wp X 142 31 [some (.ref 52), some (.int x1), some (.int x2)] [] (sM mo G I J) Q else (if ¬ (x1 &&& (x2 ^^^ (-1)) : Int32) = 0 then sm_wp X 142 31 [some (.ref 52), some (.int x1), some (.int x2)] [] (sM mo G I J) Q else (sm_zb 1 ∧ Q (some (.int 1)) (sM mo G I J))))) :=
  (sm_blk X 142 2 (tt_lin 142 (by decide)) rfl rfl _ _ _ _).trans rfl
set_option maxRecDepth 100000 in
theorem bk_142_31 (X : (Nat → Int32) × Nat) (mo : Bool) (G : Nat × Nat) (I : Nat → Nat → Int32) (J : Nat → Nat → Int64) (Q : Option Value → sm_M → Prop) (x1 : Int32) (x2 : Int32) :
    sm_wp X 142 31 [some (.ref 52), some (.int x1), some (.int x2)] [] (sM mo G I J) Q =
    (sm_wp X 142 2 [some (.ref 52), some (.int x1), some (.int (x2 + 1))] [] (sM mo G I J) Q) :=
  (sm_blk X 142 31 (tt_lin 142 (by decide)) rfl rfl _ _ _ _).trans rfl
set_option maxRecDepth 100000 in
theorem bk_142_37 (X : (Nat → Int32) × Nat) (mo : Bool) (G : Nat × Nat) (I : Nat → Nat → Int32) (J : Nat → Nat → Int64) (Q : Option Value → sm_M → Prop) (x1 : Int32) (x2 : Int32) :
    sm_wp X 142 37 [some (.ref 52), some (.int x1), some (.int x2)] [] (sM mo G I J) Q =
    (sm_zb 0 ∧ Q (some (.int 0)) (sM mo G I J)) :=
  (sm_blk X 142 37 (tt_lin 142 (by decide)) rfl rfl _ _ _ _).trans rfl
set_option maxRecDepth 100000 in
theorem bkw_142_0 (X : (Nat → Int32) × Nat) (mo : Bool) (G : Nat × Nat) (I : Nat → Nat → Int32) (J : Nat → Nat → Int64) (Q : Option Value → sm_M → Prop) (x1 : Int32) :
    sm_wp X 142 0 [some (.ref 60), some (.int x1), none] [] (sM mo G I J) Q =
    (sm_wp X 142 2 [some (.ref 60), some (.int x1), some (.int 0)] [] (sM mo G I J) Q) :=
  (sm_blk X 142 0 (tt_lin 142 (by decide)) rfl rfl _ _ _ _).trans rfl
set_option maxRecDepth 100000 in
theorem bkw_142_2 (X : (Nat → Int32) × Nat) (mo : Bool) (G : Nat × Nat) (I : Nat → Nat → Int32) (J : Nat → Nat → Int64) (Q : Option Value → sm_M → Prop) (x1 : Int32) (x2 : Int32) :
    sm_wp X 142 2 [some (.ref 60), some (.int x1), some (.int x2)] [] (sM mo G I J) Q =
    (if (64 : Int32) ≤ (x2 : Int32) then sm_wp X 142 37 [some (.ref 60), some (.int x1), some (.int x2)] [] (sM mo G I J) Q else (if (lg_cmp ((((J 60 16).toUInt64 >>> (x2.toInt64.toUInt64 &&& Int64.toUInt64 63)).toInt64) &&& 1) 0 : Int32) = 0 then sm_wp X 142 31 [some (.ref 60), some (.int x1), some (.int x2)] [] (sM mo G I J) Q else (if ¬ (x1 &&& (x2 ^^^ (-1)) : Int32) = 0 then sm_wp X 142 31 [some (.ref 60), some (.int x1), some (.int x2)] [] (sM mo G I J) Q else (sm_zb 1 ∧ Q (some (.int 1)) (sM mo G I J))))) :=
  (sm_blk X 142 2 (tt_lin 142 (by decide)) rfl rfl _ _ _ _).trans rfl
set_option maxRecDepth 100000 in
theorem bkw_142_31 (X : (Nat → Int32) × Nat) (mo : Bool) (G : Nat × Nat) (I : Nat → Nat → Int32) (J : Nat → Nat → Int64) (Q : Option Value → sm_M → Prop) (x1 : Int32) (x2 : Int32) :
    sm_wp X 142 31 [some (.ref 60), some (.int x1), some (.int x2)] [] (sM mo G I J) Q =
    (sm_wp X 142 2 [some (.ref 60), some (.int x1), some (.int (x2 + 1))] [] (sM mo G I J) Q) :=
  (sm_blk X 142 31 (tt_lin 142 (by decide)) rfl rfl _ _ _ _).trans rfl
set_option maxRecDepth 100000 in
theorem bkw_142_37 (X : (Nat → Int32) × Nat) (mo : Bool) (G : Nat × Nat) (I : Nat → Nat → Int32) (J : Nat → Nat → Int64) (Q : Option Value → sm_M → Prop) (x1 : Int32) (x2 : Int32) :
    sm_wp X 142 37 [some (.ref 60), some (.int x1), some (.int x2)] [] (sM mo G I J) Q =
    (sm_zb 0 ∧ Q (some (.int 0)) (sM mo G I J)) :=
  (sm_blk X 142 37 (tt_lin 142 (by decide)) rfl rfl _ _ _ _).trans rfl
set_option maxRecDepth 100000 in
theorem bk_143_0 (X : (Nat → Int32) × Nat) (mo : Bool) (G : Nat × Nat) (I : Nat → Nat → Int32) (J : Nat → Nat → Int64) (Q : Option Value → sm_M → Prop) (x1 : Int32) (x2 : Int32) :
    sm_wp X 143 0 [some (.ref 52), some (.int x1), some (.int x2), none, none] [] (sM mo G I J) Q =
    (sm_wp X 129 0 [some (.ref 52), some (.int x1), none, none, none] [] (sM mo G I J) (fun v M => sm_wp X 143 5 [some (.ref 52), some (.int x1), some (.int x2), none, none] (v.toList ++ []) M Q)) :=
  (sm_blk X 143 0 (tt_lin 143 (by decide)) rfl rfl _ _ _ _).trans rfl
set_option maxRecDepth 100000 in
theorem bk_143_5 (X : (Nat → Int32) × Nat) (mo : Bool) (G : Nat × Nat) (I : Nat → Nat → Int32) (J : Nat → Nat → Int64) (Q : Option Value → sm_M → Prop) (x1 : Int32) (x2 : Int32) :
    sm_wp X 143 5 [some (.ref 52), some (.int x1), some (.int x2), none, none] [] (sM mo G I J) Q =
    (sm_wp X 131 0 [some (.ref 52)] [] (sM mo G I J) (fun v M => sm_wp X 143 9 [some (.ref 52), some (.int x1), some (.int x2), none, none] (v.toList ++ []) M Q)) :=
  (sm_blk X 143 5 (tt_lin 143 (by decide)) rfl rfl _ _ _ _).trans rfl
set_option maxRecDepth 100000 in
theorem bk_143_9 (X : (Nat → Int32) × Nat) (mo : Bool) (G : Nat × Nat) (I : Nat → Nat → Int32) (J : Nat → Nat → Int64) (Q : Option Value → sm_M → Prop) (x1 : Int32) (x2 : Int32) (s0 : Int32) :
    sm_wp X 143 9 [some (.ref 52), some (.int x1), some (.int x2), none, none] [.int s0] (sM mo G I J) Q =
    (if (s0 : Int32) = 0 then sm_wp X 143 14 [some (.ref 52), some (.int x1), some (.int x2), none, none] [] (sM mo G I J) Q else (True ∧ Q (some (.int (-1))) (sM mo G I J))) :=
  (sm_blk X 143 9 (tt_lin 143 (by decide)) rfl rfl _ _ _ _).trans rfl
set_option maxRecDepth 100000 in
theorem bk_143_14 (X : (Nat → Int32) × Nat) (mo : Bool) (G : Nat × Nat) (I : Nat → Nat → Int32) (J : Nat → Nat → Int64) (Q : Option Value → sm_M → Prop) (x1 : Int32) (x2 : Int32) :
    sm_wp X 143 14 [some (.ref 52), some (.int x1), some (.int x2), none, none] [] (sM mo G I J) Q =
    (sm_wp X 143 16 [some (.ref 52), none, some (.int x2), some (.int 0), none] [] (sM mo G I J) Q) :=
  (sm_blk X 143 14 (tt_lin 143 (by decide)) rfl rfl _ _ _ _).trans rfl
set_option maxRecDepth 100000 in
theorem bk_143_16 (X : (Nat → Int32) × Nat) (mo : Bool) (G : Nat × Nat) (I : Nat → Nat → Int32) (J : Nat → Nat → Int64) (Q : Option Value → sm_M → Prop) (x2 : Int32) (x3 : Int32) :
    sm_wp X 143 16 [some (.ref 52), none, some (.int x2), some (.int x3), none] [] (sM mo G I J) Q =
    (if (I 52 5 : Int32) ≤ (x3 : Int32) then sm_wp X 143 69 [some (.ref 52), none, some (.int x2), some (.int x3), none] [] (sM mo G I J) Q else (if (8 : Int32) ≤ (x3 : Int32) then sm_wp X 143 69 [some (.ref 52), none, some (.int x2), some (.int x3), none] [] (sM mo G I J) Q else (vp_in x3 8 ∧ (sm_wp X 169 0 [some (.int (I 54 (x3.toNatClampNeg))), some (.int (((x2.toUInt32 >>> ((3 * x3).toUInt32 &&& Int32.toUInt32 31)).toInt32) &&& 7))] [] (sM mo G I J) (fun v M => sm_wp X 143 51 [some (.ref 52), none, some (.int x2), some (.int x3), some (.int (((x2.toUInt32 >>> ((3 * x3).toUInt32 &&& Int32.toUInt32 31)).toInt32) &&& 7))] (v.toList ++ []) M Q))))) :=
  (sm_blk X 143 16 (tt_lin 143 (by decide)) rfl rfl _ _ _ _).trans rfl
set_option maxRecDepth 100000 in
theorem bk_143_51 (X : (Nat → Int32) × Nat) (mo : Bool) (G : Nat × Nat) (I : Nat → Nat → Int32) (J : Nat → Nat → Int64) (Q : Option Value → sm_M → Prop) (x2 : Int32) (x3 : Int32) (x4 : Int32) (s0 : Int32) :
    sm_wp X 143 51 [some (.ref 52), none, some (.int x2), some (.int x3), some (.int x4)] [.int s0] (sM mo G I J) Q =
    (if ¬ (s0 : Int32) = 0 then sm_wp X 143 56 [some (.ref 52), none, some (.int x2), some (.int x3), some (.int x4)] [] (sM mo G I J) Q else (True ∧ Q (some (.int 0)) (sM mo G I J))) :=
  (sm_blk X 143 51 (tt_lin 143 (by decide)) rfl rfl _ _ _ _).trans rfl
set_option maxRecDepth 100000 in
theorem bk_143_56 (X : (Nat → Int32) × Nat) (mo : Bool) (G : Nat × Nat) (I : Nat → Nat → Int32) (J : Nat → Nat → Int64) (Q : Option Value → sm_M → Prop) (x2 : Int32) (x3 : Int32) (x4 : Int32) :
    sm_wp X 143 56 [some (.ref 52), none, some (.int x2), some (.int x3), some (.int x4)] [] (sM mo G I J) Q =
    (sm_wp X 133 0 [some (.ref 52), some (.int x3), some (.int x4)] [] (sM mo G I J) (fun v M => sm_wp X 143 63 [some (.ref 52), none, some (.int x2), some (.int x3), some (.int x4)] (v.toList ++ []) M Q)) :=
  (sm_blk X 143 56 (tt_lin 143 (by decide)) rfl rfl _ _ _ _).trans rfl
set_option maxRecDepth 100000 in
theorem bk_143_63 (X : (Nat → Int32) × Nat) (mo : Bool) (G : Nat × Nat) (I : Nat → Nat → Int32) (J : Nat → Nat → Int64) (Q : Option Value → sm_M → Prop) (x2 : Int32) (x3 : Int32) (x4 : Int32) :
    sm_wp X 143 63 [some (.ref 52), none, some (.int x2), some (.int x3), some (.int x4)] [] (sM mo G I J) Q =
    (sm_wp X 143 16 [some (.ref 52), none, some (.int x2), some (.int (x3 + 1)), none] [] (sM mo G I J) Q) :=
  (sm_blk X 143 63 (tt_lin 143 (by decide)) rfl rfl _ _ _ _).trans rfl
set_option maxRecDepth 100000 in
theorem bk_143_69 (X : (Nat → Int32) × Nat) (mo : Bool) (G : Nat × Nat) (I : Nat → Nat → Int32) (J : Nat → Nat → Int64) (Q : Option Value → sm_M → Prop) (x2 : Int32) (x3 : Int32) :
    sm_wp X 143 69 [some (.ref 52), none, some (.int x2), some (.int x3), none] [] (sM mo G I J) Q =
    (if (I 52 12 : Int32) = (I 52 2 : Int32) then sm_wp X 143 82 [some (.ref 52), none, some (.int x2), some (.int x3), none] [] (sM mo G I J) Q else (True ∧ Q (some (.int 1)) (sM mo G I J))) :=
  (sm_blk X 143 69 (tt_lin 143 (by decide)) rfl rfl _ _ _ _).trans rfl
set_option maxRecDepth 100000 in
theorem bk_143_82 (X : (Nat → Int32) × Nat) (mo : Bool) (G : Nat × Nat) (I : Nat → Nat → Int32) (J : Nat → Nat → Int64) (Q : Option Value → sm_M → Prop) (x2 : Int32) (x3 : Int32) :
    sm_wp X 143 82 [some (.ref 52), none, some (.int x2), some (.int x3), none] [] (sM mo G I J) Q =
    (sm_wp X 135 0 [some (.ref 52), none, none, none] [] (sM mo G I J) (fun v M => sm_wp X 143 86 [some (.ref 52), none, some (.int x2), some (.int x3), none] (v.toList ++ []) M Q)) :=
  (sm_blk X 143 82 (tt_lin 143 (by decide)) rfl rfl _ _ _ _).trans rfl
set_option maxRecDepth 100000 in
theorem bk_143_86 (X : (Nat → Int32) × Nat) (mo : Bool) (G : Nat × Nat) (I : Nat → Nat → Int32) (J : Nat → Nat → Int64) (Q : Option Value → sm_M → Prop) (x2 : Int32) (x3 : Int32) (s0 : Int32) :
    sm_wp X 143 86 [some (.ref 52), none, some (.int x2), some (.int x3), none] [.int s0] (sM mo G I J) Q =
    (if (s0 : Int32) = 0 then sm_wp X 143 93 [some (.ref 52), none, some (.int x2), some (.int x3), none] [] (sM mo G I J) Q else (sm_wp X 143 94 [some (.ref 52), none, some (.int x2), some (.int x3), none] [.int 3] (sM mo G I J) Q)) :=
  (sm_blk X 143 86 (tt_lin 143 (by decide)) rfl rfl _ _ _ _).trans rfl
set_option maxRecDepth 100000 in
theorem bk_143_93 (X : (Nat → Int32) × Nat) (mo : Bool) (G : Nat × Nat) (I : Nat → Nat → Int32) (J : Nat → Nat → Int64) (Q : Option Value → sm_M → Prop) (x2 : Int32) (x3 : Int32) :
    sm_wp X 143 93 [some (.ref 52), none, some (.int x2), some (.int x3), none] [] (sM mo G I J) Q =
    (True ∧ Q (some (.int 2)) (sM mo G I J)) :=
  (sm_blk X 143 93 (tt_lin 143 (by decide)) rfl rfl _ _ _ _).trans rfl
set_option maxRecDepth 100000 in
theorem bk_143_94 (X : (Nat → Int32) × Nat) (mo : Bool) (G : Nat × Nat) (I : Nat → Nat → Int32) (J : Nat → Nat → Int64) (Q : Option Value → sm_M → Prop) (x2 : Int32) (x3 : Int32) (s0 : Int32) :
    sm_wp X 143 94 [some (.ref 52), none, some (.int x2), some (.int x3), none] [.int s0] (sM mo G I J) Q =
    (True ∧ Q (some (.int s0)) (sM mo G I J)) :=
  (sm_blk X 143 94 (tt_lin 143 (by decide)) rfl rfl _ _ _ _).trans rfl
set_option maxRecDepth 100000 in
theorem bkw_143_0 (X : (Nat → Int32) × Nat) (mo : Bool) (G : Nat × Nat) (I : Nat → Nat → Int32) (J : Nat → Nat → Int64) (Q : Option Value → sm_M → Prop) (x1 : Int32) (x2 : Int32) :
    sm_wp X 143 0 [some (.ref 60), some (.int x1), some (.int x2), none, none] [] (sM mo G I J) Q =
    (sm_wp X 129 0 [some (.ref 60), some (.int x1), none, none, none] [] (sM mo G I J) (fun v M => sm_wp X 143 5 [some (.ref 60), some (.int x1), some (.int x2), none, none] (v.toList ++ []) M Q)) :=
  (sm_blk X 143 0 (tt_lin 143 (by decide)) rfl rfl _ _ _ _).trans rfl
set_option maxRecDepth 100000 in
theorem bkw_143_5 (X : (Nat → Int32) × Nat) (mo : Bool) (G : Nat × Nat) (I : Nat → Nat → Int32) (J : Nat → Nat → Int64) (Q : Option Value → sm_M → Prop) (x1 : Int32) (x2 : Int32) :
    sm_wp X 143 5 [some (.ref 60), some (.int x1), some (.int x2), none, none] [] (sM mo G I J) Q =
    (sm_wp X 131 0 [some (.ref 60)] [] (sM mo G I J) (fun v M => sm_wp X 143 9 [some (.ref 60), some (.int x1), some (.int x2), none, none] (v.toList ++ []) M Q)) :=
  (sm_blk X 143 5 (tt_lin 143 (by decide)) rfl rfl _ _ _ _).trans rfl
set_option maxRecDepth 100000 in
theorem bkw_143_9 (X : (Nat → Int32) × Nat) (mo : Bool) (G : Nat × Nat) (I : Nat → Nat → Int32) (J : Nat → Nat → Int64) (Q : Option Value → sm_M → Prop) (x1 : Int32) (x2 : Int32) (s0 : Int32) :
    sm_wp X 143 9 [some (.ref 60), some (.int x1), some (.int x2), none, none] [.int s0] (sM mo G I J) Q =
    (if (s0 : Int32) = 0 then sm_wp X 143 14 [some (.ref 60), some (.int x1), some (.int x2), none, none] [] (sM mo G I J) Q else (True ∧ Q (some (.int (-1))) (sM mo G I J))) :=
  (sm_blk X 143 9 (tt_lin 143 (by decide)) rfl rfl _ _ _ _).trans rfl
set_option maxRecDepth 100000 in
theorem bkw_143_14 (X : (Nat → Int32) × Nat) (mo : Bool) (G : Nat × Nat) (I : Nat → Nat → Int32) (J : Nat → Nat → Int64) (Q : Option Value → sm_M → Prop) (x1 : Int32) (x2 : Int32) :
    sm_wp X 143 14 [some (.ref 60), some (.int x1), some (.int x2), none, none] [] (sM mo G I J) Q =
    (sm_wp X 143 16 [some (.ref 60), none, some (.int x2), some (.int 0), none] [] (sM mo G I J) Q) :=
  (sm_blk X 143 14 (tt_lin 143 (by decide)) rfl rfl _ _ _ _).trans rfl
set_option maxRecDepth 100000 in
theorem bkw_143_16 (X : (Nat → Int32) × Nat) (mo : Bool) (G : Nat × Nat) (I : Nat → Nat → Int32) (J : Nat → Nat → Int64) (Q : Option Value → sm_M → Prop) (x2 : Int32) (x3 : Int32) :
    sm_wp X 143 16 [some (.ref 60), none, some (.int x2), some (.int x3), none] [] (sM mo G I J) Q =
    (if (I 60 5 : Int32) ≤ (x3 : Int32) then sm_wp X 143 69 [some (.ref 60), none, some (.int x2), some (.int x3), none] [] (sM mo G I J) Q else (if (8 : Int32) ≤ (x3 : Int32) then sm_wp X 143 69 [some (.ref 60), none, some (.int x2), some (.int x3), none] [] (sM mo G I J) Q else (vp_in x3 8 ∧ (sm_wp X 169 0 [some (.int (I 62 (x3.toNatClampNeg))), some (.int (((x2.toUInt32 >>> ((3 * x3).toUInt32 &&& Int32.toUInt32 31)).toInt32) &&& 7))] [] (sM mo G I J) (fun v M => sm_wp X 143 51 [some (.ref 60), none, some (.int x2), some (.int x3), some (.int (((x2.toUInt32 >>> ((3 * x3).toUInt32 &&& Int32.toUInt32 31)).toInt32) &&& 7))] (v.toList ++ []) M Q))))) :=
  (sm_blk X 143 16 (tt_lin 143 (by decide)) rfl rfl _ _ _ _).trans rfl
set_option maxRecDepth 100000 in
theorem bkw_143_51 (X : (Nat → Int32) × Nat) (mo : Bool) (G : Nat × Nat) (I : Nat → Nat → Int32) (J : Nat → Nat → Int64) (Q : Option Value → sm_M → Prop) (x2 : Int32) (x3 : Int32) (x4 : Int32) (s0 : Int32) :
    sm_wp X 143 51 [some (.ref 60), none, some (.int x2), some (.int x3), some (.int x4)] [.int s0] (sM mo G I J) Q =
    (if ¬ (s0 : Int32) = 0 then sm_wp X 143 56 [some (.ref 60), none, some (.int x2), some (.int x3), some (.int x4)] [] (sM mo G I J) Q else (True ∧ Q (some (.int 0)) (sM mo G I J))) :=
  (sm_blk X 143 51 (tt_lin 143 (by decide)) rfl rfl _ _ _ _).trans rfl
set_option maxRecDepth 100000 in
theorem bkw_143_56 (X : (Nat → Int32) × Nat) (mo : Bool) (G : Nat × Nat) (I : Nat → Nat → Int32) (J : Nat → Nat → Int64) (Q : Option Value → sm_M → Prop) (x2 : Int32) (x3 : Int32) (x4 : Int32) :
    sm_wp X 143 56 [some (.ref 60), none, some (.int x2), some (.int x3), some (.int x4)] [] (sM mo G I J) Q =
    (sm_wp X 133 0 [some (.ref 60), some (.int x3), some (.int x4)] [] (sM mo G I J) (fun v M => sm_wp X 143 63 [some (.ref 60), none, some (.int x2), some (.int x3), some (.int x4)] (v.toList ++ []) M Q)) :=
  (sm_blk X 143 56 (tt_lin 143 (by decide)) rfl rfl _ _ _ _).trans rfl
set_option maxRecDepth 100000 in
theorem bkw_143_63 (X : (Nat → Int32) × Nat) (mo : Bool) (G : Nat × Nat) (I : Nat → Nat → Int32) (J : Nat → Nat → Int64) (Q : Option Value → sm_M → Prop) (x2 : Int32) (x3 : Int32) (x4 : Int32) :
    sm_wp X 143 63 [some (.ref 60), none, some (.int x2), some (.int x3), some (.int x4)] [] (sM mo G I J) Q =
    (sm_wp X 143 16 [some (.ref 60), none, some (.int x2), some (.int (x3 + 1)), none] [] (sM mo G I J) Q) :=
  (sm_blk X 143 63 (tt_lin 143 (by decide)) rfl rfl _ _ _ _).trans rfl
set_option maxRecDepth 100000 in
theorem bkw_143_69 (X : (Nat → Int32) × Nat) (mo : Bool) (G : Nat × Nat) (I : Nat → Nat → Int32) (J : Nat → Nat → Int64) (Q : Option Value → sm_M → Prop) (x2 : Int32) (x3 : Int32) :
    sm_wp X 143 69 [some (.ref 60), none, some (.int x2), some (.int x3), none] [] (sM mo G I J) Q =
    (if (I 60 12 : Int32) = (I 60 2 : Int32) then sm_wp X 143 82 [some (.ref 60), none, some (.int x2), some (.int x3), none] [] (sM mo G I J) Q else (True ∧ Q (some (.int 1)) (sM mo G I J))) :=
  (sm_blk X 143 69 (tt_lin 143 (by decide)) rfl rfl _ _ _ _).trans rfl
set_option maxRecDepth 100000 in
theorem bkw_143_82 (X : (Nat → Int32) × Nat) (mo : Bool) (G : Nat × Nat) (I : Nat → Nat → Int32) (J : Nat → Nat → Int64) (Q : Option Value → sm_M → Prop) (x2 : Int32) (x3 : Int32) :
    sm_wp X 143 82 [some (.ref 60), none, some (.int x2), some (.int x3), none] [] (sM mo G I J) Q =
    (sm_wp X 135 0 [some (.ref 60), none, none, none] [] (sM mo G I J) (fun v M => sm_wp X 143 86 [some (.ref 60), none, some (.int x2), some (.int x3), none] (v.toList ++ []) M Q)) :=
  (sm_blk X 143 82 (tt_lin 143 (by decide)) rfl rfl _ _ _ _).trans rfl
set_option maxRecDepth 100000 in
theorem bkw_143_86 (X : (Nat → Int32) × Nat) (mo : Bool) (G : Nat × Nat) (I : Nat → Nat → Int32) (J : Nat → Nat → Int64) (Q : Option Value → sm_M → Prop) (x2 : Int32) (x3 : Int32) (s0 : Int32) :
    sm_wp X 143 86 [some (.ref 60), none, some (.int x2), some (.int x3), none] [.int s0] (sM mo G I J) Q =
    (if (s0 : Int32) = 0 then sm_wp X 143 93 [some (.ref 60), none, some (.int x2), some (.int x3), none] [] (sM mo G I J) Q else (sm_wp X 143 94 [some (.ref 60), none, some (.int x2), some (.int x3), none] [.int 3] (sM mo G I J) Q)) :=
  (sm_blk X 143 86 (tt_lin 143 (by decide)) rfl rfl _ _ _ _).trans rfl
set_option maxRecDepth 100000 in
theorem bkw_143_93 (X : (Nat → Int32) × Nat) (mo : Bool) (G : Nat × Nat) (I : Nat → Nat → Int32) (J : Nat → Nat → Int64) (Q : Option Value → sm_M → Prop) (x2 : Int32) (x3 : Int32) :
    sm_wp X 143 93 [some (.ref 60), none, some (.int x2), some (.int x3), none] [] (sM mo G I J) Q =
    (True ∧ Q (some (.int 2)) (sM mo G I J)) :=
  (sm_blk X 143 93 (tt_lin 143 (by decide)) rfl rfl _ _ _ _).trans rfl
set_option maxRecDepth 100000 in
theorem bkw_143_94 (X : (Nat → Int32) × Nat) (mo : Bool) (G : Nat × Nat) (I : Nat → Nat → Int32) (J : Nat → Nat → Int64) (Q : Option Value → sm_M → Prop) (x2 : Int32) (x3 : Int32) (s0 : Int32) :
    sm_wp X 143 94 [some (.ref 60), none, some (.int x2), some (.int x3), none] [.int s0] (sM mo G I J) Q =
    (True ∧ Q (some (.int s0)) (sM mo G I J)) :=
  (sm_blk X 143 94 (tt_lin 143 (by decide)) rfl rfl _ _ _ _).trans rfl
