set_option maxRecDepth 100000 in
theorem bk_22_0 (X : (Nat → Int32) × Nat) (mo : Bool) (G : Nat × Nat) (I : Nat → Nat → Int32) (J : Nat → Nat → Int64) (Q : Option Value → sm_M → Prop)  :
    sm_wp X 22 0 [some (.ref 45), none, none] [] (sM mo G I J) Q =
    (sm_wp X 22 15 [some (.ref 45), some (.int 0), none] [] (sM mo G (up2 I 1 3 ((I 1 3) + 1)) J) Q) :=
  (sm_blk X 22 0 (tt_lin 22 (by decide)) rfl rfl _ _ _ _).trans rfl
set_option maxRecDepth 100000 in
theorem bk_22_15 (X : (Nat → Int32) × Nat) (mo : Bool) (G : Nat × Nat) (I : Nat → Nat → Int32) (J : Nat → Nat → Int64) (Q : Option Value → sm_M → Prop) (x1 : Int32) :
    sm_wp X 22 15 [some (.ref 45), some (.int x1), none] [] (sM mo G I J) Q =
    (if (I 31 0 : Int32) ≤ (x1 : Int32) then sm_wp X 22 55 [some (.ref 45), some (.int x1), none] [] (sM mo G I J) Q else (sm_wp X 70 0 [some (.ref 31), some (.int x1)] [] (sM mo G I J) (fun v M => sm_wp X 22 34 [some (.ref 45), some (.int x1), none] (v.toList ++ []) M Q))) :=
  (sm_blk X 22 15 (tt_lin 22 (by decide)) rfl rfl _ _ _ _).trans rfl
set_option maxRecDepth 100000 in
theorem bk_22_34 (X : (Nat → Int32) × Nat) (mo : Bool) (G : Nat × Nat) (I : Nat → Nat → Int32) (J : Nat → Nat → Int64) (Q : Option Value → sm_M → Prop) (x1 : Int32) (s0 : Int32) :
    sm_wp X 22 34 [some (.ref 45), some (.int x1), none] [.int s0] (sM mo G I J) Q =
    (if (s0 : Int32) = 0 then sm_wp X 22 44 [some (.ref 45), some (.int x1), some (.int s0)] [] (sM mo G I J) Q else (if ¬ (s0 : Int32) = (1 : Int32) then sm_wp X 22 49 [some (.ref 45), some (.int x1), some (.int s0)] [] (sM mo G I J) Q else (sm_wp X 23 0 [some (.ref 45), some (.int x1)] [] (sM mo G I J) (fun v M => sm_wp X 22 49 [some (.ref 45), some (.int x1), some (.int s0)] (v.toList ++ []) M Q)))) :=
  (sm_blk X 22 34 (tt_lin 22 (by decide)) rfl rfl _ _ _ _).trans rfl
set_option maxRecDepth 100000 in
theorem bk_22_44 (X : (Nat → Int32) × Nat) (mo : Bool) (G : Nat × Nat) (I : Nat → Nat → Int32) (J : Nat → Nat → Int64) (Q : Option Value → sm_M → Prop) (x1 : Int32) (x2 : Int32) :
    sm_wp X 22 44 [some (.ref 45), some (.int x1), some (.int x2)] [] (sM mo G I J) Q =
    (sm_wp X 23 0 [some (.ref 45), some (.int x1)] [] (sM mo G I J) (fun v M => sm_wp X 22 49 [some (.ref 45), some (.int x1), some (.int x2)] (v.toList ++ []) M Q)) :=
  (sm_blk X 22 44 (tt_lin 22 (by decide)) rfl rfl _ _ _ _).trans rfl
set_option maxRecDepth 100000 in
theorem bk_22_49 (X : (Nat → Int32) × Nat) (mo : Bool) (G : Nat × Nat) (I : Nat → Nat → Int32) (J : Nat → Nat → Int64) (Q : Option Value → sm_M → Prop) (x1 : Int32) (x2 : Int32) :
    sm_wp X 22 49 [some (.ref 45), some (.int x1), some (.int x2)] [] (sM mo G I J) Q =
    (sm_wp X 22 15 [some (.ref 45), some (.int (x1 + 1)), none] [] (sM mo G I J) Q) :=
  (sm_blk X 22 49 (tt_lin 22 (by decide)) rfl rfl _ _ _ _).trans rfl
set_option maxRecDepth 100000 in
theorem bk_22_55 (X : (Nat → Int32) × Nat) (mo : Bool) (G : Nat × Nat) (I : Nat → Nat → Int32) (J : Nat → Nat → Int64) (Q : Option Value → sm_M → Prop) (x1 : Int32) :
    sm_wp X 22 55 [some (.ref 45), some (.int x1), none] [] (sM mo G I J) Q =
    (sm_wp X 22 57 [some (.ref 45), some (.int 0), none] [] (sM mo G I J) Q) :=
  (sm_blk X 22 55 (tt_lin 22 (by decide)) rfl rfl _ _ _ _).trans rfl
set_option maxRecDepth 100000 in
theorem bk_22_57 (X : (Nat → Int32) × Nat) (mo : Bool) (G : Nat × Nat) (I : Nat → Nat → Int32) (J : Nat → Nat → Int64) (Q : Option Value → sm_M → Prop) (x1 : Int32) :
    sm_wp X 22 57 [some (.ref 45), some (.int x1), none] [] (sM mo G I J) Q =
    (if (I 31 0 : Int32) ≤ (x1 : Int32) then sm_wp X 22 91 [some (.ref 45), some (.int x1), none] [] (sM mo G I J) Q else (sm_wp X 70 0 [some (.ref 31), some (.int x1)] [] (sM mo G I J) (fun v M => sm_wp X 22 76 [some (.ref 45), some (.int x1), none] (v.toList ++ []) M Q))) :=
  (sm_blk X 22 57 (tt_lin 22 (by decide)) rfl rfl _ _ _ _).trans rfl
set_option maxRecDepth 100000 in
theorem bk_22_76 (X : (Nat → Int32) × Nat) (mo : Bool) (G : Nat × Nat) (I : Nat → Nat → Int32) (J : Nat → Nat → Int64) (Q : Option Value → sm_M → Prop) (x1 : Int32) (s0 : Int32) :
    sm_wp X 22 76 [some (.ref 45), some (.int x1), none] [.int s0] (sM mo G I J) Q =
    (if ¬ (s0 : Int32) = (2 : Int32) then sm_wp X 22 85 [some (.ref 45), some (.int x1), none] [] (sM mo G I J) Q else (sm_wp X 34 0 [some (.ref 45), some (.int x1), none, none, none, none] [] (sM mo G I J) (fun v M => sm_wp X 22 85 [some (.ref 45), some (.int x1), none] (v.toList ++ []) M Q))) :=
  (sm_blk X 22 76 (tt_lin 22 (by decide)) rfl rfl _ _ _ _).trans rfl
set_option maxRecDepth 100000 in
theorem bk_22_85 (X : (Nat → Int32) × Nat) (mo : Bool) (G : Nat × Nat) (I : Nat → Nat → Int32) (J : Nat → Nat → Int64) (Q : Option Value → sm_M → Prop) (x1 : Int32) :
    sm_wp X 22 85 [some (.ref 45), some (.int x1), none] [] (sM mo G I J) Q =
    (sm_wp X 22 57 [some (.ref 45), some (.int (x1 + 1)), none] [] (sM mo G I J) Q) :=
  (sm_blk X 22 85 (tt_lin 22 (by decide)) rfl rfl _ _ _ _).trans rfl
set_option maxRecDepth 100000 in
theorem bk_22_91 (X : (Nat → Int32) × Nat) (mo : Bool) (G : Nat × Nat) (I : Nat → Nat → Int32) (J : Nat → Nat → Int64) (Q : Option Value → sm_M → Prop) (x1 : Int32) :
    sm_wp X 22 91 [some (.ref 45), some (.int x1), none] [] (sM mo G I J) Q =
    (True ∧ Q none (sM mo G I J)) :=
  (sm_blk X 22 91 (tt_lin 22 (by decide)) rfl rfl _ _ _ _).trans rfl
set_option maxRecDepth 100000 in
theorem bk_23_0 (X : (Nat → Int32) × Nat) (mo : Bool) (G : Nat × Nat) (I : Nat → Nat → Int32) (J : Nat → Nat → Int64) (Q : Option Value → sm_M → Prop) (x1 : Int32) :
    sm_wp X 23 0 [some (.ref 45), some (.int x1)] [] (sM mo G I J) Q =
    (sm_wp X 71 0 [some (.ref 31), some (.int x1)] [] (sM mo G I J) (fun v M => sm_wp X 23 15 [some (.ref 45), some (.int x1)] (v.toList ++ [.int (I 1 3)]) M Q)) :=
  (sm_blk X 23 0 (tt_lin 23 (by decide)) rfl rfl _ _ _ _).trans rfl
set_option maxRecDepth 100000 in
theorem bk_23_15 (X : (Nat → Int32) × Nat) (mo : Bool) (G : Nat × Nat) (I : Nat → Nat → Int32) (J : Nat → Nat → Int64) (Q : Option Value → sm_M → Prop) (x1 : Int32) (s0 : Int32) (s1 : Int32) :
    sm_wp X 23 15 [some (.ref 45), some (.int x1)] [.int s1, .int s0] (sM mo G I J) Q =
    (if (s1 : Int32) < (s0 : Int32) then sm_wp X 23 54 [some (.ref 45), some (.int x1)] [] (sM mo G I J) Q else (sm_wp X 72 0 [some (.ref 31), some (.int x1)] [] (sM mo G I J) (fun v M => sm_wp X 23 30 [some (.ref 45), some (.int x1)] (v.toList ++ [.ref 1]) M Q))) :=
  (sm_blk X 23 15 (tt_lin 23 (by decide)) rfl rfl _ _ _ _).trans rfl
set_option maxRecDepth 100000 in
theorem bk_23_30 (X : (Nat → Int32) × Nat) (mo : Bool) (G : Nat × Nat) (I : Nat → Nat → Int32) (J : Nat → Nat → Int64) (Q : Option Value → sm_M → Prop) (x1 : Int32) (s1 : Int32) :
    sm_wp X 23 30 [some (.ref 45), some (.int x1)] [.int s1, .ref 1] (sM mo G I J) Q =
    (sm_wp X 94 0 [some (.ref 1), some (.int s1)] [] (sM mo G I J) (fun v M => sm_wp X 23 33 [some (.ref 45), some (.int x1)] (v.toList ++ []) M Q)) :=
  (sm_blk X 23 30 (tt_lin 23 (by decide)) rfl rfl _ _ _ _).trans rfl
set_option maxRecDepth 100000 in
theorem bk_23_33 (X : (Nat → Int32) × Nat) (mo : Bool) (G : Nat × Nat) (I : Nat → Nat → Int32) (J : Nat → Nat → Int64) (Q : Option Value → sm_M → Prop) (x1 : Int32) (s0 : Int32) :
    sm_wp X 23 33 [some (.ref 45), some (.int x1)] [.int s0] (sM mo G I J) Q =
    (if (s0 : Int32) = 0 then sm_wp X 23 54 [some (.ref 45), some (.int x1)] [] (sM mo G I J) Q else (sm_wp X 73 0 [some (.ref 31), some (.int x1)] [] (sM mo G I J) (fun v M => sm_wp X 23 48 [some (.ref 45), some (.int x1)] (v.toList ++ [.ref 1]) M Q))) :=
  (sm_blk X 23 33 (tt_lin 23 (by decide)) rfl rfl _ _ _ _).trans rfl
set_option maxRecDepth 100000 in
theorem bk_23_48 (X : (Nat → Int32) × Nat) (mo : Bool) (G : Nat × Nat) (I : Nat → Nat → Int32) (J : Nat → Nat → Int64) (Q : Option Value → sm_M → Prop) (x1 : Int32) (s1 : Int32) :
    sm_wp X 23 48 [some (.ref 45), some (.int x1)] [.int s1, .ref 1] (sM mo G I J) Q =
    (sm_wp X 94 0 [some (.ref 1), some (.int s1)] [] (sM mo G I J) (fun v M => sm_wp X 23 51 [some (.ref 45), some (.int x1)] (v.toList ++ []) M Q)) :=
  (sm_blk X 23 48 (tt_lin 23 (by decide)) rfl rfl _ _ _ _).trans rfl
set_option maxRecDepth 100000 in
theorem bk_23_51 (X : (Nat → Int32) × Nat) (mo : Bool) (G : Nat × Nat) (I : Nat → Nat → Int32) (J : Nat → Nat → Int64) (Q : Option Value → sm_M → Prop) (x1 : Int32) (s0 : Int32) :
    sm_wp X 23 51 [some (.ref 45), some (.int x1)] [.int s0] (sM mo G I J) Q =
    (if ¬ (s0 : Int32) = 0 then sm_wp X 23 64 [some (.ref 45), some (.int x1)] [] (sM mo G I J) Q else (sm_wp X 74 0 [some (.ref 31), some (.int x1), some (.int 4)] [] (sM mo G I J) (fun v M => sm_wp X 23 63 [some (.ref 45), some (.int x1)] (v.toList ++ []) M Q))) :=
  (sm_blk X 23 51 (tt_lin 23 (by decide)) rfl rfl _ _ _ _).trans rfl
set_option maxRecDepth 100000 in
theorem bk_23_54 (X : (Nat → Int32) × Nat) (mo : Bool) (G : Nat × Nat) (I : Nat → Nat → Int32) (J : Nat → Nat → Int64) (Q : Option Value → sm_M → Prop) (x1 : Int32) :
    sm_wp X 23 54 [some (.ref 45), some (.int x1)] [] (sM mo G I J) Q =
    (sm_wp X 74 0 [some (.ref 31), some (.int x1), some (.int 4)] [] (sM mo G I J) (fun v M => sm_wp X 23 63 [some (.ref 45), some (.int x1)] (v.toList ++ []) M Q)) :=
  (sm_blk X 23 54 (tt_lin 23 (by decide)) rfl rfl _ _ _ _).trans rfl
set_option maxRecDepth 100000 in
theorem bk_23_63 (X : (Nat → Int32) × Nat) (mo : Bool) (G : Nat × Nat) (I : Nat → Nat → Int32) (J : Nat → Nat → Int64) (Q : Option Value → sm_M → Prop) (x1 : Int32) :
    sm_wp X 23 63 [some (.ref 45), some (.int x1)] [] (sM mo G I J) Q =
    (True ∧ Q none (sM mo G I J)) :=
  (sm_blk X 23 63 (tt_lin 23 (by decide)) rfl rfl _ _ _ _).trans rfl
set_option maxRecDepth 100000 in
theorem bk_23_64 (X : (Nat → Int32) × Nat) (mo : Bool) (G : Nat × Nat) (I : Nat → Nat → Int32) (J : Nat → Nat → Int64) (Q : Option Value → sm_M → Prop) (x1 : Int32) :
    sm_wp X 23 64 [some (.ref 45), some (.int x1)] [] (sM mo G I J) Q =
    (sm_wp X 70 0 [some (.ref 31), some (.int x1)] [] (sM mo G I J) (fun v M => sm_wp X 23 72 [some (.ref 45), some (.int x1)] (v.toList ++ []) M Q)) :=
  (sm_blk X 23 64 (tt_lin 23 (by decide)) rfl rfl _ _ _ _).trans rfl
set_option maxRecDepth 100000 in
theorem bk_23_72 (X : (Nat → Int32) × Nat) (mo : Bool) (G : Nat × Nat) (I : Nat → Nat → Int32) (J : Nat → Nat → Int64) (Q : Option Value → sm_M → Prop) (x1 : Int32) (s0 : Int32) :
    sm_wp X 23 72 [some (.ref 45), some (.int x1)] [.int s0] (sM mo G I J) Q =
    (if ¬ (s0 : Int32) = 0 then sm_wp X 23 86 [some (.ref 45), some (.int x1)] [] (sM mo G I J) Q else (sm_wp X 24 0 [some (.ref 45), some (.int x1), some (.int 0), none, none, none, none, none] [] (sM mo G I J) (fun v M => sm_wp X 23 83 [some (.ref 45), some (.int x1)] (v.toList ++ [.int x1, .ref 45]) M Q))) :=
  (sm_blk X 23 72 (tt_lin 23 (by decide)) rfl rfl _ _ _ _).trans rfl
set_option maxRecDepth 100000 in
theorem bk_23_83 (X : (Nat → Int32) × Nat) (mo : Bool) (G : Nat × Nat) (I : Nat → Nat → Int32) (J : Nat → Nat → Int64) (Q : Option Value → sm_M → Prop) (x1 : Int32) (s1 : Int32) (s2 : Int32) :
    sm_wp X 23 83 [some (.ref 45), some (.int x1)] [.int s2, .int s1, .ref 45] (sM mo G I J) Q =
    (sm_wp X 32 0 [some (.ref 45), some (.int s1), some (.int s2), none, none] [] (sM mo G I J) (fun v M => sm_wp X 23 86 [some (.ref 45), some (.int x1)] (v.toList ++ []) M Q)) :=
  (sm_blk X 23 83 (tt_lin 23 (by decide)) rfl rfl _ _ _ _).trans rfl
set_option maxRecDepth 100000 in
theorem bk_23_86 (X : (Nat → Int32) × Nat) (mo : Bool) (G : Nat × Nat) (I : Nat → Nat → Int32) (J : Nat → Nat → Int64) (Q : Option Value → sm_M → Prop) (x1 : Int32) :
    sm_wp X 23 86 [some (.ref 45), some (.int x1)] [] (sM mo G I J) Q =
    (sm_wp X 70 0 [some (.ref 31), some (.int x1)] [] (sM mo G I J) (fun v M => sm_wp X 23 94 [some (.ref 45), some (.int x1)] (v.toList ++ []) M Q)) :=
  (sm_blk X 23 86 (tt_lin 23 (by decide)) rfl rfl _ _ _ _).trans rfl
set_option maxRecDepth 100000 in
theorem bk_23_94 (X : (Nat → Int32) × Nat) (mo : Bool) (G : Nat × Nat) (I : Nat → Nat → Int32) (J : Nat → Nat → Int64) (Q : Option Value → sm_M → Prop) (x1 : Int32) (s0 : Int32) :
    sm_wp X 23 94 [some (.ref 45), some (.int x1)] [.int s0] (sM mo G I J) Q =
    (if ¬ (s0 : Int32) = (1 : Int32) then sm_wp X 23 127 [some (.ref 45), some (.int x1)] [] (sM mo G I J) Q else (sm_wp X 80 0 [some (.ref 31), some (.int x1)] [] (sM mo G I J) (fun v M => sm_wp X 23 113 [some (.ref 45), some (.int x1)] (v.toList ++ [.int (I 1 3)]) M Q))) :=
  (sm_blk X 23 94 (tt_lin 23 (by decide)) rfl rfl _ _ _ _).trans rfl
set_option maxRecDepth 100000 in
theorem bk_23_113 (X : (Nat → Int32) × Nat) (mo : Bool) (G : Nat × Nat) (I : Nat → Nat → Int32) (J : Nat → Nat → Int64) (Q : Option Value → sm_M → Prop) (x1 : Int32) (s0 : Int32) (s1 : Int32) :
    sm_wp X 23 113 [some (.ref 45), some (.int x1)] [.int s1, .int s0] (sM mo G I J) Q =
    (if (s0 : Int32) < (s1 : Int32) then sm_wp X 23 127 [some (.ref 45), some (.int x1)] [] (sM mo G I J) Q else (sm_wp X 24 0 [some (.ref 45), some (.int x1), some (.int 1), none, none, none, none, none] [] (sM mo G I J) (fun v M => sm_wp X 23 124 [some (.ref 45), some (.int x1)] (v.toList ++ [.int x1, .ref 45]) M Q))) :=
  (sm_blk X 23 113 (tt_lin 23 (by decide)) rfl rfl _ _ _ _).trans rfl
set_option maxRecDepth 100000 in
theorem bk_23_124 (X : (Nat → Int32) × Nat) (mo : Bool) (G : Nat × Nat) (I : Nat → Nat → Int32) (J : Nat → Nat → Int64) (Q : Option Value → sm_M → Prop) (x1 : Int32) (s1 : Int32) (s2 : Int32) :
    sm_wp X 23 124 [some (.ref 45), some (.int x1)] [.int s2, .int s1, .ref 45] (sM mo G I J) Q =
    (sm_wp X 33 0 [some (.ref 45), some (.int s1), some (.int s2)] [] (sM mo G I J) (fun v M => sm_wp X 23 127 [some (.ref 45), some (.int x1)] (v.toList ++ []) M Q)) :=
  (sm_blk X 23 124 (tt_lin 23 (by decide)) rfl rfl _ _ _ _).trans rfl
set_option maxRecDepth 100000 in
theorem bk_23_127 (X : (Nat → Int32) × Nat) (mo : Bool) (G : Nat × Nat) (I : Nat → Nat → Int32) (J : Nat → Nat → Int64) (Q : Option Value → sm_M → Prop) (x1 : Int32) :
    sm_wp X 23 127 [some (.ref 45), some (.int x1)] [] (sM mo G I J) Q =
    (True ∧ Q none (sM mo G I J)) :=
  (sm_blk X 23 127 (tt_lin 23 (by decide)) rfl rfl _ _ _ _).trans rfl
set_option maxRecDepth 100000 in
theorem bk_24_0 (X : (Nat → Int32) × Nat) (mo : Bool) (G : Nat × Nat) (I : Nat → Nat → Int32) (J : Nat → Nat → Int64) (Q : Option Value → sm_M → Prop) (x1 : Int32) (x2 : Int32) :
    sm_wp X 24 0 [some (.ref 45), some (.int x1), some (.int x2), none, none, none, none, none] [] (sM mo G I J) Q =
    (sm_wp X 73 0 [some (.ref 31), some (.int x1)] [] (sM mo G I J) (fun v M => sm_wp X 24 8 [some (.ref 45), some (.int x1), some (.int x2), none, none, none, none, none] (v.toList ++ []) M Q)) :=
  (sm_blk X 24 0 (tt_lin 24 (by decide)) rfl rfl _ _ _ _).trans rfl
set_option maxRecDepth 100000 in
theorem bk_24_8 (X : (Nat → Int32) × Nat) (mo : Bool) (G : Nat × Nat) (I : Nat → Nat → Int32) (J : Nat → Nat → Int64) (Q : Option Value → sm_M → Prop) (x1 : Int32) (x2 : Int32) (s0 : Int32) :
    sm_wp X 24 8 [some (.ref 45), some (.int x1), some (.int x2), none, none, none, none, none] [.int s0] (sM mo G I J) Q =
    (sm_wp X 41 0 [some (.ref 21), some (.int s0)] [] (sM mo G I J) (fun v M => sm_wp X 24 17 [some (.ref 45), some (.int x1), some (.int x2), some (.int s0), none, none, none, none] (v.toList ++ []) M Q)) :=
  (sm_blk X 24 8 (tt_lin 24 (by decide)) rfl rfl _ _ _ _).trans rfl
set_option maxRecDepth 100000 in
theorem bk_24_17 (X : (Nat → Int32) × Nat) (mo : Bool) (G : Nat × Nat) (I : Nat → Nat → Int32) (J : Nat → Nat → Int64) (Q : Option Value → sm_M → Prop) (x1 : Int32) (x2 : Int32) (x3 : Int32) (s0 : Int32) :
    sm_wp X 24 17 [some (.ref 45), some (.int x1), some (.int x2), some (.int x3), none, none, none, none] [.int s0] (sM mo G I J) Q =
    (sm_wp X 25 0 [some (.ref 45), some (.int x1), none, none, none, none, none, none] [] (sM mo G I J) (fun v M => sm_wp X 24 24 [some (.ref 45), some (.int x1), some (.int x2), some (.int x3), some (.int s0), none, none, none] (v.toList ++ []) M Q)) :=
  (sm_blk X 24 17 (tt_lin 24 (by decide)) rfl rfl _ _ _ _).trans rfl
set_option maxRecDepth 100000 in
theorem bk_24_24 (X : (Nat → Int32) × Nat) (mo : Bool) (G : Nat × Nat) (I : Nat → Nat → Int32) (J : Nat → Nat → Int64) (Q : Option Value → sm_M → Prop) (x1 : Int32) (x2 : Int32) (x3 : Int32) (x4 : Int32) :
    sm_wp X 24 24 [some (.ref 45), some (.int x1), some (.int x2), some (.int x3), some (.int x4), none, none, none] [] (sM mo G I J) Q =
    (sm_wp X 24 27 [some (.ref 45), none, some (.int x2), some (.int x3), some (.int x4), some (.int 0), none, none] [] (sM mo G I J) Q) :=
  (sm_blk X 24 24 (tt_lin 24 (by decide)) rfl rfl _ _ _ _).trans rfl
set_option maxRecDepth 100000 in
theorem bk_24_27 (X : (Nat → Int32) × Nat) (mo : Bool) (G : Nat × Nat) (I : Nat → Nat → Int32) (J : Nat → Nat → Int64) (Q : Option Value → sm_M → Prop) (x2 : Int32) (x3 : Int32) (x4 : Int32) (x5 : Int32) :
    sm_wp X 24 27 [some (.ref 45), none, some (.int x2), some (.int x3), some (.int x4), some (.int x5), none, none] [] (sM mo G I J) Q =
    (if (x4 : Int32) ≤ (x5 : Int32) then sm_wp X 24 91 [some (.ref 45), none, some (.int x2), some (.int x3), some (.int x4), some (.int x5), none, none] [] (sM mo G I J) Q else (sm_wp X 42 0 [some (.ref 21), some (.int x3), some (.int x5)] [] (sM mo G I J) (fun v M => sm_wp X 24 44 [some (.ref 45), none, some (.int x2), some (.int x3), some (.int x4), some (.int x5), none, none] (v.toList ++ []) M Q))) :=
  (sm_blk X 24 27 (tt_lin 24 (by decide)) rfl rfl _ _ _ _).trans rfl
set_option maxRecDepth 100000 in
theorem bk_24_44 (X : (Nat → Int32) × Nat) (mo : Bool) (G : Nat × Nat) (I : Nat → Nat → Int32) (J : Nat → Nat → Int64) (Q : Option Value → sm_M → Prop) (x2 : Int32) (x3 : Int32) (x4 : Int32) (x5 : Int32) (s0 : Int32) :
    sm_wp X 24 44 [some (.ref 45), none, some (.int x2), some (.int x3), some (.int x4), some (.int x5), none, none] [.int s0] (sM mo G I J) Q =
    (if ¬ (s0 : Int32) = (3 : Int32) then sm_wp X 24 52 [some (.ref 45), none, some (.int x2), some (.int x3), some (.int x4), some (.int x5), none, none] [] (sM mo G I J) Q else (sm_wp X 24 53 [some (.ref 45), none, some (.int x2), some (.int x3), some (.int x4), some (.int x5), none, none] [.int 1] (sM mo G I J) Q)) :=
  (sm_blk X 24 44 (tt_lin 24 (by decide)) rfl rfl _ _ _ _).trans rfl
set_option maxRecDepth 100000 in
theorem bk_24_52 (X : (Nat → Int32) × Nat) (mo : Bool) (G : Nat × Nat) (I : Nat → Nat → Int32) (J : Nat → Nat → Int64) (Q : Option Value → sm_M → Prop) (x2 : Int32) (x3 : Int32) (x4 : Int32) (x5 : Int32) :
    sm_wp X 24 52 [some (.ref 45), none, some (.int x2), some (.int x3), some (.int x4), some (.int x5), none, none] [] (sM mo G I J) Q =
    (if ¬ (0 : Int32) = (x2 : Int32) then sm_wp X 24 85 [some (.ref 45), none, some (.int x2), some (.int x3), some (.int x4), some (.int x5), none, none] [] (sM mo G I J) Q else (sm_wp X 26 0 [some (.ref 45), some (.int x3), some (.int x5), none, none, none, none] [] (sM mo G I J) (fun v M => sm_wp X 24 64 [some (.ref 45), none, some (.int x2), some (.int x3), some (.int x4), some (.int x5), none, none] (v.toList ++ []) M Q))) :=
  (sm_blk X 24 52 (tt_lin 24 (by decide)) rfl rfl _ _ _ _).trans rfl
set_option maxRecDepth 100000 in
theorem bk_24_53 (X : (Nat → Int32) × Nat) (mo : Bool) (G : Nat × Nat) (I : Nat → Nat → Int32) (J : Nat → Nat → Int64) (Q : Option Value → sm_M → Prop) (x2 : Int32) (x3 : Int32) (x4 : Int32) (x5 : Int32) (s0 : Int32) :
    sm_wp X 24 53 [some (.ref 45), none, some (.int x2), some (.int x3), some (.int x4), some (.int x5), none, none] [.int s0] (sM mo G I J) Q =
    (if ¬ (s0 : Int32) = (x2 : Int32) then sm_wp X 24 85 [some (.ref 45), none, some (.int x2), some (.int x3), some (.int x4), some (.int x5), none, none] [] (sM mo G I J) Q else (sm_wp X 26 0 [some (.ref 45), some (.int x3), some (.int x5), none, none, none, none] [] (sM mo G I J) (fun v M => sm_wp X 24 64 [some (.ref 45), none, some (.int x2), some (.int x3), some (.int x4), some (.int x5), none, none] (v.toList ++ []) M Q))) :=
  (sm_blk X 24 53 (tt_lin 24 (by decide)) rfl rfl _ _ _ _).trans rfl
set_option maxRecDepth 100000 in
theorem bk_24_64 (X : (Nat → Int32) × Nat) (mo : Bool) (G : Nat × Nat) (I : Nat → Nat → Int32) (J : Nat → Nat → Int64) (Q : Option Value → sm_M → Prop) (x2 : Int32) (x3 : Int32) (x4 : Int32) (x5 : Int32) (s0 : Int64) :
    sm_wp X 24 64 [some (.ref 45), none, some (.int x2), some (.int x3), some (.int x4), some (.int x5), none, none] [.long s0] (sM mo G I J) Q =
    (if (lg_cmp s0 (-9223372036854775808) : Int32) = 0 then sm_wp X 24 85 [some (.ref 45), none, some (.int x2), some (.int x3), some (.int x4), some (.int x5), some (.long s0), none] [] (sM mo G I J) Q else (if (lg_cmp s0 0 : Int32) = 0 then sm_wp X 24 85 [some (.ref 45), none, some (.int x2), some (.int x3), some (.int x4), some (.int x5), some (.long s0), none] [] (sM mo G I J) Q else (True ∧ Q (some (.int x5)) (sM mo G I J)))) :=
  (sm_blk X 24 64 (tt_lin 24 (by decide)) rfl rfl _ _ _ _).trans rfl
set_option maxRecDepth 100000 in
theorem bk_24_85 (X : (Nat → Int32) × Nat) (mo : Bool) (G : Nat × Nat) (I : Nat → Nat → Int32) (J : Nat → Nat → Int64) (Q : Option Value → sm_M → Prop) (x2 : Int32) (x3 : Int32) (x4 : Int32) (x5 : Int32) :
    sm_wp X 24 85 [some (.ref 45), none, some (.int x2), some (.int x3), some (.int x4), some (.int x5), none, none] [] (sM mo G I J) Q =
    (sm_wp X 24 27 [some (.ref 45), none, some (.int x2), some (.int x3), some (.int x4), some (.int (x5 + 1)), none, none] [] (sM mo G I J) Q) :=
  (sm_blk X 24 85 (tt_lin 24 (by decide)) rfl rfl _ _ _ _).trans rfl
set_option maxRecDepth 100000 in
theorem bk_24_91 (X : (Nat → Int32) × Nat) (mo : Bool) (G : Nat × Nat) (I : Nat → Nat → Int32) (J : Nat → Nat → Int64) (Q : Option Value → sm_M → Prop) (x2 : Int32) (x3 : Int32) (x4 : Int32) (x5 : Int32) :
    sm_wp X 24 91 [some (.ref 45), none, some (.int x2), some (.int x3), some (.int x4), some (.int x5), none, none] [] (sM mo G I J) Q =
    (True ∧ Q (some (.int (-1))) (sM mo G I J)) :=
  (sm_blk X 24 91 (tt_lin 24 (by decide)) rfl rfl _ _ _ _).trans rfl
set_option maxRecDepth 100000 in
theorem bk_25_0 (X : (Nat → Int32) × Nat) (mo : Bool) (G : Nat × Nat) (I : Nat → Nat → Int32) (J : Nat → Nat → Int64) (Q : Option Value → sm_M → Prop) (x1 : Int32) :
    sm_wp X 25 0 [some (.ref 45), some (.int x1), none, none, none, none, none, none] [] (sM mo G I J) Q =
    (sm_wp X 73 0 [some (.ref 31), some (.int x1)] [] (sM mo G I J) (fun v M => sm_wp X 25 8 [some (.ref 45), some (.int x1), none, none, none, none, none, none] (v.toList ++ []) M Q)) :=
  (sm_blk X 25 0 (tt_lin 25 (by decide)) rfl rfl _ _ _ _).trans rfl
set_option maxRecDepth 100000 in
theorem bk_25_8 (X : (Nat → Int32) × Nat) (mo : Bool) (G : Nat × Nat) (I : Nat → Nat → Int32) (J : Nat → Nat → Int64) (Q : Option Value → sm_M → Prop) (x1 : Int32) (s0 : Int32) :
    sm_wp X 25 8 [some (.ref 45), some (.int x1), none, none, none, none, none, none] [.int s0] (sM mo G I J) Q =
    (sm_wp X 75 0 [some (.ref 31), some (.int x1)] [] (sM mo G I J) (fun v M => sm_wp X 25 17 [some (.ref 45), some (.int x1), some (.int s0), none, none, none, none, none] (v.toList ++ []) M Q)) :=
  (sm_blk X 25 8 (tt_lin 25 (by decide)) rfl rfl _ _ _ _).trans rfl
set_option maxRecDepth 100000 in
theorem bk_25_17 (X : (Nat → Int32) × Nat) (mo : Bool) (G : Nat × Nat) (I : Nat → Nat → Int32) (J : Nat → Nat → Int64) (Q : Option Value → sm_M → Prop) (x1 : Int32) (x2 : Int32) (s0 : Int32) :
    sm_wp X 25 17 [some (.ref 45), some (.int x1), some (.int x2), none, none, none, none, none] [.int s0] (sM mo G I J) Q =
    (sm_wp X 76 0 [some (.ref 31), some (.int x1)] [] (sM mo G I J) (fun v M => sm_wp X 25 26 [some (.ref 45), some (.int x1), some (.int x2), some (.int s0), none, none, none, none] (v.toList ++ []) M Q)) :=
  (sm_blk X 25 17 (tt_lin 25 (by decide)) rfl rfl _ _ _ _).trans rfl
set_option maxRecDepth 100000 in
theorem bk_25_26 (X : (Nat → Int32) × Nat) (mo : Bool) (G : Nat × Nat) (I : Nat → Nat → Int32) (J : Nat → Nat → Int64) (Q : Option Value → sm_M → Prop) (x1 : Int32) (x2 : Int32) (x3 : Int32) (s0 : Int32) :
    sm_wp X 25 26 [some (.ref 45), some (.int x1), some (.int x2), some (.int x3), none, none, none, none] [.int s0] (sM mo G I J) Q =
    (sm_wp X 103 0 [some (.ref 1), some (.int x2), some (.int x3), none, none] [] (sM mo G I J) (fun v M => sm_wp X 25 37 [some (.ref 45), some (.int x1), some (.int x2), some (.int x3), some (.int s0), none, none, none] (v.toList ++ []) M Q)) :=
  (sm_blk X 25 26 (tt_lin 25 (by decide)) rfl rfl _ _ _ _).trans rfl
set_option maxRecDepth 100000 in
theorem bk_25_37 (X : (Nat → Int32) × Nat) (mo : Bool) (G : Nat × Nat) (I : Nat → Nat → Int32) (J : Nat → Nat → Int64) (Q : Option Value → sm_M → Prop) (x1 : Int32) (x2 : Int32) (x3 : Int32) (x4 : Int32) (s0 : Int32) :
    sm_wp X 25 37 [some (.ref 45), some (.int x1), some (.int x2), some (.int x3), some (.int x4), none, none, none] [.int s0] (sM mo G I J) Q =
    (sm_wp X 103 0 [some (.ref 1), some (.int x2), some (.int x4), none, none] [] (sM mo G I J) (fun v M => sm_wp X 25 49 [some (.ref 45), some (.int x1), some (.int x2), some (.int x3), some (.int x4), some (.int s0), none, none] (v.toList ++ []) M Q)) :=
  (sm_blk X 25 37 (tt_lin 25 (by decide)) rfl rfl _ _ _ _).trans rfl
set_option maxRecDepth 100000 in
theorem bk_25_49 (X : (Nat → Int32) × Nat) (mo : Bool) (G : Nat × Nat) (I : Nat → Nat → Int32) (J : Nat → Nat → Int64) (Q : Option Value → sm_M → Prop) (x1 : Int32) (x2 : Int32) (x3 : Int32) (x4 : Int32) (x5 : Int32) (s0 : Int32) :
    sm_wp X 25 49 [some (.ref 45), some (.int x1), some (.int x2), some (.int x3), some (.int x4), some (.int x5), none, none] [.int s0] (sM mo G I J) Q =
    (sm_wp X 105 0 [some (.ref 1), some (.int x2), none, none] [] (sM mo G I J) (fun v M => sm_wp X 25 59 [some (.ref 45), some (.int x1), some (.int x2), some (.int x3), some (.int x4), some (.int x5), some (.int s0), none] (v.toList ++ []) M Q)) :=
  (sm_blk X 25 49 (tt_lin 25 (by decide)) rfl rfl _ _ _ _).trans rfl
set_option maxRecDepth 100000 in
theorem bk_25_59 (X : (Nat → Int32) × Nat) (mo : Bool) (G : Nat × Nat) (I : Nat → Nat → Int32) (J : Nat → Nat → Int64) (Q : Option Value → sm_M → Prop) (x1 : Int32) (x2 : Int32) (x3 : Int32) (x4 : Int32) (x5 : Int32) (x6 : Int32) (s0 : Int32) :
    sm_wp X 25 59 [some (.ref 45), some (.int x1), some (.int x2), some (.int x3), some (.int x4), some (.int x5), some (.int x6), none] [.int s0] (sM mo G I J) Q =
    (vp_in 0 12 ∧ (vp_in 1 12 ∧ (vp_in 2 12 ∧ (sm_wp X 106 0 [some (.ref 1), some (.int x3), none, none] [] (sM mo G I (up2 (up2 (up2 J 46 (0 : Int32).toNatClampNeg ((x5 - x6).toInt64)) 46 (1 : Int32).toNatClampNeg (x5.toInt64)) 46 (2 : Int32).toNatClampNeg (x6.toInt64))) (fun v M => sm_wp X 25 104 [some (.ref 45), some (.int x1), some (.int x2), some (.int x3), some (.int x4), some (.int x5), some (.int x6), some (.int s0)] (v.toList ++ [.int 3, .ref 46]) M Q))))) :=
  (sm_blk X 25 59 (tt_lin 25 (by decide)) rfl rfl _ _ _ _).trans rfl
set_option maxRecDepth 100000 in
theorem bk_25_104 (X : (Nat → Int32) × Nat) (mo : Bool) (G : Nat × Nat) (I : Nat → Nat → Int32) (J : Nat → Nat → Int64) (Q : Option Value → sm_M → Prop) (x1 : Int32) (x2 : Int32) (x3 : Int32) (x4 : Int32) (x5 : Int32) (x6 : Int32) (x7 : Int32) (s1 : Int32) (s2 : Int32) :
    sm_wp X 25 104 [some (.ref 45), some (.int x1), some (.int x2), some (.int x3), some (.int x4), some (.int x5), some (.int x6), some (.int x7)] [.int s2, .int s1, .ref 46] (sM mo G I J) Q =
    (sm_wp X 106 0 [some (.ref 1), some (.int x4), none, none] [] (sM mo G I J) (fun v M => sm_wp X 25 113 [some (.ref 45), some (.int x1), some (.int x2), some (.int x3), some (.int x4), some (.int x5), some (.int x6), some (.int x7)] (v.toList ++ [.int s2, .int s1, .ref 46]) M Q)) :=
  (sm_blk X 25 104 (tt_lin 25 (by decide)) rfl rfl _ _ _ _).trans rfl
set_option maxRecDepth 100000 in
theorem bk_25_113 (X : (Nat → Int32) × Nat) (mo : Bool) (G : Nat × Nat) (I : Nat → Nat → Int32) (J : Nat → Nat → Int64) (Q : Option Value → sm_M → Prop) (x1 : Int32) (x2 : Int32) (x3 : Int32) (x4 : Int32) (x5 : Int32) (x6 : Int32) (x7 : Int32) (s1 : Int32) (s2 : Int32) (s3 : Int32) :
    sm_wp X 25 113 [some (.ref 45), some (.int x1), some (.int x2), some (.int x3), some (.int x4), some (.int x5), some (.int x6), some (.int x7)] [.int s3, .int s2, .int s1, .ref 46] (sM mo G I J) Q =
    (vp_in s1 12 ∧ (sm_wp X 107 0 [some (.ref 1), some (.int x3), some (.int (x7 &&& (x4 ^^^ (-1)))), none, none] [] (sM mo G I (up2 J 46 s1.toNatClampNeg ((s2 - s3).toInt64))) (fun v M => sm_wp X 25 136 [some (.ref 45), some (.int x1), some (.int x2), some (.int x3), some (.int x4), some (.int x5), some (.int x6), some (.int x7)] (v.toList ++ [.int 4, .ref 46]) M Q))) :=
  (sm_blk X 25 113 (tt_lin 25 (by decide)) rfl rfl _ _ _ _).trans rfl
set_option maxRecDepth 100000 in
theorem bk_25_136 (X : (Nat → Int32) × Nat) (mo : Bool) (G : Nat × Nat) (I : Nat → Nat → Int32) (J : Nat → Nat → Int64) (Q : Option Value → sm_M → Prop) (x1 : Int32) (x2 : Int32) (x3 : Int32) (x4 : Int32) (x5 : Int32) (x6 : Int32) (x7 : Int32) (s1 : Int32) (s2 : Int32) :
    sm_wp X 25 136 [some (.ref 45), some (.int x1), some (.int x2), some (.int x3), some (.int x4), some (.int x5), some (.int x6), some (.int x7)] [.int s2, .int s1, .ref 46] (sM mo G I J) Q =
    (vp_in s1 12 ∧ (sm_wp X 103 0 [some (.ref 1), some (.int x2), some (.int x7), none, none] [] (sM mo G I (up2 J 46 s1.toNatClampNeg (s2.toInt64))) (fun v M => sm_wp X 25 153 [some (.ref 45), some (.int x1), some (.int x2), some (.int x3), some (.int x4), some (.int x5), some (.int x6), some (.int x7)] (v.toList ++ [.int 5, .ref 46]) M Q))) :=
  (sm_blk X 25 136 (tt_lin 25 (by decide)) rfl rfl _ _ _ _).trans rfl
set_option maxRecDepth 100000 in
theorem bk_25_153 (X : (Nat → Int32) × Nat) (mo : Bool) (G : Nat × Nat) (I : Nat → Nat → Int32) (J : Nat → Nat → Int64) (Q : Option Value → sm_M → Prop) (x1 : Int32) (x2 : Int32) (x3 : Int32) (x4 : Int32) (x5 : Int32) (x6 : Int32) (x7 : Int32) (s1 : Int32) (s2 : Int32) :
    sm_wp X 25 153 [some (.ref 45), some (.int x1), some (.int x2), some (.int x3), some (.int x4), some (.int x5), some (.int x6), some (.int x7)] [.int s2, .int s1, .ref 46] (sM mo G I J) Q =
    (vp_in s1 12 ∧ (sm_wp X 108 0 [some (.ref 1), some (.int x2)] [] (sM mo G I (up2 J 46 s1.toNatClampNeg (s2.toInt64))) (fun v M => sm_wp X 25 169 [some (.ref 45), some (.int x1), some (.int x2), some (.int x3), some (.int x4), some (.int x5), some (.int x6), some (.int x7)] (v.toList ++ [.int 6, .ref 46]) M Q))) :=
  (sm_blk X 25 153 (tt_lin 25 (by decide)) rfl rfl _ _ _ _).trans rfl
set_option maxRecDepth 100000 in
theorem bk_25_169 (X : (Nat → Int32) × Nat) (mo : Bool) (G : Nat × Nat) (I : Nat → Nat → Int32) (J : Nat → Nat → Int64) (Q : Option Value → sm_M → Prop) (x1 : Int32) (x2 : Int32) (x3 : Int32) (x4 : Int32) (x5 : Int32) (x6 : Int32) (x7 : Int32) (s1 : Int32) (s2 : Int32) :
    sm_wp X 25 169 [some (.ref 45), some (.int x1), some (.int x2), some (.int x3), some (.int x4), some (.int x5), some (.int x6), some (.int x7)] [.int s2, .int s1, .ref 46] (sM mo G I J) Q =
    (vp_in s1 12 ∧ (sm_wp X 109 0 [some (.ref 1), some (.int x2)] [] (sM mo G I (up2 J 46 s1.toNatClampNeg (s2.toInt64))) (fun v M => sm_wp X 25 185 [some (.ref 45), some (.int x1), some (.int x2), some (.int x3), some (.int x4), some (.int x5), some (.int x6), some (.int x7)] (v.toList ++ [.int 7, .ref 46]) M Q))) :=
  (sm_blk X 25 169 (tt_lin 25 (by decide)) rfl rfl _ _ _ _).trans rfl
set_option maxRecDepth 100000 in
theorem bk_25_185 (X : (Nat → Int32) × Nat) (mo : Bool) (G : Nat × Nat) (I : Nat → Nat → Int32) (J : Nat → Nat → Int64) (Q : Option Value → sm_M → Prop) (x1 : Int32) (x2 : Int32) (x3 : Int32) (x4 : Int32) (x5 : Int32) (x6 : Int32) (x7 : Int32) (s1 : Int32) (s2 : Int32) :
    sm_wp X 25 185 [some (.ref 45), some (.int x1), some (.int x2), some (.int x3), some (.int x4), some (.int x5), some (.int x6), some (.int x7)] [.int s2, .int s1, .ref 46] (sM mo G I J) Q =
    (vp_in s1 12 ∧ (sm_wp X 72 0 [some (.ref 31), some (.int x1)] [] (sM mo G I (up2 J 46 s1.toNatClampNeg (s2.toInt64))) (fun v M => sm_wp X 25 205 [some (.ref 45), some (.int x1), some (.int x2), some (.int x3), some (.int x4), some (.int x5), some (.int x6), some (.int x7)] (v.toList ++ [.ref 1, .int 8, .ref 46]) M Q))) :=
  (sm_blk X 25 185 (tt_lin 25 (by decide)) rfl rfl _ _ _ _).trans rfl
set_option maxRecDepth 100000 in
theorem bk_25_205 (X : (Nat → Int32) × Nat) (mo : Bool) (G : Nat × Nat) (I : Nat → Nat → Int32) (J : Nat → Nat → Int64) (Q : Option Value → sm_M → Prop) (x1 : Int32) (x2 : Int32) (x3 : Int32) (x4 : Int32) (x5 : Int32) (x6 : Int32) (x7 : Int32) (s1 : Int32) (s3 : Int32) :
    sm_wp X 25 205 [some (.ref 45), some (.int x1), some (.int x2), some (.int x3), some (.int x4), some (.int x5), some (.int x6), some (.int x7)] [.int s3, .ref 1, .int s1, .ref 46] (sM mo G I J) Q =
    (sm_wp X 109 0 [some (.ref 1), some (.int s3)] [] (sM mo G I J) (fun v M => sm_wp X 25 208 [some (.ref 45), some (.int x1), some (.int x2), some (.int x3), some (.int x4), some (.int x5), some (.int x6), some (.int x7)] (v.toList ++ [.int s1, .ref 46]) M Q)) :=
  (sm_blk X 25 205 (tt_lin 25 (by decide)) rfl rfl _ _ _ _).trans rfl
set_option maxRecDepth 100000 in
theorem bk_25_208 (X : (Nat → Int32) × Nat) (mo : Bool) (G : Nat × Nat) (I : Nat → Nat → Int32) (J : Nat → Nat → Int64) (Q : Option Value → sm_M → Prop) (x1 : Int32) (x2 : Int32) (x3 : Int32) (x4 : Int32) (x5 : Int32) (x6 : Int32) (x7 : Int32) (s1 : Int32) (s2 : Int32) :
    sm_wp X 25 208 [some (.ref 45), some (.int x1), some (.int x2), some (.int x3), some (.int x4), some (.int x5), some (.int x6), some (.int x7)] [.int s2, .int s1, .ref 46] (sM mo G I J) Q =
    (vp_in s1 12 ∧ (vp_in 9 12 ∧ (sm_wp X 71 0 [some (.ref 31), some (.int x1)] [] (sM mo G I (up2 (up2 J 46 s1.toNatClampNeg (s2.toInt64)) 46 (9 : Int32).toNatClampNeg ((I 1 3).toInt64))) (fun v M => sm_wp X 25 239 [some (.ref 45), some (.int x1), some (.int x2), some (.int x3), some (.int x4), some (.int x5), some (.int x6), some (.int x7)] (v.toList ++ [.int 10, .ref 46]) M Q)))) :=
  (sm_blk X 25 208 (tt_lin 25 (by decide)) rfl rfl _ _ _ _).trans rfl
set_option maxRecDepth 100000 in
theorem bk_25_239 (X : (Nat → Int32) × Nat) (mo : Bool) (G : Nat × Nat) (I : Nat → Nat → Int32) (J : Nat → Nat → Int64) (Q : Option Value → sm_M → Prop) (x1 : Int32) (x2 : Int32) (x3 : Int32) (x4 : Int32) (x5 : Int32) (x6 : Int32) (x7 : Int32) (s1 : Int32) (s2 : Int32) :
    sm_wp X 25 239 [some (.ref 45), some (.int x1), some (.int x2), some (.int x3), some (.int x4), some (.int x5), some (.int x6), some (.int x7)] [.int s2, .int s1, .ref 46] (sM mo G I J) Q =
    (vp_in s1 12 ∧ (sm_wp X 77 0 [some (.ref 31), some (.int x1)] [] (sM mo G I (up2 J 46 s1.toNatClampNeg ((s2 - (I 1 3)).toInt64))) (fun v M => sm_wp X 25 263 [some (.ref 45), some (.int x1), some (.int x2), some (.int x3), some (.int x4), some (.int x5), some (.int x6), some (.int x7)] (v.toList ++ [.int 11, .ref 46]) M Q))) :=
  (sm_blk X 25 239 (tt_lin 25 (by decide)) rfl rfl _ _ _ _).trans rfl
set_option maxRecDepth 100000 in
theorem bk_25_263 (X : (Nat → Int32) × Nat) (mo : Bool) (G : Nat × Nat) (I : Nat → Nat → Int32) (J : Nat → Nat → Int64) (Q : Option Value → sm_M → Prop) (x1 : Int32) (x2 : Int32) (x3 : Int32) (x4 : Int32) (x5 : Int32) (x6 : Int32) (x7 : Int32) (s1 : Int32) (s2 : Int32) :
    sm_wp X 25 263 [some (.ref 45), some (.int x1), some (.int x2), some (.int x3), some (.int x4), some (.int x5), some (.int x6), some (.int x7)] [.int s2, .int s1, .ref 46] (sM mo G I J) Q =
    (if (s2 : Int32) = 0 then sm_wp X 25 270 [some (.ref 45), some (.int x1), some (.int x2), some (.int x3), some (.int x4), some (.int x5), some (.int x6), some (.int x7)] [.int s1, .ref 46] (sM mo G I J) Q else (sm_wp X 25 271 [some (.ref 45), some (.int x1), some (.int x2), some (.int x3), some (.int x4), some (.int x5), some (.int x6), some (.int x7)] [.long 1, .int s1, .ref 46] (sM mo G I J) Q)) :=
  (sm_blk X 25 263 (tt_lin 25 (by decide)) rfl rfl _ _ _ _).trans rfl
set_option maxRecDepth 100000 in
theorem bk_25_270 (X : (Nat → Int32) × Nat) (mo : Bool) (G : Nat × Nat) (I : Nat → Nat → Int32) (J : Nat → Nat → Int64) (Q : Option Value → sm_M → Prop) (x1 : Int32) (x2 : Int32) (x3 : Int32) (x4 : Int32) (x5 : Int32) (x6 : Int32) (x7 : Int32) (s1 : Int32) :
    sm_wp X 25 270 [some (.ref 45), some (.int x1), some (.int x2), some (.int x3), some (.int x4), some (.int x5), some (.int x6), some (.int x7)] [.int s1, .ref 46] (sM mo G I J) Q =
    (vp_in s1 12 ∧ (True ∧ Q none (sM mo G I (up2 J 46 s1.toNatClampNeg 0)))) :=
  (sm_blk X 25 270 (tt_lin 25 (by decide)) rfl rfl _ _ _ _).trans rfl
set_option maxRecDepth 100000 in
theorem bk_25_271 (X : (Nat → Int32) × Nat) (mo : Bool) (G : Nat × Nat) (I : Nat → Nat → Int32) (J : Nat → Nat → Int64) (Q : Option Value → sm_M → Prop) (x1 : Int32) (x2 : Int32) (x3 : Int32) (x4 : Int32) (x5 : Int32) (x6 : Int32) (x7 : Int32) (s1 : Int32) (s2 : Int64) :
    sm_wp X 25 271 [some (.ref 45), some (.int x1), some (.int x2), some (.int x3), some (.int x4), some (.int x5), some (.int x6), some (.int x7)] [.long s2, .int s1, .ref 46] (sM mo G I J) Q =
    (vp_in s1 12 ∧ (True ∧ Q none (sM mo G I (up2 J 46 s1.toNatClampNeg s2)))) :=
  (sm_blk X 25 271 (tt_lin 25 (by decide)) rfl rfl _ _ _ _).trans rfl
set_option maxRecDepth 100000 in
theorem bk_26_0 (X : (Nat → Int32) × Nat) (mo : Bool) (G : Nat × Nat) (I : Nat → Nat → Int32) (J : Nat → Nat → Int64) (Q : Option Value → sm_M → Prop) (x1 : Int32) (x2 : Int32) :
    sm_wp X 26 0 [some (.ref 45), some (.int x1), some (.int x2), none, none, none, none] [] (sM mo G I J) Q =
    (sm_wp X 44 0 [some (.ref 21), some (.int x1), some (.int x2)] [] (sM mo G I J) (fun v M => sm_wp X 26 9 [some (.ref 45), some (.int x1), some (.int x2), none, none, none, none] (v.toList ++ []) M Q)) :=
  (sm_blk X 26 0 (tt_lin 26 (by decide)) rfl rfl _ _ _ _).trans rfl
set_option maxRecDepth 100000 in
theorem bk_26_9 (X : (Nat → Int32) × Nat) (mo : Bool) (G : Nat × Nat) (I : Nat → Nat → Int32) (J : Nat → Nat → Int64) (Q : Option Value → sm_M → Prop) (x1 : Int32) (x2 : Int32) (s0 : Int32) :
    sm_wp X 26 9 [some (.ref 45), some (.int x1), some (.int x2), none, none, none, none] [.int s0] (sM mo G I J) Q =
    (if (x2 : Int32) ≤ 0 then sm_wp X 26 33 [some (.ref 45), some (.int x1), some (.int x2), some (.int s0), none, none, none] [] (sM mo G (up2 I 45 5 0) J) Q else (sm_wp X 44 0 [some (.ref 21), some (.int x1), some (.int (x2 - 1))] [] (sM mo G (up2 I 45 5 0) J) (fun v M => sm_wp X 26 30 [some (.ref 45), some (.int x1), some (.int x2), some (.int s0), none, none, none] (v.toList ++ []) M Q))) :=
  (sm_blk X 26 9 (tt_lin 26 (by decide)) rfl rfl _ _ _ _).trans rfl
set_option maxRecDepth 100000 in
theorem bk_26_30 (X : (Nat → Int32) × Nat) (mo : Bool) (G : Nat × Nat) (I : Nat → Nat → Int32) (J : Nat → Nat → Int64) (Q : Option Value → sm_M → Prop) (x1 : Int32) (x2 : Int32) (x3 : Int32) (s0 : Int32) :
    sm_wp X 26 30 [some (.ref 45), some (.int x1), some (.int x2), some (.int x3), none, none, none] [.int s0] (sM mo G I J) Q =
    (sm_wp X 26 34 [some (.ref 45), some (.int x1), some (.int x2), some (.int x3), none, none, none] [.int s0] (sM mo G I J) Q) :=
  (sm_blk X 26 30 (tt_lin 26 (by decide)) rfl rfl _ _ _ _).trans rfl
set_option maxRecDepth 100000 in
theorem bk_26_33 (X : (Nat → Int32) × Nat) (mo : Bool) (G : Nat × Nat) (I : Nat → Nat → Int32) (J : Nat → Nat → Int64) (Q : Option Value → sm_M → Prop) (x1 : Int32) (x2 : Int32) (x3 : Int32) :
    sm_wp X 26 33 [some (.ref 45), some (.int x1), some (.int x2), some (.int x3), none, none, none] [] (sM mo G I J) Q =
    (sm_wp X 26 36 [some (.ref 45), some (.int x1), none, some (.int x3), some (.int 0), none, none] [] (sM mo G I J) Q) :=
  (sm_blk X 26 33 (tt_lin 26 (by decide)) rfl rfl _ _ _ _).trans rfl
set_option maxRecDepth 100000 in
theorem bk_26_34 (X : (Nat → Int32) × Nat) (mo : Bool) (G : Nat × Nat) (I : Nat → Nat → Int32) (J : Nat → Nat → Int64) (Q : Option Value → sm_M → Prop) (x1 : Int32) (x2 : Int32) (x3 : Int32) (s0 : Int32) :
    sm_wp X 26 34 [some (.ref 45), some (.int x1), some (.int x2), some (.int x3), none, none, none] [.int s0] (sM mo G I J) Q =
    (sm_wp X 26 36 [some (.ref 45), some (.int x1), none, some (.int x3), some (.int s0), none, none] [] (sM mo G I J) Q) :=
  (sm_blk X 26 34 (tt_lin 26 (by decide)) rfl rfl _ _ _ _).trans rfl
set_option maxRecDepth 100000 in
theorem bk_26_36 (X : (Nat → Int32) × Nat) (mo : Bool) (G : Nat × Nat) (I : Nat → Nat → Int32) (J : Nat → Nat → Int64) (Q : Option Value → sm_M → Prop) (x1 : Int32) (x3 : Int32) (x4 : Int32) :
    sm_wp X 26 36 [some (.ref 45), some (.int x1), none, some (.int x3), some (.int x4), none, none] [] (sM mo G I J) Q =
    (if (x3 : Int32) ≤ (x4 : Int32) then sm_wp X 26 83 [some (.ref 45), some (.int x1), none, some (.int x3), some (.int x4), none, none] [] (sM mo G I J) Q else (sm_wp X 45 0 [some (.ref 21), some (.int x1), some (.int x4)] [] (sM mo G I J) (fun v M => sm_wp X 26 53 [some (.ref 45), some (.int x1), none, some (.int x3), some (.int x4), none, none] (v.toList ++ [.ref 45]) M Q))) :=
  (sm_blk X 26 36 (tt_lin 26 (by decide)) rfl rfl _ _ _ _).trans rfl
set_option maxRecDepth 100000 in
theorem bk_26_53 (X : (Nat → Int32) × Nat) (mo : Bool) (G : Nat × Nat) (I : Nat → Nat → Int32) (J : Nat → Nat → Int64) (Q : Option Value → sm_M → Prop) (x1 : Int32) (x3 : Int32) (x4 : Int32) (s1 : Int32) :
    sm_wp X 26 53 [some (.ref 45), some (.int x1), none, some (.int x3), some (.int x4), none, none] [.int s1, .ref 45] (sM mo G I J) Q =
    (sm_wp X 27 0 [some (.ref 45), some (.int s1), none, none, none, none, none, none] [] (sM mo G I J) (fun v M => sm_wp X 26 56 [some (.ref 45), some (.int x1), none, some (.int x3), some (.int x4), none, none] (v.toList ++ []) M Q)) :=
  (sm_blk X 26 53 (tt_lin 26 (by decide)) rfl rfl _ _ _ _).trans rfl
set_option maxRecDepth 100000 in
theorem bk_26_56 (X : (Nat → Int32) × Nat) (mo : Bool) (G : Nat × Nat) (I : Nat → Nat → Int32) (J : Nat → Nat → Int64) (Q : Option Value → sm_M → Prop) (x1 : Int32) (x3 : Int32) (x4 : Int32) (s0 : Int64) :
    sm_wp X 26 56 [some (.ref 45), some (.int x1), none, some (.int x3), some (.int x4), none, none] [.long s0] (sM mo G I J) Q =
    (if ¬ (lg_cmp s0 (-9223372036854775808) : Int32) = 0 then sm_wp X 26 71 [some (.ref 45), some (.int x1), none, some (.int x3), some (.int x4), some (.long s0), none] [] (sM mo G I J) Q else (True ∧ Q (some (.long (-9223372036854775808))) (sM mo G I J))) :=
  (sm_blk X 26 56 (tt_lin 26 (by decide)) rfl rfl _ _ _ _).trans rfl
set_option maxRecDepth 100000 in
theorem bk_26_71 (X : (Nat → Int32) × Nat) (mo : Bool) (G : Nat × Nat) (I : Nat → Nat → Int32) (J : Nat → Nat → Int64) (Q : Option Value → sm_M → Prop) (x1 : Int32) (x3 : Int32) (x4 : Int32) (x5 : Int64) :
    sm_wp X 26 71 [some (.ref 45), some (.int x1), none, some (.int x3), some (.int x4), some (.long x5), none] [] (sM mo G I J) Q =
    (sm_wp X 31 0 [some (.ref 45), some (.long x5), none] [] (sM mo G I J) (fun v M => sm_wp X 26 77 [some (.ref 45), some (.int x1), none, some (.int x3), some (.int x4), some (.long x5), none] (v.toList ++ []) M Q)) :=
  (sm_blk X 26 71 (tt_lin 26 (by decide)) rfl rfl _ _ _ _).trans rfl
set_option maxRecDepth 100000 in
theorem bk_26_77 (X : (Nat → Int32) × Nat) (mo : Bool) (G : Nat × Nat) (I : Nat → Nat → Int32) (J : Nat → Nat → Int64) (Q : Option Value → sm_M → Prop) (x1 : Int32) (x3 : Int32) (x4 : Int32) (x5 : Int64) :
    sm_wp X 26 77 [some (.ref 45), some (.int x1), none, some (.int x3), some (.int x4), some (.long x5), none] [] (sM mo G I J) Q =
    (sm_wp X 26 36 [some (.ref 45), some (.int x1), none, some (.int x3), some (.int (x4 + 1)), none, none] [] (sM mo G I J) Q) :=
  (sm_blk X 26 77 (tt_lin 26 (by decide)) rfl rfl _ _ _ _).trans rfl
set_option maxRecDepth 100000 in
theorem bk_26_83 (X : (Nat → Int32) × Nat) (mo : Bool) (G : Nat × Nat) (I : Nat → Nat → Int32) (J : Nat → Nat → Int64) (Q : Option Value → sm_M → Prop) (x1 : Int32) (x3 : Int32) (x4 : Int32) :
    sm_wp X 26 83 [some (.ref 45), some (.int x1), none, some (.int x3), some (.int x4), none, none] [] (sM mo G I J) Q =
    (sm_wp X 28 0 [some (.ref 45)] [] (sM mo G I J) (fun v M => sm_wp X 26 87 [some (.ref 45), some (.int x1), none, some (.int x3), some (.int x4), none, none] (v.toList ++ []) M Q)) :=
  (sm_blk X 26 83 (tt_lin 26 (by decide)) rfl rfl _ _ _ _).trans rfl
set_option maxRecDepth 100000 in
theorem bk_26_87 (X : (Nat → Int32) × Nat) (mo : Bool) (G : Nat × Nat) (I : Nat → Nat → Int32) (J : Nat → Nat → Int64) (Q : Option Value → sm_M → Prop) (x1 : Int32) (x3 : Int32) (x4 : Int32) (s0 : Int64) :
    sm_wp X 26 87 [some (.ref 45), some (.int x1), none, some (.int x3), some (.int x4), none, none] [.long s0] (sM mo G I J) Q =
    (True ∧ Q (some (.long s0)) (sM mo G I J)) :=
  (sm_blk X 26 87 (tt_lin 26 (by decide)) rfl rfl _ _ _ _).trans rfl
set_option maxRecDepth 100000 in
theorem bk_27_0 (X : (Nat → Int32) × Nat) (mo : Bool) (G : Nat × Nat) (I : Nat → Nat → Int32) (J : Nat → Nat → Int64) (Q : Option Value → sm_M → Prop) (x1 : Int32) :
    sm_wp X 27 0 [some (.ref 45), some (.int x1), none, none, none, none, none, none] [] (sM mo G I J) Q =
    (if (x1 : Int32) < (100 : Int32) then sm_wp X 27 12 [some (.ref 45), some (.int x1), none, none, none, none, none, none] [] (sM mo G I J) Q else (True ∧ Q (some (.long ((x1 - 100).toInt64))) (sM mo G I J))) :=
  (sm_blk X 27 0 (tt_lin 27 (by decide)) rfl rfl _ _ _ _).trans rfl
set_option maxRecDepth 100000 in
theorem bk_27_12 (X : (Nat → Int32) × Nat) (mo : Bool) (G : Nat × Nat) (I : Nat → Nat → Int32) (J : Nat → Nat → Int64) (Q : Option Value → sm_M → Prop) (x1 : Int32) :
    sm_wp X 27 12 [some (.ref 45), some (.int x1), none, none, none, none, none, none] [] (sM mo G I J) Q =
    (if (x1 : Int32) < (7 : Int32) then sm_wp X 27 34 [some (.ref 45), some (.int x1), none, none, none, none, none, none] [] (sM mo G I J) Q else (if (19 : Int32) ≤ (x1 : Int32) then sm_wp X 27 34 [some (.ref 45), some (.int x1), none, none, none, none, none, none] [] (sM mo G I J) Q else (vp_in (x1 - 7) 12 ∧ (True ∧ Q (some (.long (J 46 ((x1 - 7).toNatClampNeg)))) (sM mo G I J))))) :=
  (sm_blk X 27 12 (tt_lin 27 (by decide)) rfl rfl _ _ _ _).trans rfl
set_option maxRecDepth 100000 in
theorem bk_27_34 (X : (Nat → Int32) × Nat) (mo : Bool) (G : Nat × Nat) (I : Nat → Nat → Int32) (J : Nat → Nat → Int64) (Q : Option Value → sm_M → Prop) (x1 : Int32) :
    sm_wp X 27 34 [some (.ref 45), some (.int x1), none, none, none, none, none, none] [] (sM mo G I J) Q =
    (sm_wp X 28 0 [some (.ref 45)] [] (sM mo G I J) (fun v M => sm_wp X 27 38 [some (.ref 45), some (.int x1), none, none, none, none, none, none] (v.toList ++ []) M Q)) :=
  (sm_blk X 27 34 (tt_lin 27 (by decide)) rfl rfl _ _ _ _).trans rfl
set_option maxRecDepth 100000 in
theorem bk_27_38 (X : (Nat → Int32) × Nat) (mo : Bool) (G : Nat × Nat) (I : Nat → Nat → Int32) (J : Nat → Nat → Int64) (Q : Option Value → sm_M → Prop) (x1 : Int32) (s0 : Int64) :
    sm_wp X 27 38 [some (.ref 45), some (.int x1), none, none, none, none, none, none] [.long s0] (sM mo G I J) Q =
    (if ¬ (x1 : Int32) = (4 : Int32) then sm_wp X 27 56 [some (.ref 45), some (.int x1), some (.long s0), none, none, none, none, none] [] (sM mo G I J) Q else (if ¬ (lg_cmp s0 0 : Int32) = 0 then sm_wp X 27 54 [some (.ref 45), some (.int x1), some (.long s0), none, none, none, none, none] [] (sM mo G I J) Q else (sm_wp X 27 55 [some (.ref 45), some (.int x1), some (.long s0), none, none, none, none, none] [.long 1] (sM mo G I J) Q))) :=
  (sm_blk X 27 38 (tt_lin 27 (by decide)) rfl rfl _ _ _ _).trans rfl
set_option maxRecDepth 100000 in
theorem bk_27_54 (X : (Nat → Int32) × Nat) (mo : Bool) (G : Nat × Nat) (I : Nat → Nat → Int32) (J : Nat → Nat → Int64) (Q : Option Value → sm_M → Prop) (x1 : Int32) (x2 : Int64) :
    sm_wp X 27 54 [some (.ref 45), some (.int x1), some (.long x2), none, none, none, none, none] [] (sM mo G I J) Q =
    (True ∧ Q (some (.long 0)) (sM mo G I J)) :=
  (sm_blk X 27 54 (tt_lin 27 (by decide)) rfl rfl _ _ _ _).trans rfl
set_option maxRecDepth 100000 in
theorem bk_27_55 (X : (Nat → Int32) × Nat) (mo : Bool) (G : Nat × Nat) (I : Nat → Nat → Int32) (J : Nat → Nat → Int64) (Q : Option Value → sm_M → Prop) (x1 : Int32) (x2 : Int64) (s0 : Int64) :
    sm_wp X 27 55 [some (.ref 45), some (.int x1), some (.long x2), none, none, none, none, none] [.long s0] (sM mo G I J) Q =
    (True ∧ Q (some (.long s0)) (sM mo G I J)) :=
  (sm_blk X 27 55 (tt_lin 27 (by decide)) rfl rfl _ _ _ _).trans rfl
set_option maxRecDepth 100000 in
theorem bk_27_56 (X : (Nat → Int32) × Nat) (mo : Bool) (G : Nat × Nat) (I : Nat → Nat → Int32) (J : Nat → Nat → Int64) (Q : Option Value → sm_M → Prop) (x1 : Int32) (x2 : Int64) :
    sm_wp X 27 56 [some (.ref 45), some (.int x1), some (.long x2), none, none, none, none, none] [] (sM mo G I J) Q =
    (if ¬ (x1 : Int32) = (33 : Int32) then sm_wp X 27 65 [some (.ref 45), some (.int x1), some (.long x2), none, none, none, none, none] [] (sM mo G I J) Q else (True ∧ Q (some (.long (-x2))) (sM mo G I J))) :=
  (sm_blk X 27 56 (tt_lin 27 (by decide)) rfl rfl _ _ _ _).trans rfl
set_option maxRecDepth 100000 in
theorem bk_27_65 (X : (Nat → Int32) × Nat) (mo : Bool) (G : Nat × Nat) (I : Nat → Nat → Int32) (J : Nat → Nat → Int64) (Q : Option Value → sm_M → Prop) (x1 : Int32) (x2 : Int64) :
    sm_wp X 27 65 [some (.ref 45), some (.int x1), some (.long x2), none, none, none, none, none] [] (sM mo G I J) Q =
    (sm_wp X 28 0 [some (.ref 45)] [] (sM mo G I J) (fun v M => sm_wp X 27 69 [some (.ref 45), some (.int x1), some (.long x2), none, none, none, none, none] (v.toList ++ []) M Q)) :=
  (sm_blk X 27 65 (tt_lin 27 (by decide)) rfl rfl _ _ _ _).trans rfl
set_option maxRecDepth 100000 in
theorem bk_27_69 (X : (Nat → Int32) × Nat) (mo : Bool) (G : Nat × Nat) (I : Nat → Nat → Int32) (J : Nat → Nat → Int64) (Q : Option Value → sm_M → Prop) (x1 : Int32) (x2 : Int64) (s0 : Int64) :
    sm_wp X 27 69 [some (.ref 45), some (.int x1), some (.long x2), none, none, none, none, none] [.long s0] (sM mo G I J) Q =
    (if (x1 : Int32) < (19 : Int32) then sm_wp X 27 93 [some (.ref 45), some (.int x1), some (.long x2), none, some (.long s0), none, none, none] [] (sM mo G I J) Q else (if (23 : Int32) < (x1 : Int32) then sm_wp X 27 93 [some (.ref 45), some (.int x1), some (.long x2), none, some (.long s0), none, none, none] [] (sM mo G I J) Q else (sm_wp X 29 0 [some (.int x1), some (.long s0), none, some (.long x2), none] [] (sM mo G I J) (fun v M => sm_wp X 27 90 [some (.ref 45), some (.int x1), some (.long x2), none, some (.long s0), none, none, none] (v.toList ++ []) M Q)))) :=
  (sm_blk X 27 69 (tt_lin 27 (by decide)) rfl rfl _ _ _ _).trans rfl
set_option maxRecDepth 100000 in
theorem bk_27_90 (X : (Nat → Int32) × Nat) (mo : Bool) (G : Nat × Nat) (I : Nat → Nat → Int32) (J : Nat → Nat → Int64) (Q : Option Value → sm_M → Prop) (x1 : Int32) (x2 : Int64) (x4 : Int64) (s0 : Int64) :
    sm_wp X 27 90 [some (.ref 45), some (.int x1), some (.long x2), none, some (.long x4), none, none, none] [.long s0] (sM mo G I J) Q =
    (sm_wp X 27 108 [some (.ref 45), some (.int x1), some (.long x2), none, some (.long x4), none, none, none] [.long s0] (sM mo G I J) Q) :=
  (sm_blk X 27 90 (tt_lin 27 (by decide)) rfl rfl _ _ _ _).trans rfl
set_option maxRecDepth 100000 in
theorem bk_27_93 (X : (Nat → Int32) × Nat) (mo : Bool) (G : Nat × Nat) (I : Nat → Nat → Int32) (J : Nat → Nat → Int64) (Q : Option Value → sm_M → Prop) (x1 : Int32) (x2 : Int64) (x4 : Int64) :
    sm_wp X 27 93 [some (.ref 45), some (.int x1), some (.long x2), none, some (.long x4), none, none, none] [] (sM mo G I J) Q =
    (sm_wp X 30 0 [some (.int x1), some (.long x4), none, some (.long x2), none] [] (sM mo G I J) (fun v M => sm_wp X 27 100 [some (.ref 45), some (.int x1), some (.long x2), none, some (.long x4), none, none, none] (v.toList ++ []) M Q)) :=
  (sm_blk X 27 93 (tt_lin 27 (by decide)) rfl rfl _ _ _ _).trans rfl
set_option maxRecDepth 100000 in
theorem bk_27_100 (X : (Nat → Int32) × Nat) (mo : Bool) (G : Nat × Nat) (I : Nat → Nat → Int32) (J : Nat → Nat → Int64) (Q : Option Value → sm_M → Prop) (x1 : Int32) (x2 : Int64) (x4 : Int64) (s0 : Int32) :
    sm_wp X 27 100 [some (.ref 45), some (.int x1), some (.long x2), none, some (.long x4), none, none, none] [.int s0] (sM mo G I J) Q =
    (if (s0 : Int32) = 0 then sm_wp X 27 107 [some (.ref 45), some (.int x1), some (.long x2), none, some (.long x4), none, none, none] [] (sM mo G I J) Q else (sm_wp X 27 108 [some (.ref 45), some (.int x1), some (.long x2), none, some (.long x4), none, none, none] [.long 1] (sM mo G I J) Q)) :=
  (sm_blk X 27 100 (tt_lin 27 (by decide)) rfl rfl _ _ _ _).trans rfl
set_option maxRecDepth 100000 in
theorem bk_27_107 (X : (Nat → Int32) × Nat) (mo : Bool) (G : Nat × Nat) (I : Nat → Nat → Int32) (J : Nat → Nat → Int64) (Q : Option Value → sm_M → Prop) (x1 : Int32) (x2 : Int64) (x4 : Int64) :
    sm_wp X 27 107 [some (.ref 45), some (.int x1), some (.long x2), none, some (.long x4), none, none, none] [] (sM mo G I J) Q =
    (if 0 < (lg_cmp 0 1000000000000 : Int32) then sm_wp X 27 128 [some (.ref 45), some (.int x1), some (.long x2), none, some (.long x4), none, some (.long 0), none] [] (sM mo G I J) Q else (if 0 ≤ (lg_cmp 0 (-1000000000000) : Int32) then sm_wp X 27 134 [some (.ref 45), some (.int x1), some (.long x2), none, some (.long x4), none, some (.long 0), none] [] (sM mo G I J) Q else (sm_wp X 27 136 [some (.ref 45), some (.int x1), some (.long x2), none, some (.long x4), none, some (.long 0), none] [.long (-9223372036854775808)] (sM mo G I J) Q))) :=
  (sm_blk X 27 107 (tt_lin 27 (by decide)) rfl rfl _ _ _ _).trans rfl
set_option maxRecDepth 100000 in
theorem bk_27_108 (X : (Nat → Int32) × Nat) (mo : Bool) (G : Nat × Nat) (I : Nat → Nat → Int32) (J : Nat → Nat → Int64) (Q : Option Value → sm_M → Prop) (x1 : Int32) (x2 : Int64) (x4 : Int64) (s0 : Int64) :
    sm_wp X 27 108 [some (.ref 45), some (.int x1), some (.long x2), none, some (.long x4), none, none, none] [.long s0] (sM mo G I J) Q =
    (if 0 < (lg_cmp s0 1000000000000 : Int32) then sm_wp X 27 128 [some (.ref 45), some (.int x1), some (.long x2), none, some (.long x4), none, some (.long s0), none] [] (sM mo G I J) Q else (if 0 ≤ (lg_cmp s0 (-1000000000000) : Int32) then sm_wp X 27 134 [some (.ref 45), some (.int x1), some (.long x2), none, some (.long x4), none, some (.long s0), none] [] (sM mo G I J) Q else (sm_wp X 27 136 [some (.ref 45), some (.int x1), some (.long x2), none, some (.long x4), none, some (.long s0), none] [.long (-9223372036854775808)] (sM mo G I J) Q))) :=
  (sm_blk X 27 108 (tt_lin 27 (by decide)) rfl rfl _ _ _ _).trans rfl
set_option maxRecDepth 100000 in
theorem bk_27_128 (X : (Nat → Int32) × Nat) (mo : Bool) (G : Nat × Nat) (I : Nat → Nat → Int32) (J : Nat → Nat → Int64) (Q : Option Value → sm_M → Prop) (x1 : Int32) (x2 : Int64) (x4 : Int64) (x6 : Int64) :
    sm_wp X 27 128 [some (.ref 45), some (.int x1), some (.long x2), none, some (.long x4), none, some (.long x6), none] [] (sM mo G I J) Q =
    (sm_wp X 27 136 [some (.ref 45), some (.int x1), some (.long x2), none, some (.long x4), none, some (.long x6), none] [.long (-9223372036854775808)] (sM mo G I J) Q) :=
  (sm_blk X 27 128 (tt_lin 27 (by decide)) rfl rfl _ _ _ _).trans rfl
set_option maxRecDepth 100000 in
theorem bk_27_134 (X : (Nat → Int32) × Nat) (mo : Bool) (G : Nat × Nat) (I : Nat → Nat → Int32) (J : Nat → Nat → Int64) (Q : Option Value → sm_M → Prop) (x1 : Int32) (x2 : Int64) (x4 : Int64) (x6 : Int64) :
    sm_wp X 27 134 [some (.ref 45), some (.int x1), some (.long x2), none, some (.long x4), none, some (.long x6), none] [] (sM mo G I J) Q =
    (True ∧ Q (some (.long x6)) (sM mo G I J)) :=
  (sm_blk X 27 134 (tt_lin 27 (by decide)) rfl rfl _ _ _ _).trans rfl
set_option maxRecDepth 100000 in
theorem bk_27_136 (X : (Nat → Int32) × Nat) (mo : Bool) (G : Nat × Nat) (I : Nat → Nat → Int32) (J : Nat → Nat → Int64) (Q : Option Value → sm_M → Prop) (x1 : Int32) (x2 : Int64) (x4 : Int64) (x6 : Int64) (s0 : Int64) :
    sm_wp X 27 136 [some (.ref 45), some (.int x1), some (.long x2), none, some (.long x4), none, some (.long x6), none] [.long s0] (sM mo G I J) Q =
    (True ∧ Q (some (.long s0)) (sM mo G I J)) :=
  (sm_blk X 27 136 (tt_lin 27 (by decide)) rfl rfl _ _ _ _).trans rfl
set_option maxRecDepth 100000 in
theorem bk_28_0 (X : (Nat → Int32) × Nat) (mo : Bool) (G : Nat × Nat) (I : Nat → Nat → Int32) (J : Nat → Nat → Int64) (Q : Option Value → sm_M → Prop)  :
    sm_wp X 28 0 [some (.ref 45)] [] (sM mo G I J) Q =
    (if (I 45 5 : Int32) < (1 : Int32) then sm_wp X 28 17 [some (.ref 45)] [] (sM mo G I J) Q else (if (I 45 5 : Int32) ≤ (64 : Int32) then sm_wp X 28 19 [some (.ref 45)] [] (sM mo G I J) Q else (True ∧ Q (some (.long 0)) (sM mo G I J)))) :=
  (sm_blk X 28 0 (tt_lin 28 (by decide)) rfl rfl _ _ _ _).trans rfl
set_option maxRecDepth 100000 in
theorem bk_28_17 (X : (Nat → Int32) × Nat) (mo : Bool) (G : Nat × Nat) (I : Nat → Nat → Int32) (J : Nat → Nat → Int64) (Q : Option Value → sm_M → Prop)  :
    sm_wp X 28 17 [some (.ref 45)] [] (sM mo G I J) Q =
    (True ∧ Q (some (.long 0)) (sM mo G I J)) :=
  (sm_blk X 28 17 (tt_lin 28 (by decide)) rfl rfl _ _ _ _).trans rfl
set_option maxRecDepth 100000 in
theorem bk_28_19 (X : (Nat → Int32) × Nat) (mo : Bool) (G : Nat × Nat) (I : Nat → Nat → Int32) (J : Nat → Nat → Int64) (Q : Option Value → sm_M → Prop)  :
    sm_wp X 28 19 [some (.ref 45)] [] (sM mo G I J) Q =
    (vp_in ((up2 I 45 5 ((I 45 5) - 1)) 45 5) 64 ∧ (True ∧ Q (some (.long (J 47 (((up2 I 45 5 ((I 45 5) - 1)) 45 5).toNatClampNeg)))) (sM mo G (up2 I 45 5 ((I 45 5) - 1)) J))) :=
  (sm_blk X 28 19 (tt_lin 28 (by decide)) rfl rfl _ _ _ _).trans rfl
set_option maxRecDepth 100000 in
theorem bk_29_0 (X : (Nat → Int32) × Nat) (mo : Bool) (G : Nat × Nat) (I : Nat → Nat → Int32) (J : Nat → Nat → Int64) (Q : Option Value → sm_M → Prop) (x0 : Int32) (x1 : Int64) (x3 : Int64) :
    sm_wp X 29 0 [some (.int x0), some (.long x1), none, some (.long x3), none] [] (sM mo G I J) Q =
    (if (x0 : Int32) = 19 then sm_wp X 29 32 [some (.int x0), some (.long x1), none, some (.long x3), none] [] (sM mo G I J) Q else if (x0 : Int32) = 20 then sm_wp X 29 36 [some (.int x0), some (.long x1), none, some (.long x3), none] [] (sM mo G I J) Q else if (x0 : Int32) = 21 then sm_wp X 29 40 [some (.int x0), some (.long x1), none, some (.long x3), none] [] (sM mo G I J) Q else if (x0 : Int32) = 22 then sm_wp X 29 72 [some (.int x0), some (.long x1), none, some (.long x3), none] [] (sM mo G I J) Q else sm_wp X 29 88 [some (.int x0), some (.long x1), none, some (.long x3), none] [] (sM mo G I J) Q) :=
  (sm_blk X 29 0 (tt_lin 29 (by decide)) rfl rfl _ _ _ _).trans rfl
set_option maxRecDepth 100000 in
theorem bk_29_32 (X : (Nat → Int32) × Nat) (mo : Bool) (G : Nat × Nat) (I : Nat → Nat → Int32) (J : Nat → Nat → Int64) (Q : Option Value → sm_M → Prop) (x0 : Int32) (x1 : Int64) (x3 : Int64) :
    sm_wp X 29 32 [some (.int x0), some (.long x1), none, some (.long x3), none] [] (sM mo G I J) Q =
    (True ∧ Q (some (.long (x1 + x3))) (sM mo G I J)) :=
  (sm_blk X 29 32 (tt_lin 29 (by decide)) rfl rfl _ _ _ _).trans rfl
set_option maxRecDepth 100000 in
theorem bk_29_36 (X : (Nat → Int32) × Nat) (mo : Bool) (G : Nat × Nat) (I : Nat → Nat → Int32) (J : Nat → Nat → Int64) (Q : Option Value → sm_M → Prop) (x0 : Int32) (x1 : Int64) (x3 : Int64) :
    sm_wp X 29 36 [some (.int x0), some (.long x1), none, some (.long x3), none] [] (sM mo G I J) Q =
    (True ∧ Q (some (.long (x1 - x3))) (sM mo G I J)) :=
  (sm_blk X 29 36 (tt_lin 29 (by decide)) rfl rfl _ _ _ _).trans rfl
set_option maxRecDepth 100000 in
theorem bk_29_40 (X : (Nat → Int32) × Nat) (mo : Bool) (G : Nat × Nat) (I : Nat → Nat → Int32) (J : Nat → Nat → Int64) (Q : Option Value → sm_M → Prop) (x0 : Int32) (x1 : Int64) (x3 : Int64) :
    sm_wp X 29 40 [some (.int x0), some (.long x1), none, some (.long x3), none] [] (sM mo G I J) Q =
    (if (lg_cmp x1 0 : Int32) = 0 then sm_wp X 29 68 [some (.int x0), some (.long x1), none, some (.long x3), none] [] (sM mo G I J) Q else (True ∧ (True ∧ (¬ (if 0 < (x1 : Int64) then x1 else -x1 : Int64) = 0 ∧ (if (lg_cmp (if 0 < (x3 : Int64) then x3 else -x3) (1000000000000 / (if 0 < (x1 : Int64) then x1 else -x1)) : Int32) ≤ 0 then sm_wp X 29 68 [some (.int x0), some (.long x1), none, some (.long x3), none] [] (sM mo G I J) Q else (sm_wp X 29 71 [some (.int x0), some (.long x1), none, some (.long x3), none] [.long (-9223372036854775808)] (sM mo G I J) Q)))))) :=
  (sm_blk X 29 40 (tt_lin 29 (by decide)) rfl rfl _ _ _ _).trans rfl
set_option maxRecDepth 100000 in
theorem bk_29_68 (X : (Nat → Int32) × Nat) (mo : Bool) (G : Nat × Nat) (I : Nat → Nat → Int32) (J : Nat → Nat → Int64) (Q : Option Value → sm_M → Prop) (x0 : Int32) (x1 : Int64) (x3 : Int64) :
    sm_wp X 29 68 [some (.int x0), some (.long x1), none, some (.long x3), none] [] (sM mo G I J) Q =
    (True ∧ Q (some (.long (x1 * x3))) (sM mo G I J)) :=
  (sm_blk X 29 68 (tt_lin 29 (by decide)) rfl rfl _ _ _ _).trans rfl
set_option maxRecDepth 100000 in
theorem bk_29_71 (X : (Nat → Int32) × Nat) (mo : Bool) (G : Nat × Nat) (I : Nat → Nat → Int32) (J : Nat → Nat → Int64) (Q : Option Value → sm_M → Prop) (x0 : Int32) (x1 : Int64) (x3 : Int64) (s0 : Int64) :
    sm_wp X 29 71 [some (.int x0), some (.long x1), none, some (.long x3), none] [.long s0] (sM mo G I J) Q =
    (True ∧ Q (some (.long s0)) (sM mo G I J)) :=
  (sm_blk X 29 71 (tt_lin 29 (by decide)) rfl rfl _ _ _ _).trans rfl
set_option maxRecDepth 100000 in
theorem bk_29_72 (X : (Nat → Int32) × Nat) (mo : Bool) (G : Nat × Nat) (I : Nat → Nat → Int32) (J : Nat → Nat → Int64) (Q : Option Value → sm_M → Prop) (x0 : Int32) (x1 : Int64) (x3 : Int64) :
    sm_wp X 29 72 [some (.int x0), some (.long x1), none, some (.long x3), none] [] (sM mo G I J) Q =
    (if ¬ (lg_cmp x3 0 : Int32) = 0 then sm_wp X 29 84 [some (.int x0), some (.long x1), none, some (.long x3), none] [] (sM mo G I J) Q else (sm_wp X 29 87 [some (.int x0), some (.long x1), none, some (.long x3), none] [.long (-9223372036854775808)] (sM mo G I J) Q)) :=
  (sm_blk X 29 72 (tt_lin 29 (by decide)) rfl rfl _ _ _ _).trans rfl
set_option maxRecDepth 100000 in
theorem bk_29_84 (X : (Nat → Int32) × Nat) (mo : Bool) (G : Nat × Nat) (I : Nat → Nat → Int32) (J : Nat → Nat → Int64) (Q : Option Value → sm_M → Prop) (x0 : Int32) (x1 : Int64) (x3 : Int64) :
    sm_wp X 29 84 [some (.int x0), some (.long x1), none, some (.long x3), none] [] (sM mo G I J) Q =
    (¬ (x3 : Int64) = 0 ∧ (True ∧ Q (some (.long (x1 / x3))) (sM mo G I J))) :=
  (sm_blk X 29 84 (tt_lin 29 (by decide)) rfl rfl _ _ _ _).trans rfl
set_option maxRecDepth 100000 in
theorem bk_29_87 (X : (Nat → Int32) × Nat) (mo : Bool) (G : Nat × Nat) (I : Nat → Nat → Int32) (J : Nat → Nat → Int64) (Q : Option Value → sm_M → Prop) (x0 : Int32) (x1 : Int64) (x3 : Int64) (s0 : Int64) :
    sm_wp X 29 87 [some (.int x0), some (.long x1), none, some (.long x3), none] [.long s0] (sM mo G I J) Q =
    (True ∧ Q (some (.long s0)) (sM mo G I J)) :=
  (sm_blk X 29 87 (tt_lin 29 (by decide)) rfl rfl _ _ _ _).trans rfl
set_option maxRecDepth 100000 in
theorem bk_29_88 (X : (Nat → Int32) × Nat) (mo : Bool) (G : Nat × Nat) (I : Nat → Nat → Int32) (J : Nat → Nat → Int64) (Q : Option Value → sm_M → Prop) (x0 : Int32) (x1 : Int64) (x3 : Int64) :
    sm_wp X 29 88 [some (.int x0), some (.long x1), none, some (.long x3), none] [] (sM mo G I J) Q =
    (if ¬ (lg_cmp x3 0 : Int32) = 0 then sm_wp X 29 100 [some (.int x0), some (.long x1), none, some (.long x3), none] [] (sM mo G I J) Q else (sm_wp X 29 103 [some (.int x0), some (.long x1), none, some (.long x3), none] [.long (-9223372036854775808)] (sM mo G I J) Q)) :=
  (sm_blk X 29 88 (tt_lin 29 (by decide)) rfl rfl _ _ _ _).trans rfl
set_option maxRecDepth 100000 in
theorem bk_29_100 (X : (Nat → Int32) × Nat) (mo : Bool) (G : Nat × Nat) (I : Nat → Nat → Int32) (J : Nat → Nat → Int64) (Q : Option Value → sm_M → Prop) (x0 : Int32) (x1 : Int64) (x3 : Int64) :
    sm_wp X 29 100 [some (.int x0), some (.long x1), none, some (.long x3), none] [] (sM mo G I J) Q =
    (¬ (x3 : Int64) = 0 ∧ (True ∧ Q (some (.long (x1 - x1 / x3 * x3))) (sM mo G I J))) :=
  (sm_blk X 29 100 (tt_lin 29 (by decide)) rfl rfl _ _ _ _).trans rfl
set_option maxRecDepth 100000 in
theorem bk_29_103 (X : (Nat → Int32) × Nat) (mo : Bool) (G : Nat × Nat) (I : Nat → Nat → Int32) (J : Nat → Nat → Int64) (Q : Option Value → sm_M → Prop) (x0 : Int32) (x1 : Int64) (x3 : Int64) (s0 : Int64) :
    sm_wp X 29 103 [some (.int x0), some (.long x1), none, some (.long x3), none] [.long s0] (sM mo G I J) Q =
    (True ∧ Q (some (.long s0)) (sM mo G I J)) :=
  (sm_blk X 29 103 (tt_lin 29 (by decide)) rfl rfl _ _ _ _).trans rfl
set_option maxRecDepth 100000 in
theorem bk_30_0 (X : (Nat → Int32) × Nat) (mo : Bool) (G : Nat × Nat) (I : Nat → Nat → Int32) (J : Nat → Nat → Int64) (Q : Option Value → sm_M → Prop) (x0 : Int32) (x1 : Int64) (x3 : Int64) :
    sm_wp X 30 0 [some (.int x0), some (.long x1), none, some (.long x3), none] [] (sM mo G I J) Q =
    (if (x0 : Int32) = 5 then sm_wp X 30 112 [some (.int x0), some (.long x1), none, some (.long x3), none] [] (sM mo G I J) Q else if (x0 : Int32) = 6 then sm_wp X 30 130 [some (.int x0), some (.long x1), none, some (.long x3), none] [] (sM mo G I J) Q else if (x0 : Int32) = 7 then sm_wp X 30 208 [some (.int x0), some (.long x1), none, some (.long x3), none] [] (sM mo G I J) Q else if (x0 : Int32) = 8 then sm_wp X 30 208 [some (.int x0), some (.long x1), none, some (.long x3), none] [] (sM mo G I J) Q else if (x0 : Int32) = 9 then sm_wp X 30 208 [some (.int x0), some (.long x1), none, some (.long x3), none] [] (sM mo G I J) Q else if (x0 : Int32) = 10 then sm_wp X 30 208 [some (.int x0), some (.long x1), none, some (.long x3), none] [] (sM mo G I J) Q else if (x0 : Int32) = 11 then sm_wp X 30 208 [some (.int x0), some (.long x1), none, some (.long x3), none] [] (sM mo G I J) Q else if (x0 : Int32) = 12 then sm_wp X 30 208 [some (.int x0), some (.long x1), none, some (.long x3), none] [] (sM mo G I J) Q else if (x0 : Int32) = 13 then sm_wp X 30 208 [some (.int x0), some (.long x1), none, some (.long x3), none] [] (sM mo G I J) Q else if (x0 : Int32) = 14 then sm_wp X 30 208 [some (.int x0), some (.long x1), none, some (.long x3), none] [] (sM mo G I J) Q else if (x0 : Int32) = 15 then sm_wp X 30 208 [some (.int x0), some (.long x1), none, some (.long x3), none] [] (sM mo G I J) Q else if (x0 : Int32) = 16 then sm_wp X 30 208 [some (.int x0), some (.long x1), none, some (.long x3), none] [] (sM mo G I J) Q else if (x0 : Int32) = 17 then sm_wp X 30 208 [some (.int x0), some (.long x1), none, some (.long x3), none] [] (sM mo G I J) Q else if (x0 : Int32) = 18 then sm_wp X 30 208 [some (.int x0), some (.long x1), none, some (.long x3), none] [] (sM mo G I J) Q else if (x0 : Int32) = 19 then sm_wp X 30 208 [some (.int x0), some (.long x1), none, some (.long x3), none] [] (sM mo G I J) Q else if (x0 : Int32) = 20 then sm_wp X 30 208 [some (.int x0), some (.long x1), none, some (.long x3), none] [] (sM mo G I J) Q else if (x0 : Int32) = 21 then sm_wp X 30 208 [some (.int x0), some (.long x1), none, some (.long x3), none] [] (sM mo G I J) Q else if (x0 : Int32) = 22 then sm_wp X 30 208 [some (.int x0), some (.long x1), none, some (.long x3), none] [] (sM mo G I J) Q else if (x0 : Int32) = 23 then sm_wp X 30 208 [some (.int x0), some (.long x1), none, some (.long x3), none] [] (sM mo G I J) Q else if (x0 : Int32) = 24 then sm_wp X 30 148 [some (.int x0), some (.long x1), none, some (.long x3), none] [] (sM mo G I J) Q else if (x0 : Int32) = 25 then sm_wp X 30 160 [some (.int x0), some (.long x1), none, some (.long x3), none] [] (sM mo G I J) Q else if (x0 : Int32) = 26 then sm_wp X 30 172 [some (.int x0), some (.long x1), none, some (.long x3), none] [] (sM mo G I J) Q else if (x0 : Int32) = 27 then sm_wp X 30 184 [some (.int x0), some (.long x1), none, some (.long x3), none] [] (sM mo G I J) Q else if (x0 : Int32) = 28 then sm_wp X 30 196 [some (.int x0), some (.long x1), none, some (.long x3), none] [] (sM mo G I J) Q else sm_wp X 30 208 [some (.int x0), some (.long x1), none, some (.long x3), none] [] (sM mo G I J) Q) :=
  (sm_blk X 30 0 (tt_lin 30 (by decide)) rfl rfl _ _ _ _).trans rfl
set_option maxRecDepth 100000 in
theorem bk_30_112 (X : (Nat → Int32) × Nat) (mo : Bool) (G : Nat × Nat) (I : Nat → Nat → Int32) (J : Nat → Nat → Int64) (Q : Option Value → sm_M → Prop) (x0 : Int32) (x1 : Int64) (x3 : Int64) :
    sm_wp X 30 112 [some (.int x0), some (.long x1), none, some (.long x3), none] [] (sM mo G I J) Q =
    (if (lg_cmp x1 0 : Int32) = 0 then sm_wp X 30 128 [some (.int x0), some (.long x1), none, some (.long x3), none] [] (sM mo G I J) Q else (if (lg_cmp x3 0 : Int32) = 0 then sm_wp X 30 128 [some (.int x0), some (.long x1), none, some (.long x3), none] [] (sM mo G I J) Q else (sm_wp X 30 129 [some (.int x0), some (.long x1), none, some (.long x3), none] [.int 1] (sM mo G I J) Q))) :=
  (sm_blk X 30 112 (tt_lin 30 (by decide)) rfl rfl _ _ _ _).trans rfl
set_option maxRecDepth 100000 in
theorem bk_30_128 (X : (Nat → Int32) × Nat) (mo : Bool) (G : Nat × Nat) (I : Nat → Nat → Int32) (J : Nat → Nat → Int64) (Q : Option Value → sm_M → Prop) (x0 : Int32) (x1 : Int64) (x3 : Int64) :
    sm_wp X 30 128 [some (.int x0), some (.long x1), none, some (.long x3), none] [] (sM mo G I J) Q =
    (sm_zb 0 ∧ Q (some (.int 0)) (sM mo G I J)) :=
  (sm_blk X 30 128 (tt_lin 30 (by decide)) rfl rfl _ _ _ _).trans rfl
set_option maxRecDepth 100000 in
theorem bk_30_129 (X : (Nat → Int32) × Nat) (mo : Bool) (G : Nat × Nat) (I : Nat → Nat → Int32) (J : Nat → Nat → Int64) (Q : Option Value → sm_M → Prop) (x0 : Int32) (x1 : Int64) (x3 : Int64) (s0 : Int32) :
    sm_wp X 30 129 [some (.int x0), some (.long x1), none, some (.long x3), none] [.int s0] (sM mo G I J) Q =
    (sm_zb s0 ∧ Q (some (.int s0)) (sM mo G I J)) :=
  (sm_blk X 30 129 (tt_lin 30 (by decide)) rfl rfl _ _ _ _).trans rfl
set_option maxRecDepth 100000 in
theorem bk_30_130 (X : (Nat → Int32) × Nat) (mo : Bool) (G : Nat × Nat) (I : Nat → Nat → Int32) (J : Nat → Nat → Int64) (Q : Option Value → sm_M → Prop) (x0 : Int32) (x1 : Int64) (x3 : Int64) :
    sm_wp X 30 130 [some (.int x0), some (.long x1), none, some (.long x3), none] [] (sM mo G I J) Q =
    (if ¬ (lg_cmp x1 0 : Int32) = 0 then sm_wp X 30 142 [some (.int x0), some (.long x1), none, some (.long x3), none] [] (sM mo G I J) Q else (if (lg_cmp x3 0 : Int32) = 0 then sm_wp X 30 146 [some (.int x0), some (.long x1), none, some (.long x3), none] [] (sM mo G I J) Q else (sm_wp X 30 147 [some (.int x0), some (.long x1), none, some (.long x3), none] [.int 1] (sM mo G I J) Q))) :=
  (sm_blk X 30 130 (tt_lin 30 (by decide)) rfl rfl _ _ _ _).trans rfl
set_option maxRecDepth 100000 in
theorem bk_30_142 (X : (Nat → Int32) × Nat) (mo : Bool) (G : Nat × Nat) (I : Nat → Nat → Int32) (J : Nat → Nat → Int64) (Q : Option Value → sm_M → Prop) (x0 : Int32) (x1 : Int64) (x3 : Int64) :
    sm_wp X 30 142 [some (.int x0), some (.long x1), none, some (.long x3), none] [] (sM mo G I J) Q =
    (sm_wp X 30 147 [some (.int x0), some (.long x1), none, some (.long x3), none] [.int 1] (sM mo G I J) Q) :=
  (sm_blk X 30 142 (tt_lin 30 (by decide)) rfl rfl _ _ _ _).trans rfl
set_option maxRecDepth 100000 in
theorem bk_30_146 (X : (Nat → Int32) × Nat) (mo : Bool) (G : Nat × Nat) (I : Nat → Nat → Int32) (J : Nat → Nat → Int64) (Q : Option Value → sm_M → Prop) (x0 : Int32) (x1 : Int64) (x3 : Int64) :
    sm_wp X 30 146 [some (.int x0), some (.long x1), none, some (.long x3), none] [] (sM mo G I J) Q =
    (sm_zb 0 ∧ Q (some (.int 0)) (sM mo G I J)) :=
  (sm_blk X 30 146 (tt_lin 30 (by decide)) rfl rfl _ _ _ _).trans rfl
set_option maxRecDepth 100000 in
theorem bk_30_147 (X : (Nat → Int32) × Nat) (mo : Bool) (G : Nat × Nat) (I : Nat → Nat → Int32) (J : Nat → Nat → Int64) (Q : Option Value → sm_M → Prop) (x0 : Int32) (x1 : Int64) (x3 : Int64) (s0 : Int32) :
    sm_wp X 30 147 [some (.int x0), some (.long x1), none, some (.long x3), none] [.int s0] (sM mo G I J) Q =
    (sm_zb s0 ∧ Q (some (.int s0)) (sM mo G I J)) :=
  (sm_blk X 30 147 (tt_lin 30 (by decide)) rfl rfl _ _ _ _).trans rfl
set_option maxRecDepth 100000 in
theorem bk_30_148 (X : (Nat → Int32) × Nat) (mo : Bool) (G : Nat × Nat) (I : Nat → Nat → Int32) (J : Nat → Nat → Int64) (Q : Option Value → sm_M → Prop) (x0 : Int32) (x1 : Int64) (x3 : Int64) :
    sm_wp X 30 148 [some (.int x0), some (.long x1), none, some (.long x3), none] [] (sM mo G I J) Q =
    (if 0 ≤ (lg_cmp x1 x3 : Int32) then sm_wp X 30 158 [some (.int x0), some (.long x1), none, some (.long x3), none] [] (sM mo G I J) Q else (sm_wp X 30 159 [some (.int x0), some (.long x1), none, some (.long x3), none] [.int 1] (sM mo G I J) Q)) :=
  (sm_blk X 30 148 (tt_lin 30 (by decide)) rfl rfl _ _ _ _).trans rfl
set_option maxRecDepth 100000 in
theorem bk_30_158 (X : (Nat → Int32) × Nat) (mo : Bool) (G : Nat × Nat) (I : Nat → Nat → Int32) (J : Nat → Nat → Int64) (Q : Option Value → sm_M → Prop) (x0 : Int32) (x1 : Int64) (x3 : Int64) :
    sm_wp X 30 158 [some (.int x0), some (.long x1), none, some (.long x3), none] [] (sM mo G I J) Q =
    (sm_zb 0 ∧ Q (some (.int 0)) (sM mo G I J)) :=
  (sm_blk X 30 158 (tt_lin 30 (by decide)) rfl rfl _ _ _ _).trans rfl
set_option maxRecDepth 100000 in
theorem bk_30_159 (X : (Nat → Int32) × Nat) (mo : Bool) (G : Nat × Nat) (I : Nat → Nat → Int32) (J : Nat → Nat → Int64) (Q : Option Value → sm_M → Prop) (x0 : Int32) (x1 : Int64) (x3 : Int64) (s0 : Int32) :
    sm_wp X 30 159 [some (.int x0), some (.long x1), none, some (.long x3), none] [.int s0] (sM mo G I J) Q =
    (sm_zb s0 ∧ Q (some (.int s0)) (sM mo G I J)) :=
  (sm_blk X 30 159 (tt_lin 30 (by decide)) rfl rfl _ _ _ _).trans rfl
set_option maxRecDepth 100000 in
theorem bk_30_160 (X : (Nat → Int32) × Nat) (mo : Bool) (G : Nat × Nat) (I : Nat → Nat → Int32) (J : Nat → Nat → Int64) (Q : Option Value → sm_M → Prop) (x0 : Int32) (x1 : Int64) (x3 : Int64) :
    sm_wp X 30 160 [some (.int x0), some (.long x1), none, some (.long x3), none] [] (sM mo G I J) Q =
    (if 0 < (lg_cmp x1 x3 : Int32) then sm_wp X 30 170 [some (.int x0), some (.long x1), none, some (.long x3), none] [] (sM mo G I J) Q else (sm_wp X 30 171 [some (.int x0), some (.long x1), none, some (.long x3), none] [.int 1] (sM mo G I J) Q)) :=
  (sm_blk X 30 160 (tt_lin 30 (by decide)) rfl rfl _ _ _ _).trans rfl
set_option maxRecDepth 100000 in
theorem bk_30_170 (X : (Nat → Int32) × Nat) (mo : Bool) (G : Nat × Nat) (I : Nat → Nat → Int32) (J : Nat → Nat → Int64) (Q : Option Value → sm_M → Prop) (x0 : Int32) (x1 : Int64) (x3 : Int64) :
    sm_wp X 30 170 [some (.int x0), some (.long x1), none, some (.long x3), none] [] (sM mo G I J) Q =
    (sm_zb 0 ∧ Q (some (.int 0)) (sM mo G I J)) :=
  (sm_blk X 30 170 (tt_lin 30 (by decide)) rfl rfl _ _ _ _).trans rfl
set_option maxRecDepth 100000 in
theorem bk_30_171 (X : (Nat → Int32) × Nat) (mo : Bool) (G : Nat × Nat) (I : Nat → Nat → Int32) (J : Nat → Nat → Int64) (Q : Option Value → sm_M → Prop) (x0 : Int32) (x1 : Int64) (x3 : Int64) (s0 : Int32) :
    sm_wp X 30 171 [some (.int x0), some (.long x1), none, some (.long x3), none] [.int s0] (sM mo G I J) Q =
    (sm_zb s0 ∧ Q (some (.int s0)) (sM mo G I J)) :=
  (sm_blk X 30 171 (tt_lin 30 (by decide)) rfl rfl _ _ _ _).trans rfl
set_option maxRecDepth 100000 in
theorem bk_30_172 (X : (Nat → Int32) × Nat) (mo : Bool) (G : Nat × Nat) (I : Nat → Nat → Int32) (J : Nat → Nat → Int64) (Q : Option Value → sm_M → Prop) (x0 : Int32) (x1 : Int64) (x3 : Int64) :
    sm_wp X 30 172 [some (.int x0), some (.long x1), none, some (.long x3), none] [] (sM mo G I J) Q =
    (if ¬ (lg_cmp x1 x3 : Int32) = 0 then sm_wp X 30 182 [some (.int x0), some (.long x1), none, some (.long x3), none] [] (sM mo G I J) Q else (sm_wp X 30 183 [some (.int x0), some (.long x1), none, some (.long x3), none] [.int 1] (sM mo G I J) Q)) :=
  (sm_blk X 30 172 (tt_lin 30 (by decide)) rfl rfl _ _ _ _).trans rfl
set_option maxRecDepth 100000 in
theorem bk_30_182 (X : (Nat → Int32) × Nat) (mo : Bool) (G : Nat × Nat) (I : Nat → Nat → Int32) (J : Nat → Nat → Int64) (Q : Option Value → sm_M → Prop) (x0 : Int32) (x1 : Int64) (x3 : Int64) :
    sm_wp X 30 182 [some (.int x0), some (.long x1), none, some (.long x3), none] [] (sM mo G I J) Q =
    (sm_zb 0 ∧ Q (some (.int 0)) (sM mo G I J)) :=
  (sm_blk X 30 182 (tt_lin 30 (by decide)) rfl rfl _ _ _ _).trans rfl
set_option maxRecDepth 100000 in
theorem bk_30_183 (X : (Nat → Int32) × Nat) (mo : Bool) (G : Nat × Nat) (I : Nat → Nat → Int32) (J : Nat → Nat → Int64) (Q : Option Value → sm_M → Prop) (x0 : Int32) (x1 : Int64) (x3 : Int64) (s0 : Int32) :
    sm_wp X 30 183 [some (.int x0), some (.long x1), none, some (.long x3), none] [.int s0] (sM mo G I J) Q =
    (sm_zb s0 ∧ Q (some (.int s0)) (sM mo G I J)) :=
  (sm_blk X 30 183 (tt_lin 30 (by decide)) rfl rfl _ _ _ _).trans rfl
set_option maxRecDepth 100000 in
theorem bk_30_184 (X : (Nat → Int32) × Nat) (mo : Bool) (G : Nat × Nat) (I : Nat → Nat → Int32) (J : Nat → Nat → Int64) (Q : Option Value → sm_M → Prop) (x0 : Int32) (x1 : Int64) (x3 : Int64) :
    sm_wp X 30 184 [some (.int x0), some (.long x1), none, some (.long x3), none] [] (sM mo G I J) Q =
    (if (lg_cmp x1 x3 : Int32) = 0 then sm_wp X 30 194 [some (.int x0), some (.long x1), none, some (.long x3), none] [] (sM mo G I J) Q else (sm_wp X 30 195 [some (.int x0), some (.long x1), none, some (.long x3), none] [.int 1] (sM mo G I J) Q)) :=
  (sm_blk X 30 184 (tt_lin 30 (by decide)) rfl rfl _ _ _ _).trans rfl
set_option maxRecDepth 100000 in
theorem bk_30_194 (X : (Nat → Int32) × Nat) (mo : Bool) (G : Nat × Nat) (I : Nat → Nat → Int32) (J : Nat → Nat → Int64) (Q : Option Value → sm_M → Prop) (x0 : Int32) (x1 : Int64) (x3 : Int64) :
    sm_wp X 30 194 [some (.int x0), some (.long x1), none, some (.long x3), none] [] (sM mo G I J) Q =
    (sm_zb 0 ∧ Q (some (.int 0)) (sM mo G I J)) :=
  (sm_blk X 30 194 (tt_lin 30 (by decide)) rfl rfl _ _ _ _).trans rfl
set_option maxRecDepth 100000 in
theorem bk_30_195 (X : (Nat → Int32) × Nat) (mo : Bool) (G : Nat × Nat) (I : Nat → Nat → Int32) (J : Nat → Nat → Int64) (Q : Option Value → sm_M → Prop) (x0 : Int32) (x1 : Int64) (x3 : Int64) (s0 : Int32) :
    sm_wp X 30 195 [some (.int x0), some (.long x1), none, some (.long x3), none] [.int s0] (sM mo G I J) Q =
    (sm_zb s0 ∧ Q (some (.int s0)) (sM mo G I J)) :=
  (sm_blk X 30 195 (tt_lin 30 (by decide)) rfl rfl _ _ _ _).trans rfl
set_option maxRecDepth 100000 in
theorem bk_30_196 (X : (Nat → Int32) × Nat) (mo : Bool) (G : Nat × Nat) (I : Nat → Nat → Int32) (J : Nat → Nat → Int64) (Q : Option Value → sm_M → Prop) (x0 : Int32) (x1 : Int64) (x3 : Int64) :
    sm_wp X 30 196 [some (.int x0), some (.long x1), none, some (.long x3), none] [] (sM mo G I J) Q =
    (if (lg_cmp x1 x3 : Int32) < 0 then sm_wp X 30 206 [some (.int x0), some (.long x1), none, some (.long x3), none] [] (sM mo G I J) Q else (sm_wp X 30 207 [some (.int x0), some (.long x1), none, some (.long x3), none] [.int 1] (sM mo G I J) Q)) :=
  (sm_blk X 30 196 (tt_lin 30 (by decide)) rfl rfl _ _ _ _).trans rfl
set_option maxRecDepth 100000 in
theorem bk_30_206 (X : (Nat → Int32) × Nat) (mo : Bool) (G : Nat × Nat) (I : Nat → Nat → Int32) (J : Nat → Nat → Int64) (Q : Option Value → sm_M → Prop) (x0 : Int32) (x1 : Int64) (x3 : Int64) :
    sm_wp X 30 206 [some (.int x0), some (.long x1), none, some (.long x3), none] [] (sM mo G I J) Q =
    (sm_zb 0 ∧ Q (some (.int 0)) (sM mo G I J)) :=
  (sm_blk X 30 206 (tt_lin 30 (by decide)) rfl rfl _ _ _ _).trans rfl
set_option maxRecDepth 100000 in
theorem bk_30_207 (X : (Nat → Int32) × Nat) (mo : Bool) (G : Nat × Nat) (I : Nat → Nat → Int32) (J : Nat → Nat → Int64) (Q : Option Value → sm_M → Prop) (x0 : Int32) (x1 : Int64) (x3 : Int64) (s0 : Int32) :
    sm_wp X 30 207 [some (.int x0), some (.long x1), none, some (.long x3), none] [.int s0] (sM mo G I J) Q =
    (sm_zb s0 ∧ Q (some (.int s0)) (sM mo G I J)) :=
  (sm_blk X 30 207 (tt_lin 30 (by decide)) rfl rfl _ _ _ _).trans rfl
set_option maxRecDepth 100000 in
theorem bk_30_208 (X : (Nat → Int32) × Nat) (mo : Bool) (G : Nat × Nat) (I : Nat → Nat → Int32) (J : Nat → Nat → Int64) (Q : Option Value → sm_M → Prop) (x0 : Int32) (x1 : Int64) (x3 : Int64) :
    sm_wp X 30 208 [some (.int x0), some (.long x1), none, some (.long x3), none] [] (sM mo G I J) Q =
    (if (lg_cmp x1 x3 : Int32) ≤ 0 then sm_wp X 30 218 [some (.int x0), some (.long x1), none, some (.long x3), none] [] (sM mo G I J) Q else (sm_wp X 30 219 [some (.int x0), some (.long x1), none, some (.long x3), none] [.int 1] (sM mo G I J) Q)) :=
  (sm_blk X 30 208 (tt_lin 30 (by decide)) rfl rfl _ _ _ _).trans rfl
set_option maxRecDepth 100000 in
theorem bk_30_218 (X : (Nat → Int32) × Nat) (mo : Bool) (G : Nat × Nat) (I : Nat → Nat → Int32) (J : Nat → Nat → Int64) (Q : Option Value → sm_M → Prop) (x0 : Int32) (x1 : Int64) (x3 : Int64) :
    sm_wp X 30 218 [some (.int x0), some (.long x1), none, some (.long x3), none] [] (sM mo G I J) Q =
    (sm_zb 0 ∧ Q (some (.int 0)) (sM mo G I J)) :=
  (sm_blk X 30 218 (tt_lin 30 (by decide)) rfl rfl _ _ _ _).trans rfl
set_option maxRecDepth 100000 in
theorem bk_30_219 (X : (Nat → Int32) × Nat) (mo : Bool) (G : Nat × Nat) (I : Nat → Nat → Int32) (J : Nat → Nat → Int64) (Q : Option Value → sm_M → Prop) (x0 : Int32) (x1 : Int64) (x3 : Int64) (s0 : Int32) :
    sm_wp X 30 219 [some (.int x0), some (.long x1), none, some (.long x3), none] [.int s0] (sM mo G I J) Q =
    (sm_zb s0 ∧ Q (some (.int s0)) (sM mo G I J)) :=
  (sm_blk X 30 219 (tt_lin 30 (by decide)) rfl rfl _ _ _ _).trans rfl
set_option maxRecDepth 100000 in
theorem bk_31_0 (X : (Nat → Int32) × Nat) (mo : Bool) (G : Nat × Nat) (I : Nat → Nat → Int32) (J : Nat → Nat → Int64) (Q : Option Value → sm_M → Prop) (x1 : Int64) :
    sm_wp X 31 0 [some (.ref 45), some (.long x1), none] [] (sM mo G I J) Q =
    (if (I 45 5 : Int32) < 0 then sm_wp X 31 36 [some (.ref 45), some (.long x1), none] [] (sM mo G I J) Q else (if (64 : Int32) ≤ (I 45 5 : Int32) then sm_wp X 31 36 [some (.ref 45), some (.long x1), none] [] (sM mo G I J) Q else (vp_in (I 45 5) 64 ∧ (True ∧ Q none (sM mo G (up2 I 45 5 ((I 45 5) + 1)) (up2 J 47 (I 45 5).toNatClampNeg x1)))))) :=
  (sm_blk X 31 0 (tt_lin 31 (by decide)) rfl rfl _ _ _ _).trans rfl
set_option maxRecDepth 100000 in
theorem bk_31_36 (X : (Nat → Int32) × Nat) (mo : Bool) (G : Nat × Nat) (I : Nat → Nat → Int32) (J : Nat → Nat → Int64) (Q : Option Value → sm_M → Prop) (x1 : Int64) :
    sm_wp X 31 36 [some (.ref 45), some (.long x1), none] [] (sM mo G I J) Q =
    (True ∧ Q none (sM mo G I J)) :=
  (sm_blk X 31 36 (tt_lin 31 (by decide)) rfl rfl _ _ _ _).trans rfl
set_option maxRecDepth 100000 in
theorem bk_32_0 (X : (Nat → Int32) × Nat) (mo : Bool) (G : Nat × Nat) (I : Nat → Nat → Int32) (J : Nat → Nat → Int64) (Q : Option Value → sm_M → Prop) (x1 : Int32) (x2 : Int32) :
    sm_wp X 32 0 [some (.ref 45), some (.int x1), some (.int x2), none, none] [] (sM mo G I J) Q =
    (sm_wp X 73 0 [some (.ref 31), some (.int x1)] [] (sM mo G I J) (fun v M => sm_wp X 32 8 [some (.ref 45), some (.int x1), some (.int x2), none, none] (v.toList ++ []) M Q)) :=
  (sm_blk X 32 0 (tt_lin 32 (by decide)) rfl rfl _ _ _ _).trans rfl
set_option maxRecDepth 100000 in
theorem bk_32_8 (X : (Nat → Int32) × Nat) (mo : Bool) (G : Nat × Nat) (I : Nat → Nat → Int32) (J : Nat → Nat → Int64) (Q : Option Value → sm_M → Prop) (x1 : Int32) (x2 : Int32) (s0 : Int32) :
    sm_wp X 32 8 [some (.ref 45), some (.int x1), some (.int x2), none, none] [.int s0] (sM mo G I J) Q =
    (sm_wp X 43 0 [some (.ref 21), some (.int s0), some (.int x2)] [] (sM mo G I J) (fun v M => sm_wp X 32 18 [some (.ref 45), some (.int x1), some (.int x2), some (.int s0), none] (v.toList ++ []) M Q)) :=
  (sm_blk X 32 8 (tt_lin 32 (by decide)) rfl rfl _ _ _ _).trans rfl
set_option maxRecDepth 100000 in
theorem bk_32_18 (X : (Nat → Int32) × Nat) (mo : Bool) (G : Nat × Nat) (I : Nat → Nat → Int32) (J : Nat → Nat → Int64) (Q : Option Value → sm_M → Prop) (x1 : Int32) (x2 : Int32) (x3 : Int32) (s0 : Int32) :
    sm_wp X 32 18 [some (.ref 45), some (.int x1), some (.int x2), some (.int x3), none] [.int s0] (sM mo G I J) Q =
    (if ¬ (s0 : Int32) = 0 then sm_wp X 32 22 [some (.ref 45), some (.int x1), some (.int x2), some (.int x3), none] [] (sM mo G I J) Q else (True ∧ Q none (sM mo G I J))) :=
  (sm_blk X 32 18 (tt_lin 32 (by decide)) rfl rfl _ _ _ _).trans rfl
set_option maxRecDepth 100000 in
theorem bk_32_22 (X : (Nat → Int32) × Nat) (mo : Bool) (G : Nat × Nat) (I : Nat → Nat → Int32) (J : Nat → Nat → Int64) (Q : Option Value → sm_M → Prop) (x1 : Int32) (x2 : Int32) (x3 : Int32) :
    sm_wp X 32 22 [some (.ref 45), some (.int x1), some (.int x2), some (.int x3), none] [] (sM mo G I J) Q =
    (sm_wp X 78 0 [some (.ref 31), some (.int x1), some (.int x2)] [] (sM mo G I J) (fun v M => sm_wp X 32 31 [some (.ref 45), some (.int x1), some (.int x2), some (.int x3), none] (v.toList ++ []) M Q)) :=
  (sm_blk X 32 22 (tt_lin 32 (by decide)) rfl rfl _ _ _ _).trans rfl
set_option maxRecDepth 100000 in
theorem bk_32_31 (X : (Nat → Int32) × Nat) (mo : Bool) (G : Nat × Nat) (I : Nat → Nat → Int32) (J : Nat → Nat → Int64) (Q : Option Value → sm_M → Prop) (x1 : Int32) (x2 : Int32) (x3 : Int32) :
    sm_wp X 32 31 [some (.ref 45), some (.int x1), some (.int x2), some (.int x3), none] [] (sM mo G I J) Q =
    (sm_wp X 42 0 [some (.ref 21), some (.int x3), some (.int x2)] [] (sM mo G I J) (fun v M => sm_wp X 32 40 [some (.ref 45), some (.int x1), some (.int x2), some (.int x3), none] (v.toList ++ []) M Q)) :=
  (sm_blk X 32 31 (tt_lin 32 (by decide)) rfl rfl _ _ _ _).trans rfl
set_option maxRecDepth 100000 in
theorem bk_32_40 (X : (Nat → Int32) × Nat) (mo : Bool) (G : Nat × Nat) (I : Nat → Nat → Int32) (J : Nat → Nat → Int64) (Q : Option Value → sm_M → Prop) (x1 : Int32) (x2 : Int32) (x3 : Int32) (s0 : Int32) :
    sm_wp X 32 40 [some (.ref 45), some (.int x1), some (.int x2), some (.int x3), none] [.int s0] (sM mo G I J) Q =
    (if ¬ (s0 : Int32) = 0 then sm_wp X 32 59 [some (.ref 45), some (.int x1), some (.int x2), some (.int x3), some (.int s0)] [] (sM mo G I J) Q else (sm_wp X 74 0 [some (.ref 31), some (.int x1), some (.int 2)] [] (sM mo G I J) (fun v M => sm_wp X 32 56 [some (.ref 45), some (.int x1), some (.int x2), some (.int x3), some (.int s0)] (v.toList ++ []) M Q))) :=
  (sm_blk X 32 40 (tt_lin 32 (by decide)) rfl rfl _ _ _ _).trans rfl
set_option maxRecDepth 100000 in
theorem bk_32_56 (X : (Nat → Int32) × Nat) (mo : Bool) (G : Nat × Nat) (I : Nat → Nat → Int32) (J : Nat → Nat → Int64) (Q : Option Value → sm_M → Prop) (x1 : Int32) (x2 : Int32) (x3 : Int32) (x4 : Int32) :
    sm_wp X 32 56 [some (.ref 45), some (.int x1), some (.int x2), some (.int x3), some (.int x4)] [] (sM mo G I J) Q =
    (sm_wp X 32 118 [some (.ref 45), some (.int x1), some (.int x2), some (.int x3), some (.int x4)] [] (sM mo G I J) Q) :=
  (sm_blk X 32 56 (tt_lin 32 (by decide)) rfl rfl _ _ _ _).trans rfl
set_option maxRecDepth 100000 in
theorem bk_32_59 (X : (Nat → Int32) × Nat) (mo : Bool) (G : Nat × Nat) (I : Nat → Nat → Int32) (J : Nat → Nat → Int64) (Q : Option Value → sm_M → Prop) (x1 : Int32) (x2 : Int32) (x3 : Int32) (x4 : Int32) :
    sm_wp X 32 59 [some (.ref 45), some (.int x1), some (.int x2), some (.int x3), some (.int x4)] [] (sM mo G I J) Q =
    (if ¬ (x4 : Int32) = (1 : Int32) then sm_wp X 32 77 [some (.ref 45), some (.int x1), some (.int x2), some (.int x3), some (.int x4)] [] (sM mo G I J) Q else (sm_wp X 74 0 [some (.ref 31), some (.int x1), some (.int 3)] [] (sM mo G I J) (fun v M => sm_wp X 32 74 [some (.ref 45), some (.int x1), some (.int x2), some (.int x3), some (.int x4)] (v.toList ++ []) M Q))) :=
  (sm_blk X 32 59 (tt_lin 32 (by decide)) rfl rfl _ _ _ _).trans rfl
set_option maxRecDepth 100000 in
theorem bk_32_74 (X : (Nat → Int32) × Nat) (mo : Bool) (G : Nat × Nat) (I : Nat → Nat → Int32) (J : Nat → Nat → Int64) (Q : Option Value → sm_M → Prop) (x1 : Int32) (x2 : Int32) (x3 : Int32) (x4 : Int32) :
    sm_wp X 32 74 [some (.ref 45), some (.int x1), some (.int x2), some (.int x3), some (.int x4)] [] (sM mo G I J) Q =
    (sm_wp X 32 118 [some (.ref 45), some (.int x1), some (.int x2), some (.int x3), some (.int x4)] [] (sM mo G I J) Q) :=
  (sm_blk X 32 74 (tt_lin 32 (by decide)) rfl rfl _ _ _ _).trans rfl
set_option maxRecDepth 100000 in
theorem bk_32_77 (X : (Nat → Int32) × Nat) (mo : Bool) (G : Nat × Nat) (I : Nat → Nat → Int32) (J : Nat → Nat → Int64) (Q : Option Value → sm_M → Prop) (x1 : Int32) (x2 : Int32) (x3 : Int32) (x4 : Int32) :
    sm_wp X 32 77 [some (.ref 45), some (.int x1), some (.int x2), some (.int x3), some (.int x4)] [] (sM mo G I J) Q =
    (if ¬ (x4 : Int32) = (2 : Int32) then sm_wp X 32 118 [some (.ref 45), some (.int x1), some (.int x2), some (.int x3), some (.int x4)] [] (sM mo G I J) Q else (sm_wp X 74 0 [some (.ref 31), some (.int x1), some (.int 1)] [] (sM mo G I J) (fun v M => sm_wp X 32 92 [some (.ref 45), some (.int x1), some (.int x2), some (.int x3), some (.int x4)] (v.toList ++ []) M Q))) :=
  (sm_blk X 32 77 (tt_lin 32 (by decide)) rfl rfl _ _ _ _).trans rfl
set_option maxRecDepth 100000 in
theorem bk_32_92 (X : (Nat → Int32) × Nat) (mo : Bool) (G : Nat × Nat) (I : Nat → Nat → Int32) (J : Nat → Nat → Int64) (Q : Option Value → sm_M → Prop) (x1 : Int32) (x2 : Int32) (x3 : Int32) (x4 : Int32) :
    sm_wp X 32 92 [some (.ref 45), some (.int x1), some (.int x2), some (.int x3), some (.int x4)] [] (sM mo G I J) Q =
    (sm_wp X 110 0 [some (.ref 1), some (.int x3)] [] (sM mo G I J) (fun v M => sm_wp X 32 113 [some (.ref 45), some (.int x1), some (.int x2), some (.int x3), some (.int x4)] (v.toList ++ [.int 2, .int (I 1 3), .int x1, .ref 31]) M Q)) :=
  (sm_blk X 32 92 (tt_lin 32 (by decide)) rfl rfl _ _ _ _).trans rfl
set_option maxRecDepth 100000 in
theorem bk_32_113 (X : (Nat → Int32) × Nat) (mo : Bool) (G : Nat × Nat) (I : Nat → Nat → Int32) (J : Nat → Nat → Int64) (Q : Option Value → sm_M → Prop) (x1 : Int32) (x2 : Int32) (x3 : Int32) (x4 : Int32) (s1 : Int32) (s2 : Int32) (s3 : Int32) (s4 : Int32) :
    sm_wp X 32 113 [some (.ref 45), some (.int x1), some (.int x2), some (.int x3), some (.int x4)] [.int s4, .int s3, .int s2, .int s1, .ref 31] (sM mo G I J) Q =
    (sm_wp X 79 0 [some (.ref 31), some (.int s1), some (.int (s2 + (s3 * s4)))] [] (sM mo G I J) (fun v M => sm_wp X 32 118 [some (.ref 45), some (.int x1), some (.int x2), some (.int x3), some (.int x4)] (v.toList ++ []) M Q)) :=
  (sm_blk X 32 113 (tt_lin 32 (by decide)) rfl rfl _ _ _ _).trans rfl
set_option maxRecDepth 100000 in
theorem bk_32_118 (X : (Nat → Int32) × Nat) (mo : Bool) (G : Nat × Nat) (I : Nat → Nat → Int32) (J : Nat → Nat → Int64) (Q : Option Value → sm_M → Prop) (x1 : Int32) (x2 : Int32) (x3 : Int32) (x4 : Int32) :
    sm_wp X 32 118 [some (.ref 45), some (.int x1), some (.int x2), some (.int x3), some (.int x4)] [] (sM mo G I J) Q =
    (True ∧ Q none (sM mo G I J)) :=
  (sm_blk X 32 118 (tt_lin 32 (by decide)) rfl rfl _ _ _ _).trans rfl
set_option maxRecDepth 100000 in
theorem bk_33_0 (X : (Nat → Int32) × Nat) (mo : Bool) (G : Nat × Nat) (I : Nat → Nat → Int32) (J : Nat → Nat → Int64) (Q : Option Value → sm_M → Prop) (x1 : Int32) (x2 : Int32) :
    sm_wp X 33 0 [some (.ref 45), some (.int x1), some (.int x2)] [] (sM mo G I J) Q =
    (if ¬ (x2 : Int32) = ((-1) : Int32) then sm_wp X 33 17 [some (.ref 45), some (.int x1), some (.int x2)] [] (sM mo G I J) Q else (sm_wp X 74 0 [some (.ref 31), some (.int x1), some (.int 3)] [] (sM mo G I J) (fun v M => sm_wp X 33 14 [some (.ref 45), some (.int x1), some (.int x2)] (v.toList ++ []) M Q))) :=
  (sm_blk X 33 0 (tt_lin 33 (by decide)) rfl rfl _ _ _ _).trans rfl
set_option maxRecDepth 100000 in
theorem bk_33_14 (X : (Nat → Int32) × Nat) (mo : Bool) (G : Nat × Nat) (I : Nat → Nat → Int32) (J : Nat → Nat → Int64) (Q : Option Value → sm_M → Prop) (x1 : Int32) (x2 : Int32) :
    sm_wp X 33 14 [some (.ref 45), some (.int x1), some (.int x2)] [] (sM mo G I J) Q =
    (sm_wp X 33 35 [some (.ref 45), some (.int x1), some (.int x2)] [] (sM mo G I J) Q) :=
  (sm_blk X 33 14 (tt_lin 33 (by decide)) rfl rfl _ _ _ _).trans rfl
set_option maxRecDepth 100000 in
theorem bk_33_17 (X : (Nat → Int32) × Nat) (mo : Bool) (G : Nat × Nat) (I : Nat → Nat → Int32) (J : Nat → Nat → Int64) (Q : Option Value → sm_M → Prop) (x1 : Int32) (x2 : Int32) :
    sm_wp X 33 17 [some (.ref 45), some (.int x1), some (.int x2)] [] (sM mo G I J) Q =
    (sm_wp X 74 0 [some (.ref 31), some (.int x1), some (.int 2)] [] (sM mo G I J) (fun v M => sm_wp X 33 26 [some (.ref 45), some (.int x1), some (.int x2)] (v.toList ++ []) M Q)) :=
  (sm_blk X 33 17 (tt_lin 33 (by decide)) rfl rfl _ _ _ _).trans rfl
set_option maxRecDepth 100000 in
theorem bk_33_26 (X : (Nat → Int32) × Nat) (mo : Bool) (G : Nat × Nat) (I : Nat → Nat → Int32) (J : Nat → Nat → Int64) (Q : Option Value → sm_M → Prop) (x1 : Int32) (x2 : Int32) :
    sm_wp X 33 26 [some (.ref 45), some (.int x1), some (.int x2)] [] (sM mo G I J) Q =
    (sm_wp X 78 0 [some (.ref 31), some (.int x1), some (.int x2)] [] (sM mo G I J) (fun v M => sm_wp X 33 35 [some (.ref 45), some (.int x1), some (.int x2)] (v.toList ++ []) M Q)) :=
  (sm_blk X 33 26 (tt_lin 33 (by decide)) rfl rfl _ _ _ _).trans rfl
set_option maxRecDepth 100000 in
theorem bk_33_35 (X : (Nat → Int32) × Nat) (mo : Bool) (G : Nat × Nat) (I : Nat → Nat → Int32) (J : Nat → Nat → Int64) (Q : Option Value → sm_M → Prop) (x1 : Int32) (x2 : Int32) :
    sm_wp X 33 35 [some (.ref 45), some (.int x1), some (.int x2)] [] (sM mo G I J) Q =
    (True ∧ Q none (sM mo G I J)) :=
  (sm_blk X 33 35 (tt_lin 33 (by decide)) rfl rfl _ _ _ _).trans rfl
set_option maxRecDepth 100000 in
theorem bk_34_0 (X : (Nat → Int32) × Nat) (mo : Bool) (G : Nat × Nat) (I : Nat → Nat → Int32) (J : Nat → Nat → Int64) (Q : Option Value → sm_M → Prop) (x1 : Int32) :
    sm_wp X 34 0 [some (.ref 45), some (.int x1), none, none, none, none] [] (sM mo G I J) Q =
    (sm_wp X 34 7 [some (.ref 45), some (.int x1), some (.int 0), some (.int 0), some (.int 0), none] [] (sM mo G I J) Q) :=
  (sm_blk X 34 0 (tt_lin 34 (by decide)) rfl rfl _ _ _ _).trans rfl
set_option maxRecDepth 100000 in
theorem bk_34_7 (X : (Nat → Int32) × Nat) (mo : Bool) (G : Nat × Nat) (I : Nat → Nat → Int32) (J : Nat → Nat → Int64) (Q : Option Value → sm_M → Prop) (x1 : Int32) (x2 : Int32) (x3 : Int32) (x4 : Int32) :
    sm_wp X 34 7 [some (.ref 45), some (.int x1), some (.int x2), some (.int x3), some (.int x4), none] [] (sM mo G I J) Q =
    (if (I 31 0 : Int32) ≤ (x4 : Int32) then sm_wp X 34 99 [some (.ref 45), some (.int x1), some (.int x2), some (.int x3), some (.int x4), none] [] (sM mo G I J) Q else (sm_wp X 81 0 [some (.ref 31), some (.int x1), some (.int x4)] [] (sM mo G I J) (fun v M => sm_wp X 34 29 [some (.ref 45), some (.int x1), some (.int x2), some (.int x3), some (.int x4), none] (v.toList ++ []) M Q))) :=
  (sm_blk X 34 7 (tt_lin 34 (by decide)) rfl rfl _ _ _ _).trans rfl
set_option maxRecDepth 100000 in
theorem bk_34_29 (X : (Nat → Int32) × Nat) (mo : Bool) (G : Nat × Nat) (I : Nat → Nat → Int32) (J : Nat → Nat → Int64) (Q : Option Value → sm_M → Prop) (x1 : Int32) (x2 : Int32) (x3 : Int32) (x4 : Int32) (s0 : Int32) :
    sm_wp X 34 29 [some (.ref 45), some (.int x1), some (.int x2), some (.int x3), some (.int x4), none] [.int s0] (sM mo G I J) Q =
    (if (s0 : Int32) = 0 then sm_wp X 34 93 [some (.ref 45), some (.int x1), some (.int x2), some (.int x3), some (.int x4), none] [] (sM mo G I J) Q else (sm_wp X 70 0 [some (.ref 31), some (.int x4)] [] (sM mo G I J) (fun v M => sm_wp X 34 41 [some (.ref 45), some (.int x1), some (.int x2), some (.int x3), some (.int x4), none] (v.toList ++ []) M Q))) :=
  (sm_blk X 34 29 (tt_lin 34 (by decide)) rfl rfl _ _ _ _).trans rfl
set_option maxRecDepth 100000 in
theorem bk_34_41 (X : (Nat → Int32) × Nat) (mo : Bool) (G : Nat × Nat) (I : Nat → Nat → Int32) (J : Nat → Nat → Int64) (Q : Option Value → sm_M → Prop) (x1 : Int32) (x2 : Int32) (x3 : Int32) (x4 : Int32) (s0 : Int32) :
    sm_wp X 34 41 [some (.ref 45), some (.int x1), some (.int x2), some (.int x3), some (.int x4), none] [.int s0] (sM mo G I J) Q =
    (if ¬ (x2 : Int32) = 0 then sm_wp X 34 66 [some (.ref 45), some (.int x1), some (.int x2), some (.int x3), some (.int x4), some (.int s0)] [] (sM mo G I J) Q else (if (s0 : Int32) = (3 : Int32) then sm_wp X 34 66 [some (.ref 45), some (.int x1), some (.int x2), some (.int x3), some (.int x4), some (.int s0)] [] (sM mo G I J) Q else (if (s0 : Int32) = (4 : Int32) then sm_wp X 34 66 [some (.ref 45), some (.int x1), some (.int x2), some (.int x3), some (.int x4), some (.int s0)] [] (sM mo G I J) Q else (if ¬ (s0 : Int32) = (6 : Int32) then sm_wp X 34 70 [some (.ref 45), some (.int x1), some (.int x2), some (.int x3), some (.int x4), some (.int s0)] [] (sM mo G I J) Q else (sm_wp X 34 71 [some (.ref 45), some (.int x1), some (.int x2), some (.int x3), some (.int x4), some (.int s0)] [.int 1] (sM mo G I J) Q))))) :=
  (sm_blk X 34 41 (tt_lin 34 (by decide)) rfl rfl _ _ _ _).trans rfl
set_option maxRecDepth 100000 in
theorem bk_34_66 (X : (Nat → Int32) × Nat) (mo : Bool) (G : Nat × Nat) (I : Nat → Nat → Int32) (J : Nat → Nat → Int64) (Q : Option Value → sm_M → Prop) (x1 : Int32) (x2 : Int32) (x3 : Int32) (x4 : Int32) (x5 : Int32) :
    sm_wp X 34 66 [some (.ref 45), some (.int x1), some (.int x2), some (.int x3), some (.int x4), some (.int x5)] [] (sM mo G I J) Q =
    (sm_wp X 34 71 [some (.ref 45), some (.int x1), some (.int x2), some (.int x3), some (.int x4), some (.int x5)] [.int 1] (sM mo G I J) Q) :=
  (sm_blk X 34 66 (tt_lin 34 (by decide)) rfl rfl _ _ _ _).trans rfl
set_option maxRecDepth 100000 in
theorem bk_34_70 (X : (Nat → Int32) × Nat) (mo : Bool) (G : Nat × Nat) (I : Nat → Nat → Int32) (J : Nat → Nat → Int64) (Q : Option Value → sm_M → Prop) (x1 : Int32) (x2 : Int32) (x3 : Int32) (x4 : Int32) (x5 : Int32) :
    sm_wp X 34 70 [some (.ref 45), some (.int x1), some (.int x2), some (.int x3), some (.int x4), some (.int x5)] [] (sM mo G I J) Q =
    (if ¬ (x3 : Int32) = 0 then sm_wp X 34 87 [some (.ref 45), some (.int x1), some (.int 0), some (.int x3), some (.int x4), some (.int x5)] [] (sM mo G I J) Q else (if (x5 : Int32) = 0 then sm_wp X 34 87 [some (.ref 45), some (.int x1), some (.int 0), some (.int x3), some (.int x4), some (.int x5)] [] (sM mo G I J) Q else (if ¬ (x5 : Int32) = (1 : Int32) then sm_wp X 34 91 [some (.ref 45), some (.int x1), some (.int 0), some (.int x3), some (.int x4), some (.int x5)] [] (sM mo G I J) Q else (sm_wp X 34 92 [some (.ref 45), some (.int x1), some (.int 0), some (.int x3), some (.int x4), some (.int x5)] [.int 1] (sM mo G I J) Q)))) :=
  (sm_blk X 34 70 (tt_lin 34 (by decide)) rfl rfl _ _ _ _).trans rfl
set_option maxRecDepth 100000 in
theorem bk_34_71 (X : (Nat → Int32) × Nat) (mo : Bool) (G : Nat × Nat) (I : Nat → Nat → Int32) (J : Nat → Nat → Int64) (Q : Option Value → sm_M → Prop) (x1 : Int32) (x2 : Int32) (x3 : Int32) (x4 : Int32) (x5 : Int32) (s0 : Int32) :
    sm_wp X 34 71 [some (.ref 45), some (.int x1), some (.int x2), some (.int x3), some (.int x4), some (.int x5)] [.int s0] (sM mo G I J) Q =
    (if ¬ (x3 : Int32) = 0 then sm_wp X 34 87 [some (.ref 45), some (.int x1), some (.int s0), some (.int x3), some (.int x4), some (.int x5)] [] (sM mo G I J) Q else (if (x5 : Int32) = 0 then sm_wp X 34 87 [some (.ref 45), some (.int x1), some (.int s0), some (.int x3), some (.int x4), some (.int x5)] [] (sM mo G I J) Q else (if ¬ (x5 : Int32) = (1 : Int32) then sm_wp X 34 91 [some (.ref 45), some (.int x1), some (.int s0), some (.int x3), some (.int x4), some (.int x5)] [] (sM mo G I J) Q else (sm_wp X 34 92 [some (.ref 45), some (.int x1), some (.int s0), some (.int x3), some (.int x4), some (.int x5)] [.int 1] (sM mo G I J) Q)))) :=
  (sm_blk X 34 71 (tt_lin 34 (by decide)) rfl rfl _ _ _ _).trans rfl
set_option maxRecDepth 100000 in
theorem bk_34_87 (X : (Nat → Int32) × Nat) (mo : Bool) (G : Nat × Nat) (I : Nat → Nat → Int32) (J : Nat → Nat → Int64) (Q : Option Value → sm_M → Prop) (x1 : Int32) (x2 : Int32) (x3 : Int32) (x4 : Int32) (x5 : Int32) :
    sm_wp X 34 87 [some (.ref 45), some (.int x1), some (.int x2), some (.int x3), some (.int x4), some (.int x5)] [] (sM mo G I J) Q =
    (sm_wp X 34 92 [some (.ref 45), some (.int x1), some (.int x2), some (.int x3), some (.int x4), some (.int x5)] [.int 1] (sM mo G I J) Q) :=
  (sm_blk X 34 87 (tt_lin 34 (by decide)) rfl rfl _ _ _ _).trans rfl
set_option maxRecDepth 100000 in
theorem bk_34_91 (X : (Nat → Int32) × Nat) (mo : Bool) (G : Nat × Nat) (I : Nat → Nat → Int32) (J : Nat → Nat → Int64) (Q : Option Value → sm_M → Prop) (x1 : Int32) (x2 : Int32) (x3 : Int32) (x4 : Int32) (x5 : Int32) :
    sm_wp X 34 91 [some (.ref 45), some (.int x1), some (.int x2), some (.int x3), some (.int x4), some (.int x5)] [] (sM mo G I J) Q =
    (sm_wp X 34 7 [some (.ref 45), some (.int x1), some (.int x2), some (.int 0), some (.int (x4 + 1)), none] [] (sM mo G I J) Q) :=
  (sm_blk X 34 91 (tt_lin 34 (by decide)) rfl rfl _ _ _ _).trans rfl
set_option maxRecDepth 100000 in
theorem bk_34_92 (X : (Nat → Int32) × Nat) (mo : Bool) (G : Nat × Nat) (I : Nat → Nat → Int32) (J : Nat → Nat → Int64) (Q : Option Value → sm_M → Prop) (x1 : Int32) (x2 : Int32) (x3 : Int32) (x4 : Int32) (x5 : Int32) (s0 : Int32) :
    sm_wp X 34 92 [some (.ref 45), some (.int x1), some (.int x2), some (.int x3), some (.int x4), some (.int x5)] [.int s0] (sM mo G I J) Q =
    (sm_wp X 34 7 [some (.ref 45), some (.int x1), some (.int x2), some (.int s0), some (.int (x4 + 1)), none] [] (sM mo G I J) Q) :=
  (sm_blk X 34 92 (tt_lin 34 (by decide)) rfl rfl _ _ _ _).trans rfl
set_option maxRecDepth 100000 in
theorem bk_34_93 (X : (Nat → Int32) × Nat) (mo : Bool) (G : Nat × Nat) (I : Nat → Nat → Int32) (J : Nat → Nat → Int64) (Q : Option Value → sm_M → Prop) (x1 : Int32) (x2 : Int32) (x3 : Int32) (x4 : Int32) :
    sm_wp X 34 93 [some (.ref 45), some (.int x1), some (.int x2), some (.int x3), some (.int x4), none] [] (sM mo G I J) Q =
    (sm_wp X 34 7 [some (.ref 45), some (.int x1), some (.int x2), some (.int x3), some (.int (x4 + 1)), none] [] (sM mo G I J) Q) :=
  (sm_blk X 34 93 (tt_lin 34 (by decide)) rfl rfl _ _ _ _).trans rfl
set_option maxRecDepth 100000 in
theorem bk_34_99 (X : (Nat → Int32) × Nat) (mo : Bool) (G : Nat × Nat) (I : Nat → Nat → Int32) (J : Nat → Nat → Int64) (Q : Option Value → sm_M → Prop) (x1 : Int32) (x2 : Int32) (x3 : Int32) (x4 : Int32) :
    sm_wp X 34 99 [some (.ref 45), some (.int x1), some (.int x2), some (.int x3), some (.int x4), none] [] (sM mo G I J) Q =
    (if (x2 : Int32) = 0 then sm_wp X 34 113 [some (.ref 45), some (.int x1), some (.int x2), some (.int x3), some (.int x4), none] [] (sM mo G I J) Q else (sm_wp X 35 0 [some (.ref 45), some (.int x1), some (.int 6), none] [] (sM mo G I J) (fun v M => sm_wp X 34 110 [some (.ref 45), some (.int x1), some (.int x2), some (.int x3), some (.int x4), none] (v.toList ++ []) M Q))) :=
  (sm_blk X 34 99 (tt_lin 34 (by decide)) rfl rfl _ _ _ _).trans rfl
set_option maxRecDepth 100000 in
theorem bk_34_110 (X : (Nat → Int32) × Nat) (mo : Bool) (G : Nat × Nat) (I : Nat → Nat → Int32) (J : Nat → Nat → Int64) (Q : Option Value → sm_M → Prop) (x1 : Int32) (x2 : Int32) (x3 : Int32) (x4 : Int32) :
    sm_wp X 34 110 [some (.ref 45), some (.int x1), some (.int x2), some (.int x3), some (.int x4), none] [] (sM mo G I J) Q =
    (sm_wp X 34 122 [some (.ref 45), some (.int x1), some (.int x2), some (.int x3), some (.int x4), none] [] (sM mo G I J) Q) :=
  (sm_blk X 34 110 (tt_lin 34 (by decide)) rfl rfl _ _ _ _).trans rfl
set_option maxRecDepth 100000 in
theorem bk_34_113 (X : (Nat → Int32) × Nat) (mo : Bool) (G : Nat × Nat) (I : Nat → Nat → Int32) (J : Nat → Nat → Int64) (Q : Option Value → sm_M → Prop) (x1 : Int32) (x2 : Int32) (x3 : Int32) (x4 : Int32) :
    sm_wp X 34 113 [some (.ref 45), some (.int x1), some (.int x2), some (.int x3), some (.int x4), none] [] (sM mo G I J) Q =
    (if ¬ (x3 : Int32) = 0 then sm_wp X 34 122 [some (.ref 45), some (.int x1), some (.int x2), some (.int x3), some (.int x4), none] [] (sM mo G I J) Q else (sm_wp X 36 0 [some (.ref 45), some (.int x1), none] [] (sM mo G I J) (fun v M => sm_wp X 34 122 [some (.ref 45), some (.int x1), some (.int x2), some (.int x3), some (.int x4), none] (v.toList ++ []) M Q))) :=
  (sm_blk X 34 113 (tt_lin 34 (by decide)) rfl rfl _ _ _ _).trans rfl
set_option maxRecDepth 100000 in
theorem bk_34_122 (X : (Nat → Int32) × Nat) (mo : Bool) (G : Nat × Nat) (I : Nat → Nat → Int32) (J : Nat → Nat → Int64) (Q : Option Value → sm_M → Prop) (x1 : Int32) (x2 : Int32) (x3 : Int32) (x4 : Int32) :
    sm_wp X 34 122 [some (.ref 45), some (.int x1), some (.int x2), some (.int x3), some (.int x4), none] [] (sM mo G I J) Q =
    (True ∧ Q none (sM mo G I J)) :=
  (sm_blk X 34 122 (tt_lin 34 (by decide)) rfl rfl _ _ _ _).trans rfl
set_option maxRecDepth 100000 in
theorem bk_35_0 (X : (Nat → Int32) × Nat) (mo : Bool) (G : Nat × Nat) (I : Nat → Nat → Int32) (J : Nat → Nat → Int64) (Q : Option Value → sm_M → Prop) (x1 : Int32) (x2 : Int32) :
    sm_wp X 35 0 [some (.ref 45), some (.int x1), some (.int x2), none] [] (sM mo G I J) Q =
    (sm_wp X 35 2 [some (.ref 45), some (.int x1), some (.int x2), some (.int 0)] [] (sM mo G I J) Q) :=
  (sm_blk X 35 0 (tt_lin 35 (by decide)) rfl rfl _ _ _ _).trans rfl
set_option maxRecDepth 100000 in
theorem bk_35_2 (X : (Nat → Int32) × Nat) (mo : Bool) (G : Nat × Nat) (I : Nat → Nat → Int32) (J : Nat → Nat → Int64) (Q : Option Value → sm_M → Prop) (x1 : Int32) (x2 : Int32) (x3 : Int32) :
    sm_wp X 35 2 [some (.ref 45), some (.int x1), some (.int x2), some (.int x3)] [] (sM mo G I J) Q =
    (if (I 31 0 : Int32) ≤ (x3 : Int32) then sm_wp X 35 51 [some (.ref 45), some (.int x1), some (.int x2), some (.int x3)] [] (sM mo G I J) Q else (sm_wp X 81 0 [some (.ref 31), some (.int x1), some (.int x3)] [] (sM mo G I J) (fun v M => sm_wp X 35 22 [some (.ref 45), some (.int x1), some (.int x2), some (.int x3)] (v.toList ++ []) M Q))) :=
  (sm_blk X 35 2 (tt_lin 35 (by decide)) rfl rfl _ _ _ _).trans rfl
set_option maxRecDepth 100000 in
theorem bk_35_22 (X : (Nat → Int32) × Nat) (mo : Bool) (G : Nat × Nat) (I : Nat → Nat → Int32) (J : Nat → Nat → Int64) (Q : Option Value → sm_M → Prop) (x1 : Int32) (x2 : Int32) (x3 : Int32) (s0 : Int32) :
    sm_wp X 35 22 [some (.ref 45), some (.int x1), some (.int x2), some (.int x3)] [.int s0] (sM mo G I J) Q =
    (if (s0 : Int32) = 0 then sm_wp X 35 45 [some (.ref 45), some (.int x1), some (.int x2), some (.int x3)] [] (sM mo G I J) Q else (sm_wp X 82 0 [some (.ref 31), some (.int x3), none] [] (sM mo G I J) (fun v M => sm_wp X 35 33 [some (.ref 45), some (.int x1), some (.int x2), some (.int x3)] (v.toList ++ []) M Q))) :=
  (sm_blk X 35 22 (tt_lin 35 (by decide)) rfl rfl _ _ _ _).trans rfl
set_option maxRecDepth 100000 in
theorem bk_35_33 (X : (Nat → Int32) × Nat) (mo : Bool) (G : Nat × Nat) (I : Nat → Nat → Int32) (J : Nat → Nat → Int64) (Q : Option Value → sm_M → Prop) (x1 : Int32) (x2 : Int32) (x3 : Int32) (s0 : Int32) :
    sm_wp X 35 33 [some (.ref 45), some (.int x1), some (.int x2), some (.int x3)] [.int s0] (sM mo G I J) Q =
    (if (s0 : Int32) = 0 then sm_wp X 35 45 [some (.ref 45), some (.int x1), some (.int x2), some (.int x3)] [] (sM mo G I J) Q else (sm_wp X 74 0 [some (.ref 31), some (.int x3), some (.int x2)] [] (sM mo G I J) (fun v M => sm_wp X 35 45 [some (.ref 45), some (.int x1), some (.int x2), some (.int x3)] (v.toList ++ []) M Q))) :=
  (sm_blk X 35 33 (tt_lin 35 (by decide)) rfl rfl _ _ _ _).trans rfl
set_option maxRecDepth 100000 in
theorem bk_35_45 (X : (Nat → Int32) × Nat) (mo : Bool) (G : Nat × Nat) (I : Nat → Nat → Int32) (J : Nat → Nat → Int64) (Q : Option Value → sm_M → Prop) (x1 : Int32) (x2 : Int32) (x3 : Int32) :
    sm_wp X 35 45 [some (.ref 45), some (.int x1), some (.int x2), some (.int x3)] [] (sM mo G I J) Q =
    (sm_wp X 35 2 [some (.ref 45), some (.int x1), some (.int x2), some (.int (x3 + 1))] [] (sM mo G I J) Q) :=
  (sm_blk X 35 45 (tt_lin 35 (by decide)) rfl rfl _ _ _ _).trans rfl
set_option maxRecDepth 100000 in
theorem bk_35_51 (X : (Nat → Int32) × Nat) (mo : Bool) (G : Nat × Nat) (I : Nat → Nat → Int32) (J : Nat → Nat → Int64) (Q : Option Value → sm_M → Prop) (x1 : Int32) (x2 : Int32) (x3 : Int32) :
    sm_wp X 35 51 [some (.ref 45), some (.int x1), some (.int x2), some (.int x3)] [] (sM mo G I J) Q =
    (True ∧ Q none (sM mo G I J)) :=
  (sm_blk X 35 51 (tt_lin 35 (by decide)) rfl rfl _ _ _ _).trans rfl
set_option maxRecDepth 100000 in
theorem bk_36_0 (X : (Nat → Int32) × Nat) (mo : Bool) (G : Nat × Nat) (I : Nat → Nat → Int32) (J : Nat → Nat → Int64) (Q : Option Value → sm_M → Prop) (x1 : Int32) :
    sm_wp X 36 0 [some (.ref 45), some (.int x1), none] [] (sM mo G I J) Q =
    (sm_wp X 37 0 [some (.ref 45), some (.int x1), none, none, none, none] [] (sM mo G I J) (fun v M => sm_wp X 36 5 [some (.ref 45), some (.int x1), none] (v.toList ++ []) M Q)) :=
  (sm_blk X 36 0 (tt_lin 36 (by decide)) rfl rfl _ _ _ _).trans rfl
set_option maxRecDepth 100000 in
theorem bk_36_5 (X : (Nat → Int32) × Nat) (mo : Bool) (G : Nat × Nat) (I : Nat → Nat → Int32) (J : Nat → Nat → Int64) (Q : Option Value → sm_M → Prop) (x1 : Int32) (s0 : Int32) :
    sm_wp X 36 5 [some (.ref 45), some (.int x1), none] [.int s0] (sM mo G I J) Q =
    (if ¬ (s0 : Int32) = 0 then sm_wp X 36 16 [some (.ref 45), some (.int x1), none] [] (sM mo G I J) Q else (sm_wp X 35 0 [some (.ref 45), some (.int x1), some (.int 6), none] [] (sM mo G I J) (fun v M => sm_wp X 36 15 [some (.ref 45), some (.int x1), none] (v.toList ++ []) M Q))) :=
  (sm_blk X 36 5 (tt_lin 36 (by decide)) rfl rfl _ _ _ _).trans rfl
set_option maxRecDepth 100000 in
theorem bk_36_15 (X : (Nat → Int32) × Nat) (mo : Bool) (G : Nat × Nat) (I : Nat → Nat → Int32) (J : Nat → Nat → Int64) (Q : Option Value → sm_M → Prop) (x1 : Int32) :
    sm_wp X 36 15 [some (.ref 45), some (.int x1), none] [] (sM mo G I J) Q =
    (True ∧ Q none (sM mo G I J)) :=
  (sm_blk X 36 15 (tt_lin 36 (by decide)) rfl rfl _ _ _ _).trans rfl
set_option maxRecDepth 100000 in
theorem bk_36_16 (X : (Nat → Int32) × Nat) (mo : Bool) (G : Nat × Nat) (I : Nat → Nat → Int32) (J : Nat → Nat → Int64) (Q : Option Value → sm_M → Prop) (x1 : Int32) :
    sm_wp X 36 16 [some (.ref 45), some (.int x1), none] [] (sM mo G I J) Q =
    (sm_wp X 36 18 [some (.ref 45), some (.int x1), some (.int 0)] [] (sM mo G I J) Q) :=
  (sm_blk X 36 16 (tt_lin 36 (by decide)) rfl rfl _ _ _ _).trans rfl
set_option maxRecDepth 100000 in
theorem bk_36_18 (X : (Nat → Int32) × Nat) (mo : Bool) (G : Nat × Nat) (I : Nat → Nat → Int32) (J : Nat → Nat → Int64) (Q : Option Value → sm_M → Prop) (x1 : Int32) (x2 : Int32) :
    sm_wp X 36 18 [some (.ref 45), some (.int x1), some (.int x2)] [] (sM mo G I J) Q =
    (if (I 31 0 : Int32) ≤ (x2 : Int32) then sm_wp X 36 101 [some (.ref 45), some (.int x1), some (.int x2)] [] (sM mo G I J) Q else (sm_wp X 81 0 [some (.ref 31), some (.int x1), some (.int x2)] [] (sM mo G I J) (fun v M => sm_wp X 36 38 [some (.ref 45), some (.int x1), some (.int x2)] (v.toList ++ []) M Q))) :=
  (sm_blk X 36 18 (tt_lin 36 (by decide)) rfl rfl _ _ _ _).trans rfl
set_option maxRecDepth 100000 in
theorem bk_36_38 (X : (Nat → Int32) × Nat) (mo : Bool) (G : Nat × Nat) (I : Nat → Nat → Int32) (J : Nat → Nat → Int64) (Q : Option Value → sm_M → Prop) (x1 : Int32) (x2 : Int32) (s0 : Int32) :
    sm_wp X 36 38 [some (.ref 45), some (.int x1), some (.int x2)] [.int s0] (sM mo G I J) Q =
    (if (s0 : Int32) = 0 then sm_wp X 36 95 [some (.ref 45), some (.int x1), some (.int x2)] [] (sM mo G I J) Q else (sm_wp X 70 0 [some (.ref 31), some (.int x2)] [] (sM mo G I J) (fun v M => sm_wp X 36 49 [some (.ref 45), some (.int x1), some (.int x2)] (v.toList ++ []) M Q))) :=
  (sm_blk X 36 38 (tt_lin 36 (by decide)) rfl rfl _ _ _ _).trans rfl
set_option maxRecDepth 100000 in
theorem bk_36_49 (X : (Nat → Int32) × Nat) (mo : Bool) (G : Nat × Nat) (I : Nat → Nat → Int32) (J : Nat → Nat → Int64) (Q : Option Value → sm_M → Prop) (x1 : Int32) (x2 : Int32) (s0 : Int32) :
    sm_wp X 36 49 [some (.ref 45), some (.int x1), some (.int x2)] [.int s0] (sM mo G I J) Q =
    (if ¬ (s0 : Int32) = (2 : Int32) then sm_wp X 36 95 [some (.ref 45), some (.int x1), some (.int x2)] [] (sM mo G I J) Q else (sm_wp X 75 0 [some (.ref 31), some (.int x2)] [] (sM mo G I J) (fun v M => sm_wp X 36 62 [some (.ref 45), some (.int x1), some (.int x2)] (v.toList ++ [.ref 45]) M Q))) :=
  (sm_blk X 36 49 (tt_lin 36 (by decide)) rfl rfl _ _ _ _).trans rfl
set_option maxRecDepth 100000 in
theorem bk_36_62 (X : (Nat → Int32) × Nat) (mo : Bool) (G : Nat × Nat) (I : Nat → Nat → Int32) (J : Nat → Nat → Int64) (Q : Option Value → sm_M → Prop) (x1 : Int32) (x2 : Int32) (s1 : Int32) :
    sm_wp X 36 62 [some (.ref 45), some (.int x1), some (.int x2)] [.int s1, .ref 45] (sM mo G I J) Q =
    (sm_wp X 73 0 [some (.ref 31), some (.int x2)] [] (sM mo G I J) (fun v M => sm_wp X 36 70 [some (.ref 45), some (.int x1), some (.int x2)] (v.toList ++ [.int s1, .ref 45]) M Q)) :=
  (sm_blk X 36 62 (tt_lin 36 (by decide)) rfl rfl _ _ _ _).trans rfl
set_option maxRecDepth 100000 in
theorem bk_36_70 (X : (Nat → Int32) × Nat) (mo : Bool) (G : Nat × Nat) (I : Nat → Nat → Int32) (J : Nat → Nat → Int64) (Q : Option Value → sm_M → Prop) (x1 : Int32) (x2 : Int32) (s1 : Int32) (s2 : Int32) :
    sm_wp X 36 70 [some (.ref 45), some (.int x1), some (.int x2)] [.int s2, .int s1, .ref 45] (sM mo G I J) Q =
    (sm_wp X 38 0 [some (.ref 45), some (.int s1), some (.int s2), some (.int x2), none] [] (sM mo G I J) (fun v M => sm_wp X 36 74 [some (.ref 45), some (.int x1), some (.int x2)] (v.toList ++ []) M Q)) :=
  (sm_blk X 36 70 (tt_lin 36 (by decide)) rfl rfl _ _ _ _).trans rfl
set_option maxRecDepth 100000 in
theorem bk_36_74 (X : (Nat → Int32) × Nat) (mo : Bool) (G : Nat × Nat) (I : Nat → Nat → Int32) (J : Nat → Nat → Int64) (Q : Option Value → sm_M → Prop) (x1 : Int32) (x2 : Int32) :
    sm_wp X 36 74 [some (.ref 45), some (.int x1), some (.int x2)] [] (sM mo G I J) Q =
    (sm_wp X 76 0 [some (.ref 31), some (.int x2)] [] (sM mo G I J) (fun v M => sm_wp X 36 83 [some (.ref 45), some (.int x1), some (.int x2)] (v.toList ++ [.ref 45]) M Q)) :=
  (sm_blk X 36 74 (tt_lin 36 (by decide)) rfl rfl _ _ _ _).trans rfl
set_option maxRecDepth 100000 in
theorem bk_36_83 (X : (Nat → Int32) × Nat) (mo : Bool) (G : Nat × Nat) (I : Nat → Nat → Int32) (J : Nat → Nat → Int64) (Q : Option Value → sm_M → Prop) (x1 : Int32) (x2 : Int32) (s1 : Int32) :
    sm_wp X 36 83 [some (.ref 45), some (.int x1), some (.int x2)] [.int s1, .ref 45] (sM mo G I J) Q =
    (sm_wp X 72 0 [some (.ref 31), some (.int x2)] [] (sM mo G I J) (fun v M => sm_wp X 36 91 [some (.ref 45), some (.int x1), some (.int x2)] (v.toList ++ [.int s1, .ref 45]) M Q)) :=
  (sm_blk X 36 83 (tt_lin 36 (by decide)) rfl rfl _ _ _ _).trans rfl
set_option maxRecDepth 100000 in
theorem bk_36_91 (X : (Nat → Int32) × Nat) (mo : Bool) (G : Nat × Nat) (I : Nat → Nat → Int32) (J : Nat → Nat → Int64) (Q : Option Value → sm_M → Prop) (x1 : Int32) (x2 : Int32) (s1 : Int32) (s2 : Int32) :
    sm_wp X 36 91 [some (.ref 45), some (.int x1), some (.int x2)] [.int s2, .int s1, .ref 45] (sM mo G I J) Q =
    (sm_wp X 38 0 [some (.ref 45), some (.int s1), some (.int s2), some (.int x2), none] [] (sM mo G I J) (fun v M => sm_wp X 36 95 [some (.ref 45), some (.int x1), some (.int x2)] (v.toList ++ []) M Q)) :=
  (sm_blk X 36 91 (tt_lin 36 (by decide)) rfl rfl _ _ _ _).trans rfl
set_option maxRecDepth 100000 in
theorem bk_36_95 (X : (Nat → Int32) × Nat) (mo : Bool) (G : Nat × Nat) (I : Nat → Nat → Int32) (J : Nat → Nat → Int64) (Q : Option Value → sm_M → Prop) (x1 : Int32) (x2 : Int32) :
    sm_wp X 36 95 [some (.ref 45), some (.int x1), some (.int x2)] [] (sM mo G I J) Q =
    (sm_wp X 36 18 [some (.ref 45), some (.int x1), some (.int (x2 + 1))] [] (sM mo G I J) Q) :=
  (sm_blk X 36 95 (tt_lin 36 (by decide)) rfl rfl _ _ _ _).trans rfl
set_option maxRecDepth 100000 in
theorem bk_36_101 (X : (Nat → Int32) × Nat) (mo : Bool) (G : Nat × Nat) (I : Nat → Nat → Int32) (J : Nat → Nat → Int64) (Q : Option Value → sm_M → Prop) (x1 : Int32) (x2 : Int32) :
    sm_wp X 36 101 [some (.ref 45), some (.int x1), some (.int x2)] [] (sM mo G I J) Q =
    (sm_wp X 35 0 [some (.ref 45), some (.int x1), some (.int 5), none] [] (sM mo G I J) (fun v M => sm_wp X 36 107 [some (.ref 45), some (.int x1), some (.int x2)] (v.toList ++ []) M Q)) :=
  (sm_blk X 36 101 (tt_lin 36 (by decide)) rfl rfl _ _ _ _).trans rfl
set_option maxRecDepth 100000 in
theorem bk_36_107 (X : (Nat → Int32) × Nat) (mo : Bool) (G : Nat × Nat) (I : Nat → Nat → Int32) (J : Nat → Nat → Int64) (Q : Option Value → sm_M → Prop) (x1 : Int32) (x2 : Int32) :
    sm_wp X 36 107 [some (.ref 45), some (.int x1), some (.int x2)] [] (sM mo G I J) Q =
    (True ∧ Q none (sM mo G I J)) :=
  (sm_blk X 36 107 (tt_lin 36 (by decide)) rfl rfl _ _ _ _).trans rfl
set_option maxRecDepth 100000 in
theorem bk_37_0 (X : (Nat → Int32) × Nat) (mo : Bool) (G : Nat × Nat) (I : Nat → Nat → Int32) (J : Nat → Nat → Int64) (Q : Option Value → sm_M → Prop) (x1 : Int32) :
    sm_wp X 37 0 [some (.ref 45), some (.int x1), none, none, none, none] [] (sM mo G I J) Q =
    (sm_wp X 37 4 [some (.ref 45), some (.int x1), some (.int 0), some (.int 0), none, none] [] (sM mo G I J) Q) :=
  (sm_blk X 37 0 (tt_lin 37 (by decide)) rfl rfl _ _ _ _).trans rfl
set_option maxRecDepth 100000 in
theorem bk_37_4 (X : (Nat → Int32) × Nat) (mo : Bool) (G : Nat × Nat) (I : Nat → Nat → Int32) (J : Nat → Nat → Int64) (Q : Option Value → sm_M → Prop) (x1 : Int32) (x2 : Int32) (x3 : Int32) :
    sm_wp X 37 4 [some (.ref 45), some (.int x1), some (.int x2), some (.int x3), none, none] [] (sM mo G I J) Q =
    (if (I 31 0 : Int32) ≤ (x3 : Int32) then sm_wp X 37 131 [some (.ref 45), some (.int x1), some (.int x2), some (.int x3), none, none] [] (sM mo G I J) Q else (sm_wp X 81 0 [some (.ref 31), some (.int x1), some (.int x3)] [] (sM mo G I J) (fun v M => sm_wp X 37 24 [some (.ref 45), some (.int x1), some (.int x2), some (.int x3), none, none] (v.toList ++ []) M Q))) :=
  (sm_blk X 37 4 (tt_lin 37 (by decide)) rfl rfl _ _ _ _).trans rfl
set_option maxRecDepth 100000 in
theorem bk_37_24 (X : (Nat → Int32) × Nat) (mo : Bool) (G : Nat × Nat) (I : Nat → Nat → Int32) (J : Nat → Nat → Int64) (Q : Option Value → sm_M → Prop) (x1 : Int32) (x2 : Int32) (x3 : Int32) (s0 : Int32) :
    sm_wp X 37 24 [some (.ref 45), some (.int x1), some (.int x2), some (.int x3), none, none] [.int s0] (sM mo G I J) Q =
    (if (s0 : Int32) = 0 then sm_wp X 37 125 [some (.ref 45), some (.int x1), some (.int x2), some (.int x3), none, none] [] (sM mo G I J) Q else (sm_wp X 70 0 [some (.ref 31), some (.int x3)] [] (sM mo G I J) (fun v M => sm_wp X 37 35 [some (.ref 45), some (.int x1), some (.int x2), some (.int x3), none, none] (v.toList ++ []) M Q))) :=
  (sm_blk X 37 24 (tt_lin 37 (by decide)) rfl rfl _ _ _ _).trans rfl
set_option maxRecDepth 100000 in
theorem bk_37_35 (X : (Nat → Int32) × Nat) (mo : Bool) (G : Nat × Nat) (I : Nat → Nat → Int32) (J : Nat → Nat → Int64) (Q : Option Value → sm_M → Prop) (x1 : Int32) (x2 : Int32) (x3 : Int32) (s0 : Int32) :
    sm_wp X 37 35 [some (.ref 45), some (.int x1), some (.int x2), some (.int x3), none, none] [.int s0] (sM mo G I J) Q =
    (if ¬ (s0 : Int32) = (2 : Int32) then sm_wp X 37 125 [some (.ref 45), some (.int x1), some (.int x2), some (.int x3), none, none] [] (sM mo G I J) Q else (sm_wp X 75 0 [some (.ref 31), some (.int x3)] [] (sM mo G I J) (fun v M => sm_wp X 37 47 [some (.ref 45), some (.int x1), some (.int x2), some (.int x3), none, none] (v.toList ++ []) M Q))) :=
  (sm_blk X 37 35 (tt_lin 37 (by decide)) rfl rfl _ _ _ _).trans rfl
set_option maxRecDepth 100000 in
theorem bk_37_47 (X : (Nat → Int32) × Nat) (mo : Bool) (G : Nat × Nat) (I : Nat → Nat → Int32) (J : Nat → Nat → Int64) (Q : Option Value → sm_M → Prop) (x1 : Int32) (x2 : Int32) (x3 : Int32) (s0 : Int32) :
    sm_wp X 37 47 [some (.ref 45), some (.int x1), some (.int x2), some (.int x3), none, none] [.int s0] (sM mo G I J) Q =
    (sm_wp X 76 0 [some (.ref 31), some (.int x3)] [] (sM mo G I J) (fun v M => sm_wp X 37 57 [some (.ref 45), some (.int x1), some (.int x2), some (.int x3), some (.int s0), none] (v.toList ++ []) M Q)) :=
  (sm_blk X 37 47 (tt_lin 37 (by decide)) rfl rfl _ _ _ _).trans rfl
set_option maxRecDepth 100000 in
theorem bk_37_57 (X : (Nat → Int32) × Nat) (mo : Bool) (G : Nat × Nat) (I : Nat → Nat → Int32) (J : Nat → Nat → Int64) (Q : Option Value → sm_M → Prop) (x1 : Int32) (x2 : Int32) (x3 : Int32) (x4 : Int32) (s0 : Int32) :
    sm_wp X 37 57 [some (.ref 45), some (.int x1), some (.int x2), some (.int x3), some (.int x4), none] [.int s0] (sM mo G I J) Q =
    (if ¬ (x2 &&& (x4 ||| s0) : Int32) = 0 then sm_wp X 37 115 [some (.ref 45), some (.int x1), some (.int x2), some (.int x3), some (.int x4), some (.int s0)] [] (sM mo G I J) Q else (sm_wp X 72 0 [some (.ref 31), some (.int x3)] [] (sM mo G I J) (fun v M => sm_wp X 37 83 [some (.ref 45), some (.int x1), some (.int x2), some (.int x3), some (.int x4), some (.int s0)] (v.toList ++ [.ref 1, .int x4]) M Q))) :=
  (sm_blk X 37 57 (tt_lin 37 (by decide)) rfl rfl _ _ _ _).trans rfl
set_option maxRecDepth 100000 in
theorem bk_37_83 (X : (Nat → Int32) × Nat) (mo : Bool) (G : Nat × Nat) (I : Nat → Nat → Int32) (J : Nat → Nat → Int64) (Q : Option Value → sm_M → Prop) (x1 : Int32) (x2 : Int32) (x3 : Int32) (x4 : Int32) (x5 : Int32) (s0 : Int32) (s2 : Int32) :
    sm_wp X 37 83 [some (.ref 45), some (.int x1), some (.int x2), some (.int x3), some (.int x4), some (.int x5)] [.int s2, .ref 1, .int s0] (sM mo G I J) Q =
    (sm_wp X 105 0 [some (.ref 1), some (.int s2), none, none] [] (sM mo G I J) (fun v M => sm_wp X 37 86 [some (.ref 45), some (.int x1), some (.int x2), some (.int x3), some (.int x4), some (.int x5)] (v.toList ++ [.int s0]) M Q)) :=
  (sm_blk X 37 83 (tt_lin 37 (by decide)) rfl rfl _ _ _ _).trans rfl
set_option maxRecDepth 100000 in
theorem bk_37_86 (X : (Nat → Int32) × Nat) (mo : Bool) (G : Nat × Nat) (I : Nat → Nat → Int32) (J : Nat → Nat → Int64) (Q : Option Value → sm_M → Prop) (x1 : Int32) (x2 : Int32) (x3 : Int32) (x4 : Int32) (x5 : Int32) (s0 : Int32) (s1 : Int32) :
    sm_wp X 37 86 [some (.ref 45), some (.int x1), some (.int x2), some (.int x3), some (.int x4), some (.int x5)] [.int s1, .int s0] (sM mo G I J) Q =
    (if ¬ (s0 &&& (s1 ^^^ (-1)) : Int32) = 0 then sm_wp X 37 115 [some (.ref 45), some (.int x1), some (.int x2), some (.int x3), some (.int x4), some (.int x5)] [] (sM mo G I J) Q else (sm_wp X 73 0 [some (.ref 31), some (.int x3)] [] (sM mo G I J) (fun v M => sm_wp X 37 106 [some (.ref 45), some (.int x1), some (.int x2), some (.int x3), some (.int x4), some (.int x5)] (v.toList ++ [.ref 1, .int x5]) M Q))) :=
  (sm_blk X 37 86 (tt_lin 37 (by decide)) rfl rfl _ _ _ _).trans rfl
set_option maxRecDepth 100000 in
theorem bk_37_106 (X : (Nat → Int32) × Nat) (mo : Bool) (G : Nat × Nat) (I : Nat → Nat → Int32) (J : Nat → Nat → Int64) (Q : Option Value → sm_M → Prop) (x1 : Int32) (x2 : Int32) (x3 : Int32) (x4 : Int32) (x5 : Int32) (s0 : Int32) (s2 : Int32) :
    sm_wp X 37 106 [some (.ref 45), some (.int x1), some (.int x2), some (.int x3), some (.int x4), some (.int x5)] [.int s2, .ref 1, .int s0] (sM mo G I J) Q =
    (sm_wp X 105 0 [some (.ref 1), some (.int s2), none, none] [] (sM mo G I J) (fun v M => sm_wp X 37 109 [some (.ref 45), some (.int x1), some (.int x2), some (.int x3), some (.int x4), some (.int x5)] (v.toList ++ [.int s0]) M Q)) :=
  (sm_blk X 37 106 (tt_lin 37 (by decide)) rfl rfl _ _ _ _).trans rfl
set_option maxRecDepth 100000 in
theorem bk_37_109 (X : (Nat → Int32) × Nat) (mo : Bool) (G : Nat × Nat) (I : Nat → Nat → Int32) (J : Nat → Nat → Int64) (Q : Option Value → sm_M → Prop) (x1 : Int32) (x2 : Int32) (x3 : Int32) (x4 : Int32) (x5 : Int32) (s0 : Int32) (s1 : Int32) :
    sm_wp X 37 109 [some (.ref 45), some (.int x1), some (.int x2), some (.int x3), some (.int x4), some (.int x5)] [.int s1, .int s0] (sM mo G I J) Q =
    (if (s0 &&& (s1 ^^^ (-1)) : Int32) = 0 then sm_wp X 37 117 [some (.ref 45), some (.int x1), some (.int x2), some (.int x3), some (.int x4), some (.int x5)] [] (sM mo G I J) Q else (sm_zb 0 ∧ Q (some (.int 0)) (sM mo G I J))) :=
  (sm_blk X 37 109 (tt_lin 37 (by decide)) rfl rfl _ _ _ _).trans rfl
set_option maxRecDepth 100000 in
theorem bk_37_115 (X : (Nat → Int32) × Nat) (mo : Bool) (G : Nat × Nat) (I : Nat → Nat → Int32) (J : Nat → Nat → Int64) (Q : Option Value → sm_M → Prop) (x1 : Int32) (x2 : Int32) (x3 : Int32) (x4 : Int32) (x5 : Int32) :
    sm_wp X 37 115 [some (.ref 45), some (.int x1), some (.int x2), some (.int x3), some (.int x4), some (.int x5)] [] (sM mo G I J) Q =
    (sm_zb 0 ∧ Q (some (.int 0)) (sM mo G I J)) :=
  (sm_blk X 37 115 (tt_lin 37 (by decide)) rfl rfl _ _ _ _).trans rfl
set_option maxRecDepth 100000 in
theorem bk_37_117 (X : (Nat → Int32) × Nat) (mo : Bool) (G : Nat × Nat) (I : Nat → Nat → Int32) (J : Nat → Nat → Int64) (Q : Option Value → sm_M → Prop) (x1 : Int32) (x2 : Int32) (x3 : Int32) (x4 : Int32) (x5 : Int32) :
    sm_wp X 37 117 [some (.ref 45), some (.int x1), some (.int x2), some (.int x3), some (.int x4), some (.int x5)] [] (sM mo G I J) Q =
    (sm_wp X 37 4 [some (.ref 45), some (.int x1), some (.int (x2 ||| (x4 ||| x5))), some (.int (x3 + 1)), none, none] [] (sM mo G I J) Q) :=
  (sm_blk X 37 117 (tt_lin 37 (by decide)) rfl rfl _ _ _ _).trans rfl
set_option maxRecDepth 100000 in
theorem bk_37_125 (X : (Nat → Int32) × Nat) (mo : Bool) (G : Nat × Nat) (I : Nat → Nat → Int32) (J : Nat → Nat → Int64) (Q : Option Value → sm_M → Prop) (x1 : Int32) (x2 : Int32) (x3 : Int32) :
    sm_wp X 37 125 [some (.ref 45), some (.int x1), some (.int x2), some (.int x3), none, none] [] (sM mo G I J) Q =
    (sm_wp X 37 4 [some (.ref 45), some (.int x1), some (.int x2), some (.int (x3 + 1)), none, none] [] (sM mo G I J) Q) :=
  (sm_blk X 37 125 (tt_lin 37 (by decide)) rfl rfl _ _ _ _).trans rfl
set_option maxRecDepth 100000 in
theorem bk_37_131 (X : (Nat → Int32) × Nat) (mo : Bool) (G : Nat × Nat) (I : Nat → Nat → Int32) (J : Nat → Nat → Int64) (Q : Option Value → sm_M → Prop) (x1 : Int32) (x2 : Int32) (x3 : Int32) :
    sm_wp X 37 131 [some (.ref 45), some (.int x1), some (.int x2), some (.int x3), none, none] [] (sM mo G I J) Q =
    (sm_zb 1 ∧ Q (some (.int 1)) (sM mo G I J)) :=
  (sm_blk X 37 131 (tt_lin 37 (by decide)) rfl rfl _ _ _ _).trans rfl
set_option maxRecDepth 100000 in
theorem bk_38_0 (X : (Nat → Int32) × Nat) (mo : Bool) (G : Nat × Nat) (I : Nat → Nat → Int32) (J : Nat → Nat → Int64) (Q : Option Value → sm_M → Prop) (x1 : Int32) (x2 : Int32) (x3 : Int32) :
    sm_wp X 38 0 [some (.ref 45), some (.int x1), some (.int x2), some (.int x3), none] [] (sM mo G I J) Q =
    (sm_wp X 38 3 [some (.ref 45), some (.int x1), some (.int x2), some (.int x3), some (.int 0)] [] (sM mo G I J) Q) :=
  (sm_blk X 38 0 (tt_lin 38 (by decide)) rfl rfl _ _ _ _).trans rfl
set_option maxRecDepth 100000 in
theorem bk_38_3 (X : (Nat → Int32) × Nat) (mo : Bool) (G : Nat × Nat) (I : Nat → Nat → Int32) (J : Nat → Nat → Int64) (Q : Option Value → sm_M → Prop) (x1 : Int32) (x2 : Int32) (x3 : Int32) (x4 : Int32) :
    sm_wp X 38 3 [some (.ref 45), some (.int x1), some (.int x2), some (.int x3), some (.int x4)] [] (sM mo G I J) Q =
    (if (I 1 0 : Int32) ≤ (x4 : Int32) then sm_wp X 38 41 [some (.ref 45), some (.int x1), some (.int x2), some (.int x3), some (.int x4)] [] (sM mo G I J) Q else (sm_wp X 169 0 [some (.int x1), some (.int x4)] [] (sM mo G I J) (fun v M => sm_wp X 38 21 [some (.ref 45), some (.int x1), some (.int x2), some (.int x3), some (.int x4)] (v.toList ++ []) M Q))) :=
  (sm_blk X 38 3 (tt_lin 38 (by decide)) rfl rfl _ _ _ _).trans rfl
set_option maxRecDepth 100000 in
theorem bk_38_21 (X : (Nat → Int32) × Nat) (mo : Bool) (G : Nat × Nat) (I : Nat → Nat → Int32) (J : Nat → Nat → Int64) (Q : Option Value → sm_M → Prop) (x1 : Int32) (x2 : Int32) (x3 : Int32) (x4 : Int32) (s0 : Int32) :
    sm_wp X 38 21 [some (.ref 45), some (.int x1), some (.int x2), some (.int x3), some (.int x4)] [.int s0] (sM mo G I J) Q =
    (if (s0 : Int32) = 0 then sm_wp X 38 35 [some (.ref 45), some (.int x1), some (.int x2), some (.int x3), some (.int x4)] [] (sM mo G I J) Q else (sm_wp X 97 0 [some (.ref 1), some (.int x4), some (.int x2), some (.int x3), none, none] [] (sM mo G I J) (fun v M => sm_wp X 38 35 [some (.ref 45), some (.int x1), some (.int x2), some (.int x3), some (.int x4)] (v.toList ++ []) M Q))) :=
  (sm_blk X 38 21 (tt_lin 38 (by decide)) rfl rfl _ _ _ _).trans rfl
set_option maxRecDepth 100000 in
theorem bk_38_35 (X : (Nat → Int32) × Nat) (mo : Bool) (G : Nat × Nat) (I : Nat → Nat → Int32) (J : Nat → Nat → Int64) (Q : Option Value → sm_M → Prop) (x1 : Int32) (x2 : Int32) (x3 : Int32) (x4 : Int32) :
    sm_wp X 38 35 [some (.ref 45), some (.int x1), some (.int x2), some (.int x3), some (.int x4)] [] (sM mo G I J) Q =
    (sm_wp X 38 3 [some (.ref 45), some (.int x1), some (.int x2), some (.int x3), some (.int (x4 + 1))] [] (sM mo G I J) Q) :=
  (sm_blk X 38 35 (tt_lin 38 (by decide)) rfl rfl _ _ _ _).trans rfl
set_option maxRecDepth 100000 in
theorem bk_38_41 (X : (Nat → Int32) × Nat) (mo : Bool) (G : Nat × Nat) (I : Nat → Nat → Int32) (J : Nat → Nat → Int64) (Q : Option Value → sm_M → Prop) (x1 : Int32) (x2 : Int32) (x3 : Int32) (x4 : Int32) :
    sm_wp X 38 41 [some (.ref 45), some (.int x1), some (.int x2), some (.int x3), some (.int x4)] [] (sM mo G I J) Q =
    (True ∧ Q none (sM mo G I J)) :=
  (sm_blk X 38 41 (tt_lin 38 (by decide)) rfl rfl _ _ _ _).trans rfl
