set_option maxRecDepth 100000 in
theorem bk_119_0 (X : (Nat → Int32) × Nat) (mo : Bool) (G : Nat × Nat) (I : Nat → Nat → Int32) (J : Nat → Nat → Int64) (Q : Option Value → sm_M → Prop)  :
    sm_wp X 119 0 [some (.ref 68), none] [] (sM mo G I J) Q =
    (if ¬ (I 68 4 : Int32) = (I 1 4 : Int32) then sm_wp X 119 15 [some (.ref 68), none] [] (sM mo G I J) Q else (True ∧ Q none (sM mo G I J))) :=
  (sm_blk X 119 0 (tt_lin 119 (by decide)) rfl rfl _ _ _ _).trans rfl
set_option maxRecDepth 100000 in
theorem bk_119_15 (X : (Nat → Int32) × Nat) (mo : Bool) (G : Nat × Nat) (I : Nat → Nat → Int32) (J : Nat → Nat → Int64) (Q : Option Value → sm_M → Prop)  :
    sm_wp X 119 15 [some (.ref 68), none] [] (sM mo G I J) Q =
    (sm_wp X 119 33 [some (.ref 68), some (.int 2)] [] (sM mo G (up2 (up2 I 68 4 (I 1 4)) 68 3 0) J) Q) :=
  (sm_blk X 119 15 (tt_lin 119 (by decide)) rfl rfl _ _ _ _).trans rfl
set_option maxRecDepth 100000 in
theorem bk_119_33 (X : (Nat → Int32) × Nat) (mo : Bool) (G : Nat × Nat) (I : Nat → Nat → Int32) (J : Nat → Nat → Int64) (Q : Option Value → sm_M → Prop) (x1 : Int32) :
    sm_wp X 119 33 [some (.ref 68), some (.int x1)] [] (sM mo G I J) Q =
    (if (4 : Int32) < (x1 : Int32) then sm_wp X 119 64 [some (.ref 68), some (.int x1)] [] (sM mo G I J) Q else (if ¬ (I 68 3 : Int32) = 0 then sm_wp X 119 64 [some (.ref 68), some (.int x1)] [] (sM mo G I J) Q else (sm_wp X 120 0 [some (.ref 68), some (.int x1), none, none] [] (sM mo G I J) (fun v M => sm_wp X 119 50 [some (.ref 68), some (.int x1)] (v.toList ++ []) M Q)))) :=
  (sm_blk X 119 33 (tt_lin 119 (by decide)) rfl rfl _ _ _ _).trans rfl
set_option maxRecDepth 100000 in
theorem bk_119_50 (X : (Nat → Int32) × Nat) (mo : Bool) (G : Nat × Nat) (I : Nat → Nat → Int32) (J : Nat → Nat → Int64) (Q : Option Value → sm_M → Prop) (x1 : Int32) (s0 : Int32) :
    sm_wp X 119 50 [some (.ref 68), some (.int x1)] [.int s0] (sM mo G I J) Q =
    (if (s0 : Int32) = 0 then sm_wp X 119 58 [some (.ref 68), some (.int x1)] [] (sM mo G I J) Q else (sm_wp X 119 33 [some (.ref 68), some (.int (x1 + 1))] [] (sM mo G (up2 I 68 3 x1) J) Q)) :=
  (sm_blk X 119 50 (tt_lin 119 (by decide)) rfl rfl _ _ _ _).trans rfl
set_option maxRecDepth 100000 in
theorem bk_119_58 (X : (Nat → Int32) × Nat) (mo : Bool) (G : Nat × Nat) (I : Nat → Nat → Int32) (J : Nat → Nat → Int64) (Q : Option Value → sm_M → Prop) (x1 : Int32) :
    sm_wp X 119 58 [some (.ref 68), some (.int x1)] [] (sM mo G I J) Q =
    (sm_wp X 119 33 [some (.ref 68), some (.int (x1 + 1))] [] (sM mo G I J) Q) :=
  (sm_blk X 119 58 (tt_lin 119 (by decide)) rfl rfl _ _ _ _).trans rfl
set_option maxRecDepth 100000 in
theorem bk_119_64 (X : (Nat → Int32) × Nat) (mo : Bool) (G : Nat × Nat) (I : Nat → Nat → Int32) (J : Nat → Nat → Int64) (Q : Option Value → sm_M → Prop) (x1 : Int32) :
    sm_wp X 119 64 [some (.ref 68), some (.int x1)] [] (sM mo G I J) Q =
    (True ∧ Q none (sM mo G I J)) :=
  (sm_blk X 119 64 (tt_lin 119 (by decide)) rfl rfl _ _ _ _).trans rfl
set_option maxRecDepth 100000 in
theorem bk_120_0 (X : (Nat → Int32) × Nat) (mo : Bool) (G : Nat × Nat) (I : Nat → Nat → Int32) (J : Nat → Nat → Int64) (Q : Option Value → sm_M → Prop) (x1 : Int32) :
    sm_wp X 120 0 [some (.ref 68), some (.int x1), none, none] [] (sM mo G I J) Q =
    (vp_in 0 4 ∧ (sm_wp X 120 11 [some (.ref 68), some (.int x1), some (.int 0), some (.int 0)] [] (sM mo G (up2 I 69 (0 : Int32).toNatClampNeg (-1)) J) Q)) :=
  (sm_blk X 120 0 (tt_lin 120 (by decide)) rfl rfl _ _ _ _).trans rfl
set_option maxRecDepth 100000 in
theorem bk_120_11 (X : (Nat → Int32) × Nat) (mo : Bool) (G : Nat × Nat) (I : Nat → Nat → Int32) (J : Nat → Nat → Int64) (Q : Option Value → sm_M → Prop) (x1 : Int32) (x2 : Int32) (x3 : Int32) :
    sm_wp X 120 11 [some (.ref 68), some (.int x1), some (.int x2), some (.int x3)] [] (sM mo G I J) Q =
    (if (100000 : Int32) ≤ (x3 : Int32) then sm_wp X 120 101 [some (.ref 68), some (.int x1), some (.int x2), some (.int x3)] [] (sM mo G I J) Q else (if (x2 : Int32) < 0 then sm_wp X 120 101 [some (.ref 68), some (.int x1), some (.int x2), some (.int x3)] [] (sM mo G I J) Q else (if (4 : Int32) ≤ (x2 : Int32) then sm_wp X 120 101 [some (.ref 68), some (.int x1), some (.int x2), some (.int x3)] [] (sM mo G I J) Q else (sm_wp X 121 0 [some (.ref 68), some (.int x2), none] [] (sM mo G I J) (fun v M => sm_wp X 120 36 [some (.ref 68), some (.int x1), some (.int x2), some (.int x3)] (v.toList ++ [.int x2, .ref 69]) M Q))))) :=
  (sm_blk X 120 11 (tt_lin 120 (by decide)) rfl rfl _ _ _ _).trans rfl
set_option maxRecDepth 100000 in
theorem bk_120_36 (X : (Nat → Int32) × Nat) (mo : Bool) (G : Nat × Nat) (I : Nat → Nat → Int32) (J : Nat → Nat → Int64) (Q : Option Value → sm_M → Prop) (x1 : Int32) (x2 : Int32) (x3 : Int32) (s1 : Int32) (s2 : Int32) :
    sm_wp X 120 36 [some (.ref 68), some (.int x1), some (.int x2), some (.int x3)] [.int s2, .int s1, .ref 69] (sM mo G I J) Q =
    (vp_in s1 4 ∧ (vp_in x2 4 ∧ (if ¬ ((up2 I 69 s1.toNatClampNeg s2) 69 (x2.toNatClampNeg) : Int32) = ((-1) : Int32) then sm_wp X 120 53 [some (.ref 68), some (.int x1), some (.int x2), some (.int x3)] [] (sM mo G (up2 I 69 s1.toNatClampNeg s2) J) Q else (sm_wp X 120 95 [some (.ref 68), some (.int x1), some (.int (x2 + (-1))), some (.int x3)] [] (sM mo G (up2 I 69 s1.toNatClampNeg s2) J) Q)))) :=
  (sm_blk X 120 36 (tt_lin 120 (by decide)) rfl rfl _ _ _ _).trans rfl
set_option maxRecDepth 100000 in
theorem bk_120_53 (X : (Nat → Int32) × Nat) (mo : Bool) (G : Nat × Nat) (I : Nat → Nat → Int32) (J : Nat → Nat → Int64) (Q : Option Value → sm_M → Prop) (x1 : Int32) (x2 : Int32) (x3 : Int32) :
    sm_wp X 120 53 [some (.ref 68), some (.int x1), some (.int x2), some (.int x3)] [] (sM mo G I J) Q =
    (if (x1 - 1 : Int32) ≤ (x2 : Int32) then sm_wp X 120 85 [some (.ref 68), some (.int x1), some (.int x2), some (.int x3)] [] (sM mo G I J) Q else (if (4 : Int32) ≤ (x2 + 1 : Int32) then sm_wp X 120 85 [some (.ref 68), some (.int x1), some (.int x2), some (.int x3)] [] (sM mo G I J) Q else (vp_in 0 4 ∧ (vp_in (x2 + 1) 4 ∧ (sm_wp X 120 95 [some (.ref 68), some (.int x1), some (.int (x2 + 1)), some (.int x3)] [] (sM mo G (up2 I 69 (x2 + 1).toNatClampNeg (I 69 ((0 : Int32).toNatClampNeg))) J) Q))))) :=
  (sm_blk X 120 53 (tt_lin 120 (by decide)) rfl rfl _ _ _ _).trans rfl
set_option maxRecDepth 100000 in
theorem bk_120_85 (X : (Nat → Int32) × Nat) (mo : Bool) (G : Nat × Nat) (I : Nat → Nat → Int32) (J : Nat → Nat → Int64) (Q : Option Value → sm_M → Prop) (x1 : Int32) (x2 : Int32) (x3 : Int32) :
    sm_wp X 120 85 [some (.ref 68), some (.int x1), some (.int x2), some (.int x3)] [] (sM mo G I J) Q =
    (sm_wp X 123 0 [some (.ref 68), some (.int x1), none, none] [] (sM mo G I J) (fun v M => sm_wp X 120 90 [some (.ref 68), some (.int x1), some (.int x2), some (.int x3)] (v.toList ++ []) M Q)) :=
  (sm_blk X 120 85 (tt_lin 120 (by decide)) rfl rfl _ _ _ _).trans rfl
set_option maxRecDepth 100000 in
theorem bk_120_90 (X : (Nat → Int32) × Nat) (mo : Bool) (G : Nat × Nat) (I : Nat → Nat → Int32) (J : Nat → Nat → Int64) (Q : Option Value → sm_M → Prop) (x1 : Int32) (x2 : Int32) (x3 : Int32) (s0 : Int32) :
    sm_wp X 120 90 [some (.ref 68), some (.int x1), some (.int x2), some (.int x3)] [.int s0] (sM mo G I J) Q =
    (if (s0 : Int32) = 0 then sm_wp X 120 95 [some (.ref 68), some (.int x1), some (.int x2), some (.int x3)] [] (sM mo G I J) Q else (sm_zb 1 ∧ Q (some (.int 1)) (sM mo G I J))) :=
  (sm_blk X 120 90 (tt_lin 120 (by decide)) rfl rfl _ _ _ _).trans rfl
set_option maxRecDepth 100000 in
theorem bk_120_95 (X : (Nat → Int32) × Nat) (mo : Bool) (G : Nat × Nat) (I : Nat → Nat → Int32) (J : Nat → Nat → Int64) (Q : Option Value → sm_M → Prop) (x1 : Int32) (x2 : Int32) (x3 : Int32) :
    sm_wp X 120 95 [some (.ref 68), some (.int x1), some (.int x2), some (.int x3)] [] (sM mo G I J) Q =
    (sm_wp X 120 11 [some (.ref 68), some (.int x1), some (.int x2), some (.int (x3 + 1))] [] (sM mo G I J) Q) :=
  (sm_blk X 120 95 (tt_lin 120 (by decide)) rfl rfl _ _ _ _).trans rfl
set_option maxRecDepth 100000 in
theorem bk_120_101 (X : (Nat → Int32) × Nat) (mo : Bool) (G : Nat × Nat) (I : Nat → Nat → Int32) (J : Nat → Nat → Int64) (Q : Option Value → sm_M → Prop) (x1 : Int32) (x2 : Int32) (x3 : Int32) :
    sm_wp X 120 101 [some (.ref 68), some (.int x1), some (.int x2), some (.int x3)] [] (sM mo G I J) Q =
    (sm_zb 0 ∧ Q (some (.int 0)) (sM mo G I J)) :=
  (sm_blk X 120 101 (tt_lin 120 (by decide)) rfl rfl _ _ _ _).trans rfl
set_option maxRecDepth 100000 in
theorem bk_121_0 (X : (Nat → Int32) × Nat) (mo : Bool) (G : Nat × Nat) (I : Nat → Nat → Int32) (J : Nat → Nat → Int64) (Q : Option Value → sm_M → Prop) (x1 : Int32) :
    sm_wp X 121 0 [some (.ref 68), some (.int x1), none] [] (sM mo G I J) Q =
    (if (x1 : Int32) < 0 then sm_wp X 121 9 [some (.ref 68), some (.int x1), none] [] (sM mo G I J) Q else (if (x1 : Int32) < (4 : Int32) then sm_wp X 121 11 [some (.ref 68), some (.int x1), none] [] (sM mo G I J) Q else (True ∧ Q (some (.int (-1))) (sM mo G I J)))) :=
  (sm_blk X 121 0 (tt_lin 121 (by decide)) rfl rfl _ _ _ _).trans rfl
set_option maxRecDepth 100000 in
theorem bk_121_9 (X : (Nat → Int32) × Nat) (mo : Bool) (G : Nat × Nat) (I : Nat → Nat → Int32) (J : Nat → Nat → Int64) (Q : Option Value → sm_M → Prop) (x1 : Int32) :
    sm_wp X 121 9 [some (.ref 68), some (.int x1), none] [] (sM mo G I J) Q =
    (True ∧ Q (some (.int (-1))) (sM mo G I J)) :=
  (sm_blk X 121 9 (tt_lin 121 (by decide)) rfl rfl _ _ _ _).trans rfl
set_option maxRecDepth 100000 in
theorem bk_121_11 (X : (Nat → Int32) × Nat) (mo : Bool) (G : Nat × Nat) (I : Nat → Nat → Int32) (J : Nat → Nat → Int64) (Q : Option Value → sm_M → Prop) (x1 : Int32) :
    sm_wp X 121 11 [some (.ref 68), some (.int x1), none] [] (sM mo G I J) Q =
    (vp_in x1 4 ∧ (sm_wp X 121 20 [some (.ref 68), some (.int x1), some (.int ((I 69 (x1.toNatClampNeg)) + 1))] [] (sM mo G I J) Q)) :=
  (sm_blk X 121 11 (tt_lin 121 (by decide)) rfl rfl _ _ _ _).trans rfl
set_option maxRecDepth 100000 in
theorem bk_121_20 (X : (Nat → Int32) × Nat) (mo : Bool) (G : Nat × Nat) (I : Nat → Nat → Int32) (J : Nat → Nat → Int64) (Q : Option Value → sm_M → Prop) (x1 : Int32) (x2 : Int32) :
    sm_wp X 121 20 [some (.ref 68), some (.int x1), some (.int x2)] [] (sM mo G I J) Q =
    (if (6 : Int32) ≤ (x2 : Int32) then sm_wp X 121 54 [some (.ref 68), some (.int x1), some (.int x2)] [] (sM mo G I J) Q else (sm_wp X 94 0 [some (.ref 1), some (.int x2)] [] (sM mo G I J) (fun v M => sm_wp X 121 34 [some (.ref 68), some (.int x1), some (.int x2)] (v.toList ++ []) M Q))) :=
  (sm_blk X 121 20 (tt_lin 121 (by decide)) rfl rfl _ _ _ _).trans rfl
set_option maxRecDepth 100000 in
theorem bk_121_34 (X : (Nat → Int32) × Nat) (mo : Bool) (G : Nat × Nat) (I : Nat → Nat → Int32) (J : Nat → Nat → Int64) (Q : Option Value → sm_M → Prop) (x1 : Int32) (x2 : Int32) (s0 : Int32) :
    sm_wp X 121 34 [some (.ref 68), some (.int x1), some (.int x2)] [.int s0] (sM mo G I J) Q =
    (if (s0 : Int32) = 0 then sm_wp X 121 48 [some (.ref 68), some (.int x1), some (.int x2)] [] (sM mo G I J) Q else (sm_wp X 122 0 [some (.ref 68), some (.int x2), some (.int x1), none] [] (sM mo G I J) (fun v M => sm_wp X 121 43 [some (.ref 68), some (.int x1), some (.int x2)] (v.toList ++ []) M Q))) :=
  (sm_blk X 121 34 (tt_lin 121 (by decide)) rfl rfl _ _ _ _).trans rfl
set_option maxRecDepth 100000 in
theorem bk_121_43 (X : (Nat → Int32) × Nat) (mo : Bool) (G : Nat × Nat) (I : Nat → Nat → Int32) (J : Nat → Nat → Int64) (Q : Option Value → sm_M → Prop) (x1 : Int32) (x2 : Int32) (s0 : Int32) :
    sm_wp X 121 43 [some (.ref 68), some (.int x1), some (.int x2)] [.int s0] (sM mo G I J) Q =
    (if ¬ (s0 : Int32) = 0 then sm_wp X 121 48 [some (.ref 68), some (.int x1), some (.int x2)] [] (sM mo G I J) Q else (True ∧ Q (some (.int x2)) (sM mo G I J))) :=
  (sm_blk X 121 43 (tt_lin 121 (by decide)) rfl rfl _ _ _ _).trans rfl
set_option maxRecDepth 100000 in
theorem bk_121_48 (X : (Nat → Int32) × Nat) (mo : Bool) (G : Nat × Nat) (I : Nat → Nat → Int32) (J : Nat → Nat → Int64) (Q : Option Value → sm_M → Prop) (x1 : Int32) (x2 : Int32) :
    sm_wp X 121 48 [some (.ref 68), some (.int x1), some (.int x2)] [] (sM mo G I J) Q =
    (sm_wp X 121 20 [some (.ref 68), some (.int x1), some (.int (x2 + 1))] [] (sM mo G I J) Q) :=
  (sm_blk X 121 48 (tt_lin 121 (by decide)) rfl rfl _ _ _ _).trans rfl
set_option maxRecDepth 100000 in
theorem bk_121_54 (X : (Nat → Int32) × Nat) (mo : Bool) (G : Nat × Nat) (I : Nat → Nat → Int32) (J : Nat → Nat → Int64) (Q : Option Value → sm_M → Prop) (x1 : Int32) (x2 : Int32) :
    sm_wp X 121 54 [some (.ref 68), some (.int x1), some (.int x2)] [] (sM mo G I J) Q =
    (True ∧ Q (some (.int (-1))) (sM mo G I J)) :=
  (sm_blk X 121 54 (tt_lin 121 (by decide)) rfl rfl _ _ _ _).trans rfl
set_option maxRecDepth 100000 in
theorem bk_122_0 (X : (Nat → Int32) × Nat) (mo : Bool) (G : Nat × Nat) (I : Nat → Nat → Int32) (J : Nat → Nat → Int64) (Q : Option Value → sm_M → Prop) (x1 : Int32) (x2 : Int32) :
    sm_wp X 122 0 [some (.ref 68), some (.int x1), some (.int x2), none] [] (sM mo G I J) Q =
    (sm_wp X 122 2 [some (.ref 68), some (.int x1), some (.int x2), some (.int 0)] [] (sM mo G I J) Q) :=
  (sm_blk X 122 0 (tt_lin 122 (by decide)) rfl rfl _ _ _ _).trans rfl
set_option maxRecDepth 100000 in
theorem bk_122_2 (X : (Nat → Int32) × Nat) (mo : Bool) (G : Nat × Nat) (I : Nat → Nat → Int32) (J : Nat → Nat → Int64) (Q : Option Value → sm_M → Prop) (x1 : Int32) (x2 : Int32) (x3 : Int32) :
    sm_wp X 122 2 [some (.ref 68), some (.int x1), some (.int x2), some (.int x3)] [] (sM mo G I J) Q =
    (if (x2 : Int32) ≤ (x3 : Int32) then sm_wp X 122 30 [some (.ref 68), some (.int x1), some (.int x2), some (.int x3)] [] (sM mo G I J) Q else (if (4 : Int32) ≤ (x3 : Int32) then sm_wp X 122 30 [some (.ref 68), some (.int x1), some (.int x2), some (.int x3)] [] (sM mo G I J) Q else (vp_in x3 4 ∧ (if ¬ (I 69 (x3.toNatClampNeg) : Int32) = (x1 : Int32) then sm_wp X 122 24 [some (.ref 68), some (.int x1), some (.int x2), some (.int x3)] [] (sM mo G I J) Q else (sm_zb 1 ∧ Q (some (.int 1)) (sM mo G I J)))))) :=
  (sm_blk X 122 2 (tt_lin 122 (by decide)) rfl rfl _ _ _ _).trans rfl
set_option maxRecDepth 100000 in
theorem bk_122_24 (X : (Nat → Int32) × Nat) (mo : Bool) (G : Nat × Nat) (I : Nat → Nat → Int32) (J : Nat → Nat → Int64) (Q : Option Value → sm_M → Prop) (x1 : Int32) (x2 : Int32) (x3 : Int32) :
    sm_wp X 122 24 [some (.ref 68), some (.int x1), some (.int x2), some (.int x3)] [] (sM mo G I J) Q =
    (sm_wp X 122 2 [some (.ref 68), some (.int x1), some (.int x2), some (.int (x3 + 1))] [] (sM mo G I J) Q) :=
  (sm_blk X 122 24 (tt_lin 122 (by decide)) rfl rfl _ _ _ _).trans rfl
set_option maxRecDepth 100000 in
theorem bk_122_30 (X : (Nat → Int32) × Nat) (mo : Bool) (G : Nat × Nat) (I : Nat → Nat → Int32) (J : Nat → Nat → Int64) (Q : Option Value → sm_M → Prop) (x1 : Int32) (x2 : Int32) (x3 : Int32) :
    sm_wp X 122 30 [some (.ref 68), some (.int x1), some (.int x2), some (.int x3)] [] (sM mo G I J) Q =
    (sm_zb 0 ∧ Q (some (.int 0)) (sM mo G I J)) :=
  (sm_blk X 122 30 (tt_lin 122 (by decide)) rfl rfl _ _ _ _).trans rfl
set_option maxRecDepth 100000 in
theorem bk_123_0 (X : (Nat → Int32) × Nat) (mo : Bool) (G : Nat × Nat) (I : Nat → Nat → Int32) (J : Nat → Nat → Int64) (Q : Option Value → sm_M → Prop) (x1 : Int32) :
    sm_wp X 123 0 [some (.ref 68), some (.int x1), none, none] [] (sM mo G I J) Q =
    (vp_in 0 4 ∧ (sm_wp X 123 11 [some (.ref 68), some (.int x1), some (.int 0), some (.int 0)] [] (sM mo G (up2 I 70 (0 : Int32).toNatClampNeg (-1)) J) Q)) :=
  (sm_blk X 123 0 (tt_lin 123 (by decide)) rfl rfl _ _ _ _).trans rfl
set_option maxRecDepth 100000 in
theorem bk_123_11 (X : (Nat → Int32) × Nat) (mo : Bool) (G : Nat × Nat) (I : Nat → Nat → Int32) (J : Nat → Nat → Int64) (Q : Option Value → sm_M → Prop) (x1 : Int32) (x2 : Int32) (x3 : Int32) :
    sm_wp X 123 11 [some (.ref 68), some (.int x1), some (.int x2), some (.int x3)] [] (sM mo G I J) Q =
    (if (100000 : Int32) ≤ (x3 : Int32) then sm_wp X 123 113 [some (.ref 68), some (.int x1), some (.int x2), some (.int x3)] [] (sM mo G I J) Q else (if (x2 : Int32) < 0 then sm_wp X 123 113 [some (.ref 68), some (.int x1), some (.int x2), some (.int x3)] [] (sM mo G I J) Q else (if (4 : Int32) ≤ (x2 : Int32) then sm_wp X 123 113 [some (.ref 68), some (.int x1), some (.int x2), some (.int x3)] [] (sM mo G I J) Q else (sm_wp X 124 0 [some (.ref 68), some (.int x2), none, none] [] (sM mo G I J) (fun v M => sm_wp X 123 36 [some (.ref 68), some (.int x1), some (.int x2), some (.int x3)] (v.toList ++ [.int x2, .ref 70]) M Q))))) :=
  (sm_blk X 123 11 (tt_lin 123 (by decide)) rfl rfl _ _ _ _).trans rfl
set_option maxRecDepth 100000 in
theorem bk_123_36 (X : (Nat → Int32) × Nat) (mo : Bool) (G : Nat × Nat) (I : Nat → Nat → Int32) (J : Nat → Nat → Int64) (Q : Option Value → sm_M → Prop) (x1 : Int32) (x2 : Int32) (x3 : Int32) (s1 : Int32) (s2 : Int32) :
    sm_wp X 123 36 [some (.ref 68), some (.int x1), some (.int x2), some (.int x3)] [.int s2, .int s1, .ref 70] (sM mo G I J) Q =
    (vp_in s1 4 ∧ (vp_in x2 4 ∧ (if ¬ ((up2 I 70 s1.toNatClampNeg s2) 70 (x2.toNatClampNeg) : Int32) = ((-1) : Int32) then sm_wp X 123 53 [some (.ref 68), some (.int x1), some (.int x2), some (.int x3)] [] (sM mo G (up2 I 70 s1.toNatClampNeg s2) J) Q else (sm_wp X 123 107 [some (.ref 68), some (.int x1), some (.int (x2 + (-1))), some (.int x3)] [] (sM mo G (up2 I 70 s1.toNatClampNeg s2) J) Q)))) :=
  (sm_blk X 123 36 (tt_lin 123 (by decide)) rfl rfl _ _ _ _).trans rfl
set_option maxRecDepth 100000 in
theorem bk_123_53 (X : (Nat → Int32) × Nat) (mo : Bool) (G : Nat × Nat) (I : Nat → Nat → Int32) (J : Nat → Nat → Int64) (Q : Option Value → sm_M → Prop) (x1 : Int32) (x2 : Int32) (x3 : Int32) :
    sm_wp X 123 53 [some (.ref 68), some (.int x1), some (.int x2), some (.int x3)] [] (sM mo G I J) Q =
    (if (x1 - 1 : Int32) ≤ (x2 : Int32) then sm_wp X 123 80 [some (.ref 68), some (.int x1), some (.int x2), some (.int x3)] [] (sM mo G I J) Q else (if (4 : Int32) ≤ (x2 + 1 : Int32) then sm_wp X 123 80 [some (.ref 68), some (.int x1), some (.int x2), some (.int x3)] [] (sM mo G I J) Q else (vp_in (x2 + 1) 4 ∧ (sm_wp X 123 107 [some (.ref 68), some (.int x1), some (.int (x2 + 1)), some (.int x3)] [] (sM mo G (up2 I 70 (x2 + 1).toNatClampNeg (-1)) J) Q)))) :=
  (sm_blk X 123 53 (tt_lin 123 (by decide)) rfl rfl _ _ _ _).trans rfl
set_option maxRecDepth 100000 in
theorem bk_123_80 (X : (Nat → Int32) × Nat) (mo : Bool) (G : Nat × Nat) (I : Nat → Nat → Int32) (J : Nat → Nat → Int64) (Q : Option Value → sm_M → Prop) (x1 : Int32) (x2 : Int32) (x3 : Int32) :
    sm_wp X 123 80 [some (.ref 68), some (.int x1), some (.int x2), some (.int x3)] [] (sM mo G I J) Q =
    (vp_in 0 4 ∧ (vp_in x2 4 ∧ (vp_in 0 4 ∧ (sm_wp X 125 0 [some (.ref 68), some (.int (I 69 ((0 : Int32).toNatClampNeg))), some (.int (I 70 (x2.toNatClampNeg))), some (.int (I 70 ((0 : Int32).toNatClampNeg)))] [] (sM mo G I J) (fun v M => sm_wp X 123 102 [some (.ref 68), some (.int x1), some (.int x2), some (.int x3)] (v.toList ++ []) M Q))))) :=
  (sm_blk X 123 80 (tt_lin 123 (by decide)) rfl rfl _ _ _ _).trans rfl
set_option maxRecDepth 100000 in
theorem bk_123_102 (X : (Nat → Int32) × Nat) (mo : Bool) (G : Nat × Nat) (I : Nat → Nat → Int32) (J : Nat → Nat → Int64) (Q : Option Value → sm_M → Prop) (x1 : Int32) (x2 : Int32) (x3 : Int32) (s0 : Int32) :
    sm_wp X 123 102 [some (.ref 68), some (.int x1), some (.int x2), some (.int x3)] [.int s0] (sM mo G I J) Q =
    (if (s0 : Int32) = 0 then sm_wp X 123 107 [some (.ref 68), some (.int x1), some (.int x2), some (.int x3)] [] (sM mo G I J) Q else (sm_zb 1 ∧ Q (some (.int 1)) (sM mo G I J))) :=
  (sm_blk X 123 102 (tt_lin 123 (by decide)) rfl rfl _ _ _ _).trans rfl
set_option maxRecDepth 100000 in
theorem bk_123_107 (X : (Nat → Int32) × Nat) (mo : Bool) (G : Nat × Nat) (I : Nat → Nat → Int32) (J : Nat → Nat → Int64) (Q : Option Value → sm_M → Prop) (x1 : Int32) (x2 : Int32) (x3 : Int32) :
    sm_wp X 123 107 [some (.ref 68), some (.int x1), some (.int x2), some (.int x3)] [] (sM mo G I J) Q =
    (sm_wp X 123 11 [some (.ref 68), some (.int x1), some (.int x2), some (.int (x3 + 1))] [] (sM mo G I J) Q) :=
  (sm_blk X 123 107 (tt_lin 123 (by decide)) rfl rfl _ _ _ _).trans rfl
set_option maxRecDepth 100000 in
theorem bk_123_113 (X : (Nat → Int32) × Nat) (mo : Bool) (G : Nat × Nat) (I : Nat → Nat → Int32) (J : Nat → Nat → Int64) (Q : Option Value → sm_M → Prop) (x1 : Int32) (x2 : Int32) (x3 : Int32) :
    sm_wp X 123 113 [some (.ref 68), some (.int x1), some (.int x2), some (.int x3)] [] (sM mo G I J) Q =
    (sm_zb 0 ∧ Q (some (.int 0)) (sM mo G I J)) :=
  (sm_blk X 123 113 (tt_lin 123 (by decide)) rfl rfl _ _ _ _).trans rfl
set_option maxRecDepth 100000 in
theorem bk_124_0 (X : (Nat → Int32) × Nat) (mo : Bool) (G : Nat × Nat) (I : Nat → Nat → Int32) (J : Nat → Nat → Int64) (Q : Option Value → sm_M → Prop) (x1 : Int32) :
    sm_wp X 124 0 [some (.ref 68), some (.int x1), none, none] [] (sM mo G I J) Q =
    (if (x1 : Int32) < 0 then sm_wp X 124 9 [some (.ref 68), some (.int x1), none, none] [] (sM mo G I J) Q else (if (x1 : Int32) < (4 : Int32) then sm_wp X 124 11 [some (.ref 68), some (.int x1), none, none] [] (sM mo G I J) Q else (True ∧ Q (some (.int (-1))) (sM mo G I J)))) :=
  (sm_blk X 124 0 (tt_lin 124 (by decide)) rfl rfl _ _ _ _).trans rfl
set_option maxRecDepth 100000 in
theorem bk_124_9 (X : (Nat → Int32) × Nat) (mo : Bool) (G : Nat × Nat) (I : Nat → Nat → Int32) (J : Nat → Nat → Int64) (Q : Option Value → sm_M → Prop) (x1 : Int32) :
    sm_wp X 124 9 [some (.ref 68), some (.int x1), none, none] [] (sM mo G I J) Q =
    (True ∧ Q (some (.int (-1))) (sM mo G I J)) :=
  (sm_blk X 124 9 (tt_lin 124 (by decide)) rfl rfl _ _ _ _).trans rfl
set_option maxRecDepth 100000 in
theorem bk_124_11 (X : (Nat → Int32) × Nat) (mo : Bool) (G : Nat × Nat) (I : Nat → Nat → Int32) (J : Nat → Nat → Int64) (Q : Option Value → sm_M → Prop) (x1 : Int32) :
    sm_wp X 124 11 [some (.ref 68), some (.int x1), none, none] [] (sM mo G I J) Q =
    (vp_in x1 4 ∧ (sm_wp X 105 0 [some (.ref 1), some (.int (I 69 (x1.toNatClampNeg))), none, none] [] (sM mo G I J) (fun v M => sm_wp X 124 24 [some (.ref 68), some (.int x1), none, none] (v.toList ++ []) M Q))) :=
  (sm_blk X 124 11 (tt_lin 124 (by decide)) rfl rfl _ _ _ _).trans rfl
set_option maxRecDepth 100000 in
theorem bk_124_24 (X : (Nat → Int32) × Nat) (mo : Bool) (G : Nat × Nat) (I : Nat → Nat → Int32) (J : Nat → Nat → Int64) (Q : Option Value → sm_M → Prop) (x1 : Int32) (s0 : Int32) :
    sm_wp X 124 24 [some (.ref 68), some (.int x1), none, none] [.int s0] (sM mo G I J) Q =
    (vp_in x1 4 ∧ (sm_wp X 124 34 [some (.ref 68), some (.int x1), some (.int s0), some (.int ((I 70 (x1.toNatClampNeg)) + 1))] [] (sM mo G I J) Q)) :=
  (sm_blk X 124 24 (tt_lin 124 (by decide)) rfl rfl _ _ _ _).trans rfl
set_option maxRecDepth 100000 in
theorem bk_124_34 (X : (Nat → Int32) × Nat) (mo : Bool) (G : Nat × Nat) (I : Nat → Nat → Int32) (J : Nat → Nat → Int64) (Q : Option Value → sm_M → Prop) (x1 : Int32) (x2 : Int32) (x3 : Int32) :
    sm_wp X 124 34 [some (.ref 68), some (.int x1), some (.int x2), some (.int x3)] [] (sM mo G I J) Q =
    (if (12 : Int32) ≤ (x3 : Int32) then sm_wp X 124 82 [some (.ref 68), some (.int x1), some (.int x2), some (.int x3)] [] (sM mo G I J) Q else (sm_wp X 169 0 [some (.int x2), some (.int x3)] [] (sM mo G I J) (fun v M => sm_wp X 124 45 [some (.ref 68), some (.int x1), some (.int x2), some (.int x3)] (v.toList ++ []) M Q))) :=
  (sm_blk X 124 34 (tt_lin 124 (by decide)) rfl rfl _ _ _ _).trans rfl
set_option maxRecDepth 100000 in
theorem bk_124_45 (X : (Nat → Int32) × Nat) (mo : Bool) (G : Nat × Nat) (I : Nat → Nat → Int32) (J : Nat → Nat → Int64) (Q : Option Value → sm_M → Prop) (x1 : Int32) (x2 : Int32) (x3 : Int32) (s0 : Int32) :
    sm_wp X 124 45 [some (.ref 68), some (.int x1), some (.int x2), some (.int x3)] [.int s0] (sM mo G I J) Q =
    (if (s0 : Int32) = 0 then sm_wp X 124 76 [some (.ref 68), some (.int x1), some (.int x2), some (.int x3)] [] (sM mo G I J) Q else (if (x1 : Int32) = 0 then sm_wp X 124 74 [some (.ref 68), some (.int x1), some (.int x2), some (.int x3)] [] (sM mo G I J) Q else (vp_in x1 4 ∧ (vp_in (x1 - 1) 4 ∧ (sm_wp X 125 0 [some (.ref 68), some (.int (I 69 (x1.toNatClampNeg))), some (.int (I 70 ((x1 - 1).toNatClampNeg))), some (.int x3)] [] (sM mo G I J) (fun v M => sm_wp X 124 71 [some (.ref 68), some (.int x1), some (.int x2), some (.int x3)] (v.toList ++ []) M Q)))))) :=
  (sm_blk X 124 45 (tt_lin 124 (by decide)) rfl rfl _ _ _ _).trans rfl
set_option maxRecDepth 100000 in
theorem bk_124_71 (X : (Nat → Int32) × Nat) (mo : Bool) (G : Nat × Nat) (I : Nat → Nat → Int32) (J : Nat → Nat → Int64) (Q : Option Value → sm_M → Prop) (x1 : Int32) (x2 : Int32) (x3 : Int32) (s0 : Int32) :
    sm_wp X 124 71 [some (.ref 68), some (.int x1), some (.int x2), some (.int x3)] [.int s0] (sM mo G I J) Q =
    (if (s0 : Int32) = 0 then sm_wp X 124 76 [some (.ref 68), some (.int x1), some (.int x2), some (.int x3)] [] (sM mo G I J) Q else (True ∧ Q (some (.int x3)) (sM mo G I J))) :=
  (sm_blk X 124 71 (tt_lin 124 (by decide)) rfl rfl _ _ _ _).trans rfl
set_option maxRecDepth 100000 in
theorem bk_124_74 (X : (Nat → Int32) × Nat) (mo : Bool) (G : Nat × Nat) (I : Nat → Nat → Int32) (J : Nat → Nat → Int64) (Q : Option Value → sm_M → Prop) (x1 : Int32) (x2 : Int32) (x3 : Int32) :
    sm_wp X 124 74 [some (.ref 68), some (.int x1), some (.int x2), some (.int x3)] [] (sM mo G I J) Q =
    (True ∧ Q (some (.int x3)) (sM mo G I J)) :=
  (sm_blk X 124 74 (tt_lin 124 (by decide)) rfl rfl _ _ _ _).trans rfl
set_option maxRecDepth 100000 in
theorem bk_124_76 (X : (Nat → Int32) × Nat) (mo : Bool) (G : Nat × Nat) (I : Nat → Nat → Int32) (J : Nat → Nat → Int64) (Q : Option Value → sm_M → Prop) (x1 : Int32) (x2 : Int32) (x3 : Int32) :
    sm_wp X 124 76 [some (.ref 68), some (.int x1), some (.int x2), some (.int x3)] [] (sM mo G I J) Q =
    (sm_wp X 124 34 [some (.ref 68), some (.int x1), some (.int x2), some (.int (x3 + 1))] [] (sM mo G I J) Q) :=
  (sm_blk X 124 76 (tt_lin 124 (by decide)) rfl rfl _ _ _ _).trans rfl
set_option maxRecDepth 100000 in
theorem bk_124_82 (X : (Nat → Int32) × Nat) (mo : Bool) (G : Nat × Nat) (I : Nat → Nat → Int32) (J : Nat → Nat → Int64) (Q : Option Value → sm_M → Prop) (x1 : Int32) (x2 : Int32) (x3 : Int32) :
    sm_wp X 124 82 [some (.ref 68), some (.int x1), some (.int x2), some (.int x3)] [] (sM mo G I J) Q =
    (True ∧ Q (some (.int (-1))) (sM mo G I J)) :=
  (sm_blk X 124 82 (tt_lin 124 (by decide)) rfl rfl _ _ _ _).trans rfl
set_option maxRecDepth 100000 in
theorem bk_125_0 (X : (Nat → Int32) × Nat) (mo : Bool) (G : Nat × Nat) (I : Nat → Nat → Int32) (J : Nat → Nat → Int64) (Q : Option Value → sm_M → Prop) (x1 : Int32) (x2 : Int32) (x3 : Int32) :
    sm_wp X 125 0 [some (.ref 68), some (.int x1), some (.int x2), some (.int x3)] [] (sM mo G I J) Q =
    (sm_wp X 104 0 [some (.ref 1), some (.int x1), some (.int x2)] [] (sM mo G I J) (fun v M => sm_wp X 125 9 [some (.ref 68), some (.int x1), some (.int x2), some (.int x3)] (v.toList ++ []) M Q)) :=
  (sm_blk X 125 0 (tt_lin 125 (by decide)) rfl rfl _ _ _ _).trans rfl
set_option maxRecDepth 100000 in
theorem bk_125_9 (X : (Nat → Int32) × Nat) (mo : Bool) (G : Nat × Nat) (I : Nat → Nat → Int32) (J : Nat → Nat → Int64) (Q : Option Value → sm_M → Prop) (x1 : Int32) (x2 : Int32) (x3 : Int32) (s0 : Int32) :
    sm_wp X 125 9 [some (.ref 68), some (.int x1), some (.int x2), some (.int x3)] [.int s0] (sM mo G I J) Q =
    (sm_wp X 104 0 [some (.ref 1), some (.int x1), some (.int x3)] [] (sM mo G I J) (fun v M => sm_wp X 125 18 [some (.ref 68), some (.int x1), some (.int x2), some (.int x3)] (v.toList ++ [.int s0]) M Q)) :=
  (sm_blk X 125 9 (tt_lin 125 (by decide)) rfl rfl _ _ _ _).trans rfl
set_option maxRecDepth 100000 in
theorem bk_125_18 (X : (Nat → Int32) × Nat) (mo : Bool) (G : Nat × Nat) (I : Nat → Nat → Int32) (J : Nat → Nat → Int64) (Q : Option Value → sm_M → Prop) (x1 : Int32) (x2 : Int32) (x3 : Int32) (s0 : Int32) (s1 : Int32) :
    sm_wp X 125 18 [some (.ref 68), some (.int x1), some (.int x2), some (.int x3)] [.int s1, .int s0] (sM mo G I J) Q =
    (if (s0 : Int32) ≤ (s1 : Int32) then sm_wp X 125 25 [some (.ref 68), some (.int x1), some (.int x2), some (.int x3)] [] (sM mo G I J) Q else (sm_wp X 125 26 [some (.ref 68), some (.int x1), some (.int x2), some (.int x3)] [.int 1] (sM mo G I J) Q)) :=
  (sm_blk X 125 18 (tt_lin 125 (by decide)) rfl rfl _ _ _ _).trans rfl
set_option maxRecDepth 100000 in
theorem bk_125_25 (X : (Nat → Int32) × Nat) (mo : Bool) (G : Nat × Nat) (I : Nat → Nat → Int32) (J : Nat → Nat → Int64) (Q : Option Value → sm_M → Prop) (x1 : Int32) (x2 : Int32) (x3 : Int32) :
    sm_wp X 125 25 [some (.ref 68), some (.int x1), some (.int x2), some (.int x3)] [] (sM mo G I J) Q =
    (sm_zb 0 ∧ Q (some (.int 0)) (sM mo G I J)) :=
  (sm_blk X 125 25 (tt_lin 125 (by decide)) rfl rfl _ _ _ _).trans rfl
set_option maxRecDepth 100000 in
theorem bk_125_26 (X : (Nat → Int32) × Nat) (mo : Bool) (G : Nat × Nat) (I : Nat → Nat → Int32) (J : Nat → Nat → Int64) (Q : Option Value → sm_M → Prop) (x1 : Int32) (x2 : Int32) (x3 : Int32) (s0 : Int32) :
    sm_wp X 125 26 [some (.ref 68), some (.int x1), some (.int x2), some (.int x3)] [.int s0] (sM mo G I J) Q =
    (sm_zb s0 ∧ Q (some (.int s0)) (sM mo G I J)) :=
  (sm_blk X 125 26 (tt_lin 125 (by decide)) rfl rfl _ _ _ _).trans rfl
set_option maxRecDepth 100000 in
theorem bk_126_0 (X : (Nat → Int32) × Nat) (mo : Bool) (G : Nat × Nat) (I : Nat → Nat → Int32) (J : Nat → Nat → Int64) (Q : Option Value → sm_M → Prop) (x1 : Int32) :
    sm_wp X 126 0 [some (.ref 68), some (.int x1), none] [] (sM mo G I J) Q =
    (if ¬ (x1 : Int32) = 0 then sm_wp X 126 9 [some (.ref 68), some (.int x1), none] [] (sM mo G I J) Q else (True ∧ Q (some (.int (I 68 3))) (sM mo G I J))) :=
  (sm_blk X 126 0 (tt_lin 126 (by decide)) rfl rfl _ _ _ _).trans rfl
set_option maxRecDepth 100000 in
theorem bk_126_9 (X : (Nat → Int32) × Nat) (mo : Bool) (G : Nat × Nat) (I : Nat → Nat → Int32) (J : Nat → Nat → Int64) (Q : Option Value → sm_M → Prop) (x1 : Int32) :
    sm_wp X 126 9 [some (.ref 68), some (.int x1), none] [] (sM mo G I J) Q =
    (if (x1 : Int32) < (1 : Int32) then sm_wp X 126 40 [some (.ref 68), some (.int x1), none] [] (sM mo G I J) Q else (if (4 : Int32) < (x1 : Int32) then sm_wp X 126 40 [some (.ref 68), some (.int x1), none] [] (sM mo G I J) Q else (if (I 68 3 : Int32) < (x1 : Int32) then sm_wp X 126 38 [some (.ref 68), some (.int x1), none] [] (sM mo G I J) Q else (vp_in (x1 - 1) 4 ∧ (sm_wp X 126 39 [some (.ref 68), some (.int x1), none] [.int (I 69 ((x1 - 1).toNatClampNeg))] (sM mo G I J) Q))))) :=
  (sm_blk X 126 9 (tt_lin 126 (by decide)) rfl rfl _ _ _ _).trans rfl
set_option maxRecDepth 100000 in
theorem bk_126_38 (X : (Nat → Int32) × Nat) (mo : Bool) (G : Nat × Nat) (I : Nat → Nat → Int32) (J : Nat → Nat → Int64) (Q : Option Value → sm_M → Prop) (x1 : Int32) :
    sm_wp X 126 38 [some (.ref 68), some (.int x1), none] [] (sM mo G I J) Q =
    (True ∧ Q (some (.int (-1))) (sM mo G I J)) :=
  (sm_blk X 126 38 (tt_lin 126 (by decide)) rfl rfl _ _ _ _).trans rfl
set_option maxRecDepth 100000 in
theorem bk_126_39 (X : (Nat → Int32) × Nat) (mo : Bool) (G : Nat × Nat) (I : Nat → Nat → Int32) (J : Nat → Nat → Int64) (Q : Option Value → sm_M → Prop) (x1 : Int32) (s0 : Int32) :
    sm_wp X 126 39 [some (.ref 68), some (.int x1), none] [.int s0] (sM mo G I J) Q =
    (True ∧ Q (some (.int s0)) (sM mo G I J)) :=
  (sm_blk X 126 39 (tt_lin 126 (by decide)) rfl rfl _ _ _ _).trans rfl
set_option maxRecDepth 100000 in
theorem bk_126_40 (X : (Nat → Int32) × Nat) (mo : Bool) (G : Nat × Nat) (I : Nat → Nat → Int32) (J : Nat → Nat → Int64) (Q : Option Value → sm_M → Prop) (x1 : Int32) :
    sm_wp X 126 40 [some (.ref 68), some (.int x1), none] [] (sM mo G I J) Q =
    (if ((x1 - 1) - 4 : Int32) < 0 then sm_wp X 126 72 [some (.ref 68), some (.int x1), some (.int ((x1 - 1) - 4))] [] (sM mo G I J) Q else (if (4 : Int32) ≤ ((x1 - 1) - 4 : Int32) then sm_wp X 126 72 [some (.ref 68), some (.int x1), some (.int ((x1 - 1) - 4))] [] (sM mo G I J) Q else (if (I 68 3 : Int32) ≤ ((x1 - 1) - 4 : Int32) then sm_wp X 126 72 [some (.ref 68), some (.int x1), some (.int ((x1 - 1) - 4))] [] (sM mo G I J) Q else (vp_in ((x1 - 1) - 4) 4 ∧ (sm_wp X 126 73 [some (.ref 68), some (.int x1), some (.int ((x1 - 1) - 4))] [.int (I 70 (((x1 - 1) - 4).toNatClampNeg))] (sM mo G I J) Q))))) :=
  (sm_blk X 126 40 (tt_lin 126 (by decide)) rfl rfl _ _ _ _).trans rfl
set_option maxRecDepth 100000 in
theorem bk_126_72 (X : (Nat → Int32) × Nat) (mo : Bool) (G : Nat × Nat) (I : Nat → Nat → Int32) (J : Nat → Nat → Int64) (Q : Option Value → sm_M → Prop) (x1 : Int32) (x2 : Int32) :
    sm_wp X 126 72 [some (.ref 68), some (.int x1), some (.int x2)] [] (sM mo G I J) Q =
    (True ∧ Q (some (.int (-1))) (sM mo G I J)) :=
  (sm_blk X 126 72 (tt_lin 126 (by decide)) rfl rfl _ _ _ _).trans rfl
set_option maxRecDepth 100000 in
theorem bk_126_73 (X : (Nat → Int32) × Nat) (mo : Bool) (G : Nat × Nat) (I : Nat → Nat → Int32) (J : Nat → Nat → Int64) (Q : Option Value → sm_M → Prop) (x1 : Int32) (x2 : Int32) (s0 : Int32) :
    sm_wp X 126 73 [some (.ref 68), some (.int x1), some (.int x2)] [.int s0] (sM mo G I J) Q =
    (True ∧ Q (some (.int s0)) (sM mo G I J)) :=
  (sm_blk X 126 73 (tt_lin 126 (by decide)) rfl rfl _ _ _ _).trans rfl
