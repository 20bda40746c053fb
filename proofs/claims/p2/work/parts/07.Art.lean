set_option maxRecDepth 100000 in
theorem bk_1_0 (X : (Nat → Int32) × Nat) (mo : Bool) (G : Nat × Nat) (I : Nat → Nat → Int32) (J : Nat → Nat → Int64) (Q : Option Value → sm_M → Prop)  :
    sm_wp X 1 0 [some (.ref 71)] [] (sM mo G I J) Q =
    (if (I 71 0 : Int32) < (8 : Int32) then sm_wp X 1 11 [some (.ref 71)] [] (sM mo G I J) Q else (True ∧ Q (some (.int (-1))) (sM mo G I J))) :=
  (sm_blk X 1 0 (tt_lin 1 (by decide)) rfl rfl _ _ _ _).trans rfl
set_option maxRecDepth 100000 in
theorem bk_1_11 (X : (Nat → Int32) × Nat) (mo : Bool) (G : Nat × Nat) (I : Nat → Nat → Int32) (J : Nat → Nat → Int64) (Q : Option Value → sm_M → Prop)  :
    sm_wp X 1 11 [some (.ref 71)] [] (sM mo G I J) Q =
    (True ∧ Q (some (.int (((up2 I 71 0 ((I 71 0) + 1)) 71 0) - 1))) (sM mo G (up2 I 71 0 ((I 71 0) + 1)) J)) :=
  (sm_blk X 1 11 (tt_lin 1 (by decide)) rfl rfl _ _ _ _).trans rfl
set_option maxRecDepth 100000 in
theorem bk_2_0 (X : (Nat → Int32) × Nat) (mo : Bool) (G : Nat × Nat) (I : Nat → Nat → Int32) (J : Nat → Nat → Int64) (Q : Option Value → sm_M → Prop) (x1 : Int32) :
    sm_wp X 2 0 [some (.ref 71), some (.int x1)] [] (sM mo G I J) Q =
    (if (x1 : Int32) < 0 then sm_wp X 2 22 [some (.ref 71), some (.int x1)] [] (sM mo G I J) Q else (if (I 71 0 : Int32) ≤ (x1 : Int32) then sm_wp X 2 22 [some (.ref 71), some (.int x1)] [] (sM mo G I J) Q else (if (8 : Int32) ≤ (x1 : Int32) then sm_wp X 2 22 [some (.ref 71), some (.int x1)] [] (sM mo G I J) Q else (sm_wp X 2 23 [some (.ref 71), some (.int x1)] [.int 1] (sM mo G I J) Q)))) :=
  (sm_blk X 2 0 (tt_lin 2 (by decide)) rfl rfl _ _ _ _).trans rfl
set_option maxRecDepth 100000 in
theorem bk_2_22 (X : (Nat → Int32) × Nat) (mo : Bool) (G : Nat × Nat) (I : Nat → Nat → Int32) (J : Nat → Nat → Int64) (Q : Option Value → sm_M → Prop) (x1 : Int32) :
    sm_wp X 2 22 [some (.ref 71), some (.int x1)] [] (sM mo G I J) Q =
    (sm_zb 0 ∧ Q (some (.int 0)) (sM mo G I J)) :=
  (sm_blk X 2 22 (tt_lin 2 (by decide)) rfl rfl _ _ _ _).trans rfl
set_option maxRecDepth 100000 in
theorem bk_2_23 (X : (Nat → Int32) × Nat) (mo : Bool) (G : Nat × Nat) (I : Nat → Nat → Int32) (J : Nat → Nat → Int64) (Q : Option Value → sm_M → Prop) (x1 : Int32) (s0 : Int32) :
    sm_wp X 2 23 [some (.ref 71), some (.int x1)] [.int s0] (sM mo G I J) Q =
    (sm_zb s0 ∧ Q (some (.int s0)) (sM mo G I J)) :=
  (sm_blk X 2 23 (tt_lin 2 (by decide)) rfl rfl _ _ _ _).trans rfl
set_option maxRecDepth 100000 in
theorem bk_3_0 (X : (Nat → Int32) × Nat) (mo : Bool) (G : Nat × Nat) (I : Nat → Nat → Int32) (J : Nat → Nat → Int64) (Q : Option Value → sm_M → Prop) (x1 : Int32) (x2 : Int32) :
    sm_wp X 3 0 [some (.ref 71), some (.int x1), some (.int x2)] [] (sM mo G I J) Q =
    (sm_wp X 2 0 [some (.ref 71), some (.int x1)] [] (sM mo G I J) (fun v M => sm_wp X 3 5 [some (.ref 71), some (.int x1), some (.int x2)] (v.toList ++ []) M Q)) :=
  (sm_blk X 3 0 (tt_lin 3 (by decide)) rfl rfl _ _ _ _).trans rfl
set_option maxRecDepth 100000 in
theorem bk_3_5 (X : (Nat → Int32) × Nat) (mo : Bool) (G : Nat × Nat) (I : Nat → Nat → Int32) (J : Nat → Nat → Int64) (Q : Option Value → sm_M → Prop) (x1 : Int32) (x2 : Int32) (s0 : Int32) :
    sm_wp X 3 5 [some (.ref 71), some (.int x1), some (.int x2)] [.int s0] (sM mo G I J) Q =
    (if (s0 : Int32) = 0 then sm_wp X 3 31 [some (.ref 71), some (.int x1), some (.int x2)] [] (sM mo G I J) Q else (sm_wp X 88 0 [some (.ref 1), some (.int x2)] [] (sM mo G I J) (fun v M => sm_wp X 3 16 [some (.ref 71), some (.int x1), some (.int x2)] (v.toList ++ []) M Q))) :=
  (sm_blk X 3 5 (tt_lin 3 (by decide)) rfl rfl _ _ _ _).trans rfl
set_option maxRecDepth 100000 in
theorem bk_3_16 (X : (Nat → Int32) × Nat) (mo : Bool) (G : Nat × Nat) (I : Nat → Nat → Int32) (J : Nat → Nat → Int64) (Q : Option Value → sm_M → Prop) (x1 : Int32) (x2 : Int32) (s0 : Int32) :
    sm_wp X 3 16 [some (.ref 71), some (.int x1), some (.int x2)] [.int s0] (sM mo G I J) Q =
    (if (s0 : Int32) = 0 then sm_wp X 3 31 [some (.ref 71), some (.int x1), some (.int x2)] [] (sM mo G I J) Q else (vp_in ((x1 * 6) + x2) 48 ∧ (True ∧ Q (some (.int 0)) (sM mo G (up2 I 72 ((x1 * 6) + x2).toNatClampNeg 0) J)))) :=
  (sm_blk X 3 16 (tt_lin 3 (by decide)) rfl rfl _ _ _ _).trans rfl
set_option maxRecDepth 100000 in
theorem bk_3_31 (X : (Nat → Int32) × Nat) (mo : Bool) (G : Nat × Nat) (I : Nat → Nat → Int32) (J : Nat → Nat → Int64) (Q : Option Value → sm_M → Prop) (x1 : Int32) (x2 : Int32) :
    sm_wp X 3 31 [some (.ref 71), some (.int x1), some (.int x2)] [] (sM mo G I J) Q =
    (True ∧ Q (some (.int 0)) (sM mo G I J)) :=
  (sm_blk X 3 31 (tt_lin 3 (by decide)) rfl rfl _ _ _ _).trans rfl
set_option maxRecDepth 100000 in
theorem bk_4_0 (X : (Nat → Int32) × Nat) (mo : Bool) (G : Nat × Nat) (I : Nat → Nat → Int32) (J : Nat → Nat → Int64) (Q : Option Value → sm_M → Prop) (x1 : Int32) (x2 : Int32) (x3 : Int32) :
    sm_wp X 4 0 [some (.ref 71), some (.int x1), some (.int x2), some (.int x3), none, none] [] (sM mo G I J) Q =
    (sm_wp X 2 0 [some (.ref 71), some (.int x1)] [] (sM mo G I J) (fun v M => sm_wp X 4 5 [some (.ref 71), some (.int x1), some (.int x2), some (.int x3), none, none] (v.toList ++ []) M Q)) :=
  (sm_blk X 4 0 (tt_lin 4 (by decide)) rfl rfl _ _ _ _).trans rfl
set_option maxRecDepth 100000 in
theorem bk_4_5 (X : (Nat → Int32) × Nat) (mo : Bool) (G : Nat × Nat) (I : Nat → Nat → Int32) (J : Nat → Nat → Int64) (Q : Option Value → sm_M → Prop) (x1 : Int32) (x2 : Int32) (x3 : Int32) (s0 : Int32) :
    sm_wp X 4 5 [some (.ref 71), some (.int x1), some (.int x2), some (.int x3), none, none] [.int s0] (sM mo G I J) Q =
    (if (s0 : Int32) = 0 then sm_wp X 4 19 [some (.ref 71), some (.int x1), some (.int x2), some (.int x3), none, none] [] (sM mo G I J) Q else (sm_wp X 88 0 [some (.ref 1), some (.int x2)] [] (sM mo G I J) (fun v M => sm_wp X 4 16 [some (.ref 71), some (.int x1), some (.int x2), some (.int x3), none, none] (v.toList ++ []) M Q))) :=
  (sm_blk X 4 5 (tt_lin 4 (by decide)) rfl rfl _ _ _ _).trans rfl
set_option maxRecDepth 100000 in
theorem bk_4_16 (X : (Nat → Int32) × Nat) (mo : Bool) (G : Nat × Nat) (I : Nat → Nat → Int32) (J : Nat → Nat → Int64) (Q : Option Value → sm_M → Prop) (x1 : Int32) (x2 : Int32) (x3 : Int32) (s0 : Int32) :
    sm_wp X 4 16 [some (.ref 71), some (.int x1), some (.int x2), some (.int x3), none, none] [.int s0] (sM mo G I J) Q =
    (if ¬ (s0 : Int32) = 0 then sm_wp X 4 21 [some (.ref 71), some (.int x1), some (.int x2), some (.int x3), none, none] [] (sM mo G I J) Q else (True ∧ Q (some (.int (-1))) (sM mo G I J))) :=
  (sm_blk X 4 16 (tt_lin 4 (by decide)) rfl rfl _ _ _ _).trans rfl
set_option maxRecDepth 100000 in
theorem bk_4_19 (X : (Nat → Int32) × Nat) (mo : Bool) (G : Nat × Nat) (I : Nat → Nat → Int32) (J : Nat → Nat → Int64) (Q : Option Value → sm_M → Prop) (x1 : Int32) (x2 : Int32) (x3 : Int32) :
    sm_wp X 4 19 [some (.ref 71), some (.int x1), some (.int x2), some (.int x3), none, none] [] (sM mo G I J) Q =
    (True ∧ Q (some (.int (-1))) (sM mo G I J)) :=
  (sm_blk X 4 19 (tt_lin 4 (by decide)) rfl rfl _ _ _ _).trans rfl
set_option maxRecDepth 100000 in
theorem bk_4_21 (X : (Nat → Int32) × Nat) (mo : Bool) (G : Nat × Nat) (I : Nat → Nat → Int32) (J : Nat → Nat → Int64) (Q : Option Value → sm_M → Prop) (x1 : Int32) (x2 : Int32) (x3 : Int32) :
    sm_wp X 4 21 [some (.ref 71), some (.int x1), some (.int x2), some (.int x3), none, none] [] (sM mo G I J) Q =
    (vp_in ((x1 * 6) + x2) 48 ∧ (if (I 72 (((x1 * 6) + x2).toNatClampNeg) : Int32) < 0 then sm_wp X 4 50 [some (.ref 71), some (.int x1), some (.int x2), some (.int x3), some (.int ((x1 * 6) + x2)), some (.int (I 72 (((x1 * 6) + x2).toNatClampNeg)))] [] (sM mo G I J) Q else (if (I 72 (((x1 * 6) + x2).toNatClampNeg) : Int32) < (8 : Int32) then sm_wp X 4 52 [some (.ref 71), some (.int x1), some (.int x2), some (.int x3), some (.int ((x1 * 6) + x2)), some (.int (I 72 (((x1 * 6) + x2).toNatClampNeg)))] [] (sM mo G I J) Q else (True ∧ Q (some (.int (-1))) (sM mo G I J))))) :=
  (sm_blk X 4 21 (tt_lin 4 (by decide)) rfl rfl _ _ _ _).trans rfl
set_option maxRecDepth 100000 in
theorem bk_4_50 (X : (Nat → Int32) × Nat) (mo : Bool) (G : Nat × Nat) (I : Nat → Nat → Int32) (J : Nat → Nat → Int64) (Q : Option Value → sm_M → Prop) (x1 : Int32) (x2 : Int32) (x3 : Int32) (x4 : Int32) (x5 : Int32) :
    sm_wp X 4 50 [some (.ref 71), some (.int x1), some (.int x2), some (.int x3), some (.int x4), some (.int x5)] [] (sM mo G I J) Q =
    (True ∧ Q (some (.int (-1))) (sM mo G I J)) :=
  (sm_blk X 4 50 (tt_lin 4 (by decide)) rfl rfl _ _ _ _).trans rfl
set_option maxRecDepth 100000 in
theorem bk_4_52 (X : (Nat → Int32) × Nat) (mo : Bool) (G : Nat × Nat) (I : Nat → Nat → Int32) (J : Nat → Nat → Int64) (Q : Option Value → sm_M → Prop) (x1 : Int32) (x2 : Int32) (x3 : Int32) (x4 : Int32) (x5 : Int32) :
    sm_wp X 4 52 [some (.ref 71), some (.int x1), some (.int x2), some (.int x3), some (.int x4), some (.int x5)] [] (sM mo G I J) Q =
    (vp_in ((x4 * 8) + x5) 384 ∧ (vp_in x4 48 ∧ (True ∧ Q (some (.int (x5 + 1))) (sM mo G (up2 (up2 I 73 ((x4 * 8) + x5).toNatClampNeg x3) 72 x4.toNatClampNeg (x5 + 1)) J)))) :=
  (sm_blk X 4 52 (tt_lin 4 (by decide)) rfl rfl _ _ _ _).trans rfl
set_option maxRecDepth 100000 in
theorem bk_5_0 (X : (Nat → Int32) × Nat) (mo : Bool) (G : Nat × Nat) (I : Nat → Nat → Int32) (J : Nat → Nat → Int64) (Q : Option Value → sm_M → Prop) (x1 : Int32) (x2 : Int32) (x3 : Int32) :
    sm_wp X 5 0 [some (.ref 71), some (.int x1), some (.int x2), some (.int x3)] [] (sM mo G I J) Q =
    (sm_wp X 2 0 [some (.ref 71), some (.int x1)] [] (sM mo G I J) (fun v M => sm_wp X 5 5 [some (.ref 71), some (.int x1), some (.int x2), some (.int x3)] (v.toList ++ []) M Q)) :=
  (sm_blk X 5 0 (tt_lin 5 (by decide)) rfl rfl _ _ _ _).trans rfl
set_option maxRecDepth 100000 in
theorem bk_5_5 (X : (Nat → Int32) × Nat) (mo : Bool) (G : Nat × Nat) (I : Nat → Nat → Int32) (J : Nat → Nat → Int64) (Q : Option Value → sm_M → Prop) (x1 : Int32) (x2 : Int32) (x3 : Int32) (s0 : Int32) :
    sm_wp X 5 5 [some (.ref 71), some (.int x1), some (.int x2), some (.int x3)] [.int s0] (sM mo G I J) Q =
    (if (s0 : Int32) = 0 then sm_wp X 5 22 [some (.ref 71), some (.int x1), some (.int x2), some (.int x3)] [] (sM mo G I J) Q else (vp_in x1 8 ∧ (sm_wp X 169 0 [some (.int (I 74 (x1.toNatClampNeg))), some (.int x2)] [] (sM mo G I J) (fun v M => sm_wp X 5 18 [some (.ref 71), some (.int x1), some (.int x2), some (.int x3)] (v.toList ++ []) M Q)))) :=
  (sm_blk X 5 5 (tt_lin 5 (by decide)) rfl rfl _ _ _ _).trans rfl
set_option maxRecDepth 100000 in
theorem bk_5_18 (X : (Nat → Int32) × Nat) (mo : Bool) (G : Nat × Nat) (I : Nat → Nat → Int32) (J : Nat → Nat → Int64) (Q : Option Value → sm_M → Prop) (x1 : Int32) (x2 : Int32) (x3 : Int32) (s0 : Int32) :
    sm_wp X 5 18 [some (.ref 71), some (.int x1), some (.int x2), some (.int x3)] [.int s0] (sM mo G I J) Q =
    (if ¬ (s0 : Int32) = (x3 : Int32) then sm_wp X 5 24 [some (.ref 71), some (.int x1), some (.int x2), some (.int x3)] [] (sM mo G I J) Q else (sm_zb 0 ∧ Q (some (.int 0)) (sM mo G I J))) :=
  (sm_blk X 5 18 (tt_lin 5 (by decide)) rfl rfl _ _ _ _).trans rfl
set_option maxRecDepth 100000 in
theorem bk_5_22 (X : (Nat → Int32) × Nat) (mo : Bool) (G : Nat × Nat) (I : Nat → Nat → Int32) (J : Nat → Nat → Int64) (Q : Option Value → sm_M → Prop) (x1 : Int32) (x2 : Int32) (x3 : Int32) :
    sm_wp X 5 22 [some (.ref 71), some (.int x1), some (.int x2), some (.int x3)] [] (sM mo G I J) Q =
    (sm_zb 0 ∧ Q (some (.int 0)) (sM mo G I J)) :=
  (sm_blk X 5 22 (tt_lin 5 (by decide)) rfl rfl _ _ _ _).trans rfl
set_option maxRecDepth 100000 in
theorem bk_5_24 (X : (Nat → Int32) × Nat) (mo : Bool) (G : Nat × Nat) (I : Nat → Nat → Int32) (J : Nat → Nat → Int64) (Q : Option Value → sm_M → Prop) (x1 : Int32) (x2 : Int32) (x3 : Int32) :
    sm_wp X 5 24 [some (.ref 71), some (.int x1), some (.int x2), some (.int x3)] [] (sM mo G I J) Q =
    (vp_in x1 8 ∧ (vp_in x1 8 ∧ (sm_zb 1 ∧ Q (some (.int 1)) (sM mo G (up2 I 74 x1.toNatClampNeg ((I 74 (x1.toNatClampNeg)) ^^^ (1 <<< (x2 &&& 31)))) J)))) :=
  (sm_blk X 5 24 (tt_lin 5 (by decide)) rfl rfl _ _ _ _).trans rfl
set_option maxRecDepth 100000 in
theorem bk_6_0 (X : (Nat → Int32) × Nat) (mo : Bool) (G : Nat × Nat) (I : Nat → Nat → Int32) (J : Nat → Nat → Int64) (Q : Option Value → sm_M → Prop) (x1 : Int32) (x2 : Int32) (x3 : Int32) :
    sm_wp X 6 0 [some (.ref 71), some (.int x1), some (.int x2), some (.int x3)] [] (sM mo G I J) Q =
    (sm_wp X 2 0 [some (.ref 71), some (.int x1)] [] (sM mo G I J) (fun v M => sm_wp X 6 5 [some (.ref 71), some (.int x1), some (.int x2), some (.int x3)] (v.toList ++ []) M Q)) :=
  (sm_blk X 6 0 (tt_lin 6 (by decide)) rfl rfl _ _ _ _).trans rfl
set_option maxRecDepth 100000 in
theorem bk_6_5 (X : (Nat → Int32) × Nat) (mo : Bool) (G : Nat × Nat) (I : Nat → Nat → Int32) (J : Nat → Nat → Int64) (Q : Option Value → sm_M → Prop) (x1 : Int32) (x2 : Int32) (x3 : Int32) (s0 : Int32) :
    sm_wp X 6 5 [some (.ref 71), some (.int x1), some (.int x2), some (.int x3)] [.int s0] (sM mo G I J) Q =
    (if (s0 : Int32) = 0 then sm_wp X 6 22 [some (.ref 71), some (.int x1), some (.int x2), some (.int x3)] [] (sM mo G I J) Q else (vp_in x1 8 ∧ (sm_wp X 169 0 [some (.int (I 75 (x1.toNatClampNeg))), some (.int x2)] [] (sM mo G I J) (fun v M => sm_wp X 6 18 [some (.ref 71), some (.int x1), some (.int x2), some (.int x3)] (v.toList ++ []) M Q)))) :=
  (sm_blk X 6 5 (tt_lin 6 (by decide)) rfl rfl _ _ _ _).trans rfl
set_option maxRecDepth 100000 in
theorem bk_6_18 (X : (Nat → Int32) × Nat) (mo : Bool) (G : Nat × Nat) (I : Nat → Nat → Int32) (J : Nat → Nat → Int64) (Q : Option Value → sm_M → Prop) (x1 : Int32) (x2 : Int32) (x3 : Int32) (s0 : Int32) :
    sm_wp X 6 18 [some (.ref 71), some (.int x1), some (.int x2), some (.int x3)] [.int s0] (sM mo G I J) Q =
    (if ¬ (s0 : Int32) = (x3 : Int32) then sm_wp X 6 24 [some (.ref 71), some (.int x1), some (.int x2), some (.int x3)] [] (sM mo G I J) Q else (sm_zb 0 ∧ Q (some (.int 0)) (sM mo G I J))) :=
  (sm_blk X 6 18 (tt_lin 6 (by decide)) rfl rfl _ _ _ _).trans rfl
set_option maxRecDepth 100000 in
theorem bk_6_22 (X : (Nat → Int32) × Nat) (mo : Bool) (G : Nat × Nat) (I : Nat → Nat → Int32) (J : Nat → Nat → Int64) (Q : Option Value → sm_M → Prop) (x1 : Int32) (x2 : Int32) (x3 : Int32) :
    sm_wp X 6 22 [some (.ref 71), some (.int x1), some (.int x2), some (.int x3)] [] (sM mo G I J) Q =
    (sm_zb 0 ∧ Q (some (.int 0)) (sM mo G I J)) :=
  (sm_blk X 6 22 (tt_lin 6 (by decide)) rfl rfl _ _ _ _).trans rfl
set_option maxRecDepth 100000 in
theorem bk_6_24 (X : (Nat → Int32) × Nat) (mo : Bool) (G : Nat × Nat) (I : Nat → Nat → Int32) (J : Nat → Nat → Int64) (Q : Option Value → sm_M → Prop) (x1 : Int32) (x2 : Int32) (x3 : Int32) :
    sm_wp X 6 24 [some (.ref 71), some (.int x1), some (.int x2), some (.int x3)] [] (sM mo G I J) Q =
    (vp_in x1 8 ∧ (vp_in x1 8 ∧ (sm_zb 1 ∧ Q (some (.int 1)) (sM mo G (up2 I 75 x1.toNatClampNeg ((I 75 (x1.toNatClampNeg)) ^^^ (1 <<< (x2 &&& 31)))) J)))) :=
  (sm_blk X 6 24 (tt_lin 6 (by decide)) rfl rfl _ _ _ _).trans rfl
set_option maxRecDepth 100000 in
theorem bk_7_0 (X : (Nat → Int32) × Nat) (mo : Bool) (G : Nat × Nat) (I : Nat → Nat → Int32) (J : Nat → Nat → Int64) (Q : Option Value → sm_M → Prop) (x1 : Int32) (x2 : Int32) :
    sm_wp X 7 0 [some (.ref 71), some (.int x1), some (.int x2)] [] (sM mo G I J) Q =
    (sm_wp X 2 0 [some (.ref 71), some (.int x1)] [] (sM mo G I J) (fun v M => sm_wp X 7 5 [some (.ref 71), some (.int x1), some (.int x2)] (v.toList ++ []) M Q)) :=
  (sm_blk X 7 0 (tt_lin 7 (by decide)) rfl rfl _ _ _ _).trans rfl
set_option maxRecDepth 100000 in
theorem bk_7_5 (X : (Nat → Int32) × Nat) (mo : Bool) (G : Nat × Nat) (I : Nat → Nat → Int32) (J : Nat → Nat → Int64) (Q : Option Value → sm_M → Prop) (x1 : Int32) (x2 : Int32) (s0 : Int32) :
    sm_wp X 7 5 [some (.ref 71), some (.int x1), some (.int x2)] [.int s0] (sM mo G I J) Q =
    (if (s0 : Int32) = 0 then sm_wp X 7 19 [some (.ref 71), some (.int x1), some (.int x2)] [] (sM mo G I J) Q else (sm_wp X 88 0 [some (.ref 1), some (.int x2)] [] (sM mo G I J) (fun v M => sm_wp X 7 16 [some (.ref 71), some (.int x1), some (.int x2)] (v.toList ++ []) M Q))) :=
  (sm_blk X 7 5 (tt_lin 7 (by decide)) rfl rfl _ _ _ _).trans rfl
set_option maxRecDepth 100000 in
theorem bk_7_16 (X : (Nat → Int32) × Nat) (mo : Bool) (G : Nat × Nat) (I : Nat → Nat → Int32) (J : Nat → Nat → Int64) (Q : Option Value → sm_M → Prop) (x1 : Int32) (x2 : Int32) (s0 : Int32) :
    sm_wp X 7 16 [some (.ref 71), some (.int x1), some (.int x2)] [.int s0] (sM mo G I J) Q =
    (if ¬ (s0 : Int32) = 0 then sm_wp X 7 21 [some (.ref 71), some (.int x1), some (.int x2)] [] (sM mo G I J) Q else (True ∧ Q (some (.int 0)) (sM mo G I J))) :=
  (sm_blk X 7 16 (tt_lin 7 (by decide)) rfl rfl _ _ _ _).trans rfl
set_option maxRecDepth 100000 in
theorem bk_7_19 (X : (Nat → Int32) × Nat) (mo : Bool) (G : Nat × Nat) (I : Nat → Nat → Int32) (J : Nat → Nat → Int64) (Q : Option Value → sm_M → Prop) (x1 : Int32) (x2 : Int32) :
    sm_wp X 7 19 [some (.ref 71), some (.int x1), some (.int x2)] [] (sM mo G I J) Q =
    (True ∧ Q (some (.int 0)) (sM mo G I J)) :=
  (sm_blk X 7 19 (tt_lin 7 (by decide)) rfl rfl _ _ _ _).trans rfl
set_option maxRecDepth 100000 in
theorem bk_7_21 (X : (Nat → Int32) × Nat) (mo : Bool) (G : Nat × Nat) (I : Nat → Nat → Int32) (J : Nat → Nat → Int64) (Q : Option Value → sm_M → Prop) (x1 : Int32) (x2 : Int32) :
    sm_wp X 7 21 [some (.ref 71), some (.int x1), some (.int x2)] [] (sM mo G I J) Q =
    (vp_in ((x1 * 6) + x2) 48 ∧ (True ∧ Q (some (.int (I 72 (((x1 * 6) + x2).toNatClampNeg)))) (sM mo G I J))) :=
  (sm_blk X 7 21 (tt_lin 7 (by decide)) rfl rfl _ _ _ _).trans rfl
set_option maxRecDepth 100000 in
theorem bk_8_0 (X : (Nat → Int32) × Nat) (mo : Bool) (G : Nat × Nat) (I : Nat → Nat → Int32) (J : Nat → Nat → Int64) (Q : Option Value → sm_M → Prop) (x1 : Int32) (x2 : Int32) (x3 : Int32) :
    sm_wp X 8 0 [some (.ref 71), some (.int x1), some (.int x2), some (.int x3), none, none, none, none, none, none, none] [] (sM mo G I J) Q =
    (sm_wp X 8 3 [some (.ref 71), some (.int x1), some (.int x2), some (.int x3), some (.int 0), none, none, none, none, none, none] [] (sM mo G I J) Q) :=
  (sm_blk X 8 0 (tt_lin 8 (by decide)) rfl rfl _ _ _ _).trans rfl
set_option maxRecDepth 100000 in
theorem bk_8_3 (X : (Nat → Int32) × Nat) (mo : Bool) (G : Nat × Nat) (I : Nat → Nat → Int32) (J : Nat → Nat → Int64) (Q : Option Value → sm_M → Prop) (x1 : Int32) (x2 : Int32) (x3 : Int32) (x4 : Int32) :
    sm_wp X 8 3 [some (.ref 71), some (.int x1), some (.int x2), some (.int x3), some (.int x4), none, none, none, none, none, none] [] (sM mo G I J) Q =
    (if (8 : Int32) ≤ (x4 : Int32) then sm_wp X 8 46 [some (.ref 71), some (.int x1), some (.int x2), some (.int x3), some (.int x4), none, none, none, none, none, none] [] (sM mo G I J) Q else (sm_wp X 9 0 [some (.ref 71), some (.int x1), some (.int x2), some (.int x4)] [] (sM mo G I J) (fun v M => sm_wp X 8 24 [some (.ref 71), some (.int x1), some (.int x2), some (.int x3), some (.int x4), none, none, none, none, none, none] (v.toList ++ [.int x4, .ref 76]) M Q))) :=
  (sm_blk X 8 3 (tt_lin 8 (by decide)) rfl rfl _ _ _ _).trans rfl
set_option maxRecDepth 100000 in
theorem bk_8_24 (X : (Nat → Int32) × Nat) (mo : Bool) (G : Nat × Nat) (I : Nat → Nat → Int32) (J : Nat → Nat → Int64) (Q : Option Value → sm_M → Prop) (x1 : Int32) (x2 : Int32) (x3 : Int32) (x4 : Int32) (s1 : Int32) (s2 : Int32) :
    sm_wp X 8 24 [some (.ref 71), some (.int x1), some (.int x2), some (.int x3), some (.int x4), none, none, none, none, none, none] [.int s2, .int s1, .ref 76] (sM mo G I J) Q =
    (vp_in s1 8 ∧ (sm_wp X 9 0 [some (.ref 71), some (.int x1), some (.int x3), some (.int x4)] [] (sM mo G (up2 I 76 s1.toNatClampNeg s2) J) (fun v M => sm_wp X 8 39 [some (.ref 71), some (.int x1), some (.int x2), some (.int x3), some (.int x4), none, none, none, none, none, none] (v.toList ++ [.int x4, .ref 77]) M Q))) :=
  (sm_blk X 8 24 (tt_lin 8 (by decide)) rfl rfl _ _ _ _).trans rfl
set_option maxRecDepth 100000 in
theorem bk_8_39 (X : (Nat → Int32) × Nat) (mo : Bool) (G : Nat × Nat) (I : Nat → Nat → Int32) (J : Nat → Nat → Int64) (Q : Option Value → sm_M → Prop) (x1 : Int32) (x2 : Int32) (x3 : Int32) (x4 : Int32) (s1 : Int32) (s2 : Int32) :
    sm_wp X 8 39 [some (.ref 71), some (.int x1), some (.int x2), some (.int x3), some (.int x4), none, none, none, none, none, none] [.int s2, .int s1, .ref 77] (sM mo G I J) Q =
    (vp_in s1 8 ∧ (sm_wp X 8 3 [some (.ref 71), some (.int x1), some (.int x2), some (.int x3), some (.int (x4 + 1)), none, none, none, none, none, none] [] (sM mo G (up2 I 77 s1.toNatClampNeg s2) J) Q)) :=
  (sm_blk X 8 39 (tt_lin 8 (by decide)) rfl rfl _ _ _ _).trans rfl
set_option maxRecDepth 100000 in
theorem bk_8_46 (X : (Nat → Int32) × Nat) (mo : Bool) (G : Nat × Nat) (I : Nat → Nat → Int32) (J : Nat → Nat → Int64) (Q : Option Value → sm_M → Prop) (x1 : Int32) (x2 : Int32) (x3 : Int32) (x4 : Int32) :
    sm_wp X 8 46 [some (.ref 71), some (.int x1), some (.int x2), some (.int x3), some (.int x4), none, none, none, none, none, none] [] (sM mo G I J) Q =
    (sm_wp X 7 0 [some (.ref 71), some (.int x1), some (.int x2)] [] (sM mo G I J) (fun v M => sm_wp X 8 52 [some (.ref 71), some (.int x1), some (.int x2), some (.int x3), some (.int x4), none, none, none, none, none, none] (v.toList ++ []) M Q)) :=
  (sm_blk X 8 46 (tt_lin 8 (by decide)) rfl rfl _ _ _ _).trans rfl
set_option maxRecDepth 100000 in
theorem bk_8_52 (X : (Nat → Int32) × Nat) (mo : Bool) (G : Nat × Nat) (I : Nat → Nat → Int32) (J : Nat → Nat → Int64) (Q : Option Value → sm_M → Prop) (x1 : Int32) (x2 : Int32) (x3 : Int32) (x4 : Int32) (s0 : Int32) :
    sm_wp X 8 52 [some (.ref 71), some (.int x1), some (.int x2), some (.int x3), some (.int x4), none, none, none, none, none, none] [.int s0] (sM mo G I J) Q =
    (True ∧ (sm_wp X 7 0 [some (.ref 71), some (.int x1), some (.int x3)] [] (sM mo G I J) (fun v M => sm_wp X 8 65 [some (.ref 71), some (.int x1), some (.int x2), some (.int x3), some (.int (if (8 : Int32) < s0 then 8 else s0)), none, none, none, none, none, none] (v.toList ++ []) M Q))) :=
  (sm_blk X 8 52 (tt_lin 8 (by decide)) rfl rfl _ _ _ _).trans rfl
set_option maxRecDepth 100000 in
theorem bk_8_65 (X : (Nat → Int32) × Nat) (mo : Bool) (G : Nat × Nat) (I : Nat → Nat → Int32) (J : Nat → Nat → Int64) (Q : Option Value → sm_M → Prop) (x1 : Int32) (x2 : Int32) (x3 : Int32) (x4 : Int32) (s0 : Int32) :
    sm_wp X 8 65 [some (.ref 71), some (.int x1), some (.int x2), some (.int x3), some (.int x4), none, none, none, none, none, none] [.int s0] (sM mo G I J) Q =
    (True ∧ (sm_wp X 8 76 [some (.ref 71), none, none, none, some (.int x4), some (.int (if (8 : Int32) < s0 then 8 else s0)), some (.int x4), none, none, none, none] [] (sM mo G I J) Q)) :=
  (sm_blk X 8 65 (tt_lin 8 (by decide)) rfl rfl _ _ _ _).trans rfl
set_option maxRecDepth 100000 in
theorem bk_8_76 (X : (Nat → Int32) × Nat) (mo : Bool) (G : Nat × Nat) (I : Nat → Nat → Int32) (J : Nat → Nat → Int64) (Q : Option Value → sm_M → Prop) (x4 : Int32) (x5 : Int32) (x6 : Int32) :
    sm_wp X 8 76 [some (.ref 71), none, none, none, some (.int x4), some (.int x5), some (.int x6), none, none, none, none] [] (sM mo G I J) Q =
    (if (x6 : Int32) < 0 then sm_wp X 8 232 [some (.ref 71), none, none, none, some (.int x4), some (.int x5), some (.int x6), none, none, none, none] [] (sM mo G I J) Q else (sm_wp X 8 85 [some (.ref 71), none, none, none, some (.int x4), some (.int x5), some (.int x6), some (.int x5), none, none, none] [] (sM mo G I J) Q)) :=
  (sm_blk X 8 76 (tt_lin 8 (by decide)) rfl rfl _ _ _ _).trans rfl
set_option maxRecDepth 100000 in
theorem bk_8_85 (X : (Nat → Int32) × Nat) (mo : Bool) (G : Nat × Nat) (I : Nat → Nat → Int32) (J : Nat → Nat → Int64) (Q : Option Value → sm_M → Prop) (x4 : Int32) (x5 : Int32) (x6 : Int32) (x7 : Int32) :
    sm_wp X 8 85 [some (.ref 71), none, none, none, some (.int x4), some (.int x5), some (.int x6), some (.int x7), none, none, none] [] (sM mo G I J) Q =
    (if (x7 : Int32) < 0 then sm_wp X 8 226 [some (.ref 71), none, none, none, some (.int x4), some (.int x5), some (.int x6), some (.int x7), none, none, none] [] (sM mo G I J) Q else (if (x4 : Int32) ≤ (x6 : Int32) then sm_wp X 8 205 [some (.ref 71), none, none, none, some (.int x4), some (.int x5), some (.int x6), some (.int x7), some (.int (((x4 - x6) + x5) - x7)), none, none] [] (sM mo G I J) Q else (if (x5 : Int32) ≤ (x7 : Int32) then sm_wp X 8 205 [some (.ref 71), none, none, none, some (.int x4), some (.int x5), some (.int x6), some (.int x7), some (.int (((x4 - x6) + x5) - x7)), none, none] [] (sM mo G I J) Q else (vp_in x6 8 ∧ (vp_in x7 8 ∧ (if ¬ (I 76 (x6.toNatClampNeg) : Int32) = (I 77 (x7.toNatClampNeg) : Int32) then sm_wp X 8 138 [some (.ref 71), none, none, none, some (.int x4), some (.int x5), some (.int x6), some (.int x7), some (.int (((x4 - x6) + x5) - x7)), none, none] [] (sM mo G I J) Q else (sm_wp X 8 139 [some (.ref 71), none, none, none, some (.int x4), some (.int x5), some (.int x6), some (.int x7), some (.int (((x4 - x6) + x5) - x7)), none, none] [.int 0] (sM mo G I J) Q))))))) :=
  (sm_blk X 8 85 (tt_lin 8 (by decide)) rfl rfl _ _ _ _).trans rfl
set_option maxRecDepth 100000 in
theorem bk_8_138 (X : (Nat → Int32) × Nat) (mo : Bool) (G : Nat × Nat) (I : Nat → Nat → Int32) (J : Nat → Nat → Int64) (Q : Option Value → sm_M → Prop) (x4 : Int32) (x5 : Int32) (x6 : Int32) (x7 : Int32) (x8 : Int32) :
    sm_wp X 8 138 [some (.ref 71), none, none, none, some (.int x4), some (.int x5), some (.int x6), some (.int x7), some (.int x8), none, none] [] (sM mo G I J) Q =
    (vp_in ((((x6 + 1) * 9) + x7) + 1) 81 ∧ (vp_in (((x6 + 1) * 9) + x7) 81 ∧ (vp_in (((x6 * 9) + x7) + 1) 81 ∧ (True ∧ (True ∧ (vp_in ((x6 * 9) + x7) 81 ∧ (sm_wp X 8 85 [some (.ref 71), none, none, none, some (.int x4), some (.int x5), some (.int x6), some (.int (x7 + (-1))), none, none, none] [] (sM mo G (up2 I 78 ((x6 * 9) + x7).toNatClampNeg (if (1 + (if (I 78 ((((x6 * 9) + x7) + 1).toNatClampNeg) : Int32) < I 78 ((((x6 + 1) * 9) + x7).toNatClampNeg) then I 78 ((((x6 * 9) + x7) + 1).toNatClampNeg) else I 78 ((((x6 + 1) * 9) + x7).toNatClampNeg)) : Int32) < 1 + (I 78 (((((x6 + 1) * 9) + x7) + 1).toNatClampNeg)) then 1 + (if (I 78 ((((x6 * 9) + x7) + 1).toNatClampNeg) : Int32) < I 78 ((((x6 + 1) * 9) + x7).toNatClampNeg) then I 78 ((((x6 * 9) + x7) + 1).toNatClampNeg) else I 78 ((((x6 + 1) * 9) + x7).toNatClampNeg)) else 1 + (I 78 (((((x6 + 1) * 9) + x7) + 1).toNatClampNeg)))) J) Q))))))) :=
  (sm_blk X 8 138 (tt_lin 8 (by decide)) rfl rfl _ _ _ _).trans rfl
set_option maxRecDepth 100000 in
theorem bk_8_139 (X : (Nat → Int32) × Nat) (mo : Bool) (G : Nat × Nat) (I : Nat → Nat → Int32) (J : Nat → Nat → Int64) (Q : Option Value → sm_M → Prop) (x4 : Int32) (x5 : Int32) (x6 : Int32) (x7 : Int32) (x8 : Int32) (s0 : Int32) :
    sm_wp X 8 139 [some (.ref 71), none, none, none, some (.int x4), some (.int x5), some (.int x6), some (.int x7), some (.int x8), none, none] [.int s0] (sM mo G I J) Q =
    (vp_in ((((x6 + 1) * 9) + x7) + 1) 81 ∧ (vp_in (((x6 + 1) * 9) + x7) 81 ∧ (vp_in (((x6 * 9) + x7) + 1) 81 ∧ (True ∧ (True ∧ (vp_in ((x6 * 9) + x7) 81 ∧ (sm_wp X 8 85 [some (.ref 71), none, none, none, some (.int x4), some (.int x5), some (.int x6), some (.int (x7 + (-1))), none, none, none] [] (sM mo G (up2 I 78 ((x6 * 9) + x7).toNatClampNeg (if (1 + (if (I 78 ((((x6 * 9) + x7) + 1).toNatClampNeg) : Int32) < I 78 ((((x6 + 1) * 9) + x7).toNatClampNeg) then I 78 ((((x6 * 9) + x7) + 1).toNatClampNeg) else I 78 ((((x6 + 1) * 9) + x7).toNatClampNeg)) : Int32) < s0 + (I 78 (((((x6 + 1) * 9) + x7) + 1).toNatClampNeg)) then 1 + (if (I 78 ((((x6 * 9) + x7) + 1).toNatClampNeg) : Int32) < I 78 ((((x6 + 1) * 9) + x7).toNatClampNeg) then I 78 ((((x6 * 9) + x7) + 1).toNatClampNeg) else I 78 ((((x6 + 1) * 9) + x7).toNatClampNeg)) else s0 + (I 78 (((((x6 + 1) * 9) + x7) + 1).toNatClampNeg)))) J) Q))))))) :=
  (sm_blk X 8 139 (tt_lin 8 (by decide)) rfl rfl _ _ _ _).trans rfl
set_option maxRecDepth 100000 in
theorem bk_8_205 (X : (Nat → Int32) × Nat) (mo : Bool) (G : Nat × Nat) (I : Nat → Nat → Int32) (J : Nat → Nat → Int64) (Q : Option Value → sm_M → Prop) (x4 : Int32) (x5 : Int32) (x6 : Int32) (x7 : Int32) (x8 : Int32) :
    sm_wp X 8 205 [some (.ref 71), none, none, none, some (.int x4), some (.int x5), some (.int x6), some (.int x7), some (.int x8), none, none] [] (sM mo G I J) Q =
    (vp_in ((x6 * 9) + x7) 81 ∧ (sm_wp X 8 85 [some (.ref 71), none, none, none, some (.int x4), some (.int x5), some (.int x6), some (.int (x7 + (-1))), none, none, none] [] (sM mo G (up2 I 78 ((x6 * 9) + x7).toNatClampNeg x8) J) Q)) :=
  (sm_blk X 8 205 (tt_lin 8 (by decide)) rfl rfl _ _ _ _).trans rfl
set_option maxRecDepth 100000 in
theorem bk_8_226 (X : (Nat → Int32) × Nat) (mo : Bool) (G : Nat × Nat) (I : Nat → Nat → Int32) (J : Nat → Nat → Int64) (Q : Option Value → sm_M → Prop) (x4 : Int32) (x5 : Int32) (x6 : Int32) (x7 : Int32) :
    sm_wp X 8 226 [some (.ref 71), none, none, none, some (.int x4), some (.int x5), some (.int x6), some (.int x7), none, none, none] [] (sM mo G I J) Q =
    (sm_wp X 8 76 [some (.ref 71), none, none, none, some (.int x4), some (.int x5), some (.int (x6 + (-1))), none, none, none, none] [] (sM mo G I J) Q) :=
  (sm_blk X 8 226 (tt_lin 8 (by decide)) rfl rfl _ _ _ _).trans rfl
set_option maxRecDepth 100000 in
theorem bk_8_232 (X : (Nat → Int32) × Nat) (mo : Bool) (G : Nat × Nat) (I : Nat → Nat → Int32) (J : Nat → Nat → Int64) (Q : Option Value → sm_M → Prop) (x4 : Int32) (x5 : Int32) (x6 : Int32) :
    sm_wp X 8 232 [some (.ref 71), none, none, none, some (.int x4), some (.int x5), some (.int x6), none, none, none, none] [] (sM mo G I J) Q =
    (vp_in 0 81 ∧ (True ∧ Q (some (.int (I 78 ((0 : Int32).toNatClampNeg)))) (sM mo G I J))) :=
  (sm_blk X 8 232 (tt_lin 8 (by decide)) rfl rfl _ _ _ _).trans rfl
set_option maxRecDepth 100000 in
theorem bk_9_0 (X : (Nat → Int32) × Nat) (mo : Bool) (G : Nat × Nat) (I : Nat → Nat → Int32) (J : Nat → Nat → Int64) (Q : Option Value → sm_M → Prop) (x1 : Int32) (x2 : Int32) (x3 : Int32) :
    sm_wp X 9 0 [some (.ref 71), some (.int x1), some (.int x2), some (.int x3)] [] (sM mo G I J) Q =
    (if (x1 : Int32) < 0 then sm_wp X 9 20 [some (.ref 71), some (.int x1), some (.int x2), some (.int x3)] [] (sM mo G I J) Q else (if (8 : Int32) ≤ (x1 : Int32) then sm_wp X 9 20 [some (.ref 71), some (.int x1), some (.int x2), some (.int x3)] [] (sM mo G I J) Q else (if (x2 : Int32) < 0 then sm_wp X 9 20 [some (.ref 71), some (.int x1), some (.int x2), some (.int x3)] [] (sM mo G I J) Q else (if (x2 : Int32) < (6 : Int32) then sm_wp X 9 22 [some (.ref 71), some (.int x1), some (.int x2), some (.int x3)] [] (sM mo G I J) Q else (True ∧ Q (some (.int 0)) (sM mo G I J)))))) :=
  (sm_blk X 9 0 (tt_lin 9 (by decide)) rfl rfl _ _ _ _).trans rfl
set_option maxRecDepth 100000 in
theorem bk_9_20 (X : (Nat → Int32) × Nat) (mo : Bool) (G : Nat × Nat) (I : Nat → Nat → Int32) (J : Nat → Nat → Int64) (Q : Option Value → sm_M → Prop) (x1 : Int32) (x2 : Int32) (x3 : Int32) :
    sm_wp X 9 20 [some (.ref 71), some (.int x1), some (.int x2), some (.int x3)] [] (sM mo G I J) Q =
    (True ∧ Q (some (.int 0)) (sM mo G I J)) :=
  (sm_blk X 9 20 (tt_lin 9 (by decide)) rfl rfl _ _ _ _).trans rfl
set_option maxRecDepth 100000 in
theorem bk_9_22 (X : (Nat → Int32) × Nat) (mo : Bool) (G : Nat × Nat) (I : Nat → Nat → Int32) (J : Nat → Nat → Int64) (Q : Option Value → sm_M → Prop) (x1 : Int32) (x2 : Int32) (x3 : Int32) :
    sm_wp X 9 22 [some (.ref 71), some (.int x1), some (.int x2), some (.int x3)] [] (sM mo G I J) Q =
    (if (x3 : Int32) < 0 then sm_wp X 9 32 [some (.ref 71), some (.int x1), some (.int x2), some (.int x3)] [] (sM mo G I J) Q else (if (x3 : Int32) < (8 : Int32) then sm_wp X 9 34 [some (.ref 71), some (.int x1), some (.int x2), some (.int x3)] [] (sM mo G I J) Q else (True ∧ Q (some (.int 0)) (sM mo G I J)))) :=
  (sm_blk X 9 22 (tt_lin 9 (by decide)) rfl rfl _ _ _ _).trans rfl
set_option maxRecDepth 100000 in
theorem bk_9_32 (X : (Nat → Int32) × Nat) (mo : Bool) (G : Nat × Nat) (I : Nat → Nat → Int32) (J : Nat → Nat → Int64) (Q : Option Value → sm_M → Prop) (x1 : Int32) (x2 : Int32) (x3 : Int32) :
    sm_wp X 9 32 [some (.ref 71), some (.int x1), some (.int x2), some (.int x3)] [] (sM mo G I J) Q =
    (True ∧ Q (some (.int 0)) (sM mo G I J)) :=
  (sm_blk X 9 32 (tt_lin 9 (by decide)) rfl rfl _ _ _ _).trans rfl
set_option maxRecDepth 100000 in
theorem bk_9_34 (X : (Nat → Int32) × Nat) (mo : Bool) (G : Nat × Nat) (I : Nat → Nat → Int32) (J : Nat → Nat → Int64) (Q : Option Value → sm_M → Prop) (x1 : Int32) (x2 : Int32) (x3 : Int32) :
    sm_wp X 9 34 [some (.ref 71), some (.int x1), some (.int x2), some (.int x3)] [] (sM mo G I J) Q =
    (vp_in ((((x1 * 6) + x2) * 8) + x3) 384 ∧ (True ∧ Q (some (.int (I 73 (((((x1 * 6) + x2) * 8) + x3).toNatClampNeg)))) (sM mo G I J))) :=
  (sm_blk X 9 34 (tt_lin 9 (by decide)) rfl rfl _ _ _ _).trans rfl
set_option maxRecDepth 100000 in
theorem bk_10_0 (X : (Nat → Int32) × Nat) (mo : Bool) (G : Nat × Nat) (I : Nat → Nat → Int32) (J : Nat → Nat → Int64) (Q : Option Value → sm_M → Prop) (x1 : Int32) :
    sm_wp X 10 0 [some (.ref 71), some (.int x1), none, none, none] [] (sM mo G I J) Q =
    (sm_wp X 10 2 [some (.ref 71), some (.int x1), some (.int 0), none, none] [] (sM mo G I J) Q) :=
  (sm_blk X 10 0 (tt_lin 10 (by decide)) rfl rfl _ _ _ _).trans rfl
set_option maxRecDepth 100000 in
theorem bk_10_2 (X : (Nat → Int32) × Nat) (mo : Bool) (G : Nat × Nat) (I : Nat → Nat → Int32) (J : Nat → Nat → Int64) (Q : Option Value → sm_M → Prop) (x1 : Int32) (x2 : Int32) :
    sm_wp X 10 2 [some (.ref 71), some (.int x1), some (.int x2), none, none] [] (sM mo G I J) Q =
    (if (6 : Int32) ≤ (x2 : Int32) then sm_wp X 10 21 [some (.ref 71), some (.int x1), some (.int x2), none, none] [] (sM mo G I J) Q else (vp_in x2 6 ∧ (sm_wp X 10 2 [some (.ref 71), some (.int x1), some (.int (x2 + 1)), none, none] [] (sM mo G (up2 I 79 x2.toNatClampNeg 0) J) Q))) :=
  (sm_blk X 10 2 (tt_lin 10 (by decide)) rfl rfl _ _ _ _).trans rfl
set_option maxRecDepth 100000 in
theorem bk_10_21 (X : (Nat → Int32) × Nat) (mo : Bool) (G : Nat × Nat) (I : Nat → Nat → Int32) (J : Nat → Nat → Int64) (Q : Option Value → sm_M → Prop) (x1 : Int32) (x2 : Int32) :
    sm_wp X 10 21 [some (.ref 71), some (.int x1), some (.int x2), none, none] [] (sM mo G I J) Q =
    (sm_wp X 10 23 [some (.ref 71), some (.int x1), some (.int 1), none, none] [] (sM mo G I J) Q) :=
  (sm_blk X 10 21 (tt_lin 10 (by decide)) rfl rfl _ _ _ _).trans rfl
set_option maxRecDepth 100000 in
theorem bk_10_23 (X : (Nat → Int32) × Nat) (mo : Bool) (G : Nat × Nat) (I : Nat → Nat → Int32) (J : Nat → Nat → Int64) (Q : Option Value → sm_M → Prop) (x1 : Int32) (x2 : Int32) :
    sm_wp X 10 23 [some (.ref 71), some (.int x1), some (.int x2), none, none] [] (sM mo G I J) Q =
    (if (6 : Int32) ≤ (x2 : Int32) then sm_wp X 10 97 [some (.ref 71), some (.int x1), some (.int x2), none, none] [] (sM mo G I J) Q else (sm_wp X 10 31 [some (.ref 71), some (.int x1), some (.int x2), some (.int 0), none] [] (sM mo G I J) Q)) :=
  (sm_blk X 10 23 (tt_lin 10 (by decide)) rfl rfl _ _ _ _).trans rfl
set_option maxRecDepth 100000 in
theorem bk_10_31 (X : (Nat → Int32) × Nat) (mo : Bool) (G : Nat × Nat) (I : Nat → Nat → Int32) (J : Nat → Nat → Int64) (Q : Option Value → sm_M → Prop) (x1 : Int32) (x2 : Int32) (x3 : Int32) :
    sm_wp X 10 31 [some (.ref 71), some (.int x1), some (.int x2), some (.int x3), none] [] (sM mo G I J) Q =
    (if (x2 : Int32) ≤ (x3 : Int32) then sm_wp X 10 91 [some (.ref 71), some (.int x1), some (.int x2), some (.int x3), none] [] (sM mo G I J) Q else (sm_wp X 11 0 [some (.ref 71), some (.int x1), some (.int x3)] [] (sM mo G I J) (fun v M => sm_wp X 10 42 [some (.ref 71), some (.int x1), some (.int x2), some (.int x3), none] (v.toList ++ []) M Q))) :=
  (sm_blk X 10 31 (tt_lin 10 (by decide)) rfl rfl _ _ _ _).trans rfl
set_option maxRecDepth 100000 in
theorem bk_10_42 (X : (Nat → Int32) × Nat) (mo : Bool) (G : Nat × Nat) (I : Nat → Nat → Int32) (J : Nat → Nat → Int64) (Q : Option Value → sm_M → Prop) (x1 : Int32) (x2 : Int32) (x3 : Int32) (s0 : Int32) :
    sm_wp X 10 42 [some (.ref 71), some (.int x1), some (.int x2), some (.int x3), none] [.int s0] (sM mo G I J) Q =
    (if (s0 : Int32) = 0 then sm_wp X 10 85 [some (.ref 71), some (.int x1), some (.int x2), some (.int x3), none] [] (sM mo G I J) Q else (sm_wp X 11 0 [some (.ref 71), some (.int x1), some (.int x2)] [] (sM mo G I J) (fun v M => sm_wp X 10 51 [some (.ref 71), some (.int x1), some (.int x2), some (.int x3), none] (v.toList ++ []) M Q))) :=
  (sm_blk X 10 42 (tt_lin 10 (by decide)) rfl rfl _ _ _ _).trans rfl
set_option maxRecDepth 100000 in
theorem bk_10_51 (X : (Nat → Int32) × Nat) (mo : Bool) (G : Nat × Nat) (I : Nat → Nat → Int32) (J : Nat → Nat → Int64) (Q : Option Value → sm_M → Prop) (x1 : Int32) (x2 : Int32) (x3 : Int32) (s0 : Int32) :
    sm_wp X 10 51 [some (.ref 71), some (.int x1), some (.int x2), some (.int x3), none] [.int s0] (sM mo G I J) Q =
    (if (s0 : Int32) = 0 then sm_wp X 10 85 [some (.ref 71), some (.int x1), some (.int x2), some (.int x3), none] [] (sM mo G I J) Q else (sm_wp X 8 0 [some (.ref 71), some (.int x1), some (.int x3), some (.int x2), none, none, none, none, none, none, none] [] (sM mo G I J) (fun v M => sm_wp X 10 61 [some (.ref 71), some (.int x1), some (.int x2), some (.int x3), none] (v.toList ++ []) M Q))) :=
  (sm_blk X 10 51 (tt_lin 10 (by decide)) rfl rfl _ _ _ _).trans rfl
set_option maxRecDepth 100000 in
theorem bk_10_61 (X : (Nat → Int32) × Nat) (mo : Bool) (G : Nat × Nat) (I : Nat → Nat → Int32) (J : Nat → Nat → Int64) (Q : Option Value → sm_M → Prop) (x1 : Int32) (x2 : Int32) (x3 : Int32) (s0 : Int32) :
    sm_wp X 10 61 [some (.ref 71), some (.int x1), some (.int x2), some (.int x3), none] [.int s0] (sM mo G I J) Q =
    (vp_in x3 6 ∧ (vp_in x3 6 ∧ (vp_in x2 6 ∧ (vp_in x2 6 ∧ (sm_wp X 10 31 [some (.ref 71), some (.int x1), some (.int x2), some (.int (x3 + 1)), none] [] (sM mo G (up2 (up2 I 79 x3.toNatClampNeg ((I 79 (x3.toNatClampNeg)) + s0)) 79 x2.toNatClampNeg (((up2 I 79 x3.toNatClampNeg ((I 79 (x3.toNatClampNeg)) + s0)) 79 (x2.toNatClampNeg)) + s0)) J) Q))))) :=
  (sm_blk X 10 61 (tt_lin 10 (by decide)) rfl rfl _ _ _ _).trans rfl
set_option maxRecDepth 100000 in
theorem bk_10_85 (X : (Nat → Int32) × Nat) (mo : Bool) (G : Nat × Nat) (I : Nat → Nat → Int32) (J : Nat → Nat → Int64) (Q : Option Value → sm_M → Prop) (x1 : Int32) (x2 : Int32) (x3 : Int32) :
    sm_wp X 10 85 [some (.ref 71), some (.int x1), some (.int x2), some (.int x3), none] [] (sM mo G I J) Q =
    (sm_wp X 10 31 [some (.ref 71), some (.int x1), some (.int x2), some (.int (x3 + 1)), none] [] (sM mo G I J) Q) :=
  (sm_blk X 10 85 (tt_lin 10 (by decide)) rfl rfl _ _ _ _).trans rfl
set_option maxRecDepth 100000 in
theorem bk_10_91 (X : (Nat → Int32) × Nat) (mo : Bool) (G : Nat × Nat) (I : Nat → Nat → Int32) (J : Nat → Nat → Int64) (Q : Option Value → sm_M → Prop) (x1 : Int32) (x2 : Int32) (x3 : Int32) :
    sm_wp X 10 91 [some (.ref 71), some (.int x1), some (.int x2), some (.int x3), none] [] (sM mo G I J) Q =
    (sm_wp X 10 23 [some (.ref 71), some (.int x1), some (.int (x2 + 1)), none, none] [] (sM mo G I J) Q) :=
  (sm_blk X 10 91 (tt_lin 10 (by decide)) rfl rfl _ _ _ _).trans rfl
set_option maxRecDepth 100000 in
theorem bk_10_97 (X : (Nat → Int32) × Nat) (mo : Bool) (G : Nat × Nat) (I : Nat → Nat → Int32) (J : Nat → Nat → Int64) (Q : Option Value → sm_M → Prop) (x1 : Int32) (x2 : Int32) :
    sm_wp X 10 97 [some (.ref 71), some (.int x1), some (.int x2), none, none] [] (sM mo G I J) Q =
    (sm_wp X 10 101 [some (.ref 71), some (.int x1), some (.int (-1)), some (.int 0), none] [] (sM mo G I J) Q) :=
  (sm_blk X 10 97 (tt_lin 10 (by decide)) rfl rfl _ _ _ _).trans rfl
set_option maxRecDepth 100000 in
theorem bk_10_101 (X : (Nat → Int32) × Nat) (mo : Bool) (G : Nat × Nat) (I : Nat → Nat → Int32) (J : Nat → Nat → Int64) (Q : Option Value → sm_M → Prop) (x1 : Int32) (x2 : Int32) (x3 : Int32) :
    sm_wp X 10 101 [some (.ref 71), some (.int x1), some (.int x2), some (.int x3), none] [] (sM mo G I J) Q =
    (if (6 : Int32) ≤ (x3 : Int32) then sm_wp X 10 133 [some (.ref 71), some (.int x1), some (.int x2), some (.int x3), none] [] (sM mo G I J) Q else (sm_wp X 11 0 [some (.ref 71), some (.int x1), some (.int x3)] [] (sM mo G I J) (fun v M => sm_wp X 10 113 [some (.ref 71), some (.int x1), some (.int x2), some (.int x3), none] (v.toList ++ []) M Q))) :=
  (sm_blk X 10 101 (tt_lin 10 (by decide)) rfl rfl _ _ _ _).trans rfl
set_option maxRecDepth 100000 in
theorem bk_10_113 (X : (Nat → Int32) × Nat) (mo : Bool) (G : Nat × Nat) (I : Nat → Nat → Int32) (J : Nat → Nat → Int64) (Q : Option Value → sm_M → Prop) (x1 : Int32) (x2 : Int32) (x3 : Int32) (s0 : Int32) :
    sm_wp X 10 113 [some (.ref 71), some (.int x1), some (.int x2), some (.int x3), none] [.int s0] (sM mo G I J) Q =
    (if (s0 : Int32) = 0 then sm_wp X 10 127 [some (.ref 71), some (.int x1), some (.int x2), some (.int x3), none] [] (sM mo G I J) Q else (sm_wp X 12 0 [some (.ref 71), some (.int x3), some (.int x2)] [] (sM mo G I J) (fun v M => sm_wp X 10 122 [some (.ref 71), some (.int x1), some (.int x2), some (.int x3), none] (v.toList ++ []) M Q))) :=
  (sm_blk X 10 113 (tt_lin 10 (by decide)) rfl rfl _ _ _ _).trans rfl
set_option maxRecDepth 100000 in
theorem bk_10_122 (X : (Nat → Int32) × Nat) (mo : Bool) (G : Nat × Nat) (I : Nat → Nat → Int32) (J : Nat → Nat → Int64) (Q : Option Value → sm_M → Prop) (x1 : Int32) (x2 : Int32) (x3 : Int32) (s0 : Int32) :
    sm_wp X 10 122 [some (.ref 71), some (.int x1), some (.int x2), some (.int x3), none] [.int s0] (sM mo G I J) Q =
    (if (s0 : Int32) = 0 then sm_wp X 10 127 [some (.ref 71), some (.int x1), some (.int x2), some (.int x3), none] [] (sM mo G I J) Q else (sm_wp X 10 101 [some (.ref 71), some (.int x1), some (.int x3), some (.int (x3 + 1)), none] [] (sM mo G I J) Q)) :=
  (sm_blk X 10 122 (tt_lin 10 (by decide)) rfl rfl _ _ _ _).trans rfl
set_option maxRecDepth 100000 in
theorem bk_10_127 (X : (Nat → Int32) × Nat) (mo : Bool) (G : Nat × Nat) (I : Nat → Nat → Int32) (J : Nat → Nat → Int64) (Q : Option Value → sm_M → Prop) (x1 : Int32) (x2 : Int32) (x3 : Int32) :
    sm_wp X 10 127 [some (.ref 71), some (.int x1), some (.int x2), some (.int x3), none] [] (sM mo G I J) Q =
    (sm_wp X 10 101 [some (.ref 71), some (.int x1), some (.int x2), some (.int (x3 + 1)), none] [] (sM mo G I J) Q) :=
  (sm_blk X 10 127 (tt_lin 10 (by decide)) rfl rfl _ _ _ _).trans rfl
set_option maxRecDepth 100000 in
theorem bk_10_133 (X : (Nat → Int32) × Nat) (mo : Bool) (G : Nat × Nat) (I : Nat → Nat → Int32) (J : Nat → Nat → Int64) (Q : Option Value → sm_M → Prop) (x1 : Int32) (x2 : Int32) (x3 : Int32) :
    sm_wp X 10 133 [some (.ref 71), some (.int x1), some (.int x2), some (.int x3), none] [] (sM mo G I J) Q =
    (True ∧ Q (some (.int x2)) (sM mo G I J)) :=
  (sm_blk X 10 133 (tt_lin 10 (by decide)) rfl rfl _ _ _ _).trans rfl
set_option maxRecDepth 100000 in
theorem bk_11_0 (X : (Nat → Int32) × Nat) (mo : Bool) (G : Nat × Nat) (I : Nat → Nat → Int32) (J : Nat → Nat → Int64) (Q : Option Value → sm_M → Prop) (x1 : Int32) (x2 : Int32) :
    sm_wp X 11 0 [some (.ref 71), some (.int x1), some (.int x2)] [] (sM mo G I J) Q =
    (sm_wp X 94 0 [some (.ref 1), some (.int x2)] [] (sM mo G I J) (fun v M => sm_wp X 11 8 [some (.ref 71), some (.int x1), some (.int x2)] (v.toList ++ []) M Q)) :=
  (sm_blk X 11 0 (tt_lin 11 (by decide)) rfl rfl _ _ _ _).trans rfl
set_option maxRecDepth 100000 in
theorem bk_11_8 (X : (Nat → Int32) × Nat) (mo : Bool) (G : Nat × Nat) (I : Nat → Nat → Int32) (J : Nat → Nat → Int64) (Q : Option Value → sm_M → Prop) (x1 : Int32) (x2 : Int32) (s0 : Int32) :
    sm_wp X 11 8 [some (.ref 71), some (.int x1), some (.int x2)] [.int s0] (sM mo G I J) Q =
    (if (s0 : Int32) = 0 then sm_wp X 11 24 [some (.ref 71), some (.int x1), some (.int x2)] [] (sM mo G I J) Q else (sm_wp X 7 0 [some (.ref 71), some (.int x1), some (.int x2)] [] (sM mo G I J) (fun v M => sm_wp X 11 17 [some (.ref 71), some (.int x1), some (.int x2)] (v.toList ++ []) M Q))) :=
  (sm_blk X 11 8 (tt_lin 11 (by decide)) rfl rfl _ _ _ _).trans rfl
set_option maxRecDepth 100000 in
theorem bk_11_17 (X : (Nat → Int32) × Nat) (mo : Bool) (G : Nat × Nat) (I : Nat → Nat → Int32) (J : Nat → Nat → Int64) (Q : Option Value → sm_M → Prop) (x1 : Int32) (x2 : Int32) (s0 : Int32) :
    sm_wp X 11 17 [some (.ref 71), some (.int x1), some (.int x2)] [.int s0] (sM mo G I J) Q =
    (if (s0 : Int32) ≤ 0 then sm_wp X 11 24 [some (.ref 71), some (.int x1), some (.int x2)] [] (sM mo G I J) Q else (sm_wp X 11 25 [some (.ref 71), some (.int x1), some (.int x2)] [.int 1] (sM mo G I J) Q)) :=
  (sm_blk X 11 17 (tt_lin 11 (by decide)) rfl rfl _ _ _ _).trans rfl
set_option maxRecDepth 100000 in
theorem bk_11_24 (X : (Nat → Int32) × Nat) (mo : Bool) (G : Nat × Nat) (I : Nat → Nat → Int32) (J : Nat → Nat → Int64) (Q : Option Value → sm_M → Prop) (x1 : Int32) (x2 : Int32) :
    sm_wp X 11 24 [some (.ref 71), some (.int x1), some (.int x2)] [] (sM mo G I J) Q =
    (sm_zb 0 ∧ Q (some (.int 0)) (sM mo G I J)) :=
  (sm_blk X 11 24 (tt_lin 11 (by decide)) rfl rfl _ _ _ _).trans rfl
set_option maxRecDepth 100000 in
theorem bk_11_25 (X : (Nat → Int32) × Nat) (mo : Bool) (G : Nat × Nat) (I : Nat → Nat → Int32) (J : Nat → Nat → Int64) (Q : Option Value → sm_M → Prop) (x1 : Int32) (x2 : Int32) (s0 : Int32) :
    sm_wp X 11 25 [some (.ref 71), some (.int x1), some (.int x2)] [.int s0] (sM mo G I J) Q =
    (sm_zb s0 ∧ Q (some (.int s0)) (sM mo G I J)) :=
  (sm_blk X 11 25 (tt_lin 11 (by decide)) rfl rfl _ _ _ _).trans rfl
set_option maxRecDepth 100000 in
theorem bk_12_0 (X : (Nat → Int32) × Nat) (mo : Bool) (G : Nat × Nat) (I : Nat → Nat → Int32) (J : Nat → Nat → Int64) (Q : Option Value → sm_M → Prop) (x1 : Int32) (x2 : Int32) :
    sm_wp X 12 0 [some (.ref 71), some (.int x1), some (.int x2)] [] (sM mo G I J) Q =
    (if (x1 : Int32) < 0 then sm_wp X 12 20 [some (.ref 71), some (.int x1), some (.int x2)] [] (sM mo G I J) Q else (if (6 : Int32) ≤ (x1 : Int32) then sm_wp X 12 20 [some (.ref 71), some (.int x1), some (.int x2)] [] (sM mo G I J) Q else (if (x2 : Int32) < 0 then sm_wp X 12 20 [some (.ref 71), some (.int x1), some (.int x2)] [] (sM mo G I J) Q else (if (x2 : Int32) < (6 : Int32) then sm_wp X 12 22 [some (.ref 71), some (.int x1), some (.int x2)] [] (sM mo G I J) Q else (sm_zb 1 ∧ Q (some (.int 1)) (sM mo G I J)))))) :=
  (sm_blk X 12 0 (tt_lin 12 (by decide)) rfl rfl _ _ _ _).trans rfl
set_option maxRecDepth 100000 in
theorem bk_12_20 (X : (Nat → Int32) × Nat) (mo : Bool) (G : Nat × Nat) (I : Nat → Nat → Int32) (J : Nat → Nat → Int64) (Q : Option Value → sm_M → Prop) (x1 : Int32) (x2 : Int32) :
    sm_wp X 12 20 [some (.ref 71), some (.int x1), some (.int x2)] [] (sM mo G I J) Q =
    (sm_zb 1 ∧ Q (some (.int 1)) (sM mo G I J)) :=
  (sm_blk X 12 20 (tt_lin 12 (by decide)) rfl rfl _ _ _ _).trans rfl
set_option maxRecDepth 100000 in
theorem bk_12_22 (X : (Nat → Int32) × Nat) (mo : Bool) (G : Nat × Nat) (I : Nat → Nat → Int32) (J : Nat → Nat → Int64) (Q : Option Value → sm_M → Prop) (x1 : Int32) (x2 : Int32) :
    sm_wp X 12 22 [some (.ref 71), some (.int x1), some (.int x2)] [] (sM mo G I J) Q =
    (vp_in x1 6 ∧ (vp_in x2 6 ∧ (if (I 79 (x1.toNatClampNeg) : Int32) = (I 79 (x2.toNatClampNeg) : Int32) then sm_wp X 12 58 [some (.ref 71), some (.int x1), some (.int x2)] [] (sM mo G I J) Q else (vp_in x1 6 ∧ (vp_in x2 6 ∧ (if (I 79 (x2.toNatClampNeg) : Int32) ≤ (I 79 (x1.toNatClampNeg) : Int32) then sm_wp X 12 56 [some (.ref 71), some (.int x1), some (.int x2)] [] (sM mo G I J) Q else (sm_wp X 12 57 [some (.ref 71), some (.int x1), some (.int x2)] [.int 1] (sM mo G I J) Q))))))) :=
  (sm_blk X 12 22 (tt_lin 12 (by decide)) rfl rfl _ _ _ _).trans rfl
set_option maxRecDepth 100000 in
theorem bk_12_56 (X : (Nat → Int32) × Nat) (mo : Bool) (G : Nat × Nat) (I : Nat → Nat → Int32) (J : Nat → Nat → Int64) (Q : Option Value → sm_M → Prop) (x1 : Int32) (x2 : Int32) :
    sm_wp X 12 56 [some (.ref 71), some (.int x1), some (.int x2)] [] (sM mo G I J) Q =
    (sm_zb 0 ∧ Q (some (.int 0)) (sM mo G I J)) :=
  (sm_blk X 12 56 (tt_lin 12 (by decide)) rfl rfl _ _ _ _).trans rfl
set_option maxRecDepth 100000 in
theorem bk_12_57 (X : (Nat → Int32) × Nat) (mo : Bool) (G : Nat × Nat) (I : Nat → Nat → Int32) (J : Nat → Nat → Int64) (Q : Option Value → sm_M → Prop) (x1 : Int32) (x2 : Int32) (s0 : Int32) :
    sm_wp X 12 57 [some (.ref 71), some (.int x1), some (.int x2)] [.int s0] (sM mo G I J) Q =
    (sm_zb s0 ∧ Q (some (.int s0)) (sM mo G I J)) :=
  (sm_blk X 12 57 (tt_lin 12 (by decide)) rfl rfl _ _ _ _).trans rfl
set_option maxRecDepth 100000 in
theorem bk_12_58 (X : (Nat → Int32) × Nat) (mo : Bool) (G : Nat × Nat) (I : Nat → Nat → Int32) (J : Nat → Nat → Int64) (Q : Option Value → sm_M → Prop) (x1 : Int32) (x2 : Int32) :
    sm_wp X 12 58 [some (.ref 71), some (.int x1), some (.int x2)] [] (sM mo G I J) Q =
    (sm_wp X 109 0 [some (.ref 1), some (.int x1)] [] (sM mo G I J) (fun v M => sm_wp X 12 66 [some (.ref 71), some (.int x1), some (.int x2)] (v.toList ++ []) M Q)) :=
  (sm_blk X 12 58 (tt_lin 12 (by decide)) rfl rfl _ _ _ _).trans rfl
set_option maxRecDepth 100000 in
theorem bk_12_66 (X : (Nat → Int32) × Nat) (mo : Bool) (G : Nat × Nat) (I : Nat → Nat → Int32) (J : Nat → Nat → Int64) (Q : Option Value → sm_M → Prop) (x1 : Int32) (x2 : Int32) (s0 : Int32) :
    sm_wp X 12 66 [some (.ref 71), some (.int x1), some (.int x2)] [.int s0] (sM mo G I J) Q =
    (sm_wp X 109 0 [some (.ref 1), some (.int x2)] [] (sM mo G I J) (fun v M => sm_wp X 12 74 [some (.ref 71), some (.int x1), some (.int x2)] (v.toList ++ [.int s0]) M Q)) :=
  (sm_blk X 12 66 (tt_lin 12 (by decide)) rfl rfl _ _ _ _).trans rfl
set_option maxRecDepth 100000 in
theorem bk_12_74 (X : (Nat → Int32) × Nat) (mo : Bool) (G : Nat × Nat) (I : Nat → Nat → Int32) (J : Nat → Nat → Int64) (Q : Option Value → sm_M → Prop) (x1 : Int32) (x2 : Int32) (s0 : Int32) (s1 : Int32) :
    sm_wp X 12 74 [some (.ref 71), some (.int x1), some (.int x2)] [.int s1, .int s0] (sM mo G I J) Q =
    (if (s1 : Int32) ≤ (s0 : Int32) then sm_wp X 12 81 [some (.ref 71), some (.int x1), some (.int x2)] [] (sM mo G I J) Q else (sm_wp X 12 82 [some (.ref 71), some (.int x1), some (.int x2)] [.int 1] (sM mo G I J) Q)) :=
  (sm_blk X 12 74 (tt_lin 12 (by decide)) rfl rfl _ _ _ _).trans rfl
set_option maxRecDepth 100000 in
theorem bk_12_81 (X : (Nat → Int32) × Nat) (mo : Bool) (G : Nat × Nat) (I : Nat → Nat → Int32) (J : Nat → Nat → Int64) (Q : Option Value → sm_M → Prop) (x1 : Int32) (x2 : Int32) :
    sm_wp X 12 81 [some (.ref 71), some (.int x1), some (.int x2)] [] (sM mo G I J) Q =
    (sm_zb 0 ∧ Q (some (.int 0)) (sM mo G I J)) :=
  (sm_blk X 12 81 (tt_lin 12 (by decide)) rfl rfl _ _ _ _).trans rfl
set_option maxRecDepth 100000 in
theorem bk_12_82 (X : (Nat → Int32) × Nat) (mo : Bool) (G : Nat × Nat) (I : Nat → Nat → Int32) (J : Nat → Nat → Int64) (Q : Option Value → sm_M → Prop) (x1 : Int32) (x2 : Int32) (s0 : Int32) :
    sm_wp X 12 82 [some (.ref 71), some (.int x1), some (.int x2)] [.int s0] (sM mo G I J) Q =
    (sm_zb s0 ∧ Q (some (.int s0)) (sM mo G I J)) :=
  (sm_blk X 12 82 (tt_lin 12 (by decide)) rfl rfl _ _ _ _).trans rfl
set_option maxRecDepth 100000 in
theorem bk_13_0 (X : (Nat → Int32) × Nat) (mo : Bool) (G : Nat × Nat) (I : Nat → Nat → Int32) (J : Nat → Nat → Int64) (Q : Option Value → sm_M → Prop) (x1 : Int32) :
    sm_wp X 13 0 [some (.ref 71), some (.int x1), none, none, none] [] (sM mo G I J) Q =
    (sm_wp X 13 4 [some (.ref 71), some (.int x1), some (.int 0), some (.int 0), none] [] (sM mo G I J) Q) :=
  (sm_blk X 13 0 (tt_lin 13 (by decide)) rfl rfl _ _ _ _).trans rfl
set_option maxRecDepth 100000 in
theorem bk_13_4 (X : (Nat → Int32) × Nat) (mo : Bool) (G : Nat × Nat) (I : Nat → Nat → Int32) (J : Nat → Nat → Int64) (Q : Option Value → sm_M → Prop) (x1 : Int32) (x2 : Int32) (x3 : Int32) :
    sm_wp X 13 4 [some (.ref 71), some (.int x1), some (.int x2), some (.int x3), none] [] (sM mo G I J) Q =
    (if (I 71 0 : Int32) ≤ (x3 : Int32) then sm_wp X 13 32 [some (.ref 71), some (.int x1), some (.int x2), some (.int x3), none] [] (sM mo G I J) Q else (sm_wp X 14 0 [some (.ref 71), some (.int x3), none, none, none, none] [] (sM mo G I J) (fun v M => sm_wp X 13 17 [some (.ref 71), some (.int x1), some (.int x2), some (.int x3), none] (v.toList ++ []) M Q))) :=
  (sm_blk X 13 4 (tt_lin 13 (by decide)) rfl rfl _ _ _ _).trans rfl
set_option maxRecDepth 100000 in
theorem bk_13_17 (X : (Nat → Int32) × Nat) (mo : Bool) (G : Nat × Nat) (I : Nat → Nat → Int32) (J : Nat → Nat → Int64) (Q : Option Value → sm_M → Prop) (x1 : Int32) (x2 : Int32) (x3 : Int32) (s0 : Int32) :
    sm_wp X 13 17 [some (.ref 71), some (.int x1), some (.int x2), some (.int x3), none] [.int s0] (sM mo G I J) Q =
    (if (s0 : Int32) = 0 then sm_wp X 13 26 [some (.ref 71), some (.int x1), some (.int x2), some (.int x3), none] [] (sM mo G I J) Q else (sm_wp X 13 4 [some (.ref 71), some (.int x1), some (.int (x2 ||| (1 <<< (x3 &&& 31)))), some (.int (x3 + 1)), none] [] (sM mo G I J) Q)) :=
  (sm_blk X 13 17 (tt_lin 13 (by decide)) rfl rfl _ _ _ _).trans rfl
set_option maxRecDepth 100000 in
theorem bk_13_26 (X : (Nat → Int32) × Nat) (mo : Bool) (G : Nat × Nat) (I : Nat → Nat → Int32) (J : Nat → Nat → Int64) (Q : Option Value → sm_M → Prop) (x1 : Int32) (x2 : Int32) (x3 : Int32) :
    sm_wp X 13 26 [some (.ref 71), some (.int x1), some (.int x2), some (.int x3), none] [] (sM mo G I J) Q =
    (sm_wp X 13 4 [some (.ref 71), some (.int x1), some (.int x2), some (.int (x3 + 1)), none] [] (sM mo G I J) Q) :=
  (sm_blk X 13 26 (tt_lin 13 (by decide)) rfl rfl _ _ _ _).trans rfl
set_option maxRecDepth 100000 in
theorem bk_13_32 (X : (Nat → Int32) × Nat) (mo : Bool) (G : Nat × Nat) (I : Nat → Nat → Int32) (J : Nat → Nat → Int64) (Q : Option Value → sm_M → Prop) (x1 : Int32) (x2 : Int32) (x3 : Int32) :
    sm_wp X 13 32 [some (.ref 71), some (.int x1), some (.int x2), some (.int x3), none] [] (sM mo G I J) Q =
    (sm_wp X 13 34 [some (.ref 71), some (.int x1), some (.int x2), some (.int 0), none] [] (sM mo G I J) Q) :=
  (sm_blk X 13 32 (tt_lin 13 (by decide)) rfl rfl _ _ _ _).trans rfl
set_option maxRecDepth 100000 in
theorem bk_13_34 (X : (Nat → Int32) × Nat) (mo : Bool) (G : Nat × Nat) (I : Nat → Nat → Int32) (J : Nat → Nat → Int64) (Q : Option Value → sm_M → Prop) (x1 : Int32) (x2 : Int32) (x3 : Int32) :
    sm_wp X 13 34 [some (.ref 71), some (.int x1), some (.int x2), some (.int x3), none] [] (sM mo G I J) Q =
    (if (8 : Int32) ≤ (x3 : Int32) then sm_wp X 13 90 [some (.ref 71), some (.int x1), some (.int x2), some (.int x3), none] [] (sM mo G I J) Q else (sm_wp X 13 43 [some (.ref 71), some (.int x1), some (.int x2), some (.int x3), some (.int 0)] [] (sM mo G I J) Q)) :=
  (sm_blk X 13 34 (tt_lin 13 (by decide)) rfl rfl _ _ _ _).trans rfl
set_option maxRecDepth 100000 in
theorem bk_13_43 (X : (Nat → Int32) × Nat) (mo : Bool) (G : Nat × Nat) (I : Nat → Nat → Int32) (J : Nat → Nat → Int64) (Q : Option Value → sm_M → Prop) (x1 : Int32) (x2 : Int32) (x3 : Int32) (x4 : Int32) :
    sm_wp X 13 43 [some (.ref 71), some (.int x1), some (.int x2), some (.int x3), some (.int x4)] [] (sM mo G I J) Q =
    (if (I 71 0 : Int32) ≤ (x4 : Int32) then sm_wp X 13 84 [some (.ref 71), some (.int x1), some (.int x2), some (.int x3), some (.int x4)] [] (sM mo G I J) Q else (if (8 : Int32) ≤ (x4 : Int32) then sm_wp X 13 84 [some (.ref 71), some (.int x1), some (.int x2), some (.int x3), some (.int x4)] [] (sM mo G I J) Q else (vp_in x4 8 ∧ (if ((I 74 (x4.toNatClampNeg)) &&& x2 : Int32) = 0 then sm_wp X 13 78 [some (.ref 71), some (.int x1), some (.int x2), some (.int x3), some (.int x4)] [] (sM mo G I J) Q else (sm_wp X 13 43 [some (.ref 71), some (.int x1), some (.int (x2 ||| (1 <<< (x4 &&& 31)))), some (.int x3), some (.int (x4 + 1))] [] (sM mo G I J) Q))))) :=
  (sm_blk X 13 43 (tt_lin 13 (by decide)) rfl rfl _ _ _ _).trans rfl
set_option maxRecDepth 100000 in
theorem bk_13_78 (X : (Nat → Int32) × Nat) (mo : Bool) (G : Nat × Nat) (I : Nat → Nat → Int32) (J : Nat → Nat → Int64) (Q : Option Value → sm_M → Prop) (x1 : Int32) (x2 : Int32) (x3 : Int32) (x4 : Int32) :
    sm_wp X 13 78 [some (.ref 71), some (.int x1), some (.int x2), some (.int x3), some (.int x4)] [] (sM mo G I J) Q =
    (sm_wp X 13 43 [some (.ref 71), some (.int x1), some (.int x2), some (.int x3), some (.int (x4 + 1))] [] (sM mo G I J) Q) :=
  (sm_blk X 13 78 (tt_lin 13 (by decide)) rfl rfl _ _ _ _).trans rfl
set_option maxRecDepth 100000 in
theorem bk_13_84 (X : (Nat → Int32) × Nat) (mo : Bool) (G : Nat × Nat) (I : Nat → Nat → Int32) (J : Nat → Nat → Int64) (Q : Option Value → sm_M → Prop) (x1 : Int32) (x2 : Int32) (x3 : Int32) (x4 : Int32) :
    sm_wp X 13 84 [some (.ref 71), some (.int x1), some (.int x2), some (.int x3), some (.int x4)] [] (sM mo G I J) Q =
    (sm_wp X 13 34 [some (.ref 71), some (.int x1), some (.int x2), some (.int (x3 + 1)), none] [] (sM mo G I J) Q) :=
  (sm_blk X 13 84 (tt_lin 13 (by decide)) rfl rfl _ _ _ _).trans rfl
set_option maxRecDepth 100000 in
theorem bk_13_90 (X : (Nat → Int32) × Nat) (mo : Bool) (G : Nat × Nat) (I : Nat → Nat → Int32) (J : Nat → Nat → Int64) (Q : Option Value → sm_M → Prop) (x1 : Int32) (x2 : Int32) (x3 : Int32) :
    sm_wp X 13 90 [some (.ref 71), some (.int x1), some (.int x2), some (.int x3), none] [] (sM mo G I J) Q =
    (sm_wp X 169 0 [some (.int x2), some (.int x1)] [] (sM mo G I J) (fun v M => sm_wp X 13 95 [some (.ref 71), some (.int x1), some (.int x2), some (.int x3), none] (v.toList ++ []) M Q)) :=
  (sm_blk X 13 90 (tt_lin 13 (by decide)) rfl rfl _ _ _ _).trans rfl
set_option maxRecDepth 100000 in
theorem bk_13_95 (X : (Nat → Int32) × Nat) (mo : Bool) (G : Nat × Nat) (I : Nat → Nat → Int32) (J : Nat → Nat → Int64) (Q : Option Value → sm_M → Prop) (x1 : Int32) (x2 : Int32) (x3 : Int32) (s0 : Int32) :
    sm_wp X 13 95 [some (.ref 71), some (.int x1), some (.int x2), some (.int x3), none] [.int s0] (sM mo G I J) Q =
    (sm_zb s0 ∧ Q (some (.int s0)) (sM mo G I J)) :=
  (sm_blk X 13 95 (tt_lin 13 (by decide)) rfl rfl _ _ _ _).trans rfl
set_option maxRecDepth 100000 in
theorem bk_14_0 (X : (Nat → Int32) × Nat) (mo : Bool) (G : Nat × Nat) (I : Nat → Nat → Int32) (J : Nat → Nat → Int64) (Q : Option Value → sm_M → Prop) (x1 : Int32) :
    sm_wp X 14 0 [some (.ref 71), some (.int x1), none, none, none, none] [] (sM mo G I J) Q =
    (sm_wp X 10 0 [some (.ref 71), some (.int x1), none, none, none] [] (sM mo G I J) (fun v M => sm_wp X 14 5 [some (.ref 71), some (.int x1), none, none, none, none] (v.toList ++ []) M Q)) :=
  (sm_blk X 14 0 (tt_lin 14 (by decide)) rfl rfl _ _ _ _).trans rfl
set_option maxRecDepth 100000 in
theorem bk_14_5 (X : (Nat → Int32) × Nat) (mo : Bool) (G : Nat × Nat) (I : Nat → Nat → Int32) (J : Nat → Nat → Int64) (Q : Option Value → sm_M → Prop) (x1 : Int32) (s0 : Int32) :
    sm_wp X 14 5 [some (.ref 71), some (.int x1), none, none, none, none] [.int s0] (sM mo G I J) Q =
    (sm_wp X 15 0 [some (.ref 71), some (.int x1), some (.int s0), none] [] (sM mo G I J) (fun v M => sm_wp X 14 12 [some (.ref 71), some (.int x1), some (.int s0), none, none, none] (v.toList ++ []) M Q)) :=
  (sm_blk X 14 5 (tt_lin 14 (by decide)) rfl rfl _ _ _ _).trans rfl
set_option maxRecDepth 100000 in
theorem bk_14_12 (X : (Nat → Int32) × Nat) (mo : Bool) (G : Nat × Nat) (I : Nat → Nat → Int32) (J : Nat → Nat → Int64) (Q : Option Value → sm_M → Prop) (x1 : Int32) (x2 : Int32) :
    sm_wp X 14 12 [some (.ref 71), some (.int x1), some (.int x2), none, none, none] [] (sM mo G I J) Q =
    (sm_wp X 17 0 [some (.ref 71), some (.int x1), none, none] [] (sM mo G I J) (fun v M => sm_wp X 14 17 [some (.ref 71), some (.int x1), some (.int x2), none, none, none] (v.toList ++ []) M Q)) :=
  (sm_blk X 14 12 (tt_lin 14 (by decide)) rfl rfl _ _ _ _).trans rfl
set_option maxRecDepth 100000 in
theorem bk_14_17 (X : (Nat → Int32) × Nat) (mo : Bool) (G : Nat × Nat) (I : Nat → Nat → Int32) (J : Nat → Nat → Int64) (Q : Option Value → sm_M → Prop) (x1 : Int32) (x2 : Int32) (s0 : Int32) :
    sm_wp X 14 17 [some (.ref 71), some (.int x1), some (.int x2), none, none, none] [.int s0] (sM mo G I J) Q =
    (sm_wp X 7 0 [some (.ref 71), some (.int x1), some (.int x2)] [] (sM mo G I J) (fun v M => sm_wp X 14 24 [some (.ref 71), some (.int x1), some (.int x2), some (.int s0), none, none] (v.toList ++ []) M Q)) :=
  (sm_blk X 14 17 (tt_lin 14 (by decide)) rfl rfl _ _ _ _).trans rfl
set_option maxRecDepth 100000 in
theorem bk_14_24 (X : (Nat → Int32) × Nat) (mo : Bool) (G : Nat × Nat) (I : Nat → Nat → Int32) (J : Nat → Nat → Int64) (Q : Option Value → sm_M → Prop) (x1 : Int32) (x2 : Int32) (x3 : Int32) (s0 : Int32) :
    sm_wp X 14 24 [some (.ref 71), some (.int x1), some (.int x2), some (.int x3), none, none] [.int s0] (sM mo G I J) Q =
    (sm_wp X 14 29 [some (.ref 71), none, none, some (.int x3), some (.int s0), some (.int 0)] [] (sM mo G I J) Q) :=
  (sm_blk X 14 24 (tt_lin 14 (by decide)) rfl rfl _ _ _ _).trans rfl
set_option maxRecDepth 100000 in
theorem bk_14_29 (X : (Nat → Int32) × Nat) (mo : Bool) (G : Nat × Nat) (I : Nat → Nat → Int32) (J : Nat → Nat → Int64) (Q : Option Value → sm_M → Prop) (x3 : Int32) (x4 : Int32) (x5 : Int32) :
    sm_wp X 14 29 [some (.ref 71), none, none, some (.int x3), some (.int x4), some (.int x5)] [] (sM mo G I J) Q =
    (if (x4 : Int32) ≤ (x5 : Int32) then sm_wp X 14 65 [some (.ref 71), none, none, some (.int x3), some (.int x4), some (.int x5)] [] (sM mo G I J) Q else (if (8 : Int32) ≤ (x5 : Int32) then sm_wp X 14 65 [some (.ref 71), none, none, some (.int x3), some (.int x4), some (.int x5)] [] (sM mo G I J) Q else (vp_in x5 8 ∧ (sm_wp X 18 0 [some (.int (I 80 (x5.toNatClampNeg))), some (.int x3)] [] (sM mo G I J) (fun v M => sm_wp X 14 54 [some (.ref 71), none, none, some (.int x3), some (.int x4), some (.int x5)] (v.toList ++ []) M Q))))) :=
  (sm_blk X 14 29 (tt_lin 14 (by decide)) rfl rfl _ _ _ _).trans rfl
set_option maxRecDepth 100000 in
theorem bk_14_54 (X : (Nat → Int32) × Nat) (mo : Bool) (G : Nat × Nat) (I : Nat → Nat → Int32) (J : Nat → Nat → Int64) (Q : Option Value → sm_M → Prop) (x3 : Int32) (x4 : Int32) (x5 : Int32) (s0 : Int32) :
    sm_wp X 14 54 [some (.ref 71), none, none, some (.int x3), some (.int x4), some (.int x5)] [.int s0] (sM mo G I J) Q =
    (if ¬ (s0 : Int32) = 0 then sm_wp X 14 59 [some (.ref 71), none, none, some (.int x3), some (.int x4), some (.int x5)] [] (sM mo G I J) Q else (sm_zb 1 ∧ Q (some (.int 1)) (sM mo G I J))) :=
  (sm_blk X 14 54 (tt_lin 14 (by decide)) rfl rfl _ _ _ _).trans rfl
set_option maxRecDepth 100000 in
theorem bk_14_59 (X : (Nat → Int32) × Nat) (mo : Bool) (G : Nat × Nat) (I : Nat → Nat → Int32) (J : Nat → Nat → Int64) (Q : Option Value → sm_M → Prop) (x3 : Int32) (x4 : Int32) (x5 : Int32) :
    sm_wp X 14 59 [some (.ref 71), none, none, some (.int x3), some (.int x4), some (.int x5)] [] (sM mo G I J) Q =
    (sm_wp X 14 29 [some (.ref 71), none, none, some (.int x3), some (.int x4), some (.int (x5 + 1))] [] (sM mo G I J) Q) :=
  (sm_blk X 14 59 (tt_lin 14 (by decide)) rfl rfl _ _ _ _).trans rfl
set_option maxRecDepth 100000 in
theorem bk_14_65 (X : (Nat → Int32) × Nat) (mo : Bool) (G : Nat × Nat) (I : Nat → Nat → Int32) (J : Nat → Nat → Int64) (Q : Option Value → sm_M → Prop) (x3 : Int32) (x4 : Int32) (x5 : Int32) :
    sm_wp X 14 65 [some (.ref 71), none, none, some (.int x3), some (.int x4), some (.int x5)] [] (sM mo G I J) Q =
    (if ¬ (x3 : Int32) = 0 then sm_wp X 14 73 [some (.ref 71), none, none, some (.int x3), some (.int x4), some (.int x5)] [] (sM mo G I J) Q else (sm_wp X 14 74 [some (.ref 71), none, none, some (.int x3), some (.int x4), some (.int x5)] [.int 1] (sM mo G I J) Q)) :=
  (sm_blk X 14 65 (tt_lin 14 (by decide)) rfl rfl _ _ _ _).trans rfl
set_option maxRecDepth 100000 in
theorem bk_14_73 (X : (Nat → Int32) × Nat) (mo : Bool) (G : Nat × Nat) (I : Nat → Nat → Int32) (J : Nat → Nat → Int64) (Q : Option Value → sm_M → Prop) (x3 : Int32) (x4 : Int32) (x5 : Int32) :
    sm_wp X 14 73 [some (.ref 71), none, none, some (.int x3), some (.int x4), some (.int x5)] [] (sM mo G I J) Q =
    (sm_zb 0 ∧ Q (some (.int 0)) (sM mo G I J)) :=
  (sm_blk X 14 73 (tt_lin 14 (by decide)) rfl rfl _ _ _ _).trans rfl
set_option maxRecDepth 100000 in
theorem bk_14_74 (X : (Nat → Int32) × Nat) (mo : Bool) (G : Nat × Nat) (I : Nat → Nat → Int32) (J : Nat → Nat → Int64) (Q : Option Value → sm_M → Prop) (x3 : Int32) (x4 : Int32) (x5 : Int32) (s0 : Int32) :
    sm_wp X 14 74 [some (.ref 71), none, none, some (.int x3), some (.int x4), some (.int x5)] [.int s0] (sM mo G I J) Q =
    (sm_zb s0 ∧ Q (some (.int s0)) (sM mo G I J)) :=
  (sm_blk X 14 74 (tt_lin 14 (by decide)) rfl rfl _ _ _ _).trans rfl
set_option maxRecDepth 100000 in
theorem bk_15_0 (X : (Nat → Int32) × Nat) (mo : Bool) (G : Nat × Nat) (I : Nat → Nat → Int32) (J : Nat → Nat → Int64) (Q : Option Value → sm_M → Prop) (x1 : Int32) (x2 : Int32) :
    sm_wp X 15 0 [some (.ref 71), some (.int x1), some (.int x2), none] [] (sM mo G I J) Q =
    (sm_wp X 15 2 [some (.ref 71), some (.int x1), some (.int x2), some (.int 0)] [] (sM mo G I J) Q) :=
  (sm_blk X 15 0 (tt_lin 15 (by decide)) rfl rfl _ _ _ _).trans rfl
set_option maxRecDepth 100000 in
theorem bk_15_2 (X : (Nat → Int32) × Nat) (mo : Bool) (G : Nat × Nat) (I : Nat → Nat → Int32) (J : Nat → Nat → Int64) (Q : Option Value → sm_M → Prop) (x1 : Int32) (x2 : Int32) (x3 : Int32) :
    sm_wp X 15 2 [some (.ref 71), some (.int x1), some (.int x2), some (.int x3)] [] (sM mo G I J) Q =
    (if (8 : Int32) ≤ (x3 : Int32) then sm_wp X 15 21 [some (.ref 71), some (.int x1), some (.int x2), some (.int x3)] [] (sM mo G I J) Q else (vp_in x3 8 ∧ (sm_wp X 15 2 [some (.ref 71), some (.int x1), some (.int x2), some (.int (x3 + 1))] [] (sM mo G (up2 I 80 x3.toNatClampNeg 0) J) Q))) :=
  (sm_blk X 15 2 (tt_lin 15 (by decide)) rfl rfl _ _ _ _).trans rfl
set_option maxRecDepth 100000 in
theorem bk_15_21 (X : (Nat → Int32) × Nat) (mo : Bool) (G : Nat × Nat) (I : Nat → Nat → Int32) (J : Nat → Nat → Int64) (Q : Option Value → sm_M → Prop) (x1 : Int32) (x2 : Int32) (x3 : Int32) :
    sm_wp X 15 21 [some (.ref 71), some (.int x1), some (.int x2), some (.int x3)] [] (sM mo G I J) Q =
    (sm_wp X 15 23 [some (.ref 71), some (.int x1), some (.int x2), some (.int 0)] [] (sM mo G I J) Q) :=
  (sm_blk X 15 21 (tt_lin 15 (by decide)) rfl rfl _ _ _ _).trans rfl
set_option maxRecDepth 100000 in
theorem bk_15_23 (X : (Nat → Int32) × Nat) (mo : Bool) (G : Nat × Nat) (I : Nat → Nat → Int32) (J : Nat → Nat → Int64) (Q : Option Value → sm_M → Prop) (x1 : Int32) (x2 : Int32) (x3 : Int32) :
    sm_wp X 15 23 [some (.ref 71), some (.int x1), some (.int x2), some (.int x3)] [] (sM mo G I J) Q =
    (if (6 : Int32) ≤ (x3 : Int32) then sm_wp X 15 68 [some (.ref 71), some (.int x1), some (.int x2), some (.int x3)] [] (sM mo G I J) Q else (sm_wp X 11 0 [some (.ref 71), some (.int x1), some (.int x3)] [] (sM mo G I J) (fun v M => sm_wp X 15 35 [some (.ref 71), some (.int x1), some (.int x2), some (.int x3)] (v.toList ++ []) M Q))) :=
  (sm_blk X 15 23 (tt_lin 15 (by decide)) rfl rfl _ _ _ _).trans rfl
set_option maxRecDepth 100000 in
theorem bk_15_35 (X : (Nat → Int32) × Nat) (mo : Bool) (G : Nat × Nat) (I : Nat → Nat → Int32) (J : Nat → Nat → Int64) (Q : Option Value → sm_M → Prop) (x1 : Int32) (x2 : Int32) (x3 : Int32) (s0 : Int32) :
    sm_wp X 15 35 [some (.ref 71), some (.int x1), some (.int x2), some (.int x3)] [.int s0] (sM mo G I J) Q =
    (if (s0 : Int32) = 0 then sm_wp X 15 62 [some (.ref 71), some (.int x1), some (.int x2), some (.int x3)] [] (sM mo G I J) Q else (sm_wp X 8 0 [some (.ref 71), some (.int x1), some (.int x2), some (.int x3), none, none, none, none, none, none, none] [] (sM mo G I J) (fun v M => sm_wp X 15 45 [some (.ref 71), some (.int x1), some (.int x2), some (.int x3)] (v.toList ++ []) M Q))) :=
  (sm_blk X 15 35 (tt_lin 15 (by decide)) rfl rfl _ _ _ _).trans rfl
set_option maxRecDepth 100000 in
theorem bk_15_45 (X : (Nat → Int32) × Nat) (mo : Bool) (G : Nat × Nat) (I : Nat → Nat → Int32) (J : Nat → Nat → Int64) (Q : Option Value → sm_M → Prop) (x1 : Int32) (x2 : Int32) (x3 : Int32) (s0 : Int32) :
    sm_wp X 15 45 [some (.ref 71), some (.int x1), some (.int x2), some (.int x3)] [.int s0] (sM mo G I J) Q =
    (sm_wp X 7 0 [some (.ref 71), some (.int x1), some (.int x2)] [] (sM mo G I J) (fun v M => sm_wp X 15 53 [some (.ref 71), some (.int x1), some (.int x2), some (.int x3)] (v.toList ++ [.ref 71]) M Q)) :=
  (sm_blk X 15 45 (tt_lin 15 (by decide)) rfl rfl _ _ _ _).trans rfl
set_option maxRecDepth 100000 in
theorem bk_15_53 (X : (Nat → Int32) × Nat) (mo : Bool) (G : Nat × Nat) (I : Nat → Nat → Int32) (J : Nat → Nat → Int64) (Q : Option Value → sm_M → Prop) (x1 : Int32) (x2 : Int32) (x3 : Int32) (s1 : Int32) :
    sm_wp X 15 53 [some (.ref 71), some (.int x1), some (.int x2), some (.int x3)] [.int s1, .ref 71] (sM mo G I J) Q =
    (sm_wp X 7 0 [some (.ref 71), some (.int x1), some (.int x3)] [] (sM mo G I J) (fun v M => sm_wp X 15 59 [some (.ref 71), some (.int x1), some (.int x2), some (.int x3)] (v.toList ++ [.int s1, .ref 71]) M Q)) :=
  (sm_blk X 15 53 (tt_lin 15 (by decide)) rfl rfl _ _ _ _).trans rfl
set_option maxRecDepth 100000 in
theorem bk_15_59 (X : (Nat → Int32) × Nat) (mo : Bool) (G : Nat × Nat) (I : Nat → Nat → Int32) (J : Nat → Nat → Int64) (Q : Option Value → sm_M → Prop) (x1 : Int32) (x2 : Int32) (x3 : Int32) (s1 : Int32) (s2 : Int32) :
    sm_wp X 15 59 [some (.ref 71), some (.int x1), some (.int x2), some (.int x3)] [.int s2, .int s1, .ref 71] (sM mo G I J) Q =
    (sm_wp X 16 0 [some (.ref 71), some (.int s1), some (.int s2), none, none, none, none, none] [] (sM mo G I J) (fun v M => sm_wp X 15 62 [some (.ref 71), some (.int x1), some (.int x2), some (.int x3)] (v.toList ++ []) M Q)) :=
  (sm_blk X 15 59 (tt_lin 15 (by decide)) rfl rfl _ _ _ _).trans rfl
set_option maxRecDepth 100000 in
theorem bk_15_62 (X : (Nat → Int32) × Nat) (mo : Bool) (G : Nat × Nat) (I : Nat → Nat → Int32) (J : Nat → Nat → Int64) (Q : Option Value → sm_M → Prop) (x1 : Int32) (x2 : Int32) (x3 : Int32) :
    sm_wp X 15 62 [some (.ref 71), some (.int x1), some (.int x2), some (.int x3)] [] (sM mo G I J) Q =
    (sm_wp X 15 23 [some (.ref 71), some (.int x1), some (.int x2), some (.int (x3 + 1))] [] (sM mo G I J) Q) :=
  (sm_blk X 15 62 (tt_lin 15 (by decide)) rfl rfl _ _ _ _).trans rfl
set_option maxRecDepth 100000 in
theorem bk_15_68 (X : (Nat → Int32) × Nat) (mo : Bool) (G : Nat × Nat) (I : Nat → Nat → Int32) (J : Nat → Nat → Int64) (Q : Option Value → sm_M → Prop) (x1 : Int32) (x2 : Int32) (x3 : Int32) :
    sm_wp X 15 68 [some (.ref 71), some (.int x1), some (.int x2), some (.int x3)] [] (sM mo G I J) Q =
    (True ∧ Q none (sM mo G I J)) :=
  (sm_blk X 15 68 (tt_lin 15 (by decide)) rfl rfl _ _ _ _).trans rfl
set_option maxRecDepth 100000 in
theorem bk_16_0 (X : (Nat → Int32) × Nat) (mo : Bool) (G : Nat × Nat) (I : Nat → Nat → Int32) (J : Nat → Nat → Int64) (Q : Option Value → sm_M → Prop) (x1 : Int32) (x2 : Int32) :
    sm_wp X 16 0 [some (.ref 71), some (.int x1), some (.int x2), none, none, none, none, none] [] (sM mo G I J) Q =
    (sm_wp X 16 8 [some (.ref 71), some (.int x1), some (.int x2), some (.int 0), some (.int 0), some (.int 0), none, none] [] (sM mo G I J) Q) :=
  (sm_blk X 16 0 (tt_lin 16 (by decide)) rfl rfl _ _ _ _).trans rfl
set_option maxRecDepth 100000 in
theorem bk_16_8 (X : (Nat → Int32) × Nat) (mo : Bool) (G : Nat × Nat) (I : Nat → Nat → Int32) (J : Nat → Nat → Int64) (Q : Option Value → sm_M → Prop) (x1 : Int32) (x2 : Int32) (x3 : Int32) (x4 : Int32) (x5 : Int32) :
    sm_wp X 16 8 [some (.ref 71), some (.int x1), some (.int x2), some (.int x3), some (.int x4), some (.int x5), none, none] [] (sM mo G I J) Q =
    (if (16 : Int32) ≤ (x5 : Int32) then sm_wp X 16 159 [some (.ref 71), some (.int x1), some (.int x2), some (.int x3), some (.int x4), some (.int x5), none, none] [] (sM mo G I J) Q else (if (x1 : Int32) ≤ (x3 : Int32) then sm_wp X 16 39 [some (.ref 71), some (.int x1), some (.int x2), some (.int x3), some (.int x4), some (.int x5), none, none] [] (sM mo G I J) Q else (if (8 : Int32) ≤ (x3 : Int32) then sm_wp X 16 39 [some (.ref 71), some (.int x1), some (.int x2), some (.int x3), some (.int x4), some (.int x5), none, none] [] (sM mo G I J) Q else (if (x2 : Int32) ≤ (x4 : Int32) then sm_wp X 16 39 [some (.ref 71), some (.int x1), some (.int x2), some (.int x3), some (.int x4), some (.int x5), none, none] [] (sM mo G I J) Q else (if (x4 : Int32) < (8 : Int32) then sm_wp X 16 40 [some (.ref 71), some (.int x1), some (.int x2), some (.int x3), some (.int x4), some (.int x5), none, none] [] (sM mo G I J) Q else (True ∧ Q none (sM mo G I J))))))) :=
  (sm_blk X 16 8 (tt_lin 16 (by decide)) rfl rfl _ _ _ _).trans rfl
set_option maxRecDepth 100000 in
theorem bk_16_39 (X : (Nat → Int32) × Nat) (mo : Bool) (G : Nat × Nat) (I : Nat → Nat → Int32) (J : Nat → Nat → Int64) (Q : Option Value → sm_M → Prop) (x1 : Int32) (x2 : Int32) (x3 : Int32) (x4 : Int32) (x5 : Int32) :
    sm_wp X 16 39 [some (.ref 71), some (.int x1), some (.int x2), some (.int x3), some (.int x4), some (.int x5), none, none] [] (sM mo G I J) Q =
    (True ∧ Q none (sM mo G I J)) :=
  (sm_blk X 16 39 (tt_lin 16 (by decide)) rfl rfl _ _ _ _).trans rfl
set_option maxRecDepth 100000 in
theorem bk_16_40 (X : (Nat → Int32) × Nat) (mo : Bool) (G : Nat × Nat) (I : Nat → Nat → Int32) (J : Nat → Nat → Int64) (Q : Option Value → sm_M → Prop) (x1 : Int32) (x2 : Int32) (x3 : Int32) (x4 : Int32) (x5 : Int32) :
    sm_wp X 16 40 [some (.ref 71), some (.int x1), some (.int x2), some (.int x3), some (.int x4), some (.int x5), none, none] [] (sM mo G I J) Q =
    (vp_in ((x3 * 9) + x4) 81 ∧ (vp_in x3 8 ∧ (vp_in x4 8 ∧ (if ¬ (I 76 (x3.toNatClampNeg) : Int32) = (I 77 (x4.toNatClampNeg) : Int32) then sm_wp X 16 74 [some (.ref 71), some (.int x1), some (.int x2), some (.int x3), some (.int x4), some (.int x5), some (.int (I 78 (((x3 * 9) + x4).toNatClampNeg))), none] [] (sM mo G I J) Q else (sm_wp X 16 75 [some (.ref 71), some (.int x1), some (.int x2), some (.int x3), some (.int x4), some (.int x5), some (.int (I 78 (((x3 * 9) + x4).toNatClampNeg))), none] [.int 0] (sM mo G I J) Q))))) :=
  (sm_blk X 16 40 (tt_lin 16 (by decide)) rfl rfl _ _ _ _).trans rfl
set_option maxRecDepth 100000 in
theorem bk_16_74 (X : (Nat → Int32) × Nat) (mo : Bool) (G : Nat × Nat) (I : Nat → Nat → Int32) (J : Nat → Nat → Int64) (Q : Option Value → sm_M → Prop) (x1 : Int32) (x2 : Int32) (x3 : Int32) (x4 : Int32) (x5 : Int32) (x6 : Int32) :
    sm_wp X 16 74 [some (.ref 71), some (.int x1), some (.int x2), some (.int x3), some (.int x4), some (.int x5), some (.int x6), none] [] (sM mo G I J) Q =
    (vp_in ((((x3 + 1) * 9) + x4) + 1) 81 ∧ (if ¬ (x6 : Int32) = (1 + (I 78 (((((x3 + 1) * 9) + x4) + 1).toNatClampNeg)) : Int32) then sm_wp X 16 123 [some (.ref 71), some (.int x1), some (.int x2), some (.int x3), some (.int x4), some (.int x5), some (.int x6), some (.int 1)] [] (sM mo G I J) Q else (vp_in x3 8 ∧ (vp_in x3 8 ∧ (sm_wp X 16 153 [some (.ref 71), some (.int x1), some (.int x2), some (.int (x3 + 1)), some (.int (x4 + 1)), some (.int x5), some (.int x6), some (.int 1)] [] (sM mo G (up2 I 80 x3.toNatClampNeg ((I 80 (x3.toNatClampNeg)) + (1 - 1))) J) Q))))) :=
  (sm_blk X 16 74 (tt_lin 16 (by decide)) rfl rfl _ _ _ _).trans rfl
set_option maxRecDepth 100000 in
theorem bk_16_75 (X : (Nat → Int32) × Nat) (mo : Bool) (G : Nat × Nat) (I : Nat → Nat → Int32) (J : Nat → Nat → Int64) (Q : Option Value → sm_M → Prop) (x1 : Int32) (x2 : Int32) (x3 : Int32) (x4 : Int32) (x5 : Int32) (x6 : Int32) (s0 : Int32) :
    sm_wp X 16 75 [some (.ref 71), some (.int x1), some (.int x2), some (.int x3), some (.int x4), some (.int x5), some (.int x6), none] [.int s0] (sM mo G I J) Q =
    (vp_in ((((x3 + 1) * 9) + x4) + 1) 81 ∧ (if ¬ (x6 : Int32) = (s0 + (I 78 (((((x3 + 1) * 9) + x4) + 1).toNatClampNeg)) : Int32) then sm_wp X 16 123 [some (.ref 71), some (.int x1), some (.int x2), some (.int x3), some (.int x4), some (.int x5), some (.int x6), some (.int s0)] [] (sM mo G I J) Q else (vp_in x3 8 ∧ (vp_in x3 8 ∧ (sm_wp X 16 153 [some (.ref 71), some (.int x1), some (.int x2), some (.int (x3 + 1)), some (.int (x4 + 1)), some (.int x5), some (.int x6), some (.int s0)] [] (sM mo G (up2 I 80 x3.toNatClampNeg ((I 80 (x3.toNatClampNeg)) + (1 - s0))) J) Q))))) :=
  (sm_blk X 16 75 (tt_lin 16 (by decide)) rfl rfl _ _ _ _).trans rfl
set_option maxRecDepth 100000 in
theorem bk_16_123 (X : (Nat → Int32) × Nat) (mo : Bool) (G : Nat × Nat) (I : Nat → Nat → Int32) (J : Nat → Nat → Int64) (Q : Option Value → sm_M → Prop) (x1 : Int32) (x2 : Int32) (x3 : Int32) (x4 : Int32) (x5 : Int32) (x6 : Int32) (x7 : Int32) :
    sm_wp X 16 123 [some (.ref 71), some (.int x1), some (.int x2), some (.int x3), some (.int x4), some (.int x5), some (.int x6), some (.int x7)] [] (sM mo G I J) Q =
    (vp_in (((x3 + 1) * 9) + x4) 81 ∧ (if ¬ (x6 : Int32) = (1 + (I 78 ((((x3 + 1) * 9) + x4).toNatClampNeg)) : Int32) then sm_wp X 16 150 [some (.ref 71), some (.int x1), some (.int x2), some (.int x3), some (.int x4), some (.int x5), some (.int x6), some (.int x7)] [] (sM mo G I J) Q else (sm_wp X 16 153 [some (.ref 71), some (.int x1), some (.int x2), some (.int (x3 + 1)), some (.int x4), some (.int x5), some (.int x6), some (.int x7)] [] (sM mo G I J) Q))) :=
  (sm_blk X 16 123 (tt_lin 16 (by decide)) rfl rfl _ _ _ _).trans rfl
set_option maxRecDepth 100000 in
theorem bk_16_150 (X : (Nat → Int32) × Nat) (mo : Bool) (G : Nat × Nat) (I : Nat → Nat → Int32) (J : Nat → Nat → Int64) (Q : Option Value → sm_M → Prop) (x1 : Int32) (x2 : Int32) (x3 : Int32) (x4 : Int32) (x5 : Int32) (x6 : Int32) (x7 : Int32) :
    sm_wp X 16 150 [some (.ref 71), some (.int x1), some (.int x2), some (.int x3), some (.int x4), some (.int x5), some (.int x6), some (.int x7)] [] (sM mo G I J) Q =
    (sm_wp X 16 8 [some (.ref 71), some (.int x1), some (.int x2), some (.int x3), some (.int (x4 + 1)), some (.int (x5 + 1)), none, none] [] (sM mo G I J) Q) :=
  (sm_blk X 16 150 (tt_lin 16 (by decide)) rfl rfl _ _ _ _).trans rfl
set_option maxRecDepth 100000 in
theorem bk_16_153 (X : (Nat → Int32) × Nat) (mo : Bool) (G : Nat × Nat) (I : Nat → Nat → Int32) (J : Nat → Nat → Int64) (Q : Option Value → sm_M → Prop) (x1 : Int32) (x2 : Int32) (x3 : Int32) (x4 : Int32) (x5 : Int32) (x6 : Int32) (x7 : Int32) :
    sm_wp X 16 153 [some (.ref 71), some (.int x1), some (.int x2), some (.int x3), some (.int x4), some (.int x5), some (.int x6), some (.int x7)] [] (sM mo G I J) Q =
    (sm_wp X 16 8 [some (.ref 71), some (.int x1), some (.int x2), some (.int x3), some (.int x4), some (.int (x5 + 1)), none, none] [] (sM mo G I J) Q) :=
  (sm_blk X 16 153 (tt_lin 16 (by decide)) rfl rfl _ _ _ _).trans rfl
set_option maxRecDepth 100000 in
theorem bk_16_159 (X : (Nat → Int32) × Nat) (mo : Bool) (G : Nat × Nat) (I : Nat → Nat → Int32) (J : Nat → Nat → Int64) (Q : Option Value → sm_M → Prop) (x1 : Int32) (x2 : Int32) (x3 : Int32) (x4 : Int32) (x5 : Int32) :
    sm_wp X 16 159 [some (.ref 71), some (.int x1), some (.int x2), some (.int x3), some (.int x4), some (.int x5), none, none] [] (sM mo G I J) Q =
    (True ∧ Q none (sM mo G I J)) :=
  (sm_blk X 16 159 (tt_lin 16 (by decide)) rfl rfl _ _ _ _).trans rfl
set_option maxRecDepth 100000 in
theorem bk_17_0 (X : (Nat → Int32) × Nat) (mo : Bool) (G : Nat × Nat) (I : Nat → Nat → Int32) (J : Nat → Nat → Int64) (Q : Option Value → sm_M → Prop) (x1 : Int32) :
    sm_wp X 17 0 [some (.ref 71), some (.int x1), none, none] [] (sM mo G I J) Q =
    (sm_wp X 17 4 [some (.ref 71), some (.int x1), some (.int 0), some (.int 0)] [] (sM mo G I J) Q) :=
  (sm_blk X 17 0 (tt_lin 17 (by decide)) rfl rfl _ _ _ _).trans rfl
set_option maxRecDepth 100000 in
theorem bk_17_4 (X : (Nat → Int32) × Nat) (mo : Bool) (G : Nat × Nat) (I : Nat → Nat → Int32) (J : Nat → Nat → Int64) (Q : Option Value → sm_M → Prop) (x1 : Int32) (x2 : Int32) (x3 : Int32) :
    sm_wp X 17 4 [some (.ref 71), some (.int x1), some (.int x2), some (.int x3)] [] (sM mo G I J) Q =
    (if (6 : Int32) ≤ (x3 : Int32) then sm_wp X 17 28 [some (.ref 71), some (.int x1), some (.int x2), some (.int x3)] [] (sM mo G I J) Q else (sm_wp X 11 0 [some (.ref 71), some (.int x1), some (.int x3)] [] (sM mo G I J) (fun v M => sm_wp X 17 16 [some (.ref 71), some (.int x1), some (.int x2), some (.int x3)] (v.toList ++ []) M Q))) :=
  (sm_blk X 17 4 (tt_lin 17 (by decide)) rfl rfl _ _ _ _).trans rfl
set_option maxRecDepth 100000 in
theorem bk_17_16 (X : (Nat → Int32) × Nat) (mo : Bool) (G : Nat × Nat) (I : Nat → Nat → Int32) (J : Nat → Nat → Int64) (Q : Option Value → sm_M → Prop) (x1 : Int32) (x2 : Int32) (x3 : Int32) (s0 : Int32) :
    sm_wp X 17 16 [some (.ref 71), some (.int x1), some (.int x2), some (.int x3)] [.int s0] (sM mo G I J) Q =
    (if (s0 : Int32) = 0 then sm_wp X 17 22 [some (.ref 71), some (.int x1), some (.int x2), some (.int x3)] [] (sM mo G I J) Q else (sm_wp X 17 4 [some (.ref 71), some (.int x1), some (.int (x2 + 1)), some (.int (x3 + 1))] [] (sM mo G I J) Q)) :=
  (sm_blk X 17 16 (tt_lin 17 (by decide)) rfl rfl _ _ _ _).trans rfl
set_option maxRecDepth 100000 in
theorem bk_17_22 (X : (Nat → Int32) × Nat) (mo : Bool) (G : Nat × Nat) (I : Nat → Nat → Int32) (J : Nat → Nat → Int64) (Q : Option Value → sm_M → Prop) (x1 : Int32) (x2 : Int32) (x3 : Int32) :
    sm_wp X 17 22 [some (.ref 71), some (.int x1), some (.int x2), some (.int x3)] [] (sM mo G I J) Q =
    (sm_wp X 17 4 [some (.ref 71), some (.int x1), some (.int x2), some (.int (x3 + 1))] [] (sM mo G I J) Q) :=
  (sm_blk X 17 22 (tt_lin 17 (by decide)) rfl rfl _ _ _ _).trans rfl
set_option maxRecDepth 100000 in
theorem bk_17_28 (X : (Nat → Int32) × Nat) (mo : Bool) (G : Nat × Nat) (I : Nat → Nat → Int32) (J : Nat → Nat → Int64) (Q : Option Value → sm_M → Prop) (x1 : Int32) (x2 : Int32) (x3 : Int32) :
    sm_wp X 17 28 [some (.ref 71), some (.int x1), some (.int x2), some (.int x3)] [] (sM mo G I J) Q =
    (True ∧ Q (some (.int x2)) (sM mo G I J)) :=
  (sm_blk X 17 28 (tt_lin 17 (by decide)) rfl rfl _ _ _ _).trans rfl
set_option maxRecDepth 100000 in
theorem bk_18_0 (X : (Nat → Int32) × Nat) (mo : Bool) (G : Nat × Nat) (I : Nat → Nat → Int32) (J : Nat → Nat → Int64) (Q : Option Value → sm_M → Prop) (x0 : Int32) (x1 : Int32) :
    sm_wp X 18 0 [some (.int x0), some (.int x1)] [] (sM mo G I J) Q =
    (if ¬ (x0 : Int32) = (x1 : Int32) then sm_wp X 18 7 [some (.int x0), some (.int x1)] [] (sM mo G I J) Q else (True ∧ Q (some (.int 2)) (sM mo G I J))) :=
  (sm_blk X 18 0 (tt_lin 18 (by decide)) rfl rfl _ _ _ _).trans rfl
set_option maxRecDepth 100000 in
theorem bk_18_7 (X : (Nat → Int32) × Nat) (mo : Bool) (G : Nat × Nat) (I : Nat → Nat → Int32) (J : Nat → Nat → Int64) (Q : Option Value → sm_M → Prop) (x0 : Int32) (x1 : Int32) :
    sm_wp X 18 7 [some (.int x0), some (.int x1)] [] (sM mo G I J) Q =
    (if (x1 : Int32) < (2 * x0 : Int32) then sm_wp X 18 18 [some (.int x0), some (.int x1)] [] (sM mo G I J) Q else (sm_wp X 18 19 [some (.int x0), some (.int x1)] [.int 0] (sM mo G I J) Q)) :=
  (sm_blk X 18 7 (tt_lin 18 (by decide)) rfl rfl _ _ _ _).trans rfl
set_option maxRecDepth 100000 in
theorem bk_18_18 (X : (Nat → Int32) × Nat) (mo : Bool) (G : Nat × Nat) (I : Nat → Nat → Int32) (J : Nat → Nat → Int64) (Q : Option Value → sm_M → Prop) (x0 : Int32) (x1 : Int32) :
    sm_wp X 18 18 [some (.int x0), some (.int x1)] [] (sM mo G I J) Q =
    (True ∧ Q (some (.int 1)) (sM mo G I J)) :=
  (sm_blk X 18 18 (tt_lin 18 (by decide)) rfl rfl _ _ _ _).trans rfl
set_option maxRecDepth 100000 in
theorem bk_18_19 (X : (Nat → Int32) × Nat) (mo : Bool) (G : Nat × Nat) (I : Nat → Nat → Int32) (J : Nat → Nat → Int64) (Q : Option Value → sm_M → Prop) (x0 : Int32) (x1 : Int32) (s0 : Int32) :
    sm_wp X 18 19 [some (.int x0), some (.int x1)] [.int s0] (sM mo G I J) Q =
    (True ∧ Q (some (.int s0)) (sM mo G I J)) :=
  (sm_blk X 18 19 (tt_lin 18 (by decide)) rfl rfl _ _ _ _).trans rfl
set_option maxRecDepth 100000 in
theorem bk_19_0 (X : (Nat → Int32) × Nat) (mo : Bool) (G : Nat × Nat) (I : Nat → Nat → Int32) (J : Nat → Nat → Int64) (Q : Option Value → sm_M → Prop) (x1 : Int32) :
    sm_wp X 19 0 [some (.ref 71), some (.int x1), none] [] (sM mo G I J) Q =
    (sm_wp X 2 0 [some (.ref 71), some (.int x1)] [] (sM mo G I J) (fun v M => sm_wp X 19 5 [some (.ref 71), some (.int x1), none] (v.toList ++ []) M Q)) :=
  (sm_blk X 19 0 (tt_lin 19 (by decide)) rfl rfl _ _ _ _).trans rfl
set_option maxRecDepth 100000 in
theorem bk_19_5 (X : (Nat → Int32) × Nat) (mo : Bool) (G : Nat × Nat) (I : Nat → Nat → Int32) (J : Nat → Nat → Int64) (Q : Option Value → sm_M → Prop) (x1 : Int32) (s0 : Int32) :
    sm_wp X 19 5 [some (.ref 71), some (.int x1), none] [.int s0] (sM mo G I J) Q =
    (if ¬ (s0 : Int32) = 0 then sm_wp X 19 10 [some (.ref 71), some (.int x1), none] [] (sM mo G I J) Q else (True ∧ Q (some (.int 0)) (sM mo G I J))) :=
  (sm_blk X 19 5 (tt_lin 19 (by decide)) rfl rfl _ _ _ _).trans rfl
set_option maxRecDepth 100000 in
theorem bk_19_10 (X : (Nat → Int32) × Nat) (mo : Bool) (G : Nat × Nat) (I : Nat → Nat → Int32) (J : Nat → Nat → Int64) (Q : Option Value → sm_M → Prop) (x1 : Int32) :
    sm_wp X 19 10 [some (.ref 71), some (.int x1), none] [] (sM mo G I J) Q =
    (vp_in x1 8 ∧ (sm_wp X 314 0 [some (.int ((I 1 2) &&& ((I 75 (x1.toNatClampNeg)) ^^^ (-1))))] [] (sM mo G I J) (fun v M => sm_wp X 19 29 [some (.ref 71), some (.int x1), none] (v.toList ++ []) M Q))) :=
  (sm_blk X 19 10 (tt_lin 19 (by decide)) rfl rfl _ _ _ _).trans rfl
set_option maxRecDepth 100000 in
theorem bk_19_29 (X : (Nat → Int32) × Nat) (mo : Bool) (G : Nat × Nat) (I : Nat → Nat → Int32) (J : Nat → Nat → Int64) (Q : Option Value → sm_M → Prop) (x1 : Int32) (s0 : Int32) :
    sm_wp X 19 29 [some (.ref 71), some (.int x1), none] [.int s0] (sM mo G I J) Q =
    (if (s0 : Int32) < (2 : Int32) then sm_wp X 19 39 [some (.ref 71), some (.int x1), some (.int s0)] [] (sM mo G I J) Q else (sm_wp X 19 40 [some (.ref 71), some (.int x1), some (.int s0)] [.int s0] (sM mo G I J) Q)) :=
  (sm_blk X 19 29 (tt_lin 19 (by decide)) rfl rfl _ _ _ _).trans rfl
set_option maxRecDepth 100000 in
theorem bk_19_39 (X : (Nat → Int32) × Nat) (mo : Bool) (G : Nat × Nat) (I : Nat → Nat → Int32) (J : Nat → Nat → Int64) (Q : Option Value → sm_M → Prop) (x1 : Int32) (x2 : Int32) :
    sm_wp X 19 39 [some (.ref 71), some (.int x1), some (.int x2)] [] (sM mo G I J) Q =
    (True ∧ Q (some (.int 0)) (sM mo G I J)) :=
  (sm_blk X 19 39 (tt_lin 19 (by decide)) rfl rfl _ _ _ _).trans rfl
set_option maxRecDepth 100000 in
theorem bk_19_40 (X : (Nat → Int32) × Nat) (mo : Bool) (G : Nat × Nat) (I : Nat → Nat → Int32) (J : Nat → Nat → Int64) (Q : Option Value → sm_M → Prop) (x1 : Int32) (x2 : Int32) (s0 : Int32) :
    sm_wp X 19 40 [some (.ref 71), some (.int x1), some (.int x2)] [.int s0] (sM mo G I J) Q =
    (True ∧ Q (some (.int s0)) (sM mo G I J)) :=
  (sm_blk X 19 40 (tt_lin 19 (by decide)) rfl rfl _ _ _ _).trans rfl
set_option maxRecDepth 100000 in
theorem bk_20_0 (X : (Nat → Int32) × Nat) (mo : Bool) (G : Nat × Nat) (I : Nat → Nat → Int32) (J : Nat → Nat → Int64) (Q : Option Value → sm_M → Prop) (x1 : Int32) (x2 : Int32) (x3 : Int32) :
    sm_wp X 20 0 [some (.ref 71), some (.int x1), some (.int x2), some (.int x3), none] [] (sM mo G I J) Q =
    (sm_wp X 10 0 [some (.ref 71), some (.int x1), none, none, none] [] (sM mo G I J) (fun v M => sm_wp X 20 5 [some (.ref 71), some (.int x1), some (.int x2), some (.int x3), none] (v.toList ++ []) M Q)) :=
  (sm_blk X 20 0 (tt_lin 20 (by decide)) rfl rfl _ _ _ _).trans rfl
set_option maxRecDepth 100000 in
theorem bk_20_5 (X : (Nat → Int32) × Nat) (mo : Bool) (G : Nat × Nat) (I : Nat → Nat → Int32) (J : Nat → Nat → Int64) (Q : Option Value → sm_M → Prop) (x1 : Int32) (x2 : Int32) (x3 : Int32) (s0 : Int32) :
    sm_wp X 20 5 [some (.ref 71), some (.int x1), some (.int x2), some (.int x3), none] [.int s0] (sM mo G I J) Q =
    (if (x2 : Int32) < 0 then sm_wp X 20 28 [some (.ref 71), some (.int x1), some (.int x2), some (.int x3), some (.int s0)] [] (sM mo G I J) Q else (if (8 : Int32) ≤ (x2 : Int32) then sm_wp X 20 28 [some (.ref 71), some (.int x1), some (.int x2), some (.int x3), some (.int s0)] [] (sM mo G I J) Q else (sm_wp X 7 0 [some (.ref 71), some (.int x1), some (.int s0)] [] (sM mo G I J) (fun v M => sm_wp X 20 25 [some (.ref 71), some (.int x1), some (.int x2), some (.int x3), some (.int s0)] (v.toList ++ [.int x2]) M Q)))) :=
  (sm_blk X 20 5 (tt_lin 20 (by decide)) rfl rfl _ _ _ _).trans rfl
set_option maxRecDepth 100000 in
theorem bk_20_25 (X : (Nat → Int32) × Nat) (mo : Bool) (G : Nat × Nat) (I : Nat → Nat → Int32) (J : Nat → Nat → Int64) (Q : Option Value → sm_M → Prop) (x1 : Int32) (x2 : Int32) (x3 : Int32) (x4 : Int32) (s0 : Int32) (s1 : Int32) :
    sm_wp X 20 25 [some (.ref 71), some (.int x1), some (.int x2), some (.int x3), some (.int x4)] [.int s1, .int s0] (sM mo G I J) Q =
    (if (s0 : Int32) < (s1 : Int32) then sm_wp X 20 30 [some (.ref 71), some (.int x1), some (.int x2), some (.int x3), some (.int x4)] [] (sM mo G I J) Q else (True ∧ Q (some (.int (-1))) (sM mo G I J))) :=
  (sm_blk X 20 25 (tt_lin 20 (by decide)) rfl rfl _ _ _ _).trans rfl
set_option maxRecDepth 100000 in
theorem bk_20_28 (X : (Nat → Int32) × Nat) (mo : Bool) (G : Nat × Nat) (I : Nat → Nat → Int32) (J : Nat → Nat → Int64) (Q : Option Value → sm_M → Prop) (x1 : Int32) (x2 : Int32) (x3 : Int32) (x4 : Int32) :
    sm_wp X 20 28 [some (.ref 71), some (.int x1), some (.int x2), some (.int x3), some (.int x4)] [] (sM mo G I J) Q =
    (True ∧ Q (some (.int (-1))) (sM mo G I J)) :=
  (sm_blk X 20 28 (tt_lin 20 (by decide)) rfl rfl _ _ _ _).trans rfl
set_option maxRecDepth 100000 in
theorem bk_20_30 (X : (Nat → Int32) × Nat) (mo : Bool) (G : Nat × Nat) (I : Nat → Nat → Int32) (J : Nat → Nat → Int64) (Q : Option Value → sm_M → Prop) (x1 : Int32) (x2 : Int32) (x3 : Int32) (x4 : Int32) :
    sm_wp X 20 30 [some (.ref 71), some (.int x1), some (.int x2), some (.int x3), some (.int x4)] [] (sM mo G I J) Q =
    (sm_wp X 15 0 [some (.ref 71), some (.int x1), some (.int x4), none] [] (sM mo G I J) (fun v M => sm_wp X 20 37 [some (.ref 71), some (.int x1), some (.int x2), some (.int x3), some (.int x4)] (v.toList ++ []) M Q)) :=
  (sm_blk X 20 30 (tt_lin 20 (by decide)) rfl rfl _ _ _ _).trans rfl
set_option maxRecDepth 100000 in
theorem bk_20_37 (X : (Nat → Int32) × Nat) (mo : Bool) (G : Nat × Nat) (I : Nat → Nat → Int32) (J : Nat → Nat → Int64) (Q : Option Value → sm_M → Prop) (x1 : Int32) (x2 : Int32) (x3 : Int32) (x4 : Int32) :
    sm_wp X 20 37 [some (.ref 71), some (.int x1), some (.int x2), some (.int x3), some (.int x4)] [] (sM mo G I J) Q =
    (if (x3 : Int32) = 0 then sm_wp X 20 64 [some (.ref 71), some (.int x1), some (.int x2), some (.int x3), some (.int x4)] [] (sM mo G I J) Q else if (x3 : Int32) = 1 then sm_wp X 20 73 [some (.ref 71), some (.int x1), some (.int x2), some (.int x3), some (.int x4)] [] (sM mo G I J) Q else if (x3 : Int32) = 2 then sm_wp X 20 80 [some (.ref 71), some (.int x1), some (.int x2), some (.int x3), some (.int x4)] [] (sM mo G I J) Q else sm_wp X 20 95 [some (.ref 71), some (.int x1), some (.int x2), some (.int x3), some (.int x4)] [] (sM mo G I J) Q) :=
  (sm_blk X 20 37 (tt_lin 20 (by decide)) rfl rfl _ _ _ _).trans rfl
set_option maxRecDepth 100000 in
theorem bk_20_64 (X : (Nat → Int32) × Nat) (mo : Bool) (G : Nat × Nat) (I : Nat → Nat → Int32) (J : Nat → Nat → Int64) (Q : Option Value → sm_M → Prop) (x1 : Int32) (x2 : Int32) (x3 : Int32) (x4 : Int32) :
    sm_wp X 20 64 [some (.ref 71), some (.int x1), some (.int x2), some (.int x3), some (.int x4)] [] (sM mo G I J) Q =
    (sm_wp X 9 0 [some (.ref 71), some (.int x1), some (.int x4), some (.int x2)] [] (sM mo G I J) (fun v M => sm_wp X 20 72 [some (.ref 71), some (.int x1), some (.int x2), some (.int x3), some (.int x4)] (v.toList ++ []) M Q)) :=
  (sm_blk X 20 64 (tt_lin 20 (by decide)) rfl rfl _ _ _ _).trans rfl
set_option maxRecDepth 100000 in
theorem bk_20_72 (X : (Nat → Int32) × Nat) (mo : Bool) (G : Nat × Nat) (I : Nat → Nat → Int32) (J : Nat → Nat → Int64) (Q : Option Value → sm_M → Prop) (x1 : Int32) (x2 : Int32) (x3 : Int32) (x4 : Int32) (s0 : Int32) :
    sm_wp X 20 72 [some (.ref 71), some (.int x1), some (.int x2), some (.int x3), some (.int x4)] [.int s0] (sM mo G I J) Q =
    (True ∧ Q (some (.int s0)) (sM mo G I J)) :=
  (sm_blk X 20 72 (tt_lin 20 (by decide)) rfl rfl _ _ _ _).trans rfl
set_option maxRecDepth 100000 in
theorem bk_20_73 (X : (Nat → Int32) × Nat) (mo : Bool) (G : Nat × Nat) (I : Nat → Nat → Int32) (J : Nat → Nat → Int64) (Q : Option Value → sm_M → Prop) (x1 : Int32) (x2 : Int32) (x3 : Int32) (x4 : Int32) :
    sm_wp X 20 73 [some (.ref 71), some (.int x1), some (.int x2), some (.int x3), some (.int x4)] [] (sM mo G I J) Q =
    (vp_in x2 8 ∧ (True ∧ Q (some (.int (I 80 (x2.toNatClampNeg)))) (sM mo G I J))) :=
  (sm_blk X 20 73 (tt_lin 20 (by decide)) rfl rfl _ _ _ _).trans rfl
set_option maxRecDepth 100000 in
theorem bk_20_80 (X : (Nat → Int32) × Nat) (mo : Bool) (G : Nat × Nat) (I : Nat → Nat → Int32) (J : Nat → Nat → Int64) (Q : Option Value → sm_M → Prop) (x1 : Int32) (x2 : Int32) (x3 : Int32) (x4 : Int32) :
    sm_wp X 20 80 [some (.ref 71), some (.int x1), some (.int x2), some (.int x3), some (.int x4)] [] (sM mo G I J) Q =
    (vp_in x2 8 ∧ (sm_wp X 17 0 [some (.ref 71), some (.int x1), none, none] [] (sM mo G I J) (fun v M => sm_wp X 20 91 [some (.ref 71), some (.int x1), some (.int x2), some (.int x3), some (.int x4)] (v.toList ++ [.int (I 80 (x2.toNatClampNeg))]) M Q))) :=
  (sm_blk X 20 80 (tt_lin 20 (by decide)) rfl rfl _ _ _ _).trans rfl
set_option maxRecDepth 100000 in
theorem bk_20_91 (X : (Nat → Int32) × Nat) (mo : Bool) (G : Nat × Nat) (I : Nat → Nat → Int32) (J : Nat → Nat → Int64) (Q : Option Value → sm_M → Prop) (x1 : Int32) (x2 : Int32) (x3 : Int32) (x4 : Int32) (s0 : Int32) (s1 : Int32) :
    sm_wp X 20 91 [some (.ref 71), some (.int x1), some (.int x2), some (.int x3), some (.int x4)] [.int s1, .int s0] (sM mo G I J) Q =
    (sm_wp X 18 0 [some (.int s0), some (.int s1)] [] (sM mo G I J) (fun v M => sm_wp X 20 94 [some (.ref 71), some (.int x1), some (.int x2), some (.int x3), some (.int x4)] (v.toList ++ []) M Q)) :=
  (sm_blk X 20 91 (tt_lin 20 (by decide)) rfl rfl _ _ _ _).trans rfl
set_option maxRecDepth 100000 in
theorem bk_20_94 (X : (Nat → Int32) × Nat) (mo : Bool) (G : Nat × Nat) (I : Nat → Nat → Int32) (J : Nat → Nat → Int64) (Q : Option Value → sm_M → Prop) (x1 : Int32) (x2 : Int32) (x3 : Int32) (x4 : Int32) (s0 : Int32) :
    sm_wp X 20 94 [some (.ref 71), some (.int x1), some (.int x2), some (.int x3), some (.int x4)] [.int s0] (sM mo G I J) Q =
    (True ∧ Q (some (.int s0)) (sM mo G I J)) :=
  (sm_blk X 20 94 (tt_lin 20 (by decide)) rfl rfl _ _ _ _).trans rfl
set_option maxRecDepth 100000 in
theorem bk_20_95 (X : (Nat → Int32) × Nat) (mo : Bool) (G : Nat × Nat) (I : Nat → Nat → Int32) (J : Nat → Nat → Int64) (Q : Option Value → sm_M → Prop) (x1 : Int32) (x2 : Int32) (x3 : Int32) (x4 : Int32) :
    sm_wp X 20 95 [some (.ref 71), some (.int x1), some (.int x2), some (.int x3), some (.int x4)] [] (sM mo G I J) Q =
    (True ∧ Q (some (.int (-1))) (sM mo G I J)) :=
  (sm_blk X 20 95 (tt_lin 20 (by decide)) rfl rfl _ _ _ _).trans rfl
