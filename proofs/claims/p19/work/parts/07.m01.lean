section
set_option maxRecDepth 100000 in
theorem bk_1_0 (X : (Nat → Int32) × Nat) (mo : Bool) (G : Nat × Nat) (I : Nat → Nat → Int32) (J : Nat → Nat → Int64) (Q : Option Value → sm_M → Prop)  :
    sm_wp X 1 0 [some (.ref 71)] [] (sM mo G I J) Q =
    (if (I 71 0 : Int32) < (8 : Int32) then sm_wp X 1 11 [some (.ref 71)] [] (sM mo G I J) Q else (True ∧ Q (some (.int (-1))) (sM mo G I J))) :=
  (sm_blk X 1 0 (tt_lin 1 (by decide)) rfl rfl _ _ _ _).trans rfl
set_option maxRecDepth 100000 in
theorem bk_1_11 (X : (Nat → Int32) × Nat) (mo : Bool) (G : Nat × Nat) (I : Nat → Nat → Int32) (J : Nat → Nat → Int64) (Q : Option Value → sm_M → Prop)  :
    sm_wp X 1 11 [some (.ref 71)] [] (sM mo G I J) Q =
    (True ∧ Q (some (.int (((up2 I 71 0 ((I 71 0) + 1)) 71 0) - 1))) (sM mo G (up2 I 71 0 ((I 71 0) + 1)) J)) :=
  (sm_blk X 1 11 (tt_lin 1 (by decide)) rfl rfl _ _ _ _).trans rfl
set_option maxRecDepth 100000 in
theorem bk_2_0 (X : (Nat → Int32) × Nat) (mo : Bool) (G : Nat × Nat) (I : Nat → Nat → Int32) (J : Nat → Nat → Int64) (Q : Option Value → sm_M → Prop) (x1 : Int32) :
    sm_wp X 2 0 [some (.ref 71), some (.int x1)] [] (sM mo G I J) Q =
    (if (x1 : Int32) < 0 then sm_wp X 2 22 [some (.ref 71), some (.int x1)] [] (sM mo G I J) Q else (if (I 71 0 : Int32) ≤ (x1 : Int32) then sm_wp X 2 22 [some (.ref 71), some (.int x1)] [] (sM mo G I J) Q else (if (8 : Int32) ≤ (x1 : Int32) then sm_wp X 2 22 [some (.ref 71), some (.int x1)] [] (sM mo G I J) Q else (sm_wp X 2 23 [some (.ref 71), some (.int x1)] [.int 1] (sM mo G I J) Q)))) :=
  (sm_blk X 2 0 (tt_lin 2 (by decide)) rfl rfl _ _ _ _).trans rfl
set_option maxRecDepth 100000 in
theorem bk_2_22 (X : (Nat → Int32) × Nat) (mo : Bool) (G : Nat × Nat) (I : Nat → Nat → Int32) (J : Nat → Nat → Int64) (Q : Option Value → sm_M → Prop) (x1 : Int32) :
    sm_wp X 2 22 [some (.ref 71), some (.int x1)] [] (sM mo G I J) Q =
    (sm_zb 0 ∧ Q (some (.int 0)) (sM mo G I J)) :=
  (sm_blk X 2 22 (tt_lin 2 (by decide)) rfl rfl _ _ _ _).trans rfl
set_option maxRecDepth 100000 in
theorem bk_2_23 (X : (Nat → Int32) × Nat) (mo : Bool) (G : Nat × Nat) (I : Nat → Nat → Int32) (J : Nat → Nat → Int64) (Q : Option Value → sm_M → Prop) (x1 : Int32) (s0 : Int32) :
    sm_wp X 2 23 [some (.ref 71), some (.int x1)] [.int s0] (sM mo G I J) Q =
    (sm_zb s0 ∧ Q (some (.int s0)) (sM mo G I J)) :=
  (sm_blk X 2 23 (tt_lin 2 (by decide)) rfl rfl _ _ _ _).trans rfl
set_option maxRecDepth 100000 in
theorem bk_3_0 (X : (Nat → Int32) × Nat) (mo : Bool) (G : Nat × Nat) (I : Nat → Nat → Int32) (J : Nat → Nat → Int64) (Q : Option Value → sm_M → Prop) (x1 : Int32) (x2 : Int32) :
    sm_wp X 3 0 [some (.ref 71), some (.int x1), some (.int x2)] [] (sM mo G I J) Q =
    (sm_wp X 2 0 [some (.ref 71), some (.int x1)] [] (sM mo G I J) (fun v M => sm_wp X 3 5 [some (.ref 71), some (.int x1), some (.int x2)] (v.toList ++ []) M Q)) :=
  (sm_blk X 3 0 (tt_lin 3 (by decide)) rfl rfl _ _ _ _).trans rfl
set_option maxRecDepth 100000 in
theorem bk_3_5 (X : (Nat → Int32) × Nat) (mo : Bool) (G : Nat × Nat) (I : Nat → Nat → Int32) (J : Nat → Nat → Int64) (Q : Option Value → sm_M → Prop) (x1 : Int32) (x2 : Int32) (s0 : Int32) :
    sm_wp X 3 5 [some (.ref 71), some (.int x1), some (.int x2)] [.int s0] (sM mo G I J) Q =
    (if (s0 : Int32) = 0 then sm_wp X 3 31 [some (.ref 71), some (.int x1), some (.int x2)] [] (sM mo G I J) Q else (sm_wp X 88 0 [some (.ref 1), some (.int x2)] [] (sM mo G I J) (fun v M => sm_wp X 3 16 [some (.ref 71), some (.int x1), some (.int x2)] (v.toList ++ []) M Q))) :=
  (sm_blk X 3 5 (tt_lin 3 (by decide)) rfl rfl _ _ _ _).trans rfl
set_option maxRecDepth 100000 in
theorem bk_3_16 (X : (Nat → Int32) × Nat) (mo : Bool) (G : Nat × Nat) (I : Nat → Nat → Int32) (J : Nat → Nat → Int64) (Q : Option Value → sm_M → Prop) (x1 : Int32) (x2 : Int32) (s0 : Int32) :
    sm_wp X 3 16 [some (.ref 71), some (.int x1), some (.int x2)] [.int s0] (sM mo G I J) Q =
    (if (s0 : Int32) = 0 then sm_wp X 3 31 [some (.ref 71), some (.int x1), some (.int x2)] [] (sM mo G I J) Q else (vp_in ((x1 * 6) + x2) 48 ∧ (True ∧ Q (some (.int 0)) (sM mo G (up2 I 72 ((x1 * 6) + x2).toNatClampNeg 0) J)))) :=
  (sm_blk X 3 16 (tt_lin 3 (by decide)) rfl rfl _ _ _ _).trans rfl
set_option maxRecDepth 100000 in
theorem bk_3_31 (X : (Nat → Int32) × Nat) (mo : Bool) (G : Nat × Nat) (I : Nat → Nat → Int32) (J : Nat → Nat → Int64) (Q : Option Value → sm_M → Prop) (x1 : Int32) (x2 : Int32) :
    sm_wp X 3 31 [some (.ref 71), some (.int x1), some (.int x2)] [] (sM mo G I J) Q =
    (True ∧ Q (some (.int 0)) (sM mo G I J)) :=
  (sm_blk X 3 31 (tt_lin 3 (by decide)) rfl rfl _ _ _ _).trans rfl
set_option maxRecDepth 100000 in
theorem bk_4_0 (X : (Nat → Int32) × Nat) (mo : Bool) (G : Nat × Nat) (I : Nat → Nat → Int32) (J : Nat → Nat → Int64) (Q : Option Value → sm_M → Prop) (x1 : Int32) (x2 : Int32) (x3 : Int32) :
    sm_wp X 4 0 [some (.ref 71), some (.int x1), some (.int x2), some (.int x3), none, none] [] (sM mo G I J) Q =
    (sm_wp X 2 0 [some (.ref 71), some (.int x1)] [] (sM mo G I J) (fun v M => sm_wp X 4 5 [some (.ref 71), some (.int x1), some (.int x2), some (.int x3), none, none] (v.toList ++ []) M Q)) :=
  (sm_blk X 4 0 (tt_lin 4 (by decide)) rfl rfl _ _ _ _).trans rfl
set_option maxRecDepth 100000 in
theorem bk_4_5 (X : (Nat → Int32) × Nat) (mo : Bool) (G : Nat × Nat) (I : Nat → Nat → Int32) (J : Nat → Nat → Int64) (Q : Option Value → sm_M → Prop) (x1 : Int32) (x2 : Int32) (x3 : Int32) (s0 : Int32) :
    sm_wp X 4 5 [some (.ref 71), some (.int x1), some (.int x2), some (.int x3), none, none] [.int s0] (sM mo G I J) Q =
    (if (s0 : Int32) = 0 then sm_wp X 4 19 [some (.ref 71), some (.int x1), some (.int x2), some (.int x3), none, none] [] (sM mo G I J) Q else (sm_wp X 88 0 [some (.ref 1), some (.int x2)] [] (sM mo G I J) (fun v M => sm_wp X 4 16 [some (.ref 71), some (.int x1), some (.int x2), some (.int x3), none, none] (v.toList ++ []) M Q))) :=
  (sm_blk X 4 5 (tt_lin 4 (by decide)) rfl rfl _ _ _ _).trans rfl
set_option maxRecDepth 100000 in
theorem bk_4_16 (X : (Nat → Int32) × Nat) (mo : Bool) (G : Nat × Nat) (I : Nat → Nat → Int32) (J : Nat → Nat → Int64) (Q : Option Value → sm_M → Prop) (x1 : Int32) (x2 : Int32) (x3 : Int32) (s0 : Int32) :
    sm_wp X 4 16 [some (.ref 71), some (.int x1), some (.int x2), some (.int x3), none, none] [.int s0] (sM mo G I J) Q =
    (if ¬ (s0 : Int32) = 0 then sm_wp X 4 21 [some (.ref 71), some (.int x1), some (.int x2), some (.int x3), none, none] [] (sM mo G I J) Q else (True ∧ Q (some (.int (-1))) (sM mo G I J))) :=
  (sm_blk X 4 16 (tt_lin 4 (by decide)) rfl rfl _ _ _ _).trans rfl
set_option maxRecDepth 100000 in
theorem bk_4_19 (X : (Nat → Int32) × Nat) (mo : Bool) (G : Nat × Nat) (I : Nat → Nat → Int32) (J : Nat → Nat → Int64) (Q : Option Value → sm_M → Prop) (x1 : Int32) (x2 : Int32) (x3 : Int32) :
    sm_wp X 4 19 [some (.ref 71), some (.int x1), some (.int x2), some (.int x3), none, none] [] (sM mo G I J) Q =
    (True ∧ Q (some (.int (-1))) (sM mo G I J)) :=
  (sm_blk X 4 19 (tt_lin 4 (by decide)) rfl rfl _ _ _ _).trans rfl
set_option maxRecDepth 100000 in
theorem bk_4_21 (X : (Nat → Int32) × Nat) (mo : Bool) (G : Nat × Nat) (I : Nat → Nat → Int32) (J : Nat → Nat → Int64) (Q : Option Value → sm_M → Prop) (x1 : Int32) (x2 : Int32) (x3 : Int32) :
    sm_wp X 4 21 [some (.ref 71), some (.int x1), some (.int x2), some (.int x3), none, none] [] (sM mo G I J) Q =
    (vp_in ((x1 * 6) + x2) 48 ∧ (if (I 72 (((x1 * 6) + x2).toNatClampNeg) : Int32) < 0 then sm_wp X 4 50 [some (.ref 71), some (.int x1), some (.int x2), some (.int x3), some (.int ((x1 * 6) + x2)), some (.int (I 72 (((x1 * 6) + x2).toNatClampNeg)))] [] (sM mo G I J) Q else (if (I 72 (((x1 * 6) + x2).toNatClampNeg) : Int32) < (8 : Int32) then sm_wp X 4 52 [some (.ref 71), some (.int x1), some (.int x2), some (.int x3), some (.int ((x1 * 6) + x2)), some (.int (I 72 (((x1 * 6) + x2).toNatClampNeg)))] [] (sM mo G I J) Q else (True ∧ Q (some (.int (-1))) (sM mo G I J))))) :=
  (sm_blk X 4 21 (tt_lin 4 (by decide)) rfl rfl _ _ _ _).trans rfl
set_option maxRecDepth 100000 in
theorem bk_4_50 (X : (Nat → Int32) × Nat) (mo : Bool) (G : Nat × Nat) (I : Nat → Nat → Int32) (J : Nat → Nat → Int64) (Q : Option Value → sm_M → Prop) (x1 : Int32) (x2 : Int32) (x3 : Int32) (x4 : Int32) (x5 : Int32) :
    sm_wp X 4 50 [some (.ref 71), some (.int x1), some (.int x2), some (.int x3), some (.int x4), some (.int x5)] [] (sM mo G I J) Q =
    (True ∧ Q (some (.int (-1))) (sM mo G I J)) :=
  (sm_blk X 4 50 (tt_lin 4 (by decide)) rfl rfl _ _ _ _).trans rfl
set_option maxRecDepth 100000 in
theorem bk_4_52 (X : (Nat → Int32) × Nat) (mo : Bool) (G : Nat × Nat) (I : Nat → Nat → Int32) (J : Nat → Nat → Int64) (Q : Option Value → sm_M → Prop) (x1 : Int32) (x2 : Int32) (x3 : Int32) (x4 : Int32) (x5 : Int32) :
    sm_wp X 4 52 [some (.ref 71), some (.int x1), some (.int x2), some (.int x3), some (.int x4), some (.int x5)] [] (sM mo G I J) Q =
    (vp_in ((x4 * 8) + x5) 384 ∧ (vp_in x4 48 ∧ (True ∧ Q (some (.int (x5 + 1))) (sM mo G (up2 (up2 I 73 ((x4 * 8) + x5).toNatClampNeg x3) 72 x4.toNatClampNeg (x5 + 1)) J)))) :=
  (sm_blk X 4 52 (tt_lin 4 (by decide)) rfl rfl _ _ _ _).trans rfl
set_option maxRecDepth 100000 in
theorem bk_5_0 (X : (Nat → Int32) × Nat) (mo : Bool) (G : Nat × Nat) (I : Nat → Nat → Int32) (J : Nat → Nat → Int64) (Q : Option Value → sm_M → Prop) (x1 : Int32) (x2 : Int32) (x3 : Int32) :
    sm_wp X 5 0 [some (.ref 71), some (.int x1), some (.int x2), some (.int x3)] [] (sM mo G I J) Q =
    (sm_wp X 2 0 [some (.ref 71), some (.int x1)] [] (sM mo G I J) (fun v M => sm_wp X 5 5 [some (.ref 71), some (.int x1), some (.int x2), some (.int x3)] (v.toList ++ []) M Q)) :=
  (sm_blk X 5 0 (tt_lin 5 (by decide)) rfl rfl _ _ _ _).trans rfl
set_option maxRecDepth 100000 in
theorem bk_5_5 (X : (Nat → Int32) × Nat) (mo : Bool) (G : Nat × Nat) (I : Nat → Nat → Int32) (J : Nat → Nat → Int64) (Q : Option Value → sm_M → Prop) (x1 : Int32) (x2 : Int32) (x3 : Int32) (s0 : Int32) :
    sm_wp X 5 5 [some (.ref 71), some (.int x1), some (.int x2), some (.int x3)] [.int s0] (sM mo G I J) Q =
    (if (s0 : Int32) = 0 then sm_wp X 5 22 [some (.ref 71), some (.int x1), some (.int x2), some (.int x3)] [] (sM mo G I J) Q else (vp_in x1 8 ∧ (sm_wp X 169 0 [some (.int (I 74 (x1.toNatClampNeg))), some (.int x2)] [] (sM mo G I J) (fun v M => sm_wp X 5 18 [some (.ref 71), some (.int x1), some (.int x2), some (.int x3)] (v.toList ++ []) M Q)))) :=
  (sm_blk X 5 5 (tt_lin 5 (by decide)) rfl rfl _ _ _ _).trans rfl
set_option maxRecDepth 100000 in
theorem bk_5_18 (X : (Nat → Int32) × Nat) (mo : Bool) (G : Nat × Nat) (I : Nat → Nat → Int32) (J : Nat → Nat → Int64) (Q : Option Value → sm_M → Prop) (x1 : Int32) (x2 : Int32) (x3 : Int32) (s0 : Int32) :
    sm_wp X 5 18 [some (.ref 71), some (.int x1), some (.int x2), some (.int x3)] [.int s0] (sM mo G I J) Q =
    (if ¬ (s0 : Int32) = (x3 : Int32) then sm_wp X 5 24 [some (.ref 71), some (.int x1), some (.int x2), some (.int x3)] [] (sM mo G I J) Q else (sm_zb 0 ∧ Q (some (.int 0)) (sM mo G I J))) :=
  (sm_blk X 5 18 (tt_lin 5 (by decide)) rfl rfl _ _ _ _).trans rfl
set_option maxRecDepth 100000 in
theorem bk_5_22 (X : (Nat → Int32) × Nat) (mo : Bool) (G : Nat × Nat) (I : Nat → Nat → Int32) (J : Nat → Nat → Int64) (Q : Option Value → sm_M → Prop) (x1 : Int32) (x2 : Int32) (x3 : Int32) :
    sm_wp X 5 22 [some (.ref 71), some (.int x1), some (.int x2), some (.int x3)] [] (sM mo G I J) Q =
    (sm_zb 0 ∧ Q (some (.int 0)) (sM mo G I J)) :=
  (sm_blk X 5 22 (tt_lin 5 (by decide)) rfl rfl _ _ _ _).trans rfl
set_option maxRecDepth 100000 in
theorem bk_5_24 (X : (Nat → Int32) × Nat) (mo : Bool) (G : Nat × Nat) (I : Nat → Nat → Int32) (J : Nat → Nat → Int64) (Q : Option Value → sm_M → Prop) (x1 : Int32) (x2 : Int32) (x3 : Int32) :
    sm_wp X 5 24 [some (.ref 71), some (.int x1), some (.int x2), some (.int x3)] [] (sM mo G I J) Q =
    (vp_in x1 8 ∧ (vp_in x1 8 ∧ (sm_zb 1 ∧ Q (some (.int 1)) (sM mo G (up2 I 74 x1.toNatClampNeg ((I 74 (x1.toNatClampNeg)) ^^^ (1 <<< (x2 &&& 31)))) J)))) :=
  (sm_blk X 5 24 (tt_lin 5 (by decide)) rfl rfl _ _ _ _).trans rfl
set_option maxRecDepth 100000 in
theorem bk_6_0 (X : (Nat → Int32) × Nat) (mo : Bool) (G : Nat × Nat) (I : Nat → Nat → Int32) (J : Nat → Nat → Int64) (Q : Option Value → sm_M → Prop) (x1 : Int32) (x2 : Int32) (x3 : Int32) :
    sm_wp X 6 0 [some (.ref 71), some (.int x1), some (.int x2), some (.int x3)] [] (sM mo G I J) Q =
    (sm_wp X 2 0 [some (.ref 71), some (.int x1)] [] (sM mo G I J) (fun v M => sm_wp X 6 5 [some (.ref 71), some (.int x1), some (.int x2), some (.int x3)] (v.toList ++ []) M Q)) :=
  (sm_blk X 6 0 (tt_lin 6 (by decide)) rfl rfl _ _ _ _).trans rfl
set_option maxRecDepth 100000 in
theorem bk_6_5 (X : (Nat → Int32) × Nat) (mo : Bool) (G : Nat × Nat) (I : Nat → Nat → Int32) (J : Nat → Nat → Int64) (Q : Option Value → sm_M → Prop) (x1 : Int32) (x2 : Int32) (x3 : Int32) (s0 : Int32) :
    sm_wp X 6 5 [some (.ref 71), some (.int x1), some (.int x2), some (.int x3)] [.int s0] (sM mo G I J) Q =
    (if (s0 : Int32) = 0 then sm_wp X 6 22 [some (.ref 71), some (.int x1), some (.int x2), some (.int x3)] [] (sM mo G I J) Q else (vp_in x1 8 ∧ (sm_wp X 169 0 [some (.int (I 75 (x1.toNatClampNeg))), some (.int x2)] [] (sM mo G I J) (fun v M => sm_wp X 6 18 [some (.ref 71), some (.int x1), some (.int x2), some (.int x3)] (v.toList ++ []) M Q)))) :=
  (sm_blk X 6 5 (tt_lin 6 (by decide)) rfl rfl _ _ _ _).trans rfl
set_option maxRecDepth 100000 in
theorem bk_6_18 (X : (Nat → Int32) × Nat) (mo : Bool) (G : Nat × Nat) (I : Nat → Nat → Int32) (J : Nat → Nat → Int64) (Q : Option Value → sm_M → Prop) (x1 : Int32) (x2 : Int32) (x3 : Int32) (s0 : Int32) :
    sm_wp X 6 18 [some (.ref 71), some (.int x1), some (.int x2), some (.int x3)] [.int s0] (sM mo G I J) Q =
    (if ¬ (s0 : Int32) = (x3 : Int32) then sm_wp X 6 24 [some (.ref 71), some (.int x1), some (.int x2), some (.int x3)] [] (sM mo G I J) Q else (sm_zb 0 ∧ Q (some (.int 0)) (sM mo G I J))) :=
  (sm_blk X 6 18 (tt_lin 6 (by decide)) rfl rfl _ _ _ _).trans rfl
set_option maxRecDepth 100000 in
theorem bk_6_22 (X : (Nat → Int32) × Nat) (mo : Bool) (G : Nat × Nat) (I : Nat → Nat → Int32) (J : Nat → Nat → Int64) (Q : Option Value → sm_M → Prop) (x1 : Int32) (x2 : Int32) (x3 : Int32) :
    sm_wp X 6 22 [some (.ref 71), some (.int x1), some (.int x2), some (.int x3)] [] (sM mo G I J) Q =
    (sm_zb 0 ∧ Q (some (.int 0)) (sM mo G I J)) :=
  (sm_blk X 6 22 (tt_lin 6 (by decide)) rfl rfl _ _ _ _).trans rfl
set_option maxRecDepth 100000 in
theorem bk_6_24 (X : (Nat → Int32) × Nat) (mo : Bool) (G : Nat × Nat) (I : Nat → Nat → Int32) (J : Nat → Nat → Int64) (Q : Option Value → sm_M → Prop) (x1 : Int32) (x2 : Int32) (x3 : Int32) :
    sm_wp X 6 24 [some (.ref 71), some (.int x1), some (.int x2), some (.int x3)] [] (sM mo G I J) Q =
    (vp_in x1 8 ∧ (vp_in x1 8 ∧ (sm_zb 1 ∧ Q (some (.int 1)) (sM mo G (up2 I 75 x1.toNatClampNeg ((I 75 (x1.toNatClampNeg)) ^^^ (1 <<< (x2 &&& 31)))) J)))) :=
  (sm_blk X 6 24 (tt_lin 6 (by decide)) rfl rfl _ _ _ _).trans rfl
set_option maxRecDepth 100000 in
theorem bk_7_0 (X : (Nat → Int32) × Nat) (mo : Bool) (G : Nat × Nat) (I : Nat → Nat → Int32) (J : Nat → Nat → Int64) (Q : Option Value → sm_M → Prop) (x1 : Int32) (x2 : Int32) :
    sm_wp X 7 0 [some (.ref 71), some (.int x1), some (.int x2)] [] (sM mo G I J) Q =
    (sm_wp X 2 0 [some (.ref 71), some (.int x1)] [] (sM mo G I J) (fun v M => sm_wp X 7 5 [some (.ref 71), some (.int x1), some (.int x2)] (v.toList ++ []) M Q)) :=
  (sm_blk X 7 0 (tt_lin 7 (by decide)) rfl rfl _ _ _ _).trans rfl
set_option maxRecDepth 100000 in
theorem bk_7_5 (X : (Nat → Int32) × Nat) (mo : Bool) (G : Nat × Nat) (I : Nat → Nat → Int32) (J : Nat → Nat → Int64) (Q : Option Value → sm_M → Prop) (x1 : Int32) (x2 : Int32) (s0 : Int32) :
    sm_wp X 7 5 [some (.ref 71), some (.int x1), some (.int x2)] [.int s0] (sM mo G I J) Q =
    (if (s0 : Int32) = 0 then sm_wp X 7 19 [some (.ref 71), some (.int x1), some (.int x2)] [] (sM mo G I J) Q else (sm_wp X 88 0 [some (.ref 1), some (.int x2)] [] (sM mo G I J) (fun v M => sm_wp X 7 16 [some (.ref 71), some (.int x1), some (.int x2)] (v.toList ++ []) M Q))) :=
  (sm_blk X 7 5 (tt_lin 7 (by decide)) rfl rfl _ _ _ _).trans rfl
set_option maxRecDepth 100000 in
theorem bk_7_16 (X : (Nat → Int32) × Nat) (mo : Bool) (G : Nat × Nat) (I : Nat → Nat → Int32) (J : Nat → Nat → Int64) (Q : Option Value → sm_M → Prop) (x1 : Int32) (x2 : Int32) (s0 : Int32) :
    sm_wp X 7 16 [some (.ref 71), some (.int x1), some (.int x2)] [.int s0] (sM mo G I J) Q =
    (if ¬ (s0 : Int32) = 0 then sm_wp X 7 21 [some (.ref 71), some (.int x1), some (.int x2)] [] (sM mo G I J) Q else (True ∧ Q (some (.int 0)) (sM mo G I J))) :=
  (sm_blk X 7 16 (tt_lin 7 (by decide)) rfl rfl _ _ _ _).trans rfl
set_option maxRecDepth 100000 in
theorem bk_7_19 (X : (Nat → Int32) × Nat) (mo : Bool) (G : Nat × Nat) (I : Nat → Nat → Int32) (J : Nat → Nat → Int64) (Q : Option Value → sm_M → Prop) (x1 : Int32) (x2 : Int32) :
    sm_wp X 7 19 [some (.ref 71), some (.int x1), some (.int x2)] [] (sM mo G I J) Q =
    (True ∧ Q (some (.int 0)) (sM mo G I J)) :=
  (sm_blk X 7 19 (tt_lin 7 (by decide)) rfl rfl _ _ _ _).trans rfl
set_option maxRecDepth 100000 in
theorem bk_7_21 (X : (Nat → Int32) × Nat) (mo : Bool) (G : Nat × Nat) (I : Nat → Nat → Int32) (J : Nat → Nat → Int64) (Q : Option Value → sm_M → Prop) (x1 : Int32) (x2 : Int32) :
    sm_wp X 7 21 [some (.ref 71), some (.int x1), some (.int x2)] [] (sM mo G I J) Q =
    (vp_in ((x1 * 6) + x2) 48 ∧ (True ∧ Q (some (.int (I 72 (((x1 * 6) + x2).toNatClampNeg)))) (sM mo G I J))) :=
  (sm_blk X 7 21 (tt_lin 7 (by decide)) rfl rfl _ _ _ _).trans rfl
set_option maxRecDepth 100000 in
theorem bk_8_0 (X : (Nat → Int32) × Nat) (mo : Bool) (G : Nat × Nat) (I : Nat → Nat → Int32) (J : Nat → Nat → Int64) (Q : Option Value → sm_M → Prop) (x1 : Int32) (x2 : Int32) (x3 : Int32) :
    sm_wp X 8 0 [some (.ref 71), some (.int x1), some (.int x2), some (.int x3), none, none, none, none, none, none, none] [] (sM mo G I J) Q =
    (sm_wp X 8 3 [some (.ref 71), some (.int x1), some (.int x2), some (.int x3), some (.int 0), none, none, none, none, none, none] [] (sM mo G I J) Q) :=
  (sm_blk X 8 0 (tt_lin 8 (by decide)) rfl rfl _ _ _ _).trans rfl
set_option maxRecDepth 100000 in
theorem bk_8_3 (X : (Nat → Int32) × Nat) (mo : Bool) (G : Nat × Nat) (I : Nat → Nat → Int32) (J : Nat → Nat → Int64) (Q : Option Value → sm_M → Prop) (x1 : Int32) (x2 : Int32) (x3 : Int32) (x4 : Int32) :
    sm_wp X 8 3 [some (.ref 71), some (.int x1), some (.int x2), some (.int x3), some (.int x4), none, none, none, none, none, none] [] (sM mo G I J) Q =
    (if (8 : Int32) ≤ (x4 : Int32) then sm_wp X 8 46 [some (.ref 71), some (.int x1), some (.int x2), some (.int x3), some (.int x4), none, none, none, none, none, none] [] (sM mo G I J) Q else (sm_wp X 9 0 [some (.ref 71), some (.int x1), some (.int x2), some (.int x4)] [] (sM mo G I J) (fun v M => sm_wp X 8 24 [some (.ref 71), some (.int x1), some (.int x2), some (.int x3), some (.int x4), none, none, none, none, none, none] (v.toList ++ [.int x4, .ref 76]) M Q))) :=
  (sm_blk X 8 3 (tt_lin 8 (by decide)) rfl rfl _ _ _ _).trans rfl
set_option maxRecDepth 100000 in
theorem bk_8_24 (X : (Nat → Int32) × Nat) (mo : Bool) (G : Nat × Nat) (I : Nat → Nat → Int32) (J : Nat → Nat → Int64) (Q : Option Value → sm_M → Prop) (x1 : Int32) (x2 : Int32) (x3 : Int32) (x4 : Int32) (s1 : Int32) (s2 : Int32) :
    sm_wp X 8 24 [some (.ref 71), some (.int x1), some (.int x2), some (.int x3), some (.int x4), none, none, none, none, none, none] [.int s2, .int s1, .ref 76] (sM mo G I J) Q =
    (vp_in s1 8 ∧ (sm_wp X 9 0 [some (.ref 71), some (.int x1), some (.int x3), some (.int x4)] [] (sM mo G (up2 I 76 s1.toNatClampNeg s2) J) (fun v M => sm_wp X 8 39 [some (.ref 71), some (.int x1), some (.int x2), some (.int x3), some (.int x4), none, none, none, none, none, none] (v.toList ++ [.int x4, .ref 77]) M Q))) :=
  (sm_blk X 8 24 (tt_lin 8 (by decide)) rfl rfl _ _ _ _).trans rfl
set_option maxRecDepth 100000 in
theorem bk_8_39 (X : (Nat → Int32) × Nat) (mo : Bool) (G : Nat × Nat) (I : Nat → Nat → Int32) (J : Nat → Nat → Int64) (Q : Option Value → sm_M → Prop) (x1 : Int32) (x2 : Int32) (x3 : Int32) (x4 : Int32) (s1 : Int32) (s2 : Int32) :
    sm_wp X 8 39 [some (.ref 71), some (.int x1), some (.int x2), some (.int x3), some (.int x4), none, none, none, none, none, none] [.int s2, .int s1, .ref 77] (sM mo G I J) Q =
    (vp_in s1 8 ∧ (sm_wp X 8 3 [some (.ref 71), some (.int x1), some (.int x2), some (.int x3), some (.int (x4 + 1)), none, none, none, none, none, none] [] (sM mo G (up2 I 77 s1.toNatClampNeg s2) J) Q)) :=
  (sm_blk X 8 39 (tt_lin 8 (by decide)) rfl rfl _ _ _ _).trans rfl
set_option maxRecDepth 100000 in
theorem bk_8_46 (X : (Nat → Int32) × Nat) (mo : Bool) (G : Nat × Nat) (I : Nat → Nat → Int32) (J : Nat → Nat → Int64) (Q : Option Value → sm_M → Prop) (x1 : Int32) (x2 : Int32) (x3 : Int32) (x4 : Int32) :
    sm_wp X 8 46 [some (.ref 71), some (.int x1), some (.int x2), some (.int x3), some (.int x4), none, none, none, none, none, none] [] (sM mo G I J) Q =
    (sm_wp X 7 0 [some (.ref 71), some (.int x1), some (.int x2)] [] (sM mo G I J) (fun v M => sm_wp X 8 52 [some (.ref 71), some (.int x1), some (.int x2), some (.int x3), some (.int x4), none, none, none, none, none, none] (v.toList ++ []) M Q)) :=
  (sm_blk X 8 46 (tt_lin 8 (by decide)) rfl rfl _ _ _ _).trans rfl
set_option maxRecDepth 100000 in
theorem bk_8_52 (X : (Nat → Int32) × Nat) (mo : Bool) (G : Nat × Nat) (I : Nat → Nat → Int32) (J : Nat → Nat → Int64) (Q : Option Value → sm_M → Prop) (x1 : Int32) (x2 : Int32) (x3 : Int32) (x4 : Int32) (s0 : Int32) :
    sm_wp X 8 52 [some (.ref 71), some (.int x1), some (.int x2), some (.int x3), some (.int x4), none, none, none, none, none, none] [.int s0] (sM mo G I J) Q =
    (True ∧ (sm_wp X 7 0 [some (.ref 71), some (.int x1), some (.int x3)] [] (sM mo G I J) (fun v M => sm_wp X 8 65 [some (.ref 71), some (.int x1), some (.int x2), some (.int x3), some (.int (if (8 : Int32) < s0 then 8 else s0)), none, none, none, none, none, none] (v.toList ++ []) M Q))) :=
  (sm_blk X 8 52 (tt_lin 8 (by decide)) rfl rfl _ _ _ _).trans rfl
set_option maxRecDepth 100000 in
theorem bk_8_65 (X : (Nat → Int32) × Nat) (mo : Bool) (G : Nat × Nat) (I : Nat → Nat → Int32) (J : Nat → Nat → Int64) (Q : Option Value → sm_M → Prop) (x1 : Int32) (x2 : Int32) (x3 : Int32) (x4 : Int32) (s0 : Int32) :
    sm_wp X 8 65 [some (.ref 71), some (.int x1), some (.int x2), some (.int x3), some (.int x4), none, none, none, none, none, none] [.int s0] (sM mo G I J) Q =
    (True ∧ (sm_wp X 8 76 [some (.ref 71), none, none, none, some (.int x4), some (.int (if (8 : Int32) < s0 then 8 else s0)), some (.int x4), none, none, none, none] [] (sM mo G I J) Q)) :=
  (sm_blk X 8 65 (tt_lin 8 (by decide)) rfl rfl _ _ _ _).trans rfl
set_option maxRecDepth 100000 in
theorem bk_8_76 (X : (Nat → Int32) × Nat) (mo : Bool) (G : Nat × Nat) (I : Nat → Nat → Int32) (J : Nat → Nat → Int64) (Q : Option Value → sm_M → Prop) (x4 : Int32) (x5 : Int32) (x6 : Int32) :
    sm_wp X 8 76 [some (.ref 71), none, none, none, some (.int x4), some (.int x5), some (.int x6), none, none, none, none] [] (sM mo G I J) Q =
    (if (x6 : Int32) < 0 then sm_wp X 8 232 [some (.ref 71), none, none, none, some (.int x4), some (.int x5), some (.int x6), none, none, none, none] [] (sM mo G I J) Q else (sm_wp X 8 85 [some (.ref 71), none, none, none, some (.int x4), some (.int x5), some (.int x6), some (.int x5), none, none, none] [] (sM mo G I J) Q)) :=
  (sm_blk X 8 76 (tt_lin 8 (by decide)) rfl rfl _ _ _ _).trans rfl
set_option maxRecDepth 100000 in
theorem bk_8_85 (X : (Nat → Int32) × Nat) (mo : Bool) (G : Nat × Nat) (I : Nat → Nat → Int32) (J : Nat → Nat → Int64) (Q : Option Value → sm_M → Prop) (x4 : Int32) (x5 : Int32) (x6 : Int32) (x7 : Int32) :
    sm_wp X 8 85 [some (.ref 71), none, none, none, some (.int x4), some (.int x5), some (.int x6), some (.int x7), none, none, none] [] (sM mo G I J) Q =
    (if (x7 : Int32) < 0 then sm_wp X 8 226 [some (.ref 71), none, none, none, some (.int x4), some (.int x5), some (.int x6), some (.int x7), none, none, none] [] (sM mo G I J) Q else (if (x4 : Int32) ≤ (x6 : Int32) then sm_wp X 8 205 [some (.ref 71), none, none, none, some (.int x4), some (.int x5), some (.int x6), some (.int x7), some (.int (((x4 - x6) + x5) - x7)), none, none] [] (sM mo G I J) Q else (if (x5 : Int32) ≤ (x7 : Int32) then sm_wp X 8 205 [some (.ref 71), none, none, none, some (.int x4), some (.int x5), some (.int x6), some (.int x7), some (.int (((x4 - x6) + x5) - x7)), none, none] [] (sM mo G I J) Q else (vp_in x6 8 ∧ (vp_in x7 8 ∧ (if ¬ (I 76 (x6.toNatClampNeg) : Int32) = (I 77 (x7.toNatClampNeg) : Int32) then sm_wp X 8 138 [some (.ref 71), none, none, none, some (.int x4), some (.int x5), some (.int x6), some (.int x7), some (.int (((x4 - x6) + x5) - x7)), none, none] [] (sM mo G I J) Q else (sm_wp X 8 139 [some (.ref 71), none, none, none, some (.int x4), some (.int x5), some (.int x6), some (.int x7), some (.int (((x4 - x6) + x5) - x7)), none, none] [.int 0] (sM mo G I J) Q))))))) :=
  (sm_blk X 8 85 (tt_lin 8 (by decide)) rfl rfl _ _ _ _).trans rfl
set_option maxRecDepth 100000 in
theorem bk_8_138 (X : (Nat → Int32) × Nat) (mo : Bool) (G : Nat × Nat) (I : Nat → Nat → Int32) (J : Nat → Nat → Int64) (Q : Option Value → sm_M → Prop) (x4 : Int32) (x5 : Int32) (x6 : Int32) (x7 : Int32) (x8 : Int32) :
    sm_wp X 8 138 [some (.ref 71), none, none, none, some (.int x4), some (.int x5), some (.int x6), some (.int x7), some (.int x8), none, none] [] (sM mo G I J) Q =
    (vp_in ((((x6 + 1) * 9) + x7) + 1) 81 ∧ (vp_in (((x6 + 1) * 9) + x7) 81 ∧ (vp_in (((x6 * 9) + x7) + 1) 81 ∧ (True ∧ (True ∧ (vp_in ((x6 * 9) + x7) 81 ∧ (sm_wp X 8 85 [some (.ref 71), none, none, none, some (.int x4), some (.int x5), some (.int x6), some (.int (x7 + (-1))), none, none, none] [] (sM mo G (up2 I 78 ((x6 * 9) + x7).toNatClampNeg (if (1 + (if (I 78 ((((x6 * 9) + x7) + 1).toNatClampNeg) : Int32) < I 78 ((((x6 + 1) * 9) + x7).toNatClampNeg) then I 78 ((((x6 * 9) + x7) + 1).toNatClampNeg) else I 78 ((((x6 + 1) * 9) + x7).toNatClampNeg)) : Int32) < 1 + (I 78 (((((x6 + 1) * 9) + x7) + 1).toNatClampNeg)) then 1 + (if (I 78 ((((x6 * 9) + x7) + 1).toNatClampNeg) : Int32) < I 78 ((((x6 + 1) * 9) + x7).toNatClampNeg) then I 78 ((((x6 * 9) + x7) + 1).toNatClampNeg) else I 78 ((((x6 + 1) * 9) + x7).toNatClampNeg)) else 1 + (I 78 (((((x6 + 1) * 9) + x7) + 1).toNatClampNeg)))) J) Q))))))) :=
  (sm_blk X 8 138 (tt_lin 8 (by decide)) rfl rfl _ _ _ _).trans rfl
set_option maxRecDepth 100000 in
theorem bk_8_139 (X : (Nat → Int32) × Nat) (mo : Bool) (G : Nat × Nat) (I : Nat → Nat → Int32) (J : Nat → Nat → Int64) (Q : Option Value → sm_M → Prop) (x4 : Int32) (x5 : Int32) (x6 : Int32) (x7 : Int32) (x8 : Int32) (s0 : Int32) :
    sm_wp X 8 139 [some (.ref 71), none, none, none, some (.int x4), some (.int x5), some (.int x6), some (.int x7), some (.int x8), none, none] [.int s0] (sM mo G I J) Q =
    (vp_in ((((x6 + 1) * 9) + x7) + 1) 81 ∧ (vp_in (((x6 + 1) * 9) + x7) 81 ∧ (vp_in (((x6 * 9) + x7) + 1) 81 ∧ (True ∧ (True ∧ (vp_in ((x6 * 9) + x7) 81 ∧ (sm_wp X 8 85 [some (.ref 71), none, none, none, some (.int x4), some (.int x5), some (.int x6), some (.int (x7 + (-1))), none, none, none] [] (sM mo G (up2 I 78 ((x6 * 9) + x7).toNatClampNeg (if (1 + (if (I 78 ((((x6 * 9) + x7) + 1).toNatClampNeg) : Int32) < I 78 ((((x6 + 1) * 9) + x7).toNatClampNeg) then I 78 ((((x6 * 9) + x7) + 1).toNatClampNeg) else I 78 ((((x6 + 1) * 9) + x7).toNatClampNeg)) : Int32) < s0 + (I 78 (((((x6 + 1) * 9) + x7) + 1).toNatClampNeg)) then 1 + (if (I 78 ((((x6 * 9) + x7) + 1).toNatClampNeg) : Int32) < I 78 ((((x6 + 1) * 9) + x7).toNatClampNeg) then I 78 ((((x6 * 9) + x7) + 1).toNatClampNeg) else I 78 ((((x6 + 1) * 9) + x7).toNatClampNeg)) else s0 + (I 78 (((((x6 + 1) * 9) + x7) + 1).toNatClampNeg)))) J) Q))))))) :=
  (sm_blk X 8 139 (tt_lin 8 (by decide)) rfl rfl _ _ _ _).trans rfl
set_option maxRecDepth 100000 in
theorem bk_8_205 (X : (Nat → Int32) × Nat) (mo : Bool) (G : Nat × Nat) (I : Nat → Nat → Int32) (J : Nat → Nat → Int64) (Q : Option Value → sm_M → Prop) (x4 : Int32) (x5 : Int32) (x6 : Int32) (x7 : Int32) (x8 : Int32) :
    sm_wp X 8 205 [some (.ref 71), none, none, none, some (.int x4), some (.int x5), some (.int x6), some (.int x7), some (.int x8), none, none] [] (sM mo G I J) Q =
    (vp_in ((x6 * 9) + x7) 81 ∧ (sm_wp X 8 85 [some (.ref 71), none, none, none, some (.int x4), some (.int x5), some (.int x6), some (.int (x7 + (-1))), none, none, none] [] (sM mo G (up2 I 78 ((x6 * 9) + x7).toNatClampNeg x8) J) Q)) :=
  (sm_blk X 8 205 (tt_lin 8 (by decide)) rfl rfl _ _ _ _).trans rfl
set_option maxRecDepth 100000 in
theorem bk_8_226 (X : (Nat → Int32) × Nat) (mo : Bool) (G : Nat × Nat) (I : Nat → Nat → Int32) (J : Nat → Nat → Int64) (Q : Option Value → sm_M → Prop) (x4 : Int32) (x5 : Int32) (x6 : Int32) (x7 : Int32) :
    sm_wp X 8 226 [some (.ref 71), none, none, none, some (.int x4), some (.int x5), some (.int x6), some (.int x7), none, none, none] [] (sM mo G I J) Q =
    (sm_wp X 8 76 [some (.ref 71), none, none, none, some (.int x4), some (.int x5), some (.int (x6 + (-1))), none, none, none, none] [] (sM mo G I J) Q) :=
  (sm_blk X 8 226 (tt_lin 8 (by decide)) rfl rfl _ _ _ _).trans rfl
set_option maxRecDepth 100000 in
theorem bk_8_232 (X : (Nat → Int32) × Nat) (mo : Bool) (G : Nat × Nat) (I : Nat → Nat → Int32) (J : Nat → Nat → Int64) (Q : Option Value → sm_M → Prop) (x4 : Int32) (x5 : Int32) (x6 : Int32) :
    sm_wp X 8 232 [some (.ref 71), none, none, none, some (.int x4), some (.int x5), some (.int x6), none, none, none, none] [] (sM mo G I J) Q =
    (vp_in 0 81 ∧ (True ∧ Q (some (.int (I 78 ((0 : Int32).toNatClampNeg)))) (sM mo G I J))) :=
  (sm_blk X 8 232 (tt_lin 8 (by decide)) rfl rfl _ _ _ _).trans rfl
set_option maxRecDepth 100000 in
theorem bk_9_0 (X : (Nat → Int32) × Nat) (mo : Bool) (G : Nat × Nat) (I : Nat → Nat → Int32) (J : Nat → Nat → Int64) (Q : Option Value → sm_M → Prop) (x1 : Int32) (x2 : Int32) (x3 : Int32) :
    sm_wp X 9 0 [some (.ref 71), some (.int x1), some (.int x2), some (.int x3)] [] (sM mo G I J) Q =
    (if (x1 : Int32) < 0 then sm_wp X 9 20 [some (.ref 71), some (.int x1), some (.int x2), some (.int x3)] [] (sM mo G I J) Q else (if (8 : Int32) ≤ (x1 : Int32) then sm_wp X 9 20 [some (.ref 71), some (.int x1), some (.int x2), some (.int x3)] [] (sM mo G I J) Q else (if (x2 : Int32) < 0 then sm_wp X 9 20 [some (.ref 71), some (.int x1), some (.int x2), some (.int x3)] [] (sM mo G I J) Q else (if (x2 : Int32) < (6 : Int32) then sm_wp X 9 22 [some (.ref 71), some (.int x1), some (.int x2), some (.int x3)] [] (sM mo G I J) Q else (True ∧ Q (some (.int 0)) (sM mo G I J)))))) :=
  (sm_blk X 9 0 (tt_lin 9 (by decide)) rfl rfl _ _ _ _).trans rfl
set_option maxRecDepth 100000 in
theorem bk_9_20 (X : (Nat → Int32) × Nat) (mo : Bool) (G : Nat × Nat) (I : Nat → Nat → Int32) (J : Nat → Nat → Int64) (Q : Option Value → sm_M → Prop) (x1 : Int32) (x2 : Int32) (x3 : Int32) :
    sm_wp X 9 20 [some (.ref 71), some (.int x1), some (.int x2), some (.int x3)] [] (sM mo G I J) Q =
    (True ∧ Q (some (.int 0)) (sM mo G I J)) :=
  (sm_blk X 9 20 (tt_lin 9 (by decide)) rfl rfl _ _ _ _).trans rfl
set_option maxRecDepth 100000 in
theorem bk_9_22 (X : (Nat → Int32) × Nat) (mo : Bool) (G : Nat × Nat) (I : Nat → Nat → Int32) (J : Nat → Nat → Int64) (Q : Option Value → sm_M → Prop) (x1 : Int32) (x2 : Int32) (x3 : Int32) :
    sm_wp X 9 22 [some (.ref 71), some (.int x1), some (.int x2), some (.int x3)] [] (sM mo G I J) Q =
    (if (x3 : Int32) < 0 then sm_wp X 9 32 [some (.ref 71), some (.int x1), some (.int x2), some (.int x3)] [] (sM mo G I J) Q else (if (x3 : Int32) < (8 : Int32) then sm_wp X 9 34 [some (.ref 71), some (.int x1), some (.int x2), some (.int x3)] [] (sM mo G I J) Q else (True ∧ Q (some (.int 0)) (sM mo G I J)))) :=
  (sm_blk X 9 22 (tt_lin 9 (by decide)) rfl rfl _ _ _ _).trans rfl
set_option maxRecDepth 100000 in
theorem bk_9_32 (X : (Nat → Int32) × Nat) (mo : Bool) (G : Nat × Nat) (I : Nat → Nat → Int32) (J : Nat → Nat → Int64) (Q : Option Value → sm_M → Prop) (x1 : Int32) (x2 : Int32) (x3 : Int32) :
    sm_wp X 9 32 [some (.ref 71), some (.int x1), some (.int x2), some (.int x3)] [] (sM mo G I J) Q =
    (True ∧ Q (some (.int 0)) (sM mo G I J)) :=
  (sm_blk X 9 32 (tt_lin 9 (by decide)) rfl rfl _ _ _ _).trans rfl
set_option maxRecDepth 100000 in
theorem bk_9_34 (X : (Nat → Int32) × Nat) (mo : Bool) (G : Nat × Nat) (I : Nat → Nat → Int32) (J : Nat → Nat → Int64) (Q : Option Value → sm_M → Prop) (x1 : Int32) (x2 : Int32) (x3 : Int32) :
    sm_wp X 9 34 [some (.ref 71), some (.int x1), some (.int x2), some (.int x3)] [] (sM mo G I J) Q =
    (vp_in ((((x1 * 6) + x2) * 8) + x3) 384 ∧ (True ∧ Q (some (.int (I 73 (((((x1 * 6) + x2) * 8) + x3).toNatClampNeg)))) (sM mo G I J))) :=
  (sm_blk X 9 34 (tt_lin 9 (by decide)) rfl rfl _ _ _ _).trans rfl
set_option maxRecDepth 100000 in
theorem bk_10_0 (X : (Nat → Int32) × Nat) (mo : Bool) (G : Nat × Nat) (I : Nat → Nat → Int32) (J : Nat → Nat → Int64) (Q : Option Value → sm_M → Prop) (x1 : Int32) :
    sm_wp X 10 0 [some (.ref 71), some (.int x1), none, none, none] [] (sM mo G I J) Q =
    (sm_wp X 10 2 [some (.ref 71), some (.int x1), some (.int 0), none, none] [] (sM mo G I J) Q) :=
  (sm_blk X 10 0 (tt_lin 10 (by decide)) rfl rfl _ _ _ _).trans rfl
set_option maxRecDepth 100000 in
theorem bk_10_2 (X : (Nat → Int32) × Nat) (mo : Bool) (G : Nat × Nat) (I : Nat → Nat → Int32) (J : Nat → Nat → Int64) (Q : Option Value → sm_M → Prop) (x1 : Int32) (x2 : Int32) :
    sm_wp X 10 2 [some (.ref 71), some (.int x1), some (.int x2), none, none] [] (sM mo G I J) Q =
    (if (6 : Int32) ≤ (x2 : Int32) then sm_wp X 10 21 [some (.ref 71), some (.int x1), some (.int x2), none, none] [] (sM mo G I J) Q else (vp_in x2 6 ∧ (sm_wp X 10 2 [some (.ref 71), some (.int x1), some (.int (x2 + 1)), none, none] [] (sM mo G (up2 I 79 x2.toNatClampNeg 0) J) Q))) :=
  (sm_blk X 10 2 (tt_lin 10 (by decide)) rfl rfl _ _ _ _).trans rfl
set_option maxRecDepth 100000 in
theorem bk_10_21 (X : (Nat → Int32) × Nat) (mo : Bool) (G : Nat × Nat) (I : Nat → Nat → Int32) (J : Nat → Nat → Int64) (Q : Option Value → sm_M → Prop) (x1 : Int32) (x2 : Int32) :
    sm_wp X 10 21 [some (.ref 71), some (.int x1), some (.int x2), none, none] [] (sM mo G I J) Q =
    (sm_wp X 10 23 [some (.ref 71), some (.int x1), some (.int 1), none, none] [] (sM mo G I J) Q) :=
  (sm_blk X 10 21 (tt_lin 10 (by decide)) rfl rfl _ _ _ _).trans rfl
set_option maxRecDepth 100000 in
theorem bk_10_23 (X : (Nat → Int32) × Nat) (mo : Bool) (G : Nat × Nat) (I : Nat → Nat → Int32) (J : Nat → Nat → Int64) (Q : Option Value → sm_M → Prop) (x1 : Int32) (x2 : Int32) :
    sm_wp X 10 23 [some (.ref 71), some (.int x1), some (.int x2), none, none] [] (sM mo G I J) Q =
    (if (6 : Int32) ≤ (x2 : Int32) then sm_wp X 10 97 [some (.ref 71), some (.int x1), some (.int x2), none, none] [] (sM mo G I J) Q else (sm_wp X 10 31 [some (.ref 71), some (.int x1), some (.int x2), some (.int 0), none] [] (sM mo G I J) Q)) :=
  (sm_blk X 10 23 (tt_lin 10 (by decide)) rfl rfl _ _ _ _).trans rfl
set_option maxRecDepth 100000 in
theorem bk_10_31 (X : (Nat → Int32) × Nat) (mo : Bool) (G : Nat × Nat) (I : Nat → Nat → Int32) (J : Nat → Nat → Int64) (Q : Option Value → sm_M → Prop) (x1 : Int32) (x2 : Int32) (x3 : Int32) :
    sm_wp X 10 31 [some (.ref 71), some (.int x1), some (.int x2), some (.int x3), none] [] (sM mo G I J) Q =
    (if (x2 : Int32) ≤ (x3 : Int32) then sm_wp X 10 91 [some (.ref 71), some (.int x1), some (.int x2), some (.int x3), none] [] (sM mo G I J) Q else (sm_wp X 11 0 [some (.ref 71), some (.int x1), some (.int x3)] [] (sM mo G I J) (fun v M => sm_wp X 10 42 [some (.ref 71), some (.int x1), some (.int x2), some (.int x3), none] (v.toList ++ []) M Q))) :=
  (sm_blk X 10 31 (tt_lin 10 (by decide)) rfl rfl _ _ _ _).trans rfl
set_option maxRecDepth 100000 in
theorem bk_10_42 (X : (Nat → Int32) × Nat) (mo : Bool) (G : Nat × Nat) (I : Nat → Nat → Int32) (J : Nat → Nat → Int64) (Q : Option Value → sm_M → Prop) (x1 : Int32) (x2 : Int32) (x3 : Int32) (s0 : Int32) :
    sm_wp X 10 42 [some (.ref 71), some (.int x1), some (.int x2), some (.int x3), none] [.int s0] (sM mo G I J) Q =
    (if (s0 : Int32) = 0 then sm_wp X 10 85 [some (.ref 71), some (.int x1), some (.int x2), some (.int x3), none] [] (sM mo G I J) Q else (sm_wp X 11 0 [some (.ref 71), some (.int x1), some (.int x2)] [] (sM mo G I J) (fun v M => sm_wp X 10 51 [some (.ref 71), some (.int x1), some (.int x2), some (.int x3), none] (v.toList ++ []) M Q))) :=
  (sm_blk X 10 42 (tt_lin 10 (by decide)) rfl rfl _ _ _ _).trans rfl
set_option maxRecDepth 100000 in
theorem bk_10_51 (X : (Nat → Int32) × Nat) (mo : Bool) (G : Nat × Nat) (I : Nat → Nat → Int32) (J : Nat → Nat → Int64) (Q : Option Value → sm_M → Prop) (x1 : Int32) (x2 : Int32) (x3 : Int32) (s0 : Int32) :
    sm_wp X 10 51 [some (.ref 71), some (.int x1), some (.int x2), some (.int x3), none] [.int s0] (sM mo G I J) Q =
    (if (s0 : Int32) = 0 then sm_wp X 10 85 [some (.ref 71), some (.int x1), some (.int x2), some (.int x3), none] [] (sM mo G I J) Q else (sm_wp X 8 0 [some (.ref 71), some (.int x1), some (.int x3), some (.int x2), none, none, none, none, none, none, none] [] (sM mo G I J) (fun v M => sm_wp X 10 61 [some (.ref 71), some (.int x1), some (.int x2), some (.int x3), none] (v.toList ++ []) M Q))) :=
  (sm_blk X 10 51 (tt_lin 10 (by decide)) rfl rfl _ _ _ _).trans rfl
set_option maxRecDepth 100000 in
theorem bk_10_61 (X : (Nat → Int32) × Nat) (mo : Bool) (G : Nat × Nat) (I : Nat → Nat → Int32) (J : Nat → Nat → Int64) (Q : Option Value → sm_M → Prop) (x1 : Int32) (x2 : Int32) (x3 : Int32) (s0 : Int32) :
    sm_wp X 10 61 [some (.ref 71), some (.int x1), some (.int x2), some (.int x3), none] [.int s0] (sM mo G I J) Q =
    (vp_in x3 6 ∧ (vp_in x3 6 ∧ (vp_in x2 6 ∧ (vp_in x2 6 ∧ (sm_wp X 10 31 [some (.ref 71), some (.int x1), some (.int x2), some (.int (x3 + 1)), none] [] (sM mo G (up2 (up2 I 79 x3.toNatClampNeg ((I 79 (x3.toNatClampNeg)) + s0)) 79 x2.toNatClampNeg (((up2 I 79 x3.toNatClampNeg ((I 79 (x3.toNatClampNeg)) + s0)) 79 (x2.toNatClampNeg)) + s0)) J) Q))))) :=
  (sm_blk X 10 61 (tt_lin 10 (by decide)) rfl rfl _ _ _ _).trans rfl
set_option maxRecDepth 100000 in
theorem bk_10_85 (X : (Nat → Int32) × Nat) (mo : Bool) (G : Nat × Nat) (I : Nat → Nat → Int32) (J : Nat → Nat → Int64) (Q : Option Value → sm_M → Prop) (x1 : Int32) (x2 : Int32) (x3 : Int32) :
    sm_wp X 10 85 [some (.ref 71), some (.int x1), some (.int x2), some (.int x3), none] [] (sM mo G I J) Q =
    (sm_wp X 10 31 [some (.ref 71), some (.int x1), some (.int x2), some (.int (x3 + 1)), none] [] (sM mo G I J) Q) :=
  (sm_blk X 10 85 (tt_lin 10 (by decide)) rfl rfl _ _ _ _).trans rfl
set_option maxRecDepth 100000 in
theorem bk_10_91 (X : (Nat → Int32) × Nat) (mo : Bool) (G : Nat × Nat) (I : Nat → Nat → Int32) (J : Nat → Nat → Int64) (Q : Option Value → sm_M → Prop) (x1 : Int32) (x2 : Int32) (x3 : Int32) :
    sm_wp X 10 91 [some (.ref 71), some (.int x1), some (.int x2), some (.int x3), none] [] (sM mo G I J) Q =
    (sm_wp X 10 23 [some (.ref 71), some (.int x1), some (.int (x2 + 1)), none, none] [] (sM mo G I J) Q) :=
  (sm_blk X 10 91 (tt_lin 10 (by decide)) rfl rfl _ _ _ _).trans rfl
set_option maxRecDepth 100000 in
theorem bk_10_97 (X : (Nat → Int32) × Nat) (mo : Bool) (G : Nat × Nat) (I : Nat → Nat → Int32) (J : Nat → Nat → Int64) (Q : Option Value → sm_M → Prop) (x1 : Int32) (x2 : Int32) :
    sm_wp X 10 97 [some (.ref 71), some (.int x1), some (.int x2), none, none] [] (sM mo G I J) Q =
    (sm_wp X 10 101 [some (.ref 71), some (.int x1), some (.int (-1)), some (.int 0), none] [] (sM mo G I J) Q) :=
  (sm_blk X 10 97 (tt_lin 10 (by decide)) rfl rfl _ _ _ _).trans rfl
set_option maxRecDepth 100000 in
theorem bk_10_101 (X : (Nat → Int32) × Nat) (mo : Bool) (G : Nat × Nat) (I : Nat → Nat → Int32) (J : Nat → Nat → Int64) (Q : Option Value → sm_M → Prop) (x1 : Int32) (x2 : Int32) (x3 : Int32) :
    sm_wp X 10 101 [some (.ref 71), some (.int x1), some (.int x2), some (.int x3), none] [] (sM mo G I J) Q =
    (if (6 : Int32) ≤ (x3 : Int32) then sm_wp X 10 133 [some (.ref 71), some (.int x1), some (.int x2), some (.int x3), none] [] (sM mo G I J) Q else (sm_wp X 11 0 [some (.ref 71), some (.int x1), some (.int x3)] [] (sM mo G I J) (fun v M => sm_wp X 10 113 [some (.ref 71), some (.int x1), some (.int x2), some (.int x3), none] (v.toList ++ []) M Q))) :=
  (sm_blk X 10 101 (tt_lin 10 (by decide)) rfl rfl _ _ _ _).trans rfl
set_option maxRecDepth 100000 in
theorem bk_10_113 (X : (Nat → Int32) × Nat) (mo : Bool) (G : Nat × Nat) (I : Nat → Nat → Int32) (J : Nat → Nat → Int64) (Q : Option Value → sm_M → Prop) (x1 : Int32) (x2 : Int32) (x3 : Int32) (s0 : Int32) :
    sm_wp X 10 113 [some (.ref 71), some (.int x1), some (.int x2), some (.int x3), none] [.int s0] (sM mo G I J) Q =
    (if (s0 : Int32) = 0 then sm_wp X 10 127 [some (.ref 71), some (.int x1), some (.int x2), some (.int x3), none] [] (sM mo G I J) Q else (sm_wp X 12 0 [some (.ref 71), some (.int x3), some (.int x2)] [] (sM mo G I J) (fun v M => sm_wp X 10 122 [some (.ref 71), some (.int x1), some (.int x2), some (.int x3), none] (v.toList ++ []) M Q))) :=
  (sm_blk X 10 113 (tt_lin 10 (by decide)) rfl rfl _ _ _ _).trans rfl
set_option maxRecDepth 100000 in
theorem bk_10_122 (X : (Nat → Int32) × Nat) (mo : Bool) (G : Nat × Nat) (I : Nat → Nat → Int32) (J : Nat → Nat → Int64) (Q : Option Value → sm_M → Prop) (x1 : Int32) (x2 : Int32) (x3 : Int32) (s0 : Int32) :
    sm_wp X 10 122 [some (.ref 71), some (.int x1), some (.int x2), some (.int x3), none] [.int s0] (sM mo G I J) Q =
    (if (s0 : Int32) = 0 then sm_wp X 10 127 [some (.ref 71), some (.int x1), some (.int x2), some (.int x3), none] [] (sM mo G I J) Q else (sm_wp X 10 101 [some (.ref 71), some (.int x1), some (.int x3), some (.int (x3 + 1)), none] [] (sM mo G I J) Q)) :=
  (sm_blk X 10 122 (tt_lin 10 (by decide)) rfl rfl _ _ _ _).trans rfl
set_option maxRecDepth 100000 in
theorem bk_10_127 (X : (Nat → Int32) × Nat) (mo : Bool) (G : Nat × Nat) (I : Nat → Nat → Int32) (J : Nat → Nat → Int64) (Q : Option Value → sm_M → Prop) (x1 : Int32) (x2 : Int32) (x3 : Int32) :
    sm_wp X 10 127 [some (.ref 71), some (.int x1), some (.int x2), some (.int x3), none] [] (sM mo G I J) Q =
    (sm_wp X 10 101 [some (.ref 71), some (.int x1), some (.int x2), some (.int (x3 + 1)), none] [] (sM mo G I J) Q) :=
  (sm_blk X 10 127 (tt_lin 10 (by decide)) rfl rfl _ _ _ _).trans rfl
set_option maxRecDepth 100000 in
theorem bk_10_133 (X : (Nat → Int32) × Nat) (mo : Bool) (G : Nat × Nat) (I : Nat → Nat → Int32) (J : Nat → Nat → Int64) (Q : Option Value → sm_M → Prop) (x1 : Int32) (x2 : Int32) (x3 : Int32) :
    sm_wp X 10 133 [some (.ref 71), some (.int x1), some (.int x2), some (.int x3), none] [] (sM mo G I J) Q =
    (True ∧ Q (some (.int x2)) (sM mo G I J)) :=
  (sm_blk X 10 133 (tt_lin 10 (by decide)) rfl rfl _ _ _ _).trans rfl
set_option maxRecDepth 100000 in
theorem bk_11_0 (X : (Nat → Int32) × Nat) (mo : Bool) (G : Nat × Nat) (I : Nat → Nat → Int32) (J : Nat → Nat → Int64) (Q : Option Value → sm_M → Prop) (x1 : Int32) (x2 : Int32) :
    sm_wp X 11 0 [some (.ref 71), some (.int x1), some (.int x2)] [] (sM mo G I J) Q =
    (sm_wp X 94 0 [some (.ref 1), some (.int x2)] [] (sM mo G I J) (fun v M => sm_wp X 11 8 [some (.ref 71), some (.int x1), some (.int x2)] (v.toList ++ []) M Q)) :=
  (sm_blk X 11 0 (tt_lin 11 (by decide)) rfl rfl _ _ _ _).trans rfl
set_option maxRecDepth 100000 in
theorem bk_11_8 (X : (Nat → Int32) × Nat) (mo : Bool) (G : Nat × Nat) (I : Nat → Nat → Int32) (J : Nat → Nat → Int64) (Q : Option Value → sm_M → Prop) (x1 : Int32) (x2 : Int32) (s0 : Int32) :
    sm_wp X 11 8 [some (.ref 71), some (.int x1), some (.int x2)] [.int s0] (sM mo G I J) Q =
    (if (s0 : Int32) = 0 then sm_wp X 11 24 [some (.ref 71), some (.int x1), some (.int x2)] [] (sM mo G I J) Q else (sm_wp X 7 0 [some (.ref 71), some (.int x1), some (.int x2)] [] (sM mo G I J) (fun v M => sm_wp X 11 17 [some (.ref 71), some (.int x1), some (.int x2)] (v.toList ++ []) M Q))) :=
  (sm_blk X 11 8 (tt_lin 11 (by decide)) rfl rfl _ _ _ _).trans rfl
set_option maxRecDepth 100000 in
theorem bk_11_17 (X : (Nat → Int32) × Nat) (mo : Bool) (G : Nat × Nat) (I : Nat → Nat → Int32) (J : Nat → Nat → Int64) (Q : Option Value → sm_M → Prop) (x1 : Int32) (x2 : Int32) (s0 : Int32) :
    sm_wp X 11 17 [some (.ref 71), some (.int x1), some (.int x2)] [.int s0] (sM mo G I J) Q =
    (if (s0 : Int32) ≤ 0 then sm_wp X 11 24 [some (.ref 71), some (.int x1), some (.int x2)] [] (sM mo G I J) Q else (sm_wp X 11 25 [some (.ref 71), some (.int x1), some (.int x2)] [.int 1] (sM mo G I J) Q)) :=
  (sm_blk X 11 17 (tt_lin 11 (by decide)) rfl rfl _ _ _ _).trans rfl
set_option maxRecDepth 100000 in
theorem bk_11_24 (X : (Nat → Int32) × Nat) (mo : Bool) (G : Nat × Nat) (I : Nat → Nat → Int32) (J : Nat → Nat → Int64) (Q : Option Value → sm_M → Prop) (x1 : Int32) (x2 : Int32) :
    sm_wp X 11 24 [some (.ref 71), some (.int x1), some (.int x2)] [] (sM mo G I J) Q =
    (sm_zb 0 ∧ Q (some (.int 0)) (sM mo G I J)) :=
  (sm_blk X 11 24 (tt_lin 11 (by decide)) rfl rfl _ _ _ _).trans rfl
set_option maxRecDepth 100000 in
theorem bk_11_25 (X : (Nat → Int32) × Nat) (mo : Bool) (G : Nat × Nat) (I : Nat → Nat → Int32) (J : Nat → Nat → Int64) (Q : Option Value → sm_M → Prop) (x1 : Int32) (x2 : Int32) (s0 : Int32) :
    sm_wp X 11 25 [some (.ref 71), some (.int x1), some (.int x2)] [.int s0] (sM mo G I J) Q =
    (sm_zb s0 ∧ Q (some (.int s0)) (sM mo G I J)) :=
  (sm_blk X 11 25 (tt_lin 11 (by decide)) rfl rfl _ _ _ _).trans rfl
set_option maxRecDepth 100000 in
theorem bk_12_0 (X : (Nat → Int32) × Nat) (mo : Bool) (G : Nat × Nat) (I : Nat → Nat → Int32) (J : Nat → Nat → Int64) (Q : Option Value → sm_M → Prop) (x1 : Int32) (x2 : Int32) :
    sm_wp X 12 0 [some (.ref 71), some (.int x1), some (.int x2)] [] (sM mo G I J) Q =
    (if (x1 : Int32) < 0 then sm_wp X 12 20 [some (.ref 71), some (.int x1), some (.int x2)] [] (sM mo G I J) Q else (if (6 : Int32) ≤ (x1 : Int32) then sm_wp X 12 20 [some (.ref 71), some (.int x1), some (.int x2)] [] (sM mo G I J) Q else (if (x2 : Int32) < 0 then sm_wp X 12 20 [some (.ref 71), some (.int x1), some (.int x2)] [] (sM mo G I J) Q else (if (x2 : Int32) < (6 : Int32) then sm_wp X 12 22 [some (.ref 71), some (.int x1), some (.int x2)] [] (sM mo G I J) Q else (sm_zb 1 ∧ Q (some (.int 1)) (sM mo G I J)))))) :=
  (sm_blk X 12 0 (tt_lin 12 (by decide)) rfl rfl _ _ _ _).trans rfl
set_option maxRecDepth 100000 in
theorem bk_12_20 (X : (Nat → Int32) × Nat) (mo : Bool) (G : Nat × Nat) (I : Nat → Nat → Int32) (J : Nat → Nat → Int64) (Q : Option Value → sm_M → Prop) (x1 : Int32) (x2 : Int32) :
    sm_wp X 12 20 [some (.ref 71), some (.int x1), some (.int x2)] [] (sM mo G I J) Q =
    (sm_zb 1 ∧ Q (some (.int 1)) (sM mo G I J)) :=
  (sm_blk X 12 20 (tt_lin 12 (by decide)) rfl rfl _ _ _ _).trans rfl
set_option maxRecDepth 100000 in
theorem bk_12_22 (X : (Nat → Int32) × Nat) (mo : Bool) (G : Nat × Nat) (I : Nat → Nat → Int32) (J : Nat → Nat → Int64) (Q : Option Value → sm_M → Prop) (x1 : Int32) (x2 : Int32) :
    sm_wp X 12 22 [some (.ref 71), some (.int x1), some (.int x2)] [] (sM mo G I J) Q =
    (vp_in x1 6 ∧ (vp_in x2 6 ∧ (if (I 79 (x1.toNatClampNeg) : Int32) = (I 79 (x2.toNatClampNeg) : Int32) then sm_wp X 12 58 [some (.ref 71), some (.int x1), some (.int x2)] [] (sM mo G I J) Q else (vp_in x1 6 ∧ (vp_in x2 6 ∧ (if (I 79 (x2.toNatClampNeg) : Int32) ≤ (I 79 (x1.toNatClampNeg) : Int32) then sm_wp X 12 56 [some (.ref 71), some (.int x1), some (.int x2)] [] (sM mo G I J) Q else (sm_wp X 12 57 [some (.ref 71), some (.int x1), some (.int x2)] [.int 1] (sM mo G I J) Q))))))) :=
  (sm_blk X 12 22 (tt_lin 12 (by decide)) rfl rfl _ _ _ _).trans rfl
set_option maxRecDepth 100000 in
theorem bk_12_56 (X : (Nat → Int32) × Nat) (mo : Bool) (G : Nat × Nat) (I : Nat → Nat → Int32) (J : Nat → Nat → Int64) (Q : Option Value → sm_M → Prop) (x1 : Int32) (x2 : Int32) :
    sm_wp X 12 56 [some (.ref 71), some (.int x1), some (.int x2)] [] (sM mo G I J) Q =
    (sm_zb 0 ∧ Q (some (.int 0)) (sM mo G I J)) :=
  (sm_blk X 12 56 (tt_lin 12 (by decide)) rfl rfl _ _ _ _).trans rfl
set_option maxRecDepth 100000 in
theorem bk_12_57 (X : (Nat → Int32) × Nat) (mo : Bool) (G : Nat × Nat) (I : Nat → Nat → Int32) (J : Nat → Nat → Int64) (Q : Option Value → sm_M → Prop) (x1 : Int32) (x2 : Int32) (s0 : Int32) :
    sm_wp X 12 57 [some (.ref 71), some (.int x1), some (.int x2)] [.int s0] (sM mo G I J) Q =
    (sm_zb s0 ∧ Q (some (.int s0)) (sM mo G I J)) :=
  (sm_blk X 12 57 (tt_lin 12 (by decide)) rfl rfl _ _ _ _).trans rfl
set_option maxRecDepth 100000 in
theorem bk_12_58 (X : (Nat → Int32) × Nat) (mo : Bool) (G : Nat × Nat) (I : Nat → Nat → Int32) (J : Nat → Nat → Int64) (Q : Option Value → sm_M → Prop) (x1 : Int32) (x2 : Int32) :
    sm_wp X 12 58 [some (.ref 71), some (.int x1), some (.int x2)] [] (sM mo G I J) Q =
    (sm_wp X 109 0 [some (.ref 1), some (.int x1)] [] (sM mo G I J) (fun v M => sm_wp X 12 66 [some (.ref 71), some (.int x1), some (.int x2)] (v.toList ++ []) M Q)) :=
  (sm_blk X 12 58 (tt_lin 12 (by decide)) rfl rfl _ _ _ _).trans rfl
set_option maxRecDepth 100000 in
theorem bk_12_66 (X : (Nat → Int32) × Nat) (mo : Bool) (G : Nat × Nat) (I : Nat → Nat → Int32) (J : Nat → Nat → Int64) (Q : Option Value → sm_M → Prop) (x1 : Int32) (x2 : Int32) (s0 : Int32) :
    sm_wp X 12 66 [some (.ref 71), some (.int x1), some (.int x2)] [.int s0] (sM mo G I J) Q =
    (sm_wp X 109 0 [some (.ref 1), some (.int x2)] [] (sM mo G I J) (fun v M => sm_wp X 12 74 [some (.ref 71), some (.int x1), some (.int x2)] (v.toList ++ [.int s0]) M Q)) :=
  (sm_blk X 12 66 (tt_lin 12 (by decide)) rfl rfl _ _ _ _).trans rfl
set_option maxRecDepth 100000 in
theorem bk_12_74 (X : (Nat → Int32) × Nat) (mo : Bool) (G : Nat × Nat) (I : Nat → Nat → Int32) (J : Nat → Nat → Int64) (Q : Option Value → sm_M → Prop) (x1 : Int32) (x2 : Int32) (s0 : Int32) (s1 : Int32) :
    sm_wp X 12 74 [some (.ref 71), some (.int x1), some (.int x2)] [.int s1, .int s0] (sM mo G I J) Q =
    (if (s1 : Int32) ≤ (s0 : Int32) then sm_wp X 12 81 [some (.ref 71), some (.int x1), some (.int x2)] [] (sM mo G I J) Q else (sm_wp X 12 82 [some (.ref 71), some (.int x1), some (.int x2)] [.int 1] (sM mo G I J) Q)) :=
  (sm_blk X 12 74 (tt_lin 12 (by decide)) rfl rfl _ _ _ _).trans rfl
set_option maxRecDepth 100000 in
theorem bk_12_81 (X : (Nat → Int32) × Nat) (mo : Bool) (G : Nat × Nat) (I : Nat → Nat → Int32) (J : Nat → Nat → Int64) (Q : Option Value → sm_M → Prop) (x1 : Int32) (x2 : Int32) :
    sm_wp X 12 81 [some (.ref 71), some (.int x1), some (.int x2)] [] (sM mo G I J) Q =
    (sm_zb 0 ∧ Q (some (.int 0)) (sM mo G I J)) :=
  (sm_blk X 12 81 (tt_lin 12 (by decide)) rfl rfl _ _ _ _).trans rfl
set_option maxRecDepth 100000 in
theorem bk_12_82 (X : (Nat → Int32) × Nat) (mo : Bool) (G : Nat × Nat) (I : Nat → Nat → Int32) (J : Nat → Nat → Int64) (Q : Option Value → sm_M → Prop) (x1 : Int32) (x2 : Int32) (s0 : Int32) :
    sm_wp X 12 82 [some (.ref 71), some (.int x1), some (.int x2)] [.int s0] (sM mo G I J) Q =
    (sm_zb s0 ∧ Q (some (.int s0)) (sM mo G I J)) :=
  (sm_blk X 12 82 (tt_lin 12 (by decide)) rfl rfl _ _ _ _).trans rfl
set_option maxRecDepth 100000 in
theorem bk_13_0 (X : (Nat → Int32) × Nat) (mo : Bool) (G : Nat × Nat) (I : Nat → Nat → Int32) (J : Nat → Nat → Int64) (Q : Option Value → sm_M → Prop) (x1 : Int32) :
    sm_wp X 13 0 [some (.ref 71), some (.int x1), none, none, none] [] (sM mo G I J) Q =
    (sm_wp X 13 4 [some (.ref 71), some (.int x1), some (.int 0), some (.int 0), none] [] (sM mo G I J) Q) :=
  (sm_blk X 13 0 (tt_lin 13 (by decide)) rfl rfl _ _ _ _).trans rfl
set_option maxRecDepth 100000 in
theorem bk_13_4 (X : (Nat → Int32) × Nat) (mo : Bool) (G : Nat × Nat) (I : Nat → Nat → Int32) (J : Nat → Nat → Int64) (Q : Option Value → sm_M → Prop) (x1 : Int32) (x2 : Int32) (x3 : Int32) :
    sm_wp X 13 4 [some (.ref 71), some (.int x1), some (.int x2), some (.int x3), none] [] (sM mo G I J) Q =
    (if (I 71 0 : Int32) ≤ (x3 : Int32) then sm_wp X 13 32 [some (.ref 71), some (.int x1), some (.int x2), some (.int x3), none] [] (sM mo G I J) Q else (sm_wp X 14 0 [some (.ref 71), some (.int x3), none, none, none, none] [] (sM mo G I J) (fun v M => sm_wp X 13 17 [some (.ref 71), some (.int x1), some (.int x2), some (.int x3), none] (v.toList ++ []) M Q))) :=
  (sm_blk X 13 4 (tt_lin 13 (by decide)) rfl rfl _ _ _ _).trans rfl
set_option maxRecDepth 100000 in
theorem bk_13_17 (X : (Nat → Int32) × Nat) (mo : Bool) (G : Nat × Nat) (I : Nat → Nat → Int32) (J : Nat → Nat → Int64) (Q : Option Value → sm_M → Prop) (x1 : Int32) (x2 : Int32) (x3 : Int32) (s0 : Int32) :
    sm_wp X 13 17 [some (.ref 71), some (.int x1), some (.int x2), some (.int x3), none] [.int s0] (sM mo G I J) Q =
    (if (s0 : Int32) = 0 then sm_wp X 13 26 [some (.ref 71), some (.int x1), some (.int x2), some (.int x3), none] [] (sM mo G I J) Q else (sm_wp X 13 4 [some (.ref 71), some (.int x1), some (.int (x2 ||| (1 <<< (x3 &&& 31)))), some (.int (x3 + 1)), none] [] (sM mo G I J) Q)) :=
  (sm_blk X 13 17 (tt_lin 13 (by decide)) rfl rfl _ _ _ _).trans rfl
set_option maxRecDepth 100000 in
theorem bk_13_26 (X : (Nat → Int32) × Nat) (mo : Bool) (G : Nat × Nat) (I : Nat → Nat → Int32) (J : Nat → Nat → Int64) (Q : Option Value → sm_M → Prop) (x1 : Int32) (x2 : Int32) (x3 : Int32) :
    sm_wp X 13 26 [some (.ref 71), some (.int x1), some (.int x2), some (.int x3), none] [] (sM mo G I J) Q =
    (sm_wp X 13 4 [some (.ref 71), some (.int x1), some (.int x2), some (.int (x3 + 1)), none] [] (sM mo G I J) Q) :=
  (sm_blk X 13 26 (tt_lin 13 (by decide)) rfl rfl _ _ _ _).trans rfl
set_option maxRecDepth 100000 in
theorem bk_13_32 (X : (Nat → Int32) × Nat) (mo : Bool) (G : Nat × Nat) (I : Nat → Nat → Int32) (J : Nat → Nat → Int64) (Q : Option Value → sm_M → Prop) (x1 : Int32) (x2 : Int32) (x3 : Int32) :
    sm_wp X 13 32 [some (.ref 71), some (.int x1), some (.int x2), some (.int x3), none] [] (sM mo G I J) Q =
    (sm_wp X 13 34 [some (.ref 71), some (.int x1), some (.int x2), some (.int 0), none] [] (sM mo G I J) Q) :=
  (sm_blk X 13 32 (tt_lin 13 (by decide)) rfl rfl _ _ _ _).trans rfl
set_option maxRecDepth 100000 in
theorem bk_13_34 (X : (Nat → Int32) × Nat) (mo : Bool) (G : Nat × Nat) (I : Nat → Nat → Int32) (J : Nat → Nat → Int64) (Q : Option Value → sm_M → Prop) (x1 : Int32) (x2 : Int32) (x3 : Int32) :
    sm_wp X 13 34 [some (.ref 71), some (.int x1), some (.int x2), some (.int x3), none] [] (sM mo G I J) Q =
    (if (8 : Int32) ≤ (x3 : Int32) then sm_wp X 13 90 [some (.ref 71), some (.int x1), some (.int x2), some (.int x3), none] [] (sM mo G I J) Q else (sm_wp X 13 43 [some (.ref 71), some (.int x1), some (.int x2), some (.int x3), some (.int 0)] [] (sM mo G I J) Q)) :=
  (sm_blk X 13 34 (tt_lin 13 (by decide)) rfl rfl _ _ _ _).trans rfl
set_option maxRecDepth 100000 in
theorem bk_13_43 (X : (Nat → Int32) × Nat) (mo : Bool) (G : Nat × Nat) (I : Nat → Nat → Int32) (J : Nat → Nat → Int64) (Q : Option Value → sm_M → Prop) (x1 : Int32) (x2 : Int32) (x3 : Int32) (x4 : Int32) :
    sm_wp X 13 43 [some (.ref 71), some (.int x1), some (.int x2), some (.int x3), some (.int x4)] [] (sM mo G I J) Q =
    (if (I 71 0 : Int32) ≤ (x4 : Int32) then sm_wp X 13 84 [some (.ref 71), some (.int x1), some (.int x2), some (.int x3), some (.int x4)] [] (sM mo G I J) Q else (if (8 : Int32) ≤ (x4 : Int32) then sm_wp X 13 84 [some (.ref 71), some (.int x1), some (.int x2), some (.int x3), some (.int x4)] [] (sM mo G I J) Q else (vp_in x4 8 ∧ (if ((I 74 (x4.toNatClampNeg)) &&& x2 : Int32) = 0 then sm_wp X 13 78 [some (.ref 71), some (.int x1), some (.int x2), some (.int x3), some (.int x4)] [] (sM mo G I J) Q else (sm_wp X 13 43 [some (.ref 71), some (.int x1), some (.int (x2 ||| (1 <<< (x4 &&& 31)))), some (.int x3), some (.int (x4 + 1))] [] (sM mo G I J) Q))))) :=
  (sm_blk X 13 43 (tt_lin 13 (by decide)) rfl rfl _ _ _ _).trans rfl
set_option maxRecDepth 100000 in
theorem bk_13_78 (X : (Nat → Int32) × Nat) (mo : Bool) (G : Nat × Nat) (I : Nat → Nat → Int32) (J : Nat → Nat → Int64) (Q : Option Value → sm_M → Prop) (x1 : Int32) (x2 : Int32) (x3 : Int32) (x4 : Int32) :
    sm_wp X 13 78 [some (.ref 71), some (.int x1), some (.int x2), some (.int x3), some (.int x4)] [] (sM mo G I J) Q =
    (sm_wp X 13 43 [some (.ref 71), some (.int x1), some (.int x2), some (.int x3), some (.int (x4 + 1))] [] (sM mo G I J) Q) :=
  (sm_blk X 13 78 (tt_lin 13 (by decide)) rfl rfl _ _ _ _).trans rfl
set_option maxRecDepth 100000 in
theorem bk_13_84 (X : (Nat → Int32) × Nat) (mo : Bool) (G : Nat × Nat) (I : Nat → Nat → Int32) (J : Nat → Nat → Int64) (Q : Option Value → sm_M → Prop) (x1 : Int32) (x2 : Int32) (x3 : Int32) (x4 : Int32) :
    sm_wp X 13 84 [some (.ref 71), some (.int x1), some (.int x2), some (.int x3), some (.int x4)] [] (sM mo G I J) Q =
    (sm_wp X 13 34 [some (.ref 71), some (.int x1), some (.int x2), some (.int (x3 + 1)), none] [] (sM mo G I J) Q) :=
  (sm_blk X 13 84 (tt_lin 13 (by decide)) rfl rfl _ _ _ _).trans rfl
set_option maxRecDepth 100000 in
theorem bk_13_90 (X : (Nat → Int32) × Nat) (mo : Bool) (G : Nat × Nat) (I : Nat → Nat → Int32) (J : Nat → Nat → Int64) (Q : Option Value → sm_M → Prop) (x1 : Int32) (x2 : Int32) (x3 : Int32) :
    sm_wp X 13 90 [some (.ref 71), some (.int x1), some (.int x2), some (.int x3), none] [] (sM mo G I J) Q =
    (sm_wp X 169 0 [some (.int x2), some (.int x1)] [] (sM mo G I J) (fun v M => sm_wp X 13 95 [some (.ref 71), some (.int x1), some (.int x2), some (.int x3), none] (v.toList ++ []) M Q)) :=
  (sm_blk X 13 90 (tt_lin 13 (by decide)) rfl rfl _ _ _ _).trans rfl
set_option maxRecDepth 100000 in
theorem bk_13_95 (X : (Nat → Int32) × Nat) (mo : Bool) (G : Nat × Nat) (I : Nat → Nat → Int32) (J : Nat → Nat → Int64) (Q : Option Value → sm_M → Prop) (x1 : Int32) (x2 : Int32) (x3 : Int32) (s0 : Int32) :
    sm_wp X 13 95 [some (.ref 71), some (.int x1), some (.int x2), some (.int x3), none] [.int s0] (sM mo G I J) Q =
    (sm_zb s0 ∧ Q (some (.int s0)) (sM mo G I J)) :=
  (sm_blk X 13 95 (tt_lin 13 (by decide)) rfl rfl _ _ _ _).trans rfl
set_option maxRecDepth 100000 in
theorem bk_14_0 (X : (Nat → Int32) × Nat) (mo : Bool) (G : Nat × Nat) (I : Nat → Nat → Int32) (J : Nat → Nat → Int64) (Q : Option Value → sm_M → Prop) (x1 : Int32) :
    sm_wp X 14 0 [some (.ref 71), some (.int x1), none, none, none, none] [] (sM mo G I J) Q =
    (sm_wp X 10 0 [some (.ref 71), some (.int x1), none, none, none] [] (sM mo G I J) (fun v M => sm_wp X 14 5 [some (.ref 71), some (.int x1), none, none, none, none] (v.toList ++ []) M Q)) :=
  (sm_blk X 14 0 (tt_lin 14 (by decide)) rfl rfl _ _ _ _).trans rfl
set_option maxRecDepth 100000 in
theorem bk_14_5 (X : (Nat → Int32) × Nat) (mo : Bool) (G : Nat × Nat) (I : Nat → Nat → Int32) (J : Nat → Nat → Int64) (Q : Option Value → sm_M → Prop) (x1 : Int32) (s0 : Int32) :
    sm_wp X 14 5 [some (.ref 71), some (.int x1), none, none, none, none] [.int s0] (sM mo G I J) Q =
    (sm_wp X 15 0 [some (.ref 71), some (.int x1), some (.int s0), none] [] (sM mo G I J) (fun v M => sm_wp X 14 12 [some (.ref 71), some (.int x1), some (.int s0), none, none, none] (v.toList ++ []) M Q)) :=
  (sm_blk X 14 5 (tt_lin 14 (by decide)) rfl rfl _ _ _ _).trans rfl
set_option maxRecDepth 100000 in
theorem bk_14_12 (X : (Nat → Int32) × Nat) (mo : Bool) (G : Nat × Nat) (I : Nat → Nat → Int32) (J : Nat → Nat → Int64) (Q : Option Value → sm_M → Prop) (x1 : Int32) (x2 : Int32) :
    sm_wp X 14 12 [some (.ref 71), some (.int x1), some (.int x2), none, none, none] [] (sM mo G I J) Q =
    (sm_wp X 17 0 [some (.ref 71), some (.int x1), none, none] [] (sM mo G I J) (fun v M => sm_wp X 14 17 [some (.ref 71), some (.int x1), some (.int x2), none, none, none] (v.toList ++ []) M Q)) :=
  (sm_blk X 14 12 (tt_lin 14 (by decide)) rfl rfl _ _ _ _).trans rfl
set_option maxRecDepth 100000 in
theorem bk_14_17 (X : (Nat → Int32) × Nat) (mo : Bool) (G : Nat × Nat) (I : Nat → Nat → Int32) (J : Nat → Nat → Int64) (Q : Option Value → sm_M → Prop) (x1 : Int32) (x2 : Int32) (s0 : Int32) :
    sm_wp X 14 17 [some (.ref 71), some (.int x1), some (.int x2), none, none, none] [.int s0] (sM mo G I J) Q =
    (sm_wp X 7 0 [some (.ref 71), some (.int x1), some (.int x2)] [] (sM mo G I J) (fun v M => sm_wp X 14 24 [some (.ref 71), some (.int x1), some (.int x2), some (.int s0), none, none] (v.toList ++ []) M Q)) :=
  (sm_blk X 14 17 (tt_lin 14 (by decide)) rfl rfl _ _ _ _).trans rfl
set_option maxRecDepth 100000 in
theorem bk_14_24 (X : (Nat → Int32) × Nat) (mo : Bool) (G : Nat × Nat) (I : Nat → Nat → Int32) (J : Nat → Nat → Int64) (Q : Option Value → sm_M → Prop) (x1 : Int32) (x2 : Int32) (x3 : Int32) (s0 : Int32) :
    sm_wp X 14 24 [some (.ref 71), some (.int x1), some (.int x2), some (.int x3), none, none] [.int s0] (sM mo G I J) Q =
    (sm_wp X 14 29 [some (.ref 71), none, none, some (.int x3), some (.int s0), some (.int 0)] [] (sM mo G I J) Q) :=
  (sm_blk X 14 24 (tt_lin 14 (by decide)) rfl rfl _ _ _ _).trans rfl
set_option maxRecDepth 100000 in
theorem bk_14_29 (X : (Nat → Int32) × Nat) (mo : Bool) (G : Nat × Nat) (I : Nat → Nat → Int32) (J : Nat → Nat → Int64) (Q : Option Value → sm_M → Prop) (x3 : Int32) (x4 : Int32) (x5 : Int32) :
    sm_wp X 14 29 [some (.ref 71), none, none, some (.int x3), some (.int x4), some (.int x5)] [] (sM mo G I J) Q =
    (if (x4 : Int32) ≤ (x5 : Int32) then sm_wp X 14 65 [some (.ref 71), none, none, some (.int x3), some (.int x4), some (.int x5)] [] (sM mo G I J) Q else (if (8 : Int32) ≤ (x5 : Int32) then sm_wp X 14 65 [some (.ref 71), none, none, some (.int x3), some (.int x4), some (.int x5)] [] (sM mo G I J) Q else (vp_in x5 8 ∧ (sm_wp X 18 0 [some (.int (I 80 (x5.toNatClampNeg))), some (.int x3)] [] (sM mo G I J) (fun v M => sm_wp X 14 54 [some (.ref 71), none, none, some (.int x3), some (.int x4), some (.int x5)] (v.toList ++ []) M Q))))) :=
  (sm_blk X 14 29 (tt_lin 14 (by decide)) rfl rfl _ _ _ _).trans rfl
set_option maxRecDepth 100000 in
theorem bk_14_54 (X : (Nat → Int32) × Nat) (mo : Bool) (G : Nat × Nat) (I : Nat → Nat → Int32) (J : Nat → Nat → Int64) (Q : Option Value → sm_M → Prop) (x3 : Int32) (x4 : Int32) (x5 : Int32) (s0 : Int32) :
    sm_wp X 14 54 [some (.ref 71), none, none, some (.int x3), some (.int x4), some (.int x5)] [.int s0] (sM mo G I J) Q =
    (if ¬ (s0 : Int32) = 0 then sm_wp X 14 59 [some (.ref 71), none, none, some (.int x3), some (.int x4), some (.int x5)] [] (sM mo G I J) Q else (sm_zb 1 ∧ Q (some (.int 1)) (sM mo G I J))) :=
  (sm_blk X 14 54 (tt_lin 14 (by decide)) rfl rfl _ _ _ _).trans rfl
set_option maxRecDepth 100000 in
theorem bk_14_59 (X : (Nat → Int32) × Nat) (mo : Bool) (G : Nat × Nat) (I : Nat → Nat → Int32) (J : Nat → Nat → Int64) (Q : Option Value → sm_M → Prop) (x3 : Int32) (x4 : Int32) (x5 : Int32) :
    sm_wp X 14 59 [some (.ref 71), none, none, some (.int x3), some (.int x4), some (.int x5)] [] (sM mo G I J) Q =
    (sm_wp X 14 29 [some (.ref 71), none, none, some (.int x3), some (.int x4), some (.int (x5 + 1))] [] (sM mo G I J) Q) :=
  (sm_blk X 14 59 (tt_lin 14 (by decide)) rfl rfl _ _ _ _).trans rfl
set_option maxRecDepth 100000 in
theorem bk_14_65 (X : (Nat → Int32) × Nat) (mo : Bool) (G : Nat × Nat) (I : Nat → Nat → Int32) (J : Nat → Nat → Int64) (Q : Option Value → sm_M → Prop) (x3 : Int32) (x4 : Int32) (x5 : Int32) :
    sm_wp X 14 65 [some (.ref 71), none, none, some (.int x3), some (.int x4), some (.int x5)] [] (sM mo G I J) Q =
    (if ¬ (x3 : Int32) = 0 then sm_wp X 14 73 [some (.ref 71), none, none, some (.int x3), some (.int x4), some (.int x5)] [] (sM mo G I J) Q else (sm_wp X 14 74 [some (.ref 71), none, none, some (.int x3), some (.int x4), some (.int x5)] [.int 1] (sM mo G I J) Q)) :=
  (sm_blk X 14 65 (tt_lin 14 (by decide)) rfl rfl _ _ _ _).trans rfl
set_option maxRecDepth 100000 in
theorem bk_14_73 (X : (Nat → Int32) × Nat) (mo : Bool) (G : Nat × Nat) (I : Nat → Nat → Int32) (J : Nat → Nat → Int64) (Q : Option Value → sm_M → Prop) (x3 : Int32) (x4 : Int32) (x5 : Int32) :
    sm_wp X 14 73 [some (.ref 71), none, none, some (.int x3), some (.int x4), some (.int x5)] [] (sM mo G I J) Q =
    (sm_zb 0 ∧ Q (some (.int 0)) (sM mo G I J)) :=
  (sm_blk X 14 73 (tt_lin 14 (by decide)) rfl rfl _ _ _ _).trans rfl
set_option maxRecDepth 100000 in
theorem bk_14_74 (X : (Nat → Int32) × Nat) (mo : Bool) (G : Nat × Nat) (I : Nat → Nat → Int32) (J : Nat → Nat → Int64) (Q : Option Value → sm_M → Prop) (x3 : Int32) (x4 : Int32) (x5 : Int32) (s0 : Int32) :
    sm_wp X 14 74 [some (.ref 71), none, none, some (.int x3), some (.int x4), some (.int x5)] [.int s0] (sM mo G I J) Q =
    (sm_zb s0 ∧ Q (some (.int s0)) (sM mo G I J)) :=
  (sm_blk X 14 74 (tt_lin 14 (by decide)) rfl rfl _ _ _ _).trans rfl
set_option maxRecDepth 100000 in
theorem bk_15_0 (X : (Nat → Int32) × Nat) (mo : Bool) (G : Nat × Nat) (I : Nat → Nat → Int32) (J : Nat → Nat → Int64) (Q : Option Value → sm_M → Prop) (x1 : Int32) (x2 : Int32) :
    sm_wp X 15 0 [some (.ref 71), some (.int x1), some (.int x2), none] [] (sM mo G I J) Q =
    (sm_wp X 15 2 [some (.ref 71), some (.int x1), some (.int x2), some (.int 0)] [] (sM mo G I J) Q) :=
  (sm_blk X 15 0 (tt_lin 15 (by decide)) rfl rfl _ _ _ _).trans rfl
set_option maxRecDepth 100000 in
theorem bk_15_2 (X : (Nat → Int32) × Nat) (mo : Bool) (G : Nat × Nat) (I : Nat → Nat → Int32) (J : Nat → Nat → Int64) (Q : Option Value → sm_M → Prop) (x1 : Int32) (x2 : Int32) (x3 : Int32) :
    sm_wp X 15 2 [some (.ref 71), some (.int x1), some (.int x2), some (.int x3)] [] (sM mo G I J) Q =
    (if (8 : Int32) ≤ (x3 : Int32) then sm_wp X 15 21 [some (.ref 71), some (.int x1), some (.int x2), some (.int x3)] [] (sM mo G I J) Q else (vp_in x3 8 ∧ (sm_wp X 15 2 [some (.ref 71), some (.int x1), some (.int x2), some (.int (x3 + 1))] [] (sM mo G (up2 I 80 x3.toNatClampNeg 0) J) Q))) :=
  (sm_blk X 15 2 (tt_lin 15 (by decide)) rfl rfl _ _ _ _).trans rfl
set_option maxRecDepth 100000 in
theorem bk_15_21 (X : (Nat → Int32) × Nat) (mo : Bool) (G : Nat × Nat) (I : Nat → Nat → Int32) (J : Nat → Nat → Int64) (Q : Option Value → sm_M → Prop) (x1 : Int32) (x2 : Int32) (x3 : Int32) :
    sm_wp X 15 21 [some (.ref 71), some (.int x1), some (.int x2), some (.int x3)] [] (sM mo G I J) Q =
    (sm_wp X 15 23 [some (.ref 71), some (.int x1), some (.int x2), some (.int 0)] [] (sM mo G I J) Q) :=
  (sm_blk X 15 21 (tt_lin 15 (by decide)) rfl rfl _ _ _ _).trans rfl
set_option maxRecDepth 100000 in
theorem bk_15_23 (X : (Nat → Int32) × Nat) (mo : Bool) (G : Nat × Nat) (I : Nat → Nat → Int32) (J : Nat → Nat → Int64) (Q : Option Value → sm_M → Prop) (x1 : Int32) (x2 : Int32) (x3 : Int32) :
    sm_wp X 15 23 [some (.ref 71), some (.int x1), some (.int x2), some (.int x3)] [] (sM mo G I J) Q =
    (if (6 : Int32) ≤ (x3 : Int32) then sm_wp X 15 68 [some (.ref 71), some (.int x1), some (.int x2), some (.int x3)] [] (sM mo G I J) Q else (sm_wp X 11 0 [some (.ref 71), some (.int x1), some (.int x3)] [] (sM mo G I J) (fun v M => sm_wp X 15 35 [some (.ref 71), some (.int x1), some (.int x2), some (.int x3)] (v.toList ++ []) M Q))) :=
  (sm_blk X 15 23 (tt_lin 15 (by decide)) rfl rfl _ _ _ _).trans rfl
set_option maxRecDepth 100000 in
theorem bk_15_35 (X : (Nat → Int32) × Nat) (mo : Bool) (G : Nat × Nat) (I : Nat → Nat → Int32) (J : Nat → Nat → Int64) (Q : Option Value → sm_M → Prop) (x1 : Int32) (x2 : Int32) (x3 : Int32) (s0 : Int32) :
    sm_wp X 15 35 [some (.ref 71), some (.int x1), some (.int x2), some (.int x3)] [.int s0] (sM mo G I J) Q =
    (if (s0 : Int32) = 0 then sm_wp X 15 62 [some (.ref 71), some (.int x1), some (.int x2), some (.int x3)] [] (sM mo G I J) Q else (sm_wp X 8 0 [some (.ref 71), some (.int x1), some (.int x2), some (.int x3), none, none, none, none, none, none, none] [] (sM mo G I J) (fun v M => sm_wp X 15 45 [some (.ref 71), some (.int x1), some (.int x2), some (.int x3)] (v.toList ++ []) M Q))) :=
  (sm_blk X 15 35 (tt_lin 15 (by decide)) rfl rfl _ _ _ _).trans rfl
set_option maxRecDepth 100000 in
theorem bk_15_45 (X : (Nat → Int32) × Nat) (mo : Bool) (G : Nat × Nat) (I : Nat → Nat → Int32) (J : Nat → Nat → Int64) (Q : Option Value → sm_M → Prop) (x1 : Int32) (x2 : Int32) (x3 : Int32) (s0 : Int32) :
    sm_wp X 15 45 [some (.ref 71), some (.int x1), some (.int x2), some (.int x3)] [.int s0] (sM mo G I J) Q =
    (sm_wp X 7 0 [some (.ref 71), some (.int x1), some (.int x2)] [] (sM mo G I J) (fun v M => sm_wp X 15 53 [some (.ref 71), some (.int x1), some (.int x2), some (.int x3)] (v.toList ++ [.ref 71]) M Q)) :=
  (sm_blk X 15 45 (tt_lin 15 (by decide)) rfl rfl _ _ _ _).trans rfl
set_option maxRecDepth 100000 in
theorem bk_15_53 (X : (Nat → Int32) × Nat) (mo : Bool) (G : Nat × Nat) (I : Nat → Nat → Int32) (J : Nat → Nat → Int64) (Q : Option Value → sm_M → Prop) (x1 : Int32) (x2 : Int32) (x3 : Int32) (s1 : Int32) :
    sm_wp X 15 53 [some (.ref 71), some (.int x1), some (.int x2), some (.int x3)] [.int s1, .ref 71] (sM mo G I J) Q =
    (sm_wp X 7 0 [some (.ref 71), some (.int x1), some (.int x3)] [] (sM mo G I J) (fun v M => sm_wp X 15 59 [some (.ref 71), some (.int x1), some (.int x2), some (.int x3)] (v.toList ++ [.int s1, .ref 71]) M Q)) :=
  (sm_blk X 15 53 (tt_lin 15 (by decide)) rfl rfl _ _ _ _).trans rfl
set_option maxRecDepth 100000 in
theorem bk_15_59 (X : (Nat → Int32) × Nat) (mo : Bool) (G : Nat × Nat) (I : Nat → Nat → Int32) (J : Nat → Nat → Int64) (Q : Option Value → sm_M → Prop) (x1 : Int32) (x2 : Int32) (x3 : Int32) (s1 : Int32) (s2 : Int32) :
    sm_wp X 15 59 [some (.ref 71), some (.int x1), some (.int x2), some (.int x3)] [.int s2, .int s1, .ref 71] (sM mo G I J) Q =
    (sm_wp X 16 0 [some (.ref 71), some (.int s1), some (.int s2), none, none, none, none, none] [] (sM mo G I J) (fun v M => sm_wp X 15 62 [some (.ref 71), some (.int x1), some (.int x2), some (.int x3)] (v.toList ++ []) M Q)) :=
  (sm_blk X 15 59 (tt_lin 15 (by decide)) rfl rfl _ _ _ _).trans rfl
set_option maxRecDepth 100000 in
theorem bk_15_62 (X : (Nat → Int32) × Nat) (mo : Bool) (G : Nat × Nat) (I : Nat → Nat → Int32) (J : Nat → Nat → Int64) (Q : Option Value → sm_M → Prop) (x1 : Int32) (x2 : Int32) (x3 : Int32) :
    sm_wp X 15 62 [some (.ref 71), some (.int x1), some (.int x2), some (.int x3)] [] (sM mo G I J) Q =
    (sm_wp X 15 23 [some (.ref 71), some (.int x1), some (.int x2), some (.int (x3 + 1))] [] (sM mo G I J) Q) :=
  (sm_blk X 15 62 (tt_lin 15 (by decide)) rfl rfl _ _ _ _).trans rfl
set_option maxRecDepth 100000 in
theorem bk_15_68 (X : (Nat → Int32) × Nat) (mo : Bool) (G : Nat × Nat) (I : Nat → Nat → Int32) (J : Nat → Nat → Int64) (Q : Option Value → sm_M → Prop) (x1 : Int32) (x2 : Int32) (x3 : Int32) :
    sm_wp X 15 68 [some (.ref 71), some (.int x1), some (.int x2), some (.int x3)] [] (sM mo G I J) Q =
    (True ∧ Q none (sM mo G I J)) :=
  (sm_blk X 15 68 (tt_lin 15 (by decide)) rfl rfl _ _ _ _).trans rfl
set_option maxRecDepth 100000 in
theorem bk_16_0 (X : (Nat → Int32) × Nat) (mo : Bool) (G : Nat × Nat) (I : Nat → Nat → Int32) (J : Nat → Nat → Int64) (Q : Option Value → sm_M → Prop) (x1 : Int32) (x2 : Int32) :
    sm_wp X 16 0 [some (.ref 71), some (.int x1), some (.int x2), none, none, none, none, none] [] (sM mo G I J) Q =
    (sm_wp X 16 8 [some (.ref 71), some (.int x1), some (.int x2), some (.int 0), some (.int 0), some (.int 0), none, none] [] (sM mo G I J) Q) :=
  (sm_blk X 16 0 (tt_lin 16 (by decide)) rfl rfl _ _ _ _).trans rfl
set_option maxRecDepth 100000 in
theorem bk_16_8 (X : (Nat → Int32) × Nat) (mo : Bool) (G : Nat × Nat) (I : Nat → Nat → Int32) (J : Nat → Nat → Int64) (Q : Option Value → sm_M → Prop) (x1 : Int32) (x2 : Int32) (x3 : Int32) (x4 : Int32) (x5 : Int32) :
    sm_wp X 16 8 [some (.ref 71), some (.int x1), some (.int x2), some (.int x3), some (.int x4), some (.int x5), none, none] [] (sM mo G I J) Q =
    (if (16 : Int32) ≤ (x5 : Int32) then sm_wp X 16 159 [some (.ref 71), some (.int x1), some (.int x2), some (.int x3), some (.int x4), some (.int x5), none, none] [] (sM mo G I J) Q else (if (x1 : Int32) ≤ (x3 : Int32) then sm_wp X 16 39 [some (.ref 71), some (.int x1), some (.int x2), some (.int x3), some (.int x4), some (.int x5), none, none] [] (sM mo G I J) Q else (if (8 : Int32) ≤ (x3 : Int32) then sm_wp X 16 39 [some (.ref 71), some (.int x1), some (.int x2), some (.int x3), some (.int x4), some (.int x5), none, none] [] (sM mo G I J) Q else (if (x2 : Int32) ≤ (x4 : Int32) then sm_wp X 16 39 [some (.ref 71), some (.int x1), some (.int x2), some (.int x3), some (.int x4), some (.int x5), none, none] [] (sM mo G I J) Q else (if (x4 : Int32) < (8 : Int32) then sm_wp X 16 40 [some (.ref 71), some (.int x1), some (.int x2), some (.int x3), some (.int x4), some (.int x5), none, none] [] (sM mo G I J) Q else (True ∧ Q none (sM mo G I J))))))) :=
  (sm_blk X 16 8 (tt_lin 16 (by decide)) rfl rfl _ _ _ _).trans rfl
set_option maxRecDepth 100000 in
theorem bk_16_39 (X : (Nat → Int32) × Nat) (mo : Bool) (G : Nat × Nat) (I : Nat → Nat → Int32) (J : Nat → Nat → Int64) (Q : Option Value → sm_M → Prop) (x1 : Int32) (x2 : Int32) (x3 : Int32) (x4 : Int32) (x5 : Int32) :
    sm_wp X 16 39 [some (.ref 71), some (.int x1), some (.int x2), some (.int x3), some (.int x4), some (.int x5), none, none] [] (sM mo G I J) Q =
    (True ∧ Q none (sM mo G I J)) :=
  (sm_blk X 16 39 (tt_lin 16 (by decide)) rfl rfl _ _ _ _).trans rfl
set_option maxRecDepth 100000 in
theorem bk_16_40 (X : (Nat → Int32) × Nat) (mo : Bool) (G : Nat × Nat) (I : Nat → Nat → Int32) (J : Nat → Nat → Int64) (Q : Option Value → sm_M → Prop) (x1 : Int32) (x2 : Int32) (x3 : Int32) (x4 : Int32) (x5 : Int32) :
    sm_wp X 16 40 [some (.ref 71), some (.int x1), some (.int x2), some (.int x3), some (.int x4), some (.int x5), none, none] [] (sM mo G I J) Q =
    (vp_in ((x3 * 9) + x4) 81 ∧ (vp_in x3 8 ∧ (vp_in x4 8 ∧ (if ¬ (I 76 (x3.toNatClampNeg) : Int32) = (I 77 (x4.toNatClampNeg) : Int32) then sm_wp X 16 74 [some (.ref 71), some (.int x1), some (.int x2), some (.int x3), some (.int x4), some (.int x5), some (.int (I 78 (((x3 * 9) + x4).toNatClampNeg))), none] [] (sM mo G I J) Q else (sm_wp X 16 75 [some (.ref 71), some (.int x1), some (.int x2), some (.int x3), some (.int x4), some (.int x5), some (.int (I 78 (((x3 * 9) + x4).toNatClampNeg))), none] [.int 0] (sM mo G I J) Q))))) :=
  (sm_blk X 16 40 (tt_lin 16 (by decide)) rfl rfl _ _ _ _).trans rfl
set_option maxRecDepth 100000 in
theorem bk_16_74 (X : (Nat → Int32) × Nat) (mo : Bool) (G : Nat × Nat) (I : Nat → Nat → Int32) (J : Nat → Nat → Int64) (Q : Option Value → sm_M → Prop) (x1 : Int32) (x2 : Int32) (x3 : Int32) (x4 : Int32) (x5 : Int32) (x6 : Int32) :
    sm_wp X 16 74 [some (.ref 71), some (.int x1), some (.int x2), some (.int x3), some (.int x4), some (.int x5), some (.int x6), none] [] (sM mo G I J) Q =
    (vp_in ((((x3 + 1) * 9) + x4) + 1) 81 ∧ (if ¬ (x6 : Int32) = (1 + (I 78 (((((x3 + 1) * 9) + x4) + 1).toNatClampNeg)) : Int32) then sm_wp X 16 123 [some (.ref 71), some (.int x1), some (.int x2), some (.int x3), some (.int x4), some (.int x5), some (.int x6), some (.int 1)] [] (sM mo G I J) Q else (vp_in x3 8 ∧ (vp_in x3 8 ∧ (sm_wp X 16 153 [some (.ref 71), some (.int x1), some (.int x2), some (.int (x3 + 1)), some (.int (x4 + 1)), some (.int x5), some (.int x6), some (.int 1)] [] (sM mo G (up2 I 80 x3.toNatClampNeg ((I 80 (x3.toNatClampNeg)) + (1 - 1))) J) Q))))) :=
  (sm_blk X 16 74 (tt_lin 16 (by decide)) rfl rfl _ _ _ _).trans rfl
set_option maxRecDepth 100000 in
theorem bk_16_75 (X : (Nat → Int32) × Nat) (mo : Bool) (G : Nat × Nat) (I : Nat → Nat → Int32) (J : Nat → Nat → Int64) (Q : Option Value → sm_M → Prop) (x1 : Int32) (x2 : Int32) (x3 : Int32) (x4 : Int32) (x5 : Int32) (x6 : Int32) (s0 : Int32) :
    sm_wp X 16 75 [some (.ref 71), some (.int x1), some (.int x2), some (.int x3), some (.int x4), some (.int x5), some (.int x6), none] [.int s0] (sM mo G I J) Q =
    (vp_in ((((x3 + 1) * 9) + x4) + 1) 81 ∧ (if ¬ (x6 : Int32) = (s0 + (I 78 (((((x3 + 1) * 9) + x4) + 1).toNatClampNeg)) : Int32) then sm_wp X 16 123 [some (.ref 71), some (.int x1), some (.int x2), some (.int x3), some (.int x4), some (.int x5), some (.int x6), some (.int s0)] [] (sM mo G I J) Q else (vp_in x3 8 ∧ (vp_in x3 8 ∧ (sm_wp X 16 153 [some (.ref 71), some (.int x1), some (.int x2), some (.int (x3 + 1)), some (.int (x4 + 1)), some (.int x5), some (.int x6), some (.int s0)] [] (sM mo G (up2 I 80 x3.toNatClampNeg ((I 80 (x3.toNatClampNeg)) + (1 - s0))) J) Q))))) :=
  (sm_blk X 16 75 (tt_lin 16 (by decide)) rfl rfl _ _ _ _).trans rfl
set_option maxRecDepth 100000 in
theorem bk_16_123 (X : (Nat → Int32) × Nat) (mo : Bool) (G : Nat × Nat) (I : Nat → Nat → Int32) (J : Nat → Nat → Int64) (Q : Option Value → sm_M → Prop) (x1 : Int32) (x2 : Int32) (x3 : Int32) (x4 : Int32) (x5 : Int32) (x6 : Int32) (x7 : Int32) :
    sm_wp X 16 123 [some (.ref 71), some (.int x1), some (.int x2), some (.int x3), some (.int x4), some (.int x5), some (.int x6), some (.int x7)] [] (sM mo G I J) Q =
    (vp_in (((x3 + 1) * 9) + x4) 81 ∧ (if ¬ (x6 : Int32) = (1 + (I 78 ((((x3 + 1) * 9) + x4).toNatClampNeg)) : Int32) then sm_wp X 16 150 [some (.ref 71), some (.int x1), some (.int x2), some (.int x3), some (.int x4), some (.int x5), some (.int x6), some (.int x7)] [] (sM mo G I J) Q else (sm_wp X 16 153 [some (.ref 71), some (.int x1), some (.int x2), some (.int (x3 + 1)), some (.int x4), some (.int x5), some (.int x6), some (.int x7)] [] (sM mo G I J) Q))) :=
  (sm_blk X 16 123 (tt_lin 16 (by decide)) rfl rfl _ _ _ _).trans rfl
set_option maxRecDepth 100000 in
theorem bk_16_150 (X : (Nat → Int32) × Nat) (mo : Bool) (G : Nat × Nat) (I : Nat → Nat → Int32) (J : Nat → Nat → Int64) (Q : Option Value → sm_M → Prop) (x1 : Int32) (x2 : Int32) (x3 : Int32) (x4 : Int32) (x5 : Int32) (x6 : Int32) (x7 : Int32) :
    sm_wp X 16 150 [some (.ref 71), some (.int x1), some (.int x2), some (.int x3), some (.int x4), some (.int x5), some (.int x6), some (.int x7)] [] (sM mo G I J) Q =
    (sm_wp X 16 8 [some (.ref 71), some (.int x1), some (.int x2), some (.int x3), some (.int (x4 + 1)), some (.int (x5 + 1)), none, none] [] (sM mo G I J) Q) :=
  (sm_blk X 16 150 (tt_lin 16 (by decide)) rfl rfl _ _ _ _).trans rfl
set_option maxRecDepth 100000 in
theorem bk_16_153 (X : (Nat → Int32) × Nat) (mo : Bool) (G : Nat × Nat) (I : Nat → Nat → Int32) (J : Nat → Nat → Int64) (Q : Option Value → sm_M → Prop) (x1 : Int32) (x2 : Int32) (x3 : Int32) (x4 : Int32) (x5 : Int32) (x6 : Int32) (x7 : Int32) :
    sm_wp X 16 153 [some (.ref 71), some (.int x1), some (.int x2), some (.int x3), some (.int x4), some (.int x5), some (.int x6), some (.int x7)] [] (sM mo G I J) Q =
    (sm_wp X 16 8 [some (.ref 71), some (.int x1), some (.int x2), some (.int x3), some (.int x4), some (.int (x5 + 1)), none, none] [] (sM mo G I J) Q) :=
  (sm_blk X 16 153 (tt_lin 16 (by decide)) rfl rfl _ _ _ _).trans rfl
set_option maxRecDepth 100000 in
theorem bk_16_159 (X : (Nat → Int32) × Nat) (mo : Bool) (G : Nat × Nat) (I : Nat → Nat → Int32) (J : Nat → Nat → Int64) (Q : Option Value → sm_M → Prop) (x1 : Int32) (x2 : Int32) (x3 : Int32) (x4 : Int32) (x5 : Int32) :
    sm_wp X 16 159 [some (.ref 71), some (.int x1), some (.int x2), some (.int x3), some (.int x4), some (.int x5), none, none] [] (sM mo G I J) Q =
    (True ∧ Q none (sM mo G I J)) :=
  (sm_blk X 16 159 (tt_lin 16 (by decide)) rfl rfl _ _ _ _).trans rfl
set_option maxRecDepth 100000 in
theorem bk_17_0 (X : (Nat → Int32) × Nat) (mo : Bool) (G : Nat × Nat) (I : Nat → Nat → Int32) (J : Nat → Nat → Int64) (Q : Option Value → sm_M → Prop) (x1 : Int32) :
    sm_wp X 17 0 [some (.ref 71), some (.int x1), none, none] [] (sM mo G I J) Q =
    (sm_wp X 17 4 [some (.ref 71), some (.int x1), some (.int 0), some (.int 0)] [] (sM mo G I J) Q) :=
  (sm_blk X 17 0 (tt_lin 17 (by decide)) rfl rfl _ _ _ _).trans rfl
set_option maxRecDepth 100000 in
theorem bk_17_4 (X : (Nat → Int32) × Nat) (mo : Bool) (G : Nat × Nat) (I : Nat → Nat → Int32) (J : Nat → Nat → Int64) (Q : Option Value → sm_M → Prop) (x1 : Int32) (x2 : Int32) (x3 : Int32) :
    sm_wp X 17 4 [some (.ref 71), some (.int x1), some (.int x2), some (.int x3)] [] (sM mo G I J) Q =
    (if (6 : Int32) ≤ (x3 : Int32) then sm_wp X 17 28 [some (.ref 71), some (.int x1), some (.int x2), some (.int x3)] [] (sM mo G I J) Q else (sm_wp X 11 0 [some (.ref 71), some (.int x1), some (.int x3)] [] (sM mo G I J) (fun v M => sm_wp X 17 16 [some (.ref 71), some (.int x1), some (.int x2), some (.int x3)] (v.toList ++ []) M Q))) :=
  (sm_blk X 17 4 (tt_lin 17 (by decide)) rfl rfl _ _ _ _).trans rfl
set_option maxRecDepth 100000 in
theorem bk_17_16 (X : (Nat → Int32) × Nat) (mo : Bool) (G : Nat × Nat) (I : Nat → Nat → Int32) (J : Nat → Nat → Int64) (Q : Option Value → sm_M → Prop) (x1 : Int32) (x2 : Int32) (x3 : Int32) (s0 : Int32) :
    sm_wp X 17 16 [some (.ref 71), some (.int x1), some (.int x2), some (.int x3)] [.int s0] (sM mo G I J) Q =
    (if (s0 : Int32) = 0 then sm_wp X 17 22 [some (.ref 71), some (.int x1), some (.int x2), some (.int x3)] [] (sM mo G I J) Q else (sm_wp X 17 4 [some (.ref 71), some (.int x1), some (.int (x2 + 1)), some (.int (x3 + 1))] [] (sM mo G I J) Q)) :=
  (sm_blk X 17 16 (tt_lin 17 (by decide)) rfl rfl _ _ _ _).trans rfl
set_option maxRecDepth 100000 in
theorem bk_17_22 (X : (Nat → Int32) × Nat) (mo : Bool) (G : Nat × Nat) (I : Nat → Nat → Int32) (J : Nat → Nat → Int64) (Q : Option Value → sm_M → Prop) (x1 : Int32) (x2 : Int32) (x3 : Int32) :
    sm_wp X 17 22 [some (.ref 71), some (.int x1), some (.int x2), some (.int x3)] [] (sM mo G I J) Q =
    (sm_wp X 17 4 [some (.ref 71), some (.int x1), some (.int x2), some (.int (x3 + 1))] [] (sM mo G I J) Q) :=
  (sm_blk X 17 22 (tt_lin 17 (by decide)) rfl rfl _ _ _ _).trans rfl
set_option maxRecDepth 100000 in
theorem bk_17_28 (X : (Nat → Int32) × Nat) (mo : Bool) (G : Nat × Nat) (I : Nat → Nat → Int32) (J : Nat → Nat → Int64) (Q : Option Value → sm_M → Prop) (x1 : Int32) (x2 : Int32) (x3 : Int32) :
    sm_wp X 17 28 [some (.ref 71), some (.int x1), some (.int x2), some (.int x3)] [] (sM mo G I J) Q =
    (True ∧ Q (some (.int x2)) (sM mo G I J)) :=
  (sm_blk X 17 28 (tt_lin 17 (by decide)) rfl rfl _ _ _ _).trans rfl
set_option maxRecDepth 100000 in
theorem bk_18_0 (X : (Nat → Int32) × Nat) (mo : Bool) (G : Nat × Nat) (I : Nat → Nat → Int32) (J : Nat → Nat → Int64) (Q : Option Value → sm_M → Prop) (x0 : Int32) (x1 : Int32) :
    sm_wp X 18 0 [some (.int x0), some (.int x1)] [] (sM mo G I J) Q =
    (if ¬ (x0 : Int32) = (x1 : Int32) then sm_wp X 18 7 [some (.int x0), some (.int x1)] [] (sM mo G I J) Q else (True ∧ Q (some (.int 2)) (sM mo G I J))) :=
  (sm_blk X 18 0 (tt_lin 18 (by decide)) rfl rfl _ _ _ _).trans rfl
set_option maxRecDepth 100000 in
theorem bk_18_7 (X : (Nat → Int32) × Nat) (mo : Bool) (G : Nat × Nat) (I : Nat → Nat → Int32) (J : Nat → Nat → Int64) (Q : Option Value → sm_M → Prop) (x0 : Int32) (x1 : Int32) :
    sm_wp X 18 7 [some (.int x0), some (.int x1)] [] (sM mo G I J) Q =
    (if (x1 : Int32) < (2 * x0 : Int32) then sm_wp X 18 18 [some (.int x0), some (.int x1)] [] (sM mo G I J) Q else (sm_wp X 18 19 [some (.int x0), some (.int x1)] [.int 0] (sM mo G I J) Q)) :=
  (sm_blk X 18 7 (tt_lin 18 (by decide)) rfl rfl _ _ _ _).trans rfl
set_option maxRecDepth 100000 in
theorem bk_18_18 (X : (Nat → Int32) × Nat) (mo : Bool) (G : Nat × Nat) (I : Nat → Nat → Int32) (J : Nat → Nat → Int64) (Q : Option Value → sm_M → Prop) (x0 : Int32) (x1 : Int32) :
    sm_wp X 18 18 [some (.int x0), some (.int x1)] [] (sM mo G I J) Q =
    (True ∧ Q (some (.int 1)) (sM mo G I J)) :=
  (sm_blk X 18 18 (tt_lin 18 (by decide)) rfl rfl _ _ _ _).trans rfl
set_option maxRecDepth 100000 in
theorem bk_18_19 (X : (Nat → Int32) × Nat) (mo : Bool) (G : Nat × Nat) (I : Nat → Nat → Int32) (J : Nat → Nat → Int64) (Q : Option Value → sm_M → Prop) (x0 : Int32) (x1 : Int32) (s0 : Int32) :
    sm_wp X 18 19 [some (.int x0), some (.int x1)] [.int s0] (sM mo G I J) Q =
    (True ∧ Q (some (.int s0)) (sM mo G I J)) :=
  (sm_blk X 18 19 (tt_lin 18 (by decide)) rfl rfl _ _ _ _).trans rfl
set_option maxRecDepth 100000 in
theorem bk_19_0 (X : (Nat → Int32) × Nat) (mo : Bool) (G : Nat × Nat) (I : Nat → Nat → Int32) (J : Nat → Nat → Int64) (Q : Option Value → sm_M → Prop) (x1 : Int32) :
    sm_wp X 19 0 [some (.ref 71), some (.int x1), none] [] (sM mo G I J) Q =
    (sm_wp X 2 0 [some (.ref 71), some (.int x1)] [] (sM mo G I J) (fun v M => sm_wp X 19 5 [some (.ref 71), some (.int x1), none] (v.toList ++ []) M Q)) :=
  (sm_blk X 19 0 (tt_lin 19 (by decide)) rfl rfl _ _ _ _).trans rfl
set_option maxRecDepth 100000 in
theorem bk_19_5 (X : (Nat → Int32) × Nat) (mo : Bool) (G : Nat × Nat) (I : Nat → Nat → Int32) (J : Nat → Nat → Int64) (Q : Option Value → sm_M → Prop) (x1 : Int32) (s0 : Int32) :
    sm_wp X 19 5 [some (.ref 71), some (.int x1), none] [.int s0] (sM mo G I J) Q =
    (if ¬ (s0 : Int32) = 0 then sm_wp X 19 10 [some (.ref 71), some (.int x1), none] [] (sM mo G I J) Q else (True ∧ Q (some (.int 0)) (sM mo G I J))) :=
  (sm_blk X 19 5 (tt_lin 19 (by decide)) rfl rfl _ _ _ _).trans rfl
set_option maxRecDepth 100000 in
theorem bk_19_10 (X : (Nat → Int32) × Nat) (mo : Bool) (G : Nat × Nat) (I : Nat → Nat → Int32) (J : Nat → Nat → Int64) (Q : Option Value → sm_M → Prop) (x1 : Int32) :
    sm_wp X 19 10 [some (.ref 71), some (.int x1), none] [] (sM mo G I J) Q =
    (vp_in x1 8 ∧ (sm_wp X 314 0 [some (.int ((I 1 2) &&& ((I 75 (x1.toNatClampNeg)) ^^^ (-1))))] [] (sM mo G I J) (fun v M => sm_wp X 19 29 [some (.ref 71), some (.int x1), none] (v.toList ++ []) M Q))) :=
  (sm_blk X 19 10 (tt_lin 19 (by decide)) rfl rfl _ _ _ _).trans rfl
set_option maxRecDepth 100000 in
theorem bk_19_29 (X : (Nat → Int32) × Nat) (mo : Bool) (G : Nat × Nat) (I : Nat → Nat → Int32) (J : Nat → Nat → Int64) (Q : Option Value → sm_M → Prop) (x1 : Int32) (s0 : Int32) :
    sm_wp X 19 29 [some (.ref 71), some (.int x1), none] [.int s0] (sM mo G I J) Q =
    (if (s0 : Int32) < (2 : Int32) then sm_wp X 19 39 [some (.ref 71), some (.int x1), some (.int s0)] [] (sM mo G I J) Q else (sm_wp X 19 40 [some (.ref 71), some (.int x1), some (.int s0)] [.int s0] (sM mo G I J) Q)) :=
  (sm_blk X 19 29 (tt_lin 19 (by decide)) rfl rfl _ _ _ _).trans rfl
set_option maxRecDepth 100000 in
theorem bk_19_39 (X : (Nat → Int32) × Nat) (mo : Bool) (G : Nat × Nat) (I : Nat → Nat → Int32) (J : Nat → Nat → Int64) (Q : Option Value → sm_M → Prop) (x1 : Int32) (x2 : Int32) :
    sm_wp X 19 39 [some (.ref 71), some (.int x1), some (.int x2)] [] (sM mo G I J) Q =
    (True ∧ Q (some (.int 0)) (sM mo G I J)) :=
  (sm_blk X 19 39 (tt_lin 19 (by decide)) rfl rfl _ _ _ _).trans rfl
set_option maxRecDepth 100000 in
theorem bk_19_40 (X : (Nat → Int32) × Nat) (mo : Bool) (G : Nat × Nat) (I : Nat → Nat → Int32) (J : Nat → Nat → Int64) (Q : Option Value → sm_M → Prop) (x1 : Int32) (x2 : Int32) (s0 : Int32) :
    sm_wp X 19 40 [some (.ref 71), some (.int x1), some (.int x2)] [.int s0] (sM mo G I J) Q =
    (True ∧ Q (some (.int s0)) (sM mo G I J)) :=
  (sm_blk X 19 40 (tt_lin 19 (by decide)) rfl rfl _ _ _ _).trans rfl
set_option maxRecDepth 100000 in
theorem bk_20_0 (X : (Nat → Int32) × Nat) (mo : Bool) (G : Nat × Nat) (I : Nat → Nat → Int32) (J : Nat → Nat → Int64) (Q : Option Value → sm_M → Prop) (x1 : Int32) (x2 : Int32) (x3 : Int32) :
    sm_wp X 20 0 [some (.ref 71), some (.int x1), some (.int x2), some (.int x3), none] [] (sM mo G I J) Q =
    (sm_wp X 10 0 [some (.ref 71), some (.int x1), none, none, none] [] (sM mo G I J) (fun v M => sm_wp X 20 5 [some (.ref 71), some (.int x1), some (.int x2), some (.int x3), none] (v.toList ++ []) M Q)) :=
  (sm_blk X 20 0 (tt_lin 20 (by decide)) rfl rfl _ _ _ _).trans rfl
set_option maxRecDepth 100000 in
theorem bk_20_5 (X : (Nat → Int32) × Nat) (mo : Bool) (G : Nat × Nat) (I : Nat → Nat → Int32) (J : Nat → Nat → Int64) (Q : Option Value → sm_M → Prop) (x1 : Int32) (x2 : Int32) (x3 : Int32) (s0 : Int32) :
    sm_wp X 20 5 [some (.ref 71), some (.int x1), some (.int x2), some (.int x3), none] [.int s0] (sM mo G I J) Q =
    (if (x2 : Int32) < 0 then sm_wp X 20 28 [some (.ref 71), some (.int x1), some (.int x2), some (.int x3), some (.int s0)] [] (sM mo G I J) Q else (if (8 : Int32) ≤ (x2 : Int32) then sm_wp X 20 28 [some (.ref 71), some (.int x1), some (.int x2), some (.int x3), some (.int s0)] [] (sM mo G I J) Q else (sm_wp X 7 0 [some (.ref 71), some (.int x1), some (.int s0)] [] (sM mo G I J) (fun v M => sm_wp X 20 25 [some (.ref 71), some (.int x1), some (.int x2), some (.int x3), some (.int s0)] (v.toList ++ [.int x2]) M Q)))) :=
  (sm_blk X 20 5 (tt_lin 20 (by decide)) rfl rfl _ _ _ _).trans rfl
set_option maxRecDepth 100000 in
theorem bk_20_25 (X : (Nat → Int32) × Nat) (mo : Bool) (G : Nat × Nat) (I : Nat → Nat → Int32) (J : Nat → Nat → Int64) (Q : Option Value → sm_M → Prop) (x1 : Int32) (x2 : Int32) (x3 : Int32) (x4 : Int32) (s0 : Int32) (s1 : Int32) :
    sm_wp X 20 25 [some (.ref 71), some (.int x1), some (.int x2), some (.int x3), some (.int x4)] [.int s1, .int s0] (sM mo G I J) Q =
    (if (s0 : Int32) < (s1 : Int32) then sm_wp X 20 30 [some (.ref 71), some (.int x1), some (.int x2), some (.int x3), some (.int x4)] [] (sM mo G I J) Q else (True ∧ Q (some (.int (-1))) (sM mo G I J))) :=
  (sm_blk X 20 25 (tt_lin 20 (by decide)) rfl rfl _ _ _ _).trans rfl
set_option maxRecDepth 100000 in
theorem bk_20_28 (X : (Nat → Int32) × Nat) (mo : Bool) (G : Nat × Nat) (I : Nat → Nat → Int32) (J : Nat → Nat → Int64) (Q : Option Value → sm_M → Prop) (x1 : Int32) (x2 : Int32) (x3 : Int32) (x4 : Int32) :
    sm_wp X 20 28 [some (.ref 71), some (.int x1), some (.int x2), some (.int x3), some (.int x4)] [] (sM mo G I J) Q =
    (True ∧ Q (some (.int (-1))) (sM mo G I J)) :=
  (sm_blk X 20 28 (tt_lin 20 (by decide)) rfl rfl _ _ _ _).trans rfl
set_option maxRecDepth 100000 in
theorem bk_20_30 (X : (Nat → Int32) × Nat) (mo : Bool) (G : Nat × Nat) (I : Nat → Nat → Int32) (J : Nat → Nat → Int64) (Q : Option Value → sm_M → Prop) (x1 : Int32) (x2 : Int32) (x3 : Int32) (x4 : Int32) :
    sm_wp X 20 30 [some (.ref 71), some (.int x1), some (.int x2), some (.int x3), some (.int x4)] [] (sM mo G I J) Q =
    (sm_wp X 15 0 [some (.ref 71), some (.int x1), some (.int x4), none] [] (sM mo G I J) (fun v M => sm_wp X 20 37 [some (.ref 71), some (.int x1), some (.int x2), some (.int x3), some (.int x4)] (v.toList ++ []) M Q)) :=
  (sm_blk X 20 30 (tt_lin 20 (by decide)) rfl rfl _ _ _ _).trans rfl
set_option maxRecDepth 100000 in
theorem bk_20_37 (X : (Nat → Int32) × Nat) (mo : Bool) (G : Nat × Nat) (I : Nat → Nat → Int32) (J : Nat → Nat → Int64) (Q : Option Value → sm_M → Prop) (x1 : Int32) (x2 : Int32) (x3 : Int32) (x4 : Int32) :
    sm_wp X 20 37 [some (.ref 71), some (.int x1), some (.int x2), some (.int x3), some (.int x4)] [] (sM mo G I J) Q =
    (if (x3 : Int32) = 0 then sm_wp X 20 64 [some (.ref 71), some (.int x1), some (.int x2), some (.int x3), some (.int x4)] [] (sM mo G I J) Q else if (x3 : Int32) = 1 then sm_wp X 20 73 [some (.ref 71), some (.int x1), some (.int x2), some (.int x3), some (.int x4)] [] (sM mo G I J) Q else if (x3 : Int32) = 2 then sm_wp X 20 80 [some (.ref 71), some (.int x1), some (.int x2), some (.int x3), some (.int x4)] [] (sM mo G I J) Q else sm_wp X 20 95 [some (.ref 71), some (.int x1), some (.int x2), some (.int x3), some (.int x4)] [] (sM mo G I J) Q) :=
  (sm_blk X 20 37 (tt_lin 20 (by decide)) rfl rfl _ _ _ _).trans rfl
set_option maxRecDepth 100000 in
theorem bk_20_64 (X : (Nat → Int32) × Nat) (mo : Bool) (G : Nat × Nat) (I : Nat → Nat → Int32) (J : Nat → Nat → Int64) (Q : Option Value → sm_M → Prop) (x1 : Int32) (x2 : Int32) (x3 : Int32) (x4 : Int32) :
    sm_wp X 20 64 [some (.ref 71), some (.int x1), some (.int x2), some (.int x3), some (.int x4)] [] (sM mo G I J) Q =
    (sm_wp X 9 0 [some (.ref 71), some (.int x1), some (.int x4), some (.int x2)] [] (sM mo G I J) (fun v M => sm_wp X 20 72 [some (.ref 71), some (.int x1), some (.int x2), some (.int x3), some (.int x4)] (v.toList ++ []) M Q)) :=
  (sm_blk X 20 64 (tt_lin 20 (by decide)) rfl rfl _ _ _ _).trans rfl
set_option maxRecDepth 100000 in
theorem bk_20_72 (X : (Nat → Int32) × Nat) (mo : Bool) (G : Nat × Nat) (I : Nat → Nat → Int32) (J : Nat → Nat → Int64) (Q : Option Value → sm_M → Prop) (x1 : Int32) (x2 : Int32) (x3 : Int32) (x4 : Int32) (s0 : Int32) :
    sm_wp X 20 72 [some (.ref 71), some (.int x1), some (.int x2), some (.int x3), some (.int x4)] [.int s0] (sM mo G I J) Q =
    (True ∧ Q (some (.int s0)) (sM mo G I J)) :=
  (sm_blk X 20 72 (tt_lin 20 (by decide)) rfl rfl _ _ _ _).trans rfl
set_option maxRecDepth 100000 in
theorem bk_20_73 (X : (Nat → Int32) × Nat) (mo : Bool) (G : Nat × Nat) (I : Nat → Nat → Int32) (J : Nat → Nat → Int64) (Q : Option Value → sm_M → Prop) (x1 : Int32) (x2 : Int32) (x3 : Int32) (x4 : Int32) :
    sm_wp X 20 73 [some (.ref 71), some (.int x1), some (.int x2), some (.int x3), some (.int x4)] [] (sM mo G I J) Q =
    (vp_in x2 8 ∧ (True ∧ Q (some (.int (I 80 (x2.toNatClampNeg)))) (sM mo G I J))) :=
  (sm_blk X 20 73 (tt_lin 20 (by decide)) rfl rfl _ _ _ _).trans rfl
set_option maxRecDepth 100000 in
theorem bk_20_80 (X : (Nat → Int32) × Nat) (mo : Bool) (G : Nat × Nat) (I : Nat → Nat → Int32) (J : Nat → Nat → Int64) (Q : Option Value → sm_M → Prop) (x1 : Int32) (x2 : Int32) (x3 : Int32) (x4 : Int32) :
    sm_wp X 20 80 [some (.ref 71), some (.int x1), some (.int x2), some (.int x3), some (.int x4)] [] (sM mo G I J) Q =
    (vp_in x2 8 ∧ (sm_wp X 17 0 [some (.ref 71), some (.int x1), none, none] [] (sM mo G I J) (fun v M => sm_wp X 20 91 [some (.ref 71), some (.int x1), some (.int x2), some (.int x3), some (.int x4)] (v.toList ++ [.int (I 80 (x2.toNatClampNeg))]) M Q))) :=
  (sm_blk X 20 80 (tt_lin 20 (by decide)) rfl rfl _ _ _ _).trans rfl
set_option maxRecDepth 100000 in
theorem bk_20_91 (X : (Nat → Int32) × Nat) (mo : Bool) (G : Nat × Nat) (I : Nat → Nat → Int32) (J : Nat → Nat → Int64) (Q : Option Value → sm_M → Prop) (x1 : Int32) (x2 : Int32) (x3 : Int32) (x4 : Int32) (s0 : Int32) (s1 : Int32) :
    sm_wp X 20 91 [some (.ref 71), some (.int x1), some (.int x2), some (.int x3), some (.int x4)] [.int s1, .int s0] (sM mo G I J) Q =
    (sm_wp X 18 0 [some (.int s0), some (.int s1)] [] (sM mo G I J) (fun v M => sm_wp X 20 94 [some (.ref 71), some (.int x1), some (.int x2), some (.int x3), some (.int x4)] (v.toList ++ []) M Q)) :=
  (sm_blk X 20 91 (tt_lin 20 (by decide)) rfl rfl _ _ _ _).trans rfl
set_option maxRecDepth 100000 in
theorem bk_20_94 (X : (Nat → Int32) × Nat) (mo : Bool) (G : Nat × Nat) (I : Nat → Nat → Int32) (J : Nat → Nat → Int64) (Q : Option Value → sm_M → Prop) (x1 : Int32) (x2 : Int32) (x3 : Int32) (x4 : Int32) (s0 : Int32) :
    sm_wp X 20 94 [some (.ref 71), some (.int x1), some (.int x2), some (.int x3), some (.int x4)] [.int s0] (sM mo G I J) Q =
    (True ∧ Q (some (.int s0)) (sM mo G I J)) :=
  (sm_blk X 20 94 (tt_lin 20 (by decide)) rfl rfl _ _ _ _).trans rfl
set_option maxRecDepth 100000 in
theorem bk_20_95 (X : (Nat → Int32) × Nat) (mo : Bool) (G : Nat × Nat) (I : Nat → Nat → Int32) (J : Nat → Nat → Int64) (Q : Option Value → sm_M → Prop) (x1 : Int32) (x2 : Int32) (x3 : Int32) (x4 : Int32) :
    sm_wp X 20 95 [some (.ref 71), some (.int x1), some (.int x2), some (.int x3), some (.int x4)] [] (sM mo G I J) Q =
    (True ∧ Q (some (.int (-1))) (sM mo G I J)) :=
  (sm_blk X 20 95 (tt_lin 20 (by decide)) rfl rfl _ _ _ _).trans rfl
end
section
set_option maxRecDepth 100000 in
theorem bk_40_0 (X : (Nat → Int32) × Nat) (mo : Bool) (G : Nat × Nat) (I : Nat → Nat → Int32) (J : Nat → Nat → Int64) (Q : Option Value → sm_M → Prop) (x2 : Int32) :
    sm_wp X 40 0 [some (.ref 21), some (.ref 16), some (.int x2), none] [] (sM mo G I J) Q =
    (if (x2 : Int32) < 0 then sm_wp X 40 10 [some (.ref 21), some (.ref 16), some (.int x2), none] [] (sM mo G I J) Q else (if (x2 : Int32) < (6 : Int32) then sm_wp X 40 11 [some (.ref 21), some (.ref 16), some (.int x2), none] [] (sM mo G I J) Q else (True ∧ Q none (sM mo G I J)))) :=
  (sm_blk X 40 0 (tt_lin 40 (by decide)) rfl rfl _ _ _ _).trans rfl
set_option maxRecDepth 100000 in
theorem bk_40_10 (X : (Nat → Int32) × Nat) (mo : Bool) (G : Nat × Nat) (I : Nat → Nat → Int32) (J : Nat → Nat → Int64) (Q : Option Value → sm_M → Prop) (x2 : Int32) :
    sm_wp X 40 10 [some (.ref 21), some (.ref 16), some (.int x2), none] [] (sM mo G I J) Q =
    (True ∧ Q none (sM mo G I J)) :=
  (sm_blk X 40 10 (tt_lin 40 (by decide)) rfl rfl _ _ _ _).trans rfl
set_option maxRecDepth 100000 in
theorem bk_40_11 (X : (Nat → Int32) × Nat) (mo : Bool) (G : Nat × Nat) (I : Nat → Nat → Int32) (J : Nat → Nat → Int64) (Q : Option Value → sm_M → Prop) (x2 : Int32) :
    sm_wp X 40 11 [some (.ref 21), some (.ref 16), some (.int x2), none] [] (sM mo G I J) Q =
    (True ∧ (vp_in x2 6 ∧ (sm_wp X 40 28 [some (.ref 21), some (.ref 16), some (.int x2), some (.int 0)] [] (sM mo G (up2 I 22 x2.toNatClampNeg (if (16 : Int32) < I 16 2 then 16 else I 16 2)) J) Q))) :=
  (sm_blk X 40 11 (tt_lin 40 (by decide)) rfl rfl _ _ _ _).trans rfl
set_option maxRecDepth 100000 in
theorem bk_40_28 (X : (Nat → Int32) × Nat) (mo : Bool) (G : Nat × Nat) (I : Nat → Nat → Int32) (J : Nat → Nat → Int64) (Q : Option Value → sm_M → Prop) (x2 : Int32) (x3 : Int32) :
    sm_wp X 40 28 [some (.ref 21), some (.ref 16), some (.int x2), some (.int x3)] [] (sM mo G I J) Q =
    (if (64 : Int32) ≤ (x3 : Int32) then sm_wp X 40 57 [some (.ref 21), some (.ref 16), some (.int x2), some (.int x3)] [] (sM mo G I J) Q else (vp_in x3 64 ∧ (vp_in ((x2 * 64) + x3) 384 ∧ (sm_wp X 40 28 [some (.ref 21), some (.ref 16), some (.int x2), some (.int (x3 + 1))] [] (sM mo G (up2 I 23 ((x2 * 64) + x3).toNatClampNeg (I 17 (x3.toNatClampNeg))) J) Q)))) :=
  (sm_blk X 40 28 (tt_lin 40 (by decide)) rfl rfl _ _ _ _).trans rfl
set_option maxRecDepth 100000 in
theorem bk_40_57 (X : (Nat → Int32) × Nat) (mo : Bool) (G : Nat × Nat) (I : Nat → Nat → Int32) (J : Nat → Nat → Int64) (Q : Option Value → sm_M → Prop) (x2 : Int32) (x3 : Int32) :
    sm_wp X 40 57 [some (.ref 21), some (.ref 16), some (.int x2), some (.int x3)] [] (sM mo G I J) Q =
    (sm_wp X 40 59 [some (.ref 21), some (.ref 16), some (.int x2), some (.int 0)] [] (sM mo G I J) Q) :=
  (sm_blk X 40 57 (tt_lin 40 (by decide)) rfl rfl _ _ _ _).trans rfl
set_option maxRecDepth 100000 in
theorem bk_40_59 (X : (Nat → Int32) × Nat) (mo : Bool) (G : Nat × Nat) (I : Nat → Nat → Int32) (J : Nat → Nat → Int64) (Q : Option Value → sm_M → Prop) (x2 : Int32) (x3 : Int32) :
    sm_wp X 40 59 [some (.ref 21), some (.ref 16), some (.int x2), some (.int x3)] [] (sM mo G I J) Q =
    (if (16 : Int32) ≤ (x3 : Int32) then sm_wp X 40 105 [some (.ref 21), some (.ref 16), some (.int x2), some (.int x3)] [] (sM mo G I J) Q else (vp_in x3 16 ∧ (vp_in ((x2 * 16) + x3) 96 ∧ (vp_in x3 16 ∧ (vp_in ((x2 * 16) + x3) 96 ∧ (sm_wp X 40 59 [some (.ref 21), some (.ref 16), some (.int x2), some (.int (x3 + 1))] [] (sM mo G (up2 (up2 I 24 ((x2 * 16) + x3).toNatClampNeg (I 18 (x3.toNatClampNeg))) 25 ((x2 * 16) + x3).toNatClampNeg ((up2 I 24 ((x2 * 16) + x3).toNatClampNeg (I 18 (x3.toNatClampNeg))) 19 (x3.toNatClampNeg))) J) Q)))))) :=
  (sm_blk X 40 59 (tt_lin 40 (by decide)) rfl rfl _ _ _ _).trans rfl
set_option maxRecDepth 100000 in
theorem bk_40_105 (X : (Nat → Int32) × Nat) (mo : Bool) (G : Nat × Nat) (I : Nat → Nat → Int32) (J : Nat → Nat → Int64) (Q : Option Value → sm_M → Prop) (x2 : Int32) (x3 : Int32) :
    sm_wp X 40 105 [some (.ref 21), some (.ref 16), some (.int x2), some (.int x3)] [] (sM mo G I J) Q =
    (True ∧ Q none (sM mo G I J)) :=
  (sm_blk X 40 105 (tt_lin 40 (by decide)) rfl rfl _ _ _ _).trans rfl
set_option maxRecDepth 100000 in
theorem bk_41_0 (X : (Nat → Int32) × Nat) (mo : Bool) (G : Nat × Nat) (I : Nat → Nat → Int32) (J : Nat → Nat → Int64) (Q : Option Value → sm_M → Prop) (x1 : Int32) :
    sm_wp X 41 0 [some (.ref 21), some (.int x1)] [] (sM mo G I J) Q =
    (if (x1 : Int32) < 0 then sm_wp X 41 19 [some (.ref 21), some (.int x1)] [] (sM mo G I J) Q else (if (6 : Int32) ≤ (x1 : Int32) then sm_wp X 41 19 [some (.ref 21), some (.int x1)] [] (sM mo G I J) Q else (vp_in x1 6 ∧ (sm_wp X 41 20 [some (.ref 21), some (.int x1)] [.int (I 22 (x1.toNatClampNeg))] (sM mo G I J) Q)))) :=
  (sm_blk X 41 0 (tt_lin 41 (by decide)) rfl rfl _ _ _ _).trans rfl
set_option maxRecDepth 100000 in
theorem bk_41_19 (X : (Nat → Int32) × Nat) (mo : Bool) (G : Nat × Nat) (I : Nat → Nat → Int32) (J : Nat → Nat → Int64) (Q : Option Value → sm_M → Prop) (x1 : Int32) :
    sm_wp X 41 19 [some (.ref 21), some (.int x1)] [] (sM mo G I J) Q =
    (True ∧ Q (some (.int 0)) (sM mo G I J)) :=
  (sm_blk X 41 19 (tt_lin 41 (by decide)) rfl rfl _ _ _ _).trans rfl
set_option maxRecDepth 100000 in
theorem bk_41_20 (X : (Nat → Int32) × Nat) (mo : Bool) (G : Nat × Nat) (I : Nat → Nat → Int32) (J : Nat → Nat → Int64) (Q : Option Value → sm_M → Prop) (x1 : Int32) (s0 : Int32) :
    sm_wp X 41 20 [some (.ref 21), some (.int x1)] [.int s0] (sM mo G I J) Q =
    (True ∧ Q (some (.int s0)) (sM mo G I J)) :=
  (sm_blk X 41 20 (tt_lin 41 (by decide)) rfl rfl _ _ _ _).trans rfl
set_option maxRecDepth 100000 in
theorem bk_42_0 (X : (Nat → Int32) × Nat) (mo : Bool) (G : Nat × Nat) (I : Nat → Nat → Int32) (J : Nat → Nat → Int64) (Q : Option Value → sm_M → Prop) (x1 : Int32) (x2 : Int32) :
    sm_wp X 42 0 [some (.ref 21), some (.int x1), some (.int x2)] [] (sM mo G I J) Q =
    (sm_wp X 43 0 [some (.ref 21), some (.int x1), some (.int x2)] [] (sM mo G I J) (fun v M => sm_wp X 42 6 [some (.ref 21), some (.int x1), some (.int x2)] (v.toList ++ []) M Q)) :=
  (sm_blk X 42 0 (tt_lin 42 (by decide)) rfl rfl _ _ _ _).trans rfl
set_option maxRecDepth 100000 in
theorem bk_42_6 (X : (Nat → Int32) × Nat) (mo : Bool) (G : Nat × Nat) (I : Nat → Nat → Int32) (J : Nat → Nat → Int64) (Q : Option Value → sm_M → Prop) (x1 : Int32) (x2 : Int32) (s0 : Int32) :
    sm_wp X 42 6 [some (.ref 21), some (.int x1), some (.int x2)] [.int s0] (sM mo G I J) Q =
    (if (s0 : Int32) = 0 then sm_wp X 42 23 [some (.ref 21), some (.int x1), some (.int x2)] [] (sM mo G I J) Q else (vp_in ((x1 * 16) + x2) 96 ∧ (sm_wp X 42 24 [some (.ref 21), some (.int x1), some (.int x2)] [.int (I 24 (((x1 * 16) + x2).toNatClampNeg))] (sM mo G I J) Q))) :=
  (sm_blk X 42 6 (tt_lin 42 (by decide)) rfl rfl _ _ _ _).trans rfl
set_option maxRecDepth 100000 in
theorem bk_42_23 (X : (Nat → Int32) × Nat) (mo : Bool) (G : Nat × Nat) (I : Nat → Nat → Int32) (J : Nat → Nat → Int64) (Q : Option Value → sm_M → Prop) (x1 : Int32) (x2 : Int32) :
    sm_wp X 42 23 [some (.ref 21), some (.int x1), some (.int x2)] [] (sM mo G I J) Q =
    (True ∧ Q (some (.int (-1))) (sM mo G I J)) :=
  (sm_blk X 42 23 (tt_lin 42 (by decide)) rfl rfl _ _ _ _).trans rfl
set_option maxRecDepth 100000 in
theorem bk_42_24 (X : (Nat → Int32) × Nat) (mo : Bool) (G : Nat × Nat) (I : Nat → Nat → Int32) (J : Nat → Nat → Int64) (Q : Option Value → sm_M → Prop) (x1 : Int32) (x2 : Int32) (s0 : Int32) :
    sm_wp X 42 24 [some (.ref 21), some (.int x1), some (.int x2)] [.int s0] (sM mo G I J) Q =
    (True ∧ Q (some (.int s0)) (sM mo G I J)) :=
  (sm_blk X 42 24 (tt_lin 42 (by decide)) rfl rfl _ _ _ _).trans rfl
set_option maxRecDepth 100000 in
theorem bk_43_0 (X : (Nat → Int32) × Nat) (mo : Bool) (G : Nat × Nat) (I : Nat → Nat → Int32) (J : Nat → Nat → Int64) (Q : Option Value → sm_M → Prop) (x1 : Int32) (x2 : Int32) :
    sm_wp X 43 0 [some (.ref 21), some (.int x1), some (.int x2)] [] (sM mo G I J) Q =
    (if (x2 : Int32) < 0 then sm_wp X 43 23 [some (.ref 21), some (.int x1), some (.int x2)] [] (sM mo G I J) Q else (if (16 : Int32) ≤ (x2 : Int32) then sm_wp X 43 23 [some (.ref 21), some (.int x1), some (.int x2)] [] (sM mo G I J) Q else (sm_wp X 41 0 [some (.ref 21), some (.int x1)] [] (sM mo G I J) (fun v M => sm_wp X 43 16 [some (.ref 21), some (.int x1), some (.int x2)] (v.toList ++ [.int x2]) M Q)))) :=
  (sm_blk X 43 0 (tt_lin 43 (by decide)) rfl rfl _ _ _ _).trans rfl
set_option maxRecDepth 100000 in
theorem bk_43_16 (X : (Nat → Int32) × Nat) (mo : Bool) (G : Nat × Nat) (I : Nat → Nat → Int32) (J : Nat → Nat → Int64) (Q : Option Value → sm_M → Prop) (x1 : Int32) (x2 : Int32) (s0 : Int32) (s1 : Int32) :
    sm_wp X 43 16 [some (.ref 21), some (.int x1), some (.int x2)] [.int s1, .int s0] (sM mo G I J) Q =
    (if (s1 : Int32) ≤ (s0 : Int32) then sm_wp X 43 23 [some (.ref 21), some (.int x1), some (.int x2)] [] (sM mo G I J) Q else (sm_wp X 43 24 [some (.ref 21), some (.int x1), some (.int x2)] [.int 1] (sM mo G I J) Q)) :=
  (sm_blk X 43 16 (tt_lin 43 (by decide)) rfl rfl _ _ _ _).trans rfl
set_option maxRecDepth 100000 in
theorem bk_43_23 (X : (Nat → Int32) × Nat) (mo : Bool) (G : Nat × Nat) (I : Nat → Nat → Int32) (J : Nat → Nat → Int64) (Q : Option Value → sm_M → Prop) (x1 : Int32) (x2 : Int32) :
    sm_wp X 43 23 [some (.ref 21), some (.int x1), some (.int x2)] [] (sM mo G I J) Q =
    (sm_zb 0 ∧ Q (some (.int 0)) (sM mo G I J)) :=
  (sm_blk X 43 23 (tt_lin 43 (by decide)) rfl rfl _ _ _ _).trans rfl
set_option maxRecDepth 100000 in
theorem bk_43_24 (X : (Nat → Int32) × Nat) (mo : Bool) (G : Nat × Nat) (I : Nat → Nat → Int32) (J : Nat → Nat → Int64) (Q : Option Value → sm_M → Prop) (x1 : Int32) (x2 : Int32) (s0 : Int32) :
    sm_wp X 43 24 [some (.ref 21), some (.int x1), some (.int x2)] [.int s0] (sM mo G I J) Q =
    (sm_zb s0 ∧ Q (some (.int s0)) (sM mo G I J)) :=
  (sm_blk X 43 24 (tt_lin 43 (by decide)) rfl rfl _ _ _ _).trans rfl
set_option maxRecDepth 100000 in
theorem bk_44_0 (X : (Nat → Int32) × Nat) (mo : Bool) (G : Nat × Nat) (I : Nat → Nat → Int32) (J : Nat → Nat → Int64) (Q : Option Value → sm_M → Prop) (x1 : Int32) (x2 : Int32) :
    sm_wp X 44 0 [some (.ref 21), some (.int x1), some (.int x2)] [] (sM mo G I J) Q =
    (sm_wp X 43 0 [some (.ref 21), some (.int x1), some (.int x2)] [] (sM mo G I J) (fun v M => sm_wp X 44 6 [some (.ref 21), some (.int x1), some (.int x2)] (v.toList ++ []) M Q)) :=
  (sm_blk X 44 0 (tt_lin 44 (by decide)) rfl rfl _ _ _ _).trans rfl
set_option maxRecDepth 100000 in
theorem bk_44_6 (X : (Nat → Int32) × Nat) (mo : Bool) (G : Nat × Nat) (I : Nat → Nat → Int32) (J : Nat → Nat → Int64) (Q : Option Value → sm_M → Prop) (x1 : Int32) (x2 : Int32) (s0 : Int32) :
    sm_wp X 44 6 [some (.ref 21), some (.int x1), some (.int x2)] [.int s0] (sM mo G I J) Q =
    (if (s0 : Int32) = 0 then sm_wp X 44 23 [some (.ref 21), some (.int x1), some (.int x2)] [] (sM mo G I J) Q else (vp_in ((x1 * 16) + x2) 96 ∧ (sm_wp X 44 24 [some (.ref 21), some (.int x1), some (.int x2)] [.int (I 25 (((x1 * 16) + x2).toNatClampNeg))] (sM mo G I J) Q))) :=
  (sm_blk X 44 6 (tt_lin 44 (by decide)) rfl rfl _ _ _ _).trans rfl
set_option maxRecDepth 100000 in
theorem bk_44_23 (X : (Nat → Int32) × Nat) (mo : Bool) (G : Nat × Nat) (I : Nat → Nat → Int32) (J : Nat → Nat → Int64) (Q : Option Value → sm_M → Prop) (x1 : Int32) (x2 : Int32) :
    sm_wp X 44 23 [some (.ref 21), some (.int x1), some (.int x2)] [] (sM mo G I J) Q =
    (True ∧ Q (some (.int 0)) (sM mo G I J)) :=
  (sm_blk X 44 23 (tt_lin 44 (by decide)) rfl rfl _ _ _ _).trans rfl
set_option maxRecDepth 100000 in
theorem bk_44_24 (X : (Nat → Int32) × Nat) (mo : Bool) (G : Nat × Nat) (I : Nat → Nat → Int32) (J : Nat → Nat → Int64) (Q : Option Value → sm_M → Prop) (x1 : Int32) (x2 : Int32) (s0 : Int32) :
    sm_wp X 44 24 [some (.ref 21), some (.int x1), some (.int x2)] [.int s0] (sM mo G I J) Q =
    (True ∧ Q (some (.int s0)) (sM mo G I J)) :=
  (sm_blk X 44 24 (tt_lin 44 (by decide)) rfl rfl _ _ _ _).trans rfl
set_option maxRecDepth 100000 in
theorem bk_45_0 (X : (Nat → Int32) × Nat) (mo : Bool) (G : Nat × Nat) (I : Nat → Nat → Int32) (J : Nat → Nat → Int64) (Q : Option Value → sm_M → Prop) (x1 : Int32) (x2 : Int32) :
    sm_wp X 45 0 [some (.ref 21), some (.int x1), some (.int x2)] [] (sM mo G I J) Q =
    (if (x1 : Int32) < 0 then sm_wp X 45 20 [some (.ref 21), some (.int x1), some (.int x2)] [] (sM mo G I J) Q else (if (6 : Int32) ≤ (x1 : Int32) then sm_wp X 45 20 [some (.ref 21), some (.int x1), some (.int x2)] [] (sM mo G I J) Q else (if (x2 : Int32) < 0 then sm_wp X 45 20 [some (.ref 21), some (.int x1), some (.int x2)] [] (sM mo G I J) Q else (if (x2 : Int32) < (64 : Int32) then sm_wp X 45 23 [some (.ref 21), some (.int x1), some (.int x2)] [] (sM mo G I J) Q else (True ∧ Q (some (.int 100)) (sM mo G I J)))))) :=
  (sm_blk X 45 0 (tt_lin 45 (by decide)) rfl rfl _ _ _ _).trans rfl
set_option maxRecDepth 100000 in
theorem bk_45_20 (X : (Nat → Int32) × Nat) (mo : Bool) (G : Nat × Nat) (I : Nat → Nat → Int32) (J : Nat → Nat → Int64) (Q : Option Value → sm_M → Prop) (x1 : Int32) (x2 : Int32) :
    sm_wp X 45 20 [some (.ref 21), some (.int x1), some (.int x2)] [] (sM mo G I J) Q =
    (True ∧ Q (some (.int 100)) (sM mo G I J)) :=
  (sm_blk X 45 20 (tt_lin 45 (by decide)) rfl rfl _ _ _ _).trans rfl
set_option maxRecDepth 100000 in
theorem bk_45_23 (X : (Nat → Int32) × Nat) (mo : Bool) (G : Nat × Nat) (I : Nat → Nat → Int32) (J : Nat → Nat → Int64) (Q : Option Value → sm_M → Prop) (x1 : Int32) (x2 : Int32) :
    sm_wp X 45 23 [some (.ref 21), some (.int x1), some (.int x2)] [] (sM mo G I J) Q =
    (vp_in ((x1 * 64) + x2) 384 ∧ (True ∧ Q (some (.int (I 23 (((x1 * 64) + x2).toNatClampNeg)))) (sM mo G I J))) :=
  (sm_blk X 45 23 (tt_lin 45 (by decide)) rfl rfl _ _ _ _).trans rfl
end
section
set_option maxRecDepth 100000 in
theorem bk_22_0 (X : (Nat → Int32) × Nat) (mo : Bool) (G : Nat × Nat) (I : Nat → Nat → Int32) (J : Nat → Nat → Int64) (Q : Option Value → sm_M → Prop)  :
    sm_wp X 22 0 [some (.ref 45), none, none] [] (sM mo G I J) Q =
    (sm_wp X 22 15 [some (.ref 45), some (.int 0), none] [] (sM mo G (up2 I 1 3 ((I 1 3) + 1)) J) Q) :=
  (sm_blk X 22 0 (tt_lin 22 (by decide)) rfl rfl _ _ _ _).trans rfl
set_option maxRecDepth 100000 in
theorem bk_22_15 (X : (Nat → Int32) × Nat) (mo : Bool) (G : Nat × Nat) (I : Nat → Nat → Int32) (J : Nat → Nat → Int64) (Q : Option Value → sm_M → Prop) (x1 : Int32) :
    sm_wp X 22 15 [some (.ref 45), some (.int x1), none] [] (sM mo G I J) Q =
    (if (I 31 0 : Int32) ≤ (x1 : Int32) then sm_wp X 22 55 [some (.ref 45), some (.int x1), none] [] (sM mo G I J) Q else (sm_wp X 70 0 [some (.ref 31), some (.int x1)] [] (sM mo G I J) (fun v M => sm_wp X 22 34 [some (.ref 45), some (.int x1), none] (v.toList ++ []) M Q))) :=
  (sm_blk X 22 15 (tt_lin 22 (by decide)) rfl rfl _ _ _ _).trans rfl
set_option maxRecDepth 100000 in
theorem bk_22_34 (X : (Nat → Int32) × Nat) (mo : Bool) (G : Nat × Nat) (I : Nat → Nat → Int32) (J : Nat → Nat → Int64) (Q : Option Value → sm_M → Prop) (x1 : Int32) (s0 : Int32) :
    sm_wp X 22 34 [some (.ref 45), some (.int x1), none] [.int s0] (sM mo G I J) Q =
    (if (s0 : Int32) = 0 then sm_wp X 22 44 [some (.ref 45), some (.int x1), some (.int s0)] [] (sM mo G I J) Q else (if ¬ (s0 : Int32) = (1 : Int32) then sm_wp X 22 49 [some (.ref 45), some (.int x1), some (.int s0)] [] (sM mo G I J) Q else (sm_wp X 23 0 [some (.ref 45), some (.int x1)] [] (sM mo G I J) (fun v M => sm_wp X 22 49 [some (.ref 45), some (.int x1), some (.int s0)] (v.toList ++ []) M Q)))) :=
  (sm_blk X 22 34 (tt_lin 22 (by decide)) rfl rfl _ _ _ _).trans rfl
set_option maxRecDepth 100000 in
theorem bk_22_44 (X : (Nat → Int32) × Nat) (mo : Bool) (G : Nat × Nat) (I : Nat → Nat → Int32) (J : Nat → Nat → Int64) (Q : Option Value → sm_M → Prop) (x1 : Int32) (x2 : Int32) :
    sm_wp X 22 44 [some (.ref 45), some (.int x1), some (.int x2)] [] (sM mo G I J) Q =
    (sm_wp X 23 0 [some (.ref 45), some (.int x1)] [] (sM mo G I J) (fun v M => sm_wp X 22 49 [some (.ref 45), some (.int x1), some (.int x2)] (v.toList ++ []) M Q)) :=
  (sm_blk X 22 44 (tt_lin 22 (by decide)) rfl rfl _ _ _ _).trans rfl
set_option maxRecDepth 100000 in
theorem bk_22_49 (X : (Nat → Int32) × Nat) (mo : Bool) (G : Nat × Nat) (I : Nat → Nat → Int32) (J : Nat → Nat → Int64) (Q : Option Value → sm_M → Prop) (x1 : Int32) (x2 : Int32) :
    sm_wp X 22 49 [some (.ref 45), some (.int x1), some (.int x2)] [] (sM mo G I J) Q =
    (sm_wp X 22 15 [some (.ref 45), some (.int (x1 + 1)), none] [] (sM mo G I J) Q) :=
  (sm_blk X 22 49 (tt_lin 22 (by decide)) rfl rfl _ _ _ _).trans rfl
set_option maxRecDepth 100000 in
theorem bk_22_55 (X : (Nat → Int32) × Nat) (mo : Bool) (G : Nat × Nat) (I : Nat → Nat → Int32) (J : Nat → Nat → Int64) (Q : Option Value → sm_M → Prop) (x1 : Int32) :
    sm_wp X 22 55 [some (.ref 45), some (.int x1), none] [] (sM mo G I J) Q =
    (sm_wp X 22 57 [some (.ref 45), some (.int 0), none] [] (sM mo G I J) Q) :=
  (sm_blk X 22 55 (tt_lin 22 (by decide)) rfl rfl _ _ _ _).trans rfl
set_option maxRecDepth 100000 in
theorem bk_22_57 (X : (Nat → Int32) × Nat) (mo : Bool) (G : Nat × Nat) (I : Nat → Nat → Int32) (J : Nat → Nat → Int64) (Q : Option Value → sm_M → Prop) (x1 : Int32) :
    sm_wp X 22 57 [some (.ref 45), some (.int x1), none] [] (sM mo G I J) Q =
    (if (I 31 0 : Int32) ≤ (x1 : Int32) then sm_wp X 22 91 [some (.ref 45), some (.int x1), none] [] (sM mo G I J) Q else (sm_wp X 70 0 [some (.ref 31), some (.int x1)] [] (sM mo G I J) (fun v M => sm_wp X 22 76 [some (.ref 45), some (.int x1), none] (v.toList ++ []) M Q))) :=
  (sm_blk X 22 57 (tt_lin 22 (by decide)) rfl rfl _ _ _ _).trans rfl
set_option maxRecDepth 100000 in
theorem bk_22_76 (X : (Nat → Int32) × Nat) (mo : Bool) (G : Nat × Nat) (I : Nat → Nat → Int32) (J : Nat → Nat → Int64) (Q : Option Value → sm_M → Prop) (x1 : Int32) (s0 : Int32) :
    sm_wp X 22 76 [some (.ref 45), some (.int x1), none] [.int s0] (sM mo G I J) Q =
    (if ¬ (s0 : Int32) = (2 : Int32) then sm_wp X 22 85 [some (.ref 45), some (.int x1), none] [] (sM mo G I J) Q else (sm_wp X 34 0 [some (.ref 45), some (.int x1), none, none, none, none] [] (sM mo G I J) (fun v M => sm_wp X 22 85 [some (.ref 45), some (.int x1), none] (v.toList ++ []) M Q))) :=
  (sm_blk X 22 76 (tt_lin 22 (by decide)) rfl rfl _ _ _ _).trans rfl
set_option maxRecDepth 100000 in
theorem bk_22_85 (X : (Nat → Int32) × Nat) (mo : Bool) (G : Nat × Nat) (I : Nat → Nat → Int32) (J : Nat → Nat → Int64) (Q : Option Value → sm_M → Prop) (x1 : Int32) :
    sm_wp X 22 85 [some (.ref 45), some (.int x1), none] [] (sM mo G I J) Q =
    (sm_wp X 22 57 [some (.ref 45), some (.int (x1 + 1)), none] [] (sM mo G I J) Q) :=
  (sm_blk X 22 85 (tt_lin 22 (by decide)) rfl rfl _ _ _ _).trans rfl
set_option maxRecDepth 100000 in
theorem bk_22_91 (X : (Nat → Int32) × Nat) (mo : Bool) (G : Nat × Nat) (I : Nat → Nat → Int32) (J : Nat → Nat → Int64) (Q : Option Value → sm_M → Prop) (x1 : Int32) :
    sm_wp X 22 91 [some (.ref 45), some (.int x1), none] [] (sM mo G I J) Q =
    (True ∧ Q none (sM mo G I J)) :=
  (sm_blk X 22 91 (tt_lin 22 (by decide)) rfl rfl _ _ _ _).trans rfl
set_option maxRecDepth 100000 in
theorem bk_23_0 (X : (Nat → Int32) × Nat) (mo : Bool) (G : Nat × Nat) (I : Nat → Nat → Int32) (J : Nat → Nat → Int64) (Q : Option Value → sm_M → Prop) (x1 : Int32) :
    sm_wp X 23 0 [some (.ref 45), some (.int x1)] [] (sM mo G I J) Q =
    (sm_wp X 71 0 [some (.ref 31), some (.int x1)] [] (sM mo G I J) (fun v M => sm_wp X 23 15 [some (.ref 45), some (.int x1)] (v.toList ++ [.int (I 1 3)]) M Q)) :=
  (sm_blk X 23 0 (tt_lin 23 (by decide)) rfl rfl _ _ _ _).trans rfl
set_option maxRecDepth 100000 in
theorem bk_23_15 (X : (Nat → Int32) × Nat) (mo : Bool) (G : Nat × Nat) (I : Nat → Nat → Int32) (J : Nat → Nat → Int64) (Q : Option Value → sm_M → Prop) (x1 : Int32) (s0 : Int32) (s1 : Int32) :
    sm_wp X 23 15 [some (.ref 45), some (.int x1)] [.int s1, .int s0] (sM mo G I J) Q =
    (if (s1 : Int32) < (s0 : Int32) then sm_wp X 23 54 [some (.ref 45), some (.int x1)] [] (sM mo G I J) Q else (sm_wp X 72 0 [some (.ref 31), some (.int x1)] [] (sM mo G I J) (fun v M => sm_wp X 23 30 [some (.ref 45), some (.int x1)] (v.toList ++ [.ref 1]) M Q))) :=
  (sm_blk X 23 15 (tt_lin 23 (by decide)) rfl rfl _ _ _ _).trans rfl
set_option maxRecDepth 100000 in
theorem bk_23_30 (X : (Nat → Int32) × Nat) (mo : Bool) (G : Nat × Nat) (I : Nat → Nat → Int32) (J : Nat → Nat → Int64) (Q : Option Value → sm_M → Prop) (x1 : Int32) (s1 : Int32) :
    sm_wp X 23 30 [some (.ref 45), some (.int x1)] [.int s1, .ref 1] (sM mo G I J) Q =
    (sm_wp X 94 0 [some (.ref 1), some (.int s1)] [] (sM mo G I J) (fun v M => sm_wp X 23 33 [some (.ref 45), some (.int x1)] (v.toList ++ []) M Q)) :=
  (sm_blk X 23 30 (tt_lin 23 (by decide)) rfl rfl _ _ _ _).trans rfl
set_option maxRecDepth 100000 in
theorem bk_23_33 (X : (Nat → Int32) × Nat) (mo : Bool) (G : Nat × Nat) (I : Nat → Nat → Int32) (J : Nat → Nat → Int64) (Q : Option Value → sm_M → Prop) (x1 : Int32) (s0 : Int32) :
    sm_wp X 23 33 [some (.ref 45), some (.int x1)] [.int s0] (sM mo G I J) Q =
    (if (s0 : Int32) = 0 then sm_wp X 23 54 [some (.ref 45), some (.int x1)] [] (sM mo G I J) Q else (sm_wp X 73 0 [some (.ref 31), some (.int x1)] [] (sM mo G I J) (fun v M => sm_wp X 23 48 [some (.ref 45), some (.int x1)] (v.toList ++ [.ref 1]) M Q))) :=
  (sm_blk X 23 33 (tt_lin 23 (by decide)) rfl rfl _ _ _ _).trans rfl
set_option maxRecDepth 100000 in
theorem bk_23_48 (X : (Nat → Int32) × Nat) (mo : Bool) (G : Nat × Nat) (I : Nat → Nat → Int32) (J : Nat → Nat → Int64) (Q : Option Value → sm_M → Prop) (x1 : Int32) (s1 : Int32) :
    sm_wp X 23 48 [some (.ref 45), some (.int x1)] [.int s1, .ref 1] (sM mo G I J) Q =
    (sm_wp X 94 0 [some (.ref 1), some (.int s1)] [] (sM mo G I J) (fun v M => sm_wp X 23 51 [some (.ref 45), some (.int x1)] (v.toList ++ []) M Q)) :=
  (sm_blk X 23 48 (tt_lin 23 (by decide)) rfl rfl _ _ _ _).trans rfl
set_option maxRecDepth 100000 in
theorem bk_23_51 (X : (Nat → Int32) × Nat) (mo : Bool) (G : Nat × Nat) (I : Nat → Nat → Int32) (J : Nat → Nat → Int64) (Q : Option Value → sm_M → Prop) (x1 : Int32) (s0 : Int32) :
    sm_wp X 23 51 [some (.ref 45), some (.int x1)] [.int s0] (sM mo G I J) Q =
    (if ¬ (s0 : Int32) = 0 then sm_wp X 23 64 [some (.ref 45), some (.int x1)] [] (sM mo G I J) Q else (sm_wp X 74 0 [some (.ref 31), some (.int x1), some (.int 4)] [] (sM mo G I J) (fun v M => sm_wp X 23 63 [some (.ref 45), some (.int x1)] (v.toList ++ []) M Q))) :=
  (sm_blk X 23 51 (tt_lin 23 (by decide)) rfl rfl _ _ _ _).trans rfl
set_option maxRecDepth 100000 in
theorem bk_23_54 (X : (Nat → Int32) × Nat) (mo : Bool) (G : Nat × Nat) (I : Nat → Nat → Int32) (J : Nat → Nat → Int64) (Q : Option Value → sm_M → Prop) (x1 : Int32) :
    sm_wp X 23 54 [some (.ref 45), some (.int x1)] [] (sM mo G I J) Q =
    (sm_wp X 74 0 [some (.ref 31), some (.int x1), some (.int 4)] [] (sM mo G I J) (fun v M => sm_wp X 23 63 [some (.ref 45), some (.int x1)] (v.toList ++ []) M Q)) :=
  (sm_blk X 23 54 (tt_lin 23 (by decide)) rfl rfl _ _ _ _).trans rfl
set_option maxRecDepth 100000 in
theorem bk_23_63 (X : (Nat → Int32) × Nat) (mo : Bool) (G : Nat × Nat) (I : Nat → Nat → Int32) (J : Nat → Nat → Int64) (Q : Option Value → sm_M → Prop) (x1 : Int32) :
    sm_wp X 23 63 [some (.ref 45), some (.int x1)] [] (sM mo G I J) Q =
    (True ∧ Q none (sM mo G I J)) :=
  (sm_blk X 23 63 (tt_lin 23 (by decide)) rfl rfl _ _ _ _).trans rfl
set_option maxRecDepth 100000 in
theorem bk_23_64 (X : (Nat → Int32) × Nat) (mo : Bool) (G : Nat × Nat) (I : Nat → Nat → Int32) (J : Nat → Nat → Int64) (Q : Option Value → sm_M → Prop) (x1 : Int32) :
    sm_wp X 23 64 [some (.ref 45), some (.int x1)] [] (sM mo G I J) Q =
    (sm_wp X 70 0 [some (.ref 31), some (.int x1)] [] (sM mo G I J) (fun v M => sm_wp X 23 72 [some (.ref 45), some (.int x1)] (v.toList ++ []) M Q)) :=
  (sm_blk X 23 64 (tt_lin 23 (by decide)) rfl rfl _ _ _ _).trans rfl
set_option maxRecDepth 100000 in
theorem bk_23_72 (X : (Nat → Int32) × Nat) (mo : Bool) (G : Nat × Nat) (I : Nat → Nat → Int32) (J : Nat → Nat → Int64) (Q : Option Value → sm_M → Prop) (x1 : Int32) (s0 : Int32) :
    sm_wp X 23 72 [some (.ref 45), some (.int x1)] [.int s0] (sM mo G I J) Q =
    (if ¬ (s0 : Int32) = 0 then sm_wp X 23 86 [some (.ref 45), some (.int x1)] [] (sM mo G I J) Q else (sm_wp X 24 0 [some (.ref 45), some (.int x1), some (.int 0), none, none, none, none, none] [] (sM mo G I J) (fun v M => sm_wp X 23 83 [some (.ref 45), some (.int x1)] (v.toList ++ [.int x1, .ref 45]) M Q))) :=
  (sm_blk X 23 72 (tt_lin 23 (by decide)) rfl rfl _ _ _ _).trans rfl
set_option maxRecDepth 100000 in
theorem bk_23_83 (X : (Nat → Int32) × Nat) (mo : Bool) (G : Nat × Nat) (I : Nat → Nat → Int32) (J : Nat → Nat → Int64) (Q : Option Value → sm_M → Prop) (x1 : Int32) (s1 : Int32) (s2 : Int32) :
    sm_wp X 23 83 [some (.ref 45), some (.int x1)] [.int s2, .int s1, .ref 45] (sM mo G I J) Q =
    (sm_wp X 32 0 [some (.ref 45), some (.int s1), some (.int s2), none, none] [] (sM mo G I J) (fun v M => sm_wp X 23 86 [some (.ref 45), some (.int x1)] (v.toList ++ []) M Q)) :=
  (sm_blk X 23 83 (tt_lin 23 (by decide)) rfl rfl _ _ _ _).trans rfl
set_option maxRecDepth 100000 in
theorem bk_23_86 (X : (Nat → Int32) × Nat) (mo : Bool) (G : Nat × Nat) (I : Nat → Nat → Int32) (J : Nat → Nat → Int64) (Q : Option Value → sm_M → Prop) (x1 : Int32) :
    sm_wp X 23 86 [some (.ref 45), some (.int x1)] [] (sM mo G I J) Q =
    (sm_wp X 70 0 [some (.ref 31), some (.int x1)] [] (sM mo G I J) (fun v M => sm_wp X 23 94 [some (.ref 45), some (.int x1)] (v.toList ++ []) M Q)) :=
  (sm_blk X 23 86 (tt_lin 23 (by decide)) rfl rfl _ _ _ _).trans rfl
set_option maxRecDepth 100000 in
theorem bk_23_94 (X : (Nat → Int32) × Nat) (mo : Bool) (G : Nat × Nat) (I : Nat → Nat → Int32) (J : Nat → Nat → Int64) (Q : Option Value → sm_M → Prop) (x1 : Int32) (s0 : Int32) :
    sm_wp X 23 94 [some (.ref 45), some (.int x1)] [.int s0] (sM mo G I J) Q =
    (if ¬ (s0 : Int32) = (1 : Int32) then sm_wp X 23 127 [some (.ref 45), some (.int x1)] [] (sM mo G I J) Q else (sm_wp X 80 0 [some (.ref 31), some (.int x1)] [] (sM mo G I J) (fun v M => sm_wp X 23 113 [some (.ref 45), some (.int x1)] (v.toList ++ [.int (I 1 3)]) M Q))) :=
  (sm_blk X 23 94 (tt_lin 23 (by decide)) rfl rfl _ _ _ _).trans rfl
set_option maxRecDepth 100000 in
theorem bk_23_113 (X : (Nat → Int32) × Nat) (mo : Bool) (G : Nat × Nat) (I : Nat → Nat → Int32) (J : Nat → Nat → Int64) (Q : Option Value → sm_M → Prop) (x1 : Int32) (s0 : Int32) (s1 : Int32) :
    sm_wp X 23 113 [some (.ref 45), some (.int x1)] [.int s1, .int s0] (sM mo G I J) Q =
    (if (s0 : Int32) < (s1 : Int32) then sm_wp X 23 127 [some (.ref 45), some (.int x1)] [] (sM mo G I J) Q else (sm_wp X 24 0 [some (.ref 45), some (.int x1), some (.int 1), none, none, none, none, none] [] (sM mo G I J) (fun v M => sm_wp X 23 124 [some (.ref 45), some (.int x1)] (v.toList ++ [.int x1, .ref 45]) M Q))) :=
  (sm_blk X 23 113 (tt_lin 23 (by decide)) rfl rfl _ _ _ _).trans rfl
set_option maxRecDepth 100000 in
theorem bk_23_124 (X : (Nat → Int32) × Nat) (mo : Bool) (G : Nat × Nat) (I : Nat → Nat → Int32) (J : Nat → Nat → Int64) (Q : Option Value → sm_M → Prop) (x1 : Int32) (s1 : Int32) (s2 : Int32) :
    sm_wp X 23 124 [some (.ref 45), some (.int x1)] [.int s2, .int s1, .ref 45] (sM mo G I J) Q =
    (sm_wp X 33 0 [some (.ref 45), some (.int s1), some (.int s2)] [] (sM mo G I J) (fun v M => sm_wp X 23 127 [some (.ref 45), some (.int x1)] (v.toList ++ []) M Q)) :=
  (sm_blk X 23 124 (tt_lin 23 (by decide)) rfl rfl _ _ _ _).trans rfl
set_option maxRecDepth 100000 in
theorem bk_23_127 (X : (Nat → Int32) × Nat) (mo : Bool) (G : Nat × Nat) (I : Nat → Nat → Int32) (J : Nat → Nat → Int64) (Q : Option Value → sm_M → Prop) (x1 : Int32) :
    sm_wp X 23 127 [some (.ref 45), some (.int x1)] [] (sM mo G I J) Q =
    (True ∧ Q none (sM mo G I J)) :=
  (sm_blk X 23 127 (tt_lin 23 (by decide)) rfl rfl _ _ _ _).trans rfl
set_option maxRecDepth 100000 in
theorem bk_24_0 (X : (Nat → Int32) × Nat) (mo : Bool) (G : Nat × Nat) (I : Nat → Nat → Int32) (J : Nat → Nat → Int64) (Q : Option Value → sm_M → Prop) (x1 : Int32) (x2 : Int32) :
    sm_wp X 24 0 [some (.ref 45), some (.int x1), some (.int x2), none, none, none, none, none] [] (sM mo G I J) Q =
    (sm_wp X 73 0 [some (.ref 31), some (.int x1)] [] (sM mo G I J) (fun v M => sm_wp X 24 8 [some (.ref 45), some (.int x1), some (.int x2), none, none, none, none, none] (v.toList ++ []) M Q)) :=
  (sm_blk X 24 0 (tt_lin 24 (by decide)) rfl rfl _ _ _ _).trans rfl
set_option maxRecDepth 100000 in
theorem bk_24_8 (X : (Nat → Int32) × Nat) (mo : Bool) (G : Nat × Nat) (I : Nat → Nat → Int32) (J : Nat → Nat → Int64) (Q : Option Value → sm_M → Prop) (x1 : Int32) (x2 : Int32) (s0 : Int32) :
    sm_wp X 24 8 [some (.ref 45), some (.int x1), some (.int x2), none, none, none, none, none] [.int s0] (sM mo G I J) Q =
    (sm_wp X 41 0 [some (.ref 21), some (.int s0)] [] (sM mo G I J) (fun v M => sm_wp X 24 17 [some (.ref 45), some (.int x1), some (.int x2), some (.int s0), none, none, none, none] (v.toList ++ []) M Q)) :=
  (sm_blk X 24 8 (tt_lin 24 (by decide)) rfl rfl _ _ _ _).trans rfl
set_option maxRecDepth 100000 in
theorem bk_24_17 (X : (Nat → Int32) × Nat) (mo : Bool) (G : Nat × Nat) (I : Nat → Nat → Int32) (J : Nat → Nat → Int64) (Q : Option Value → sm_M → Prop) (x1 : Int32) (x2 : Int32) (x3 : Int32) (s0 : Int32) :
    sm_wp X 24 17 [some (.ref 45), some (.int x1), some (.int x2), some (.int x3), none, none, none, none] [.int s0] (sM mo G I J) Q =
    (sm_wp X 25 0 [some (.ref 45), some (.int x1), none, none, none, none, none, none] [] (sM mo G I J) (fun v M => sm_wp X 24 24 [some (.ref 45), some (.int x1), some (.int x2), some (.int x3), some (.int s0), none, none, none] (v.toList ++ []) M Q)) :=
  (sm_blk X 24 17 (tt_lin 24 (by decide)) rfl rfl _ _ _ _).trans rfl
set_option maxRecDepth 100000 in
theorem bk_24_24 (X : (Nat → Int32) × Nat) (mo : Bool) (G : Nat × Nat) (I : Nat → Nat → Int32) (J : Nat → Nat → Int64) (Q : Option Value → sm_M → Prop) (x1 : Int32) (x2 : Int32) (x3 : Int32) (x4 : Int32) :
    sm_wp X 24 24 [some (.ref 45), some (.int x1), some (.int x2), some (.int x3), some (.int x4), none, none, none] [] (sM mo G I J) Q =
    (sm_wp X 24 27 [some (.ref 45), none, some (.int x2), some (.int x3), some (.int x4), some (.int 0), none, none] [] (sM mo G I J) Q) :=
  (sm_blk X 24 24 (tt_lin 24 (by decide)) rfl rfl _ _ _ _).trans rfl
set_option maxRecDepth 100000 in
theorem bk_24_27 (X : (Nat → Int32) × Nat) (mo : Bool) (G : Nat × Nat) (I : Nat → Nat → Int32) (J : Nat → Nat → Int64) (Q : Option Value → sm_M → Prop) (x2 : Int32) (x3 : Int32) (x4 : Int32) (x5 : Int32) :
    sm_wp X 24 27 [some (.ref 45), none, some (.int x2), some (.int x3), some (.int x4), some (.int x5), none, none] [] (sM mo G I J) Q =
    (if (x4 : Int32) ≤ (x5 : Int32) then sm_wp X 24 91 [some (.ref 45), none, some (.int x2), some (.int x3), some (.int x4), some (.int x5), none, none] [] (sM mo G I J) Q else (sm_wp X 42 0 [some (.ref 21), some (.int x3), some (.int x5)] [] (sM mo G I J) (fun v M => sm_wp X 24 44 [some (.ref 45), none, some (.int x2), some (.int x3), some (.int x4), some (.int x5), none, none] (v.toList ++ []) M Q))) :=
  (sm_blk X 24 27 (tt_lin 24 (by decide)) rfl rfl _ _ _ _).trans rfl
set_option maxRecDepth 100000 in
theorem bk_24_44 (X : (Nat → Int32) × Nat) (mo : Bool) (G : Nat × Nat) (I : Nat → Nat → Int32) (J : Nat → Nat → Int64) (Q : Option Value → sm_M → Prop) (x2 : Int32) (x3 : Int32) (x4 : Int32) (x5 : Int32) (s0 : Int32) :
    sm_wp X 24 44 [some (.ref 45), none, some (.int x2), some (.int x3), some (.int x4), some (.int x5), none, none] [.int s0] (sM mo G I J) Q =
    (if ¬ (s0 : Int32) = (3 : Int32) then sm_wp X 24 52 [some (.ref 45), none, some (.int x2), some (.int x3), some (.int x4), some (.int x5), none, none] [] (sM mo G I J) Q else (sm_wp X 24 53 [some (.ref 45), none, some (.int x2), some (.int x3), some (.int x4), some (.int x5), none, none] [.int 1] (sM mo G I J) Q)) :=
  (sm_blk X 24 44 (tt_lin 24 (by decide)) rfl rfl _ _ _ _).trans rfl
set_option maxRecDepth 100000 in
theorem bk_24_52 (X : (Nat → Int32) × Nat) (mo : Bool) (G : Nat × Nat) (I : Nat → Nat → Int32) (J : Nat → Nat → Int64) (Q : Option Value → sm_M → Prop) (x2 : Int32) (x3 : Int32) (x4 : Int32) (x5 : Int32) :
    sm_wp X 24 52 [some (.ref 45), none, some (.int x2), some (.int x3), some (.int x4), some (.int x5), none, none] [] (sM mo G I J) Q =
    (if ¬ (0 : Int32) = (x2 : Int32) then sm_wp X 24 85 [some (.ref 45), none, some (.int x2), some (.int x3), some (.int x4), some (.int x5), none, none] [] (sM mo G I J) Q else (sm_wp X 26 0 [some (.ref 45), some (.int x3), some (.int x5), none, none, none, none] [] (sM mo G I J) (fun v M => sm_wp X 24 64 [some (.ref 45), none, some (.int x2), some (.int x3), some (.int x4), some (.int x5), none, none] (v.toList ++ []) M Q))) :=
  (sm_blk X 24 52 (tt_lin 24 (by decide)) rfl rfl _ _ _ _).trans rfl
set_option maxRecDepth 100000 in
theorem bk_24_53 (X : (Nat → Int32) × Nat) (mo : Bool) (G : Nat × Nat) (I : Nat → Nat → Int32) (J : Nat → Nat → Int64) (Q : Option Value → sm_M → Prop) (x2 : Int32) (x3 : Int32) (x4 : Int32) (x5 : Int32) (s0 : Int32) :
    sm_wp X 24 53 [some (.ref 45), none, some (.int x2), some (.int x3), some (.int x4), some (.int x5), none, none] [.int s0] (sM mo G I J) Q =
    (if ¬ (s0 : Int32) = (x2 : Int32) then sm_wp X 24 85 [some (.ref 45), none, some (.int x2), some (.int x3), some (.int x4), some (.int x5), none, none] [] (sM mo G I J) Q else (sm_wp X 26 0 [some (.ref 45), some (.int x3), some (.int x5), none, none, none, none] [] (sM mo G I J) (fun v M => sm_wp X 24 64 [some (.ref 45), none, some (.int x2), some (.int x3), some (.int x4), some (.int x5), none, none] (v.toList ++ []) M Q))) :=
  (sm_blk X 24 53 (tt_lin 24 (by decide)) rfl rfl _ _ _ _).trans rfl
set_option maxRecDepth 100000 in
theorem bk_24_64 (X : (Nat → Int32) × Nat) (mo : Bool) (G : Nat × Nat) (I : Nat → Nat → Int32) (J : Nat → Nat → Int64) (Q : Option Value → sm_M → Prop) (x2 : Int32) (x3 : Int32) (x4 : Int32) (x5 : Int32) (s0 : Int64) :
    sm_wp X 24 64 [some (.ref 45), none, some (.int x2), some (.int x3), some (.int x4), some (.int x5), none, none] [.long s0] (sM mo G I J) Q =
    (if (lg_cmp s0 (-9223372036854775808) : Int32) = 0 then sm_wp X 24 85 [some (.ref 45), none, some (.int x2), some (.int x3), some (.int x4), some (.int x5), some (.long s0), none] [] (sM mo G I J) Q else (if (lg_cmp s0 0 : Int32) = 0 then sm_wp X 24 85 [some (.ref 45), none, some (.int x2), some (.int x3), some (.int x4), some (.int x5), some (.long s0), none] [] (sM mo G I J) Q else (True ∧ Q (some (.int x5)) (sM mo G I J)))) :=
  (sm_blk X 24 64 (tt_lin 24 (by decide)) rfl rfl _ _ _ _).trans rfl
set_option maxRecDepth 100000 in
theorem bk_24_85 (X : (Nat → Int32) × Nat) (mo : Bool) (G : Nat × Nat) (I : Nat → Nat → Int32) (J : Nat → Nat → Int64) (Q : Option Value → sm_M → Prop) (x2 : Int32) (x3 : Int32) (x4 : Int32) (x5 : Int32) :
    sm_wp X 24 85 [some (.ref 45), none, some (.int x2), some (.int x3), some (.int x4), some (.int x5), none, none] [] (sM mo G I J) Q =
    (sm_wp X 24 27 [some (.ref 45), none, some (.int x2), some (.int x3), some (.int x4), some (.int (x5 + 1)), none, none] [] (sM mo G I J) Q) :=
  (sm_blk X 24 85 (tt_lin 24 (by decide)) rfl rfl _ _ _ _).trans rfl
set_option maxRecDepth 100000 in
theorem bk_24_91 (X : (Nat → Int32) × Nat) (mo : Bool) (G : Nat × Nat) (I : Nat → Nat → Int32) (J : Nat → Nat → Int64) (Q : Option Value → sm_M → Prop) (x2 : Int32) (x3 : Int32) (x4 : Int32) (x5 : Int32) :
    sm_wp X 24 91 [some (.ref 45), none, some (.int x2), some (.int x3), some (.int x4), some (.int x5), none, none] [] (sM mo G I J) Q =
    (True ∧ Q (some (.int (-1))) (sM mo G I J)) :=
  (sm_blk X 24 91 (tt_lin 24 (by decide)) rfl rfl _ _ _ _).trans rfl
set_option maxRecDepth 100000 in
theorem bk_25_0 (X : (Nat → Int32) × Nat) (mo : Bool) (G : Nat × Nat) (I : Nat → Nat → Int32) (J : Nat → Nat → Int64) (Q : Option Value → sm_M → Prop) (x1 : Int32) :
    sm_wp X 25 0 [some (.ref 45), some (.int x1), none, none, none, none, none, none] [] (sM mo G I J) Q =
    (sm_wp X 73 0 [some (.ref 31), some (.int x1)] [] (sM mo G I J) (fun v M => sm_wp X 25 8 [some (.ref 45), some (.int x1), none, none, none, none, none, none] (v.toList ++ []) M Q)) :=
  (sm_blk X 25 0 (tt_lin 25 (by decide)) rfl rfl _ _ _ _).trans rfl
set_option maxRecDepth 100000 in
theorem bk_25_8 (X : (Nat → Int32) × Nat) (mo : Bool) (G : Nat × Nat) (I : Nat → Nat → Int32) (J : Nat → Nat → Int64) (Q : Option Value → sm_M → Prop) (x1 : Int32) (s0 : Int32) :
    sm_wp X 25 8 [some (.ref 45), some (.int x1), none, none, none, none, none, none] [.int s0] (sM mo G I J) Q =
    (sm_wp X 75 0 [some (.ref 31), some (.int x1)] [] (sM mo G I J) (fun v M => sm_wp X 25 17 [some (.ref 45), some (.int x1), some (.int s0), none, none, none, none, none] (v.toList ++ []) M Q)) :=
  (sm_blk X 25 8 (tt_lin 25 (by decide)) rfl rfl _ _ _ _).trans rfl
set_option maxRecDepth 100000 in
theorem bk_25_17 (X : (Nat → Int32) × Nat) (mo : Bool) (G : Nat × Nat) (I : Nat → Nat → Int32) (J : Nat → Nat → Int64) (Q : Option Value → sm_M → Prop) (x1 : Int32) (x2 : Int32) (s0 : Int32) :
    sm_wp X 25 17 [some (.ref 45), some (.int x1), some (.int x2), none, none, none, none, none] [.int s0] (sM mo G I J) Q =
    (sm_wp X 76 0 [some (.ref 31), some (.int x1)] [] (sM mo G I J) (fun v M => sm_wp X 25 26 [some (.ref 45), some (.int x1), some (.int x2), some (.int s0), none, none, none, none] (v.toList ++ []) M Q)) :=
  (sm_blk X 25 17 (tt_lin 25 (by decide)) rfl rfl _ _ _ _).trans rfl
set_option maxRecDepth 100000 in
theorem bk_25_26 (X : (Nat → Int32) × Nat) (mo : Bool) (G : Nat × Nat) (I : Nat → Nat → Int32) (J : Nat → Nat → Int64) (Q : Option Value → sm_M → Prop) (x1 : Int32) (x2 : Int32) (x3 : Int32) (s0 : Int32) :
    sm_wp X 25 26 [some (.ref 45), some (.int x1), some (.int x2), some (.int x3), none, none, none, none] [.int s0] (sM mo G I J) Q =
    (sm_wp X 103 0 [some (.ref 1), some (.int x2), some (.int x3), none, none] [] (sM mo G I J) (fun v M => sm_wp X 25 37 [some (.ref 45), some (.int x1), some (.int x2), some (.int x3), some (.int s0), none, none, none] (v.toList ++ []) M Q)) :=
  (sm_blk X 25 26 (tt_lin 25 (by decide)) rfl rfl _ _ _ _).trans rfl
set_option maxRecDepth 100000 in
theorem bk_25_37 (X : (Nat → Int32) × Nat) (mo : Bool) (G : Nat × Nat) (I : Nat → Nat → Int32) (J : Nat → Nat → Int64) (Q : Option Value → sm_M → Prop) (x1 : Int32) (x2 : Int32) (x3 : Int32) (x4 : Int32) (s0 : Int32) :
    sm_wp X 25 37 [some (.ref 45), some (.int x1), some (.int x2), some (.int x3), some (.int x4), none, none, none] [.int s0] (sM mo G I J) Q =
    (sm_wp X 103 0 [some (.ref 1), some (.int x2), some (.int x4), none, none] [] (sM mo G I J) (fun v M => sm_wp X 25 49 [some (.ref 45), some (.int x1), some (.int x2), some (.int x3), some (.int x4), some (.int s0), none, none] (v.toList ++ []) M Q)) :=
  (sm_blk X 25 37 (tt_lin 25 (by decide)) rfl rfl _ _ _ _).trans rfl
set_option maxRecDepth 100000 in
theorem bk_25_49 (X : (Nat → Int32) × Nat) (mo : Bool) (G : Nat × Nat) (I : Nat → Nat → Int32) (J : Nat → Nat → Int64) (Q : Option Value → sm_M → Prop) (x1 : Int32) (x2 : Int32) (x3 : Int32) (x4 : Int32) (x5 : Int32) (s0 : Int32) :
    sm_wp X 25 49 [some (.ref 45), some (.int x1), some (.int x2), some (.int x3), some (.int x4), some (.int x5), none, none] [.int s0] (sM mo G I J) Q =
    (sm_wp X 105 0 [some (.ref 1), some (.int x2), none, none] [] (sM mo G I J) (fun v M => sm_wp X 25 59 [some (.ref 45), some (.int x1), some (.int x2), some (.int x3), some (.int x4), some (.int x5), some (.int s0), none] (v.toList ++ []) M Q)) :=
  (sm_blk X 25 49 (tt_lin 25 (by decide)) rfl rfl _ _ _ _).trans rfl
set_option maxRecDepth 100000 in
theorem bk_25_59 (X : (Nat → Int32) × Nat) (mo : Bool) (G : Nat × Nat) (I : Nat → Nat → Int32) (J : Nat → Nat → Int64) (Q : Option Value → sm_M → Prop) (x1 : Int32) (x2 : Int32) (x3 : Int32) (x4 : Int32) (x5 : Int32) (x6 : Int32) (s0 : Int32) :
    sm_wp X 25 59 [some (.ref 45), some (.int x1), some (.int x2), some (.int x3), some (.int x4), some (.int x5), some (.int x6), none] [.int s0] (sM mo G I J) Q =
    (vp_in 0 12 ∧ (vp_in 1 12 ∧ (vp_in 2 12 ∧ (sm_wp X 106 0 [some (.ref 1), some (.int x3), none, none] [] (sM mo G I (up2 (up2 (up2 J 46 (0 : Int32).toNatClampNeg ((x5 - x6).toInt64)) 46 (1 : Int32).toNatClampNeg (x5.toInt64)) 46 (2 : Int32).toNatClampNeg (x6.toInt64))) (fun v M => sm_wp X 25 104 [some (.ref 45), some (.int x1), some (.int x2), some (.int x3), some (.int x4), some (.int x5), some (.int x6), some (.int s0)] (v.toList ++ [.int 3, .ref 46]) M Q))))) :=
  (sm_blk X 25 59 (tt_lin 25 (by decide)) rfl rfl _ _ _ _).trans rfl
set_option maxRecDepth 100000 in
theorem bk_25_104 (X : (Nat → Int32) × Nat) (mo : Bool) (G : Nat × Nat) (I : Nat → Nat → Int32) (J : Nat → Nat → Int64) (Q : Option Value → sm_M → Prop) (x1 : Int32) (x2 : Int32) (x3 : Int32) (x4 : Int32) (x5 : Int32) (x6 : Int32) (x7 : Int32) (s1 : Int32) (s2 : Int32) :
    sm_wp X 25 104 [some (.ref 45), some (.int x1), some (.int x2), some (.int x3), some (.int x4), some (.int x5), some (.int x6), some (.int x7)] [.int s2, .int s1, .ref 46] (sM mo G I J) Q =
    (sm_wp X 106 0 [some (.ref 1), some (.int x4), none, none] [] (sM mo G I J) (fun v M => sm_wp X 25 113 [some (.ref 45), some (.int x1), some (.int x2), some (.int x3), some (.int x4), some (.int x5), some (.int x6), some (.int x7)] (v.toList ++ [.int s2, .int s1, .ref 46]) M Q)) :=
  (sm_blk X 25 104 (tt_lin 25 (by decide)) rfl rfl _ _ _ _).trans rfl
set_option maxRecDepth 100000 in
theorem bk_25_113 (X : (Nat → Int32) × Nat) (mo : Bool) (G : Nat × Nat) (I : Nat → Nat → Int32) (J : Nat → Nat → Int64) (Q : Option Value → sm_M → Prop) (x1 : Int32) (x2 : Int32) (x3 : Int32) (x4 : Int32) (x5 : Int32) (x6 : Int32) (x7 : Int32) (s1 : Int32) (s2 : Int32) (s3 : Int32) :
    sm_wp X 25 113 [some (.ref 45), some (.int x1), some (.int x2), some (.int x3), some (.int x4), some (.int x5), some (.int x6), some (.int x7)] [.int s3, .int s2, .int s1, .ref 46] (sM mo G I J) Q =
    (vp_in s1 12 ∧ (sm_wp X 107 0 [some (.ref 1), some (.int x3), some (.int (x7 &&& (x4 ^^^ (-1)))), none, none] [] (sM mo G I (up2 J 46 s1.toNatClampNeg ((s2 - s3).toInt64))) (fun v M => sm_wp X 25 136 [some (.ref 45), some (.int x1), some (.int x2), some (.int x3), some (.int x4), some (.int x5), some (.int x6), some (.int x7)] (v.toList ++ [.int 4, .ref 46]) M Q))) :=
  (sm_blk X 25 113 (tt_lin 25 (by decide)) rfl rfl _ _ _ _).trans rfl
set_option maxRecDepth 100000 in
theorem bk_25_136 (X : (Nat → Int32) × Nat) (mo : Bool) (G : Nat × Nat) (I : Nat → Nat → Int32) (J : Nat → Nat → Int64) (Q : Option Value → sm_M → Prop) (x1 : Int32) (x2 : Int32) (x3 : Int32) (x4 : Int32) (x5 : Int32) (x6 : Int32) (x7 : Int32) (s1 : Int32) (s2 : Int32) :
    sm_wp X 25 136 [some (.ref 45), some (.int x1), some (.int x2), some (.int x3), some (.int x4), some (.int x5), some (.int x6), some (.int x7)] [.int s2, .int s1, .ref 46] (sM mo G I J) Q =
    (vp_in s1 12 ∧ (sm_wp X 103 0 [some (.ref 1), some (.int x2), some (.int x7), none, none] [] (sM mo G I (up2 J 46 s1.toNatClampNeg (s2.toInt64))) (fun v M => sm_wp X 25 153 [some (.ref 45), some (.int x1), some (.int x2), some (.int x3), some (.int x4), some (.int x5), some (.int x6), some (.int x7)] (v.toList ++ [.int 5, .ref 46]) M Q))) :=
  (sm_blk X 25 136 (tt_lin 25 (by decide)) rfl rfl _ _ _ _).trans rfl
set_option maxRecDepth 100000 in
theorem bk_25_153 (X : (Nat → Int32) × Nat) (mo : Bool) (G : Nat × Nat) (I : Nat → Nat → Int32) (J : Nat → Nat → Int64) (Q : Option Value → sm_M → Prop) (x1 : Int32) (x2 : Int32) (x3 : Int32) (x4 : Int32) (x5 : Int32) (x6 : Int32) (x7 : Int32) (s1 : Int32) (s2 : Int32) :
    sm_wp X 25 153 [some (.ref 45), some (.int x1), some (.int x2), some (.int x3), some (.int x4), some (.int x5), some (.int x6), some (.int x7)] [.int s2, .int s1, .ref 46] (sM mo G I J) Q =
    (vp_in s1 12 ∧ (sm_wp X 108 0 [some (.ref 1), some (.int x2)] [] (sM mo G I (up2 J 46 s1.toNatClampNeg (s2.toInt64))) (fun v M => sm_wp X 25 169 [some (.ref 45), some (.int x1), some (.int x2), some (.int x3), some (.int x4), some (.int x5), some (.int x6), some (.int x7)] (v.toList ++ [.int 6, .ref 46]) M Q))) :=
  (sm_blk X 25 153 (tt_lin 25 (by decide)) rfl rfl _ _ _ _).trans rfl
set_option maxRecDepth 100000 in
theorem bk_25_169 (X : (Nat → Int32) × Nat) (mo : Bool) (G : Nat × Nat) (I : Nat → Nat → Int32) (J : Nat → Nat → Int64) (Q : Option Value → sm_M → Prop) (x1 : Int32) (x2 : Int32) (x3 : Int32) (x4 : Int32) (x5 : Int32) (x6 : Int32) (x7 : Int32) (s1 : Int32) (s2 : Int32) :
    sm_wp X 25 169 [some (.ref 45), some (.int x1), some (.int x2), some (.int x3), some (.int x4), some (.int x5), some (.int x6), some (.int x7)] [.int s2, .int s1, .ref 46] (sM mo G I J) Q =
    (vp_in s1 12 ∧ (sm_wp X 109 0 [some (.ref 1), some (.int x2)] [] (sM mo G I (up2 J 46 s1.toNatClampNeg (s2.toInt64))) (fun v M => sm_wp X 25 185 [some (.ref 45), some (.int x1), some (.int x2), some (.int x3), some (.int x4), some (.int x5), some (.int x6), some (.int x7)] (v.toList ++ [.int 7, .ref 46]) M Q))) :=
  (sm_blk X 25 169 (tt_lin 25 (by decide)) rfl rfl _ _ _ _).trans rfl
set_option maxRecDepth 100000 in
theorem bk_25_185 (X : (Nat → Int32) × Nat) (mo : Bool) (G : Nat × Nat) (I : Nat → Nat → Int32) (J : Nat → Nat → Int64) (Q : Option Value → sm_M → Prop) (x1 : Int32) (x2 : Int32) (x3 : Int32) (x4 : Int32) (x5 : Int32) (x6 : Int32) (x7 : Int32) (s1 : Int32) (s2 : Int32) :
    sm_wp X 25 185 [some (.ref 45), some (.int x1), some (.int x2), some (.int x3), some (.int x4), some (.int x5), some (.int x6), some (.int x7)] [.int s2, .int s1, .ref 46] (sM mo G I J) Q =
    (vp_in s1 12 ∧ (sm_wp X 72 0 [some (.ref 31), some (.int x1)] [] (sM mo G I (up2 J 46 s1.toNatClampNeg (s2.toInt64))) (fun v M => sm_wp X 25 205 [some (.ref 45), some (.int x1), some (.int x2), some (.int x3), some (.int x4), some (.int x5), some (.int x6), some (.int x7)] (v.toList ++ [.ref 1, .int 8, .ref 46]) M Q))) :=
  (sm_blk X 25 185 (tt_lin 25 (by decide)) rfl rfl _ _ _ _).trans rfl
set_option maxRecDepth 100000 in
theorem bk_25_205 (X : (Nat → Int32) × Nat) (mo : Bool) (G : Nat × Nat) (I : Nat → Nat → Int32) (J : Nat → Nat → Int64) (Q : Option Value → sm_M → Prop) (x1 : Int32) (x2 : Int32) (x3 : Int32) (x4 : Int32) (x5 : Int32) (x6 : Int32) (x7 : Int32) (s1 : Int32) (s3 : Int32) :
    sm_wp X 25 205 [some (.ref 45), some (.int x1), some (.int x2), some (.int x3), some (.int x4), some (.int x5), some (.int x6), some (.int x7)] [.int s3, .ref 1, .int s1, .ref 46] (sM mo G I J) Q =
    (sm_wp X 109 0 [some (.ref 1), some (.int s3)] [] (sM mo G I J) (fun v M => sm_wp X 25 208 [some (.ref 45), some (.int x1), some (.int x2), some (.int x3), some (.int x4), some (.int x5), some (.int x6), some (.int x7)] (v.toList ++ [.int s1, .ref 46]) M Q)) :=
  (sm_blk X 25 205 (tt_lin 25 (by decide)) rfl rfl _ _ _ _).trans rfl
set_option maxRecDepth 100000 in
theorem bk_25_208 (X : (Nat → Int32) × Nat) (mo : Bool) (G : Nat × Nat) (I : Nat → Nat → Int32) (J : Nat → Nat → Int64) (Q : Option Value → sm_M → Prop) (x1 : Int32) (x2 : Int32) (x3 : Int32) (x4 : Int32) (x5 : Int32) (x6 : Int32) (x7 : Int32) (s1 : Int32) (s2 : Int32) :
    sm_wp X 25 208 [some (.ref 45), some (.int x1), some (.int x2), some (.int x3), some (.int x4), some (.int x5), some (.int x6), some (.int x7)] [.int s2, .int s1, .ref 46] (sM mo G I J) Q =
    (vp_in s1 12 ∧ (vp_in 9 12 ∧ (sm_wp X 71 0 [some (.ref 31), some (.int x1)] [] (sM mo G I (up2 (up2 J 46 s1.toNatClampNeg (s2.toInt64)) 46 (9 : Int32).toNatClampNeg ((I 1 3).toInt64))) (fun v M => sm_wp X 25 239 [some (.ref 45), some (.int x1), some (.int x2), some (.int x3), some (.int x4), some (.int x5), some (.int x6), some (.int x7)] (v.toList ++ [.int 10, .ref 46]) M Q)))) :=
  (sm_blk X 25 208 (tt_lin 25 (by decide)) rfl rfl _ _ _ _).trans rfl
set_option maxRecDepth 100000 in
theorem bk_25_239 (X : (Nat → Int32) × Nat) (mo : Bool) (G : Nat × Nat) (I : Nat → Nat → Int32) (J : Nat → Nat → Int64) (Q : Option Value → sm_M → Prop) (x1 : Int32) (x2 : Int32) (x3 : Int32) (x4 : Int32) (x5 : Int32) (x6 : Int32) (x7 : Int32) (s1 : Int32) (s2 : Int32) :
    sm_wp X 25 239 [some (.ref 45), some (.int x1), some (.int x2), some (.int x3), some (.int x4), some (.int x5), some (.int x6), some (.int x7)] [.int s2, .int s1, .ref 46] (sM mo G I J) Q =
    (vp_in s1 12 ∧ (sm_wp X 77 0 [some (.ref 31), some (.int x1)] [] (sM mo G I (up2 J 46 s1.toNatClampNeg ((s2 - (I 1 3)).toInt64))) (fun v M => sm_wp X 25 263 [some (.ref 45), some (.int x1), some (.int x2), some (.int x3), some (.int x4), some (.int x5), some (.int x6), some (.int x7)] (v.toList ++ [.int 11, .ref 46]) M Q))) :=
  (sm_blk X 25 239 (tt_lin 25 (by decide)) rfl rfl _ _ _ _).trans rfl
set_option maxRecDepth 100000 in
theorem bk_25_263 (X : (Nat → Int32) × Nat) (mo : Bool) (G : Nat × Nat) (I : Nat → Nat → Int32) (J : Nat → Nat → Int64) (Q : Option Value → sm_M → Prop) (x1 : Int32) (x2 : Int32) (x3 : Int32) (x4 : Int32) (x5 : Int32) (x6 : Int32) (x7 : Int32) (s1 : Int32) (s2 : Int32) :
    sm_wp X 25 263 [some (.ref 45), some (.int x1), some (.int x2), some (.int x3), some (.int x4), some (.int x5), some (.int x6), some (.int x7)] [.int s2, .int s1, .ref 46] (sM mo G I J) Q =
    (if (s2 : Int32) = 0 then sm_wp X 25 270 [some (.ref 45), some (.int x1), some (.int x2), some (.int x3), some (.int x4), some (.int x5), some (.int x6), some (.int x7)] [.int s1, .ref 46] (sM mo G I J) Q else (sm_wp X 25 271 [some (.ref 45), some (.int x1), some (.int x2), some (.int x3), some (.int x4), some (.int x5), some (.int x6), some (.int x7)] [.long 1, .int s1, .ref 46] (sM mo G I J) Q)) :=
  (sm_blk X 25 263 (tt_lin 25 (by decide)) rfl rfl _ _ _ _).trans rfl
set_option maxRecDepth 100000 in
theorem bk_25_270 (X : (Nat → Int32) × Nat) (mo : Bool) (G : Nat × Nat) (I : Nat → Nat → Int32) (J : Nat → Nat → Int64) (Q : Option Value → sm_M → Prop) (x1 : Int32) (x2 : Int32) (x3 : Int32) (x4 : Int32) (x5 : Int32) (x6 : Int32) (x7 : Int32) (s1 : Int32) :
    sm_wp X 25 270 [some (.ref 45), some (.int x1), some (.int x2), some (.int x3), some (.int x4), some (.int x5), some (.int x6), some (.int x7)] [.int s1, .ref 46] (sM mo G I J) Q =
    (vp_in s1 12 ∧ (True ∧ Q none (sM mo G I (up2 J 46 s1.toNatClampNeg 0)))) :=
  (sm_blk X 25 270 (tt_lin 25 (by decide)) rfl rfl _ _ _ _).trans rfl
set_option maxRecDepth 100000 in
theorem bk_25_271 (X : (Nat → Int32) × Nat) (mo : Bool) (G : Nat × Nat) (I : Nat → Nat → Int32) (J : Nat → Nat → Int64) (Q : Option Value → sm_M → Prop) (x1 : Int32) (x2 : Int32) (x3 : Int32) (x4 : Int32) (x5 : Int32) (x6 : Int32) (x7 : Int32) (s1 : Int32) (s2 : Int64) :
    sm_wp X 25 271 [some (.ref 45), some (.int x1), some (.int x2), some (.int x3), some (.int x4), some (.int x5), some (.int x6), some (.int x7)] [.long s2, .int s1, .ref 46] (sM mo G I J) Q =
    (vp_in s1 12 ∧ (True ∧ Q none (sM mo G I (up2 J 46 s1.toNatClampNeg s2)))) :=
  (sm_blk X 25 271 (tt_lin 25 (by decide)) rfl rfl _ _ _ _).trans rfl
set_option maxRecDepth 100000 in
theorem bk_26_0 (X : (Nat → Int32) × Nat) (mo : Bool) (G : Nat × Nat) (I : Nat → Nat → Int32) (J : Nat → Nat → Int64) (Q : Option Value → sm_M → Prop) (x1 : Int32) (x2 : Int32) :
    sm_wp X 26 0 [some (.ref 45), some (.int x1), some (.int x2), none, none, none, none] [] (sM mo G I J) Q =
    (sm_wp X 44 0 [some (.ref 21), some (.int x1), some (.int x2)] [] (sM mo G I J) (fun v M => sm_wp X 26 9 [some (.ref 45), some (.int x1), some (.int x2), none, none, none, none] (v.toList ++ []) M Q)) :=
  (sm_blk X 26 0 (tt_lin 26 (by decide)) rfl rfl _ _ _ _).trans rfl
set_option maxRecDepth 100000 in
theorem bk_26_9 (X : (Nat → Int32) × Nat) (mo : Bool) (G : Nat × Nat) (I : Nat → Nat → Int32) (J : Nat → Nat → Int64) (Q : Option Value → sm_M → Prop) (x1 : Int32) (x2 : Int32) (s0 : Int32) :
    sm_wp X 26 9 [some (.ref 45), some (.int x1), some (.int x2), none, none, none, none] [.int s0] (sM mo G I J) Q =
    (if (x2 : Int32) ≤ 0 then sm_wp X 26 33 [some (.ref 45), some (.int x1), some (.int x2), some (.int s0), none, none, none] [] (sM mo G (up2 I 45 5 0) J) Q else (sm_wp X 44 0 [some (.ref 21), some (.int x1), some (.int (x2 - 1))] [] (sM mo G (up2 I 45 5 0) J) (fun v M => sm_wp X 26 30 [some (.ref 45), some (.int x1), some (.int x2), some (.int s0), none, none, none] (v.toList ++ []) M Q))) :=
  (sm_blk X 26 9 (tt_lin 26 (by decide)) rfl rfl _ _ _ _).trans rfl
set_option maxRecDepth 100000 in
theorem bk_26_30 (X : (Nat → Int32) × Nat) (mo : Bool) (G : Nat × Nat) (I : Nat → Nat → Int32) (J : Nat → Nat → Int64) (Q : Option Value → sm_M → Prop) (x1 : Int32) (x2 : Int32) (x3 : Int32) (s0 : Int32) :
    sm_wp X 26 30 [some (.ref 45), some (.int x1), some (.int x2), some (.int x3), none, none, none] [.int s0] (sM mo G I J) Q =
    (sm_wp X 26 34 [some (.ref 45), some (.int x1), some (.int x2), some (.int x3), none, none, none] [.int s0] (sM mo G I J) Q) :=
  (sm_blk X 26 30 (tt_lin 26 (by decide)) rfl rfl _ _ _ _).trans rfl
set_option maxRecDepth 100000 in
theorem bk_26_33 (X : (Nat → Int32) × Nat) (mo : Bool) (G : Nat × Nat) (I : Nat → Nat → Int32) (J : Nat → Nat → Int64) (Q : Option Value → sm_M → Prop) (x1 : Int32) (x2 : Int32) (x3 : Int32) :
    sm_wp X 26 33 [some (.ref 45), some (.int x1), some (.int x2), some (.int x3), none, none, none] [] (sM mo G I J) Q =
    (sm_wp X 26 36 [some (.ref 45), some (.int x1), none, some (.int x3), some (.int 0), none, none] [] (sM mo G I J) Q) :=
  (sm_blk X 26 33 (tt_lin 26 (by decide)) rfl rfl _ _ _ _).trans rfl
set_option maxRecDepth 100000 in
theorem bk_26_34 (X : (Nat → Int32) × Nat) (mo : Bool) (G : Nat × Nat) (I : Nat → Nat → Int32) (J : Nat → Nat → Int64) (Q : Option Value → sm_M → Prop) (x1 : Int32) (x2 : Int32) (x3 : Int32) (s0 : Int32) :
    sm_wp X 26 34 [some (.ref 45), some (.int x1), some (.int x2), some (.int x3), none, none, none] [.int s0] (sM mo G I J) Q =
    (sm_wp X 26 36 [some (.ref 45), some (.int x1), none, some (.int x3), some (.int s0), none, none] [] (sM mo G I J) Q) :=
  (sm_blk X 26 34 (tt_lin 26 (by decide)) rfl rfl _ _ _ _).trans rfl
set_option maxRecDepth 100000 in
theorem bk_26_36 (X : (Nat → Int32) × Nat) (mo : Bool) (G : Nat × Nat) (I : Nat → Nat → Int32) (J : Nat → Nat → Int64) (Q : Option Value → sm_M → Prop) (x1 : Int32) (x3 : Int32) (x4 : Int32) :
    sm_wp X 26 36 [some (.ref 45), some (.int x1), none, some (.int x3), some (.int x4), none, none] [] (sM mo G I J) Q =
    (if (x3 : Int32) ≤ (x4 : Int32) then sm_wp X 26 83 [some (.ref 45), some (.int x1), none, some (.int x3), some (.int x4), none, none] [] (sM mo G I J) Q else (sm_wp X 45 0 [some (.ref 21), some (.int x1), some (.int x4)] [] (sM mo G I J) (fun v M => sm_wp X 26 53 [some (.ref 45), some (.int x1), none, some (.int x3), some (.int x4), none, none] (v.toList ++ [.ref 45]) M Q))) :=
  (sm_blk X 26 36 (tt_lin 26 (by decide)) rfl rfl _ _ _ _).trans rfl
set_option maxRecDepth 100000 in
theorem bk_26_53 (X : (Nat → Int32) × Nat) (mo : Bool) (G : Nat × Nat) (I : Nat → Nat → Int32) (J : Nat → Nat → Int64) (Q : Option Value → sm_M → Prop) (x1 : Int32) (x3 : Int32) (x4 : Int32) (s1 : Int32) :
    sm_wp X 26 53 [some (.ref 45), some (.int x1), none, some (.int x3), some (.int x4), none, none] [.int s1, .ref 45] (sM mo G I J) Q =
    (sm_wp X 27 0 [some (.ref 45), some (.int s1), none, none, none, none, none, none] [] (sM mo G I J) (fun v M => sm_wp X 26 56 [some (.ref 45), some (.int x1), none, some (.int x3), some (.int x4), none, none] (v.toList ++ []) M Q)) :=
  (sm_blk X 26 53 (tt_lin 26 (by decide)) rfl rfl _ _ _ _).trans rfl
set_option maxRecDepth 100000 in
theorem bk_26_56 (X : (Nat → Int32) × Nat) (mo : Bool) (G : Nat × Nat) (I : Nat → Nat → Int32) (J : Nat → Nat → Int64) (Q : Option Value → sm_M → Prop) (x1 : Int32) (x3 : Int32) (x4 : Int32) (s0 : Int64) :
    sm_wp X 26 56 [some (.ref 45), some (.int x1), none, some (.int x3), some (.int x4), none, none] [.long s0] (sM mo G I J) Q =
    (if ¬ (lg_cmp s0 (-9223372036854775808) : Int32) = 0 then sm_wp X 26 71 [some (.ref 45), some (.int x1), none, some (.int x3), some (.int x4), some (.long s0), none] [] (sM mo G I J) Q else (True ∧ Q (some (.long (-9223372036854775808))) (sM mo G I J))) :=
  (sm_blk X 26 56 (tt_lin 26 (by decide)) rfl rfl _ _ _ _).trans rfl
set_option maxRecDepth 100000 in
theorem bk_26_71 (X : (Nat → Int32) × Nat) (mo : Bool) (G : Nat × Nat) (I : Nat → Nat → Int32) (J : Nat → Nat → Int64) (Q : Option Value → sm_M → Prop) (x1 : Int32) (x3 : Int32) (x4 : Int32) (x5 : Int64) :
    sm_wp X 26 71 [some (.ref 45), some (.int x1), none, some (.int x3), some (.int x4), some (.long x5), none] [] (sM mo G I J) Q =
    (sm_wp X 31 0 [some (.ref 45), some (.long x5), none] [] (sM mo G I J) (fun v M => sm_wp X 26 77 [some (.ref 45), some (.int x1), none, some (.int x3), some (.int x4), some (.long x5), none] (v.toList ++ []) M Q)) :=
  (sm_blk X 26 71 (tt_lin 26 (by decide)) rfl rfl _ _ _ _).trans rfl
set_option maxRecDepth 100000 in
theorem bk_26_77 (X : (Nat → Int32) × Nat) (mo : Bool) (G : Nat × Nat) (I : Nat → Nat → Int32) (J : Nat → Nat → Int64) (Q : Option Value → sm_M → Prop) (x1 : Int32) (x3 : Int32) (x4 : Int32) (x5 : Int64) :
    sm_wp X 26 77 [some (.ref 45), some (.int x1), none, some (.int x3), some (.int x4), some (.long x5), none] [] (sM mo G I J) Q =
    (sm_wp X 26 36 [some (.ref 45), some (.int x1), none, some (.int x3), some (.int (x4 + 1)), none, none] [] (sM mo G I J) Q) :=
  (sm_blk X 26 77 (tt_lin 26 (by decide)) rfl rfl _ _ _ _).trans rfl
set_option maxRecDepth 100000 in
theorem bk_26_83 (X : (Nat → Int32) × Nat) (mo : Bool) (G : Nat × Nat) (I : Nat → Nat → Int32) (J : Nat → Nat → Int64) (Q : Option Value → sm_M → Prop) (x1 : Int32) (x3 : Int32) (x4 : Int32) :
    sm_wp X 26 83 [some (.ref 45), some (.int x1), none, some (.int x3), some (.int x4), none, none] [] (sM mo G I J) Q =
    (sm_wp X 28 0 [some (.ref 45)] [] (sM mo G I J) (fun v M => sm_wp X 26 87 [some (.ref 45), some (.int x1), none, some (.int x3), some (.int x4), none, none] (v.toList ++ []) M Q)) :=
  (sm_blk X 26 83 (tt_lin 26 (by decide)) rfl rfl _ _ _ _).trans rfl
set_option maxRecDepth 100000 in
theorem bk_26_87 (X : (Nat → Int32) × Nat) (mo : Bool) (G : Nat × Nat) (I : Nat → Nat → Int32) (J : Nat → Nat → Int64) (Q : Option Value → sm_M → Prop) (x1 : Int32) (x3 : Int32) (x4 : Int32) (s0 : Int64) :
    sm_wp X 26 87 [some (.ref 45), some (.int x1), none, some (.int x3), some (.int x4), none, none] [.long s0] (sM mo G I J) Q =
    (True ∧ Q (some (.long s0)) (sM mo G I J)) :=
  (sm_blk X 26 87 (tt_lin 26 (by decide)) rfl rfl _ _ _ _).trans rfl
set_option maxRecDepth 100000 in
theorem bk_27_0 (X : (Nat → Int32) × Nat) (mo : Bool) (G : Nat × Nat) (I : Nat → Nat → Int32) (J : Nat → Nat → Int64) (Q : Option Value → sm_M → Prop) (x1 : Int32) :
    sm_wp X 27 0 [some (.ref 45), some (.int x1), none, none, none, none, none, none] [] (sM mo G I J) Q =
    (if (x1 : Int32) < (100 : Int32) then sm_wp X 27 12 [some (.ref 45), some (.int x1), none, none, none, none, none, none] [] (sM mo G I J) Q else (True ∧ Q (some (.long ((x1 - 100).toInt64))) (sM mo G I J))) :=
  (sm_blk X 27 0 (tt_lin 27 (by decide)) rfl rfl _ _ _ _).trans rfl
set_option maxRecDepth 100000 in
theorem bk_27_12 (X : (Nat → Int32) × Nat) (mo : Bool) (G : Nat × Nat) (I : Nat → Nat → Int32) (J : Nat → Nat → Int64) (Q : Option Value → sm_M → Prop) (x1 : Int32) :
    sm_wp X 27 12 [some (.ref 45), some (.int x1), none, none, none, none, none, none] [] (sM mo G I J) Q =
    (if (x1 : Int32) < (7 : Int32) then sm_wp X 27 34 [some (.ref 45), some (.int x1), none, none, none, none, none, none] [] (sM mo G I J) Q else (if (19 : Int32) ≤ (x1 : Int32) then sm_wp X 27 34 [some (.ref 45), some (.int x1), none, none, none, none, none, none] [] (sM mo G I J) Q else (vp_in (x1 - 7) 12 ∧ (True ∧ Q (some (.long (J 46 ((x1 - 7).toNatClampNeg)))) (sM mo G I J))))) :=
  (sm_blk X 27 12 (tt_lin 27 (by decide)) rfl rfl _ _ _ _).trans rfl
set_option maxRecDepth 100000 in
theorem bk_27_34 (X : (Nat → Int32) × Nat) (mo : Bool) (G : Nat × Nat) (I : Nat → Nat → Int32) (J : Nat → Nat → Int64) (Q : Option Value → sm_M → Prop) (x1 : Int32) :
    sm_wp X 27 34 [some (.ref 45), some (.int x1), none, none, none, none, none, none] [] (sM mo G I J) Q =
    (sm_wp X 28 0 [some (.ref 45)] [] (sM mo G I J) (fun v M => sm_wp X 27 38 [some (.ref 45), some (.int x1), none, none, none, none, none, none] (v.toList ++ []) M Q)) :=
  (sm_blk X 27 34 (tt_lin 27 (by decide)) rfl rfl _ _ _ _).trans rfl
set_option maxRecDepth 100000 in
theorem bk_27_38 (X : (Nat → Int32) × Nat) (mo : Bool) (G : Nat × Nat) (I : Nat → Nat → Int32) (J : Nat → Nat → Int64) (Q : Option Value → sm_M → Prop) (x1 : Int32) (s0 : Int64) :
    sm_wp X 27 38 [some (.ref 45), some (.int x1), none, none, none, none, none, none] [.long s0] (sM mo G I J) Q =
    (if ¬ (x1 : Int32) = (4 : Int32) then sm_wp X 27 56 [some (.ref 45), some (.int x1), some (.long s0), none, none, none, none, none] [] (sM mo G I J) Q else (if ¬ (lg_cmp s0 0 : Int32) = 0 then sm_wp X 27 54 [some (.ref 45), some (.int x1), some (.long s0), none, none, none, none, none] [] (sM mo G I J) Q else (sm_wp X 27 55 [some (.ref 45), some (.int x1), some (.long s0), none, none, none, none, none] [.long 1] (sM mo G I J) Q))) :=
  (sm_blk X 27 38 (tt_lin 27 (by decide)) rfl rfl _ _ _ _).trans rfl
set_option maxRecDepth 100000 in
theorem bk_27_54 (X : (Nat → Int32) × Nat) (mo : Bool) (G : Nat × Nat) (I : Nat → Nat → Int32) (J : Nat → Nat → Int64) (Q : Option Value → sm_M → Prop) (x1 : Int32) (x2 : Int64) :
    sm_wp X 27 54 [some (.ref 45), some (.int x1), some (.long x2), none, none, none, none, none] [] (sM mo G I J) Q =
    (True ∧ Q (some (.long 0)) (sM mo G I J)) :=
  (sm_blk X 27 54 (tt_lin 27 (by decide)) rfl rfl _ _ _ _).trans rfl
set_option maxRecDepth 100000 in
theorem bk_27_55 (X : (Nat → Int32) × Nat) (mo : Bool) (G : Nat × Nat) (I : Nat → Nat → Int32) (J : Nat → Nat → Int64) (Q : Option Value → sm_M → Prop) (x1 : Int32) (x2 : Int64) (s0 : Int64) :
    sm_wp X 27 55 [some (.ref 45), some (.int x1), some (.long x2), none, none, none, none, none] [.long s0] (sM mo G I J) Q =
    (True ∧ Q (some (.long s0)) (sM mo G I J)) :=
  (sm_blk X 27 55 (tt_lin 27 (by decide)) rfl rfl _ _ _ _).trans rfl
set_option maxRecDepth 100000 in
theorem bk_27_56 (X : (Nat → Int32) × Nat) (mo : Bool) (G : Nat × Nat) (I : Nat → Nat → Int32) (J : Nat → Nat → Int64) (Q : Option Value → sm_M → Prop) (x1 : Int32) (x2 : Int64) :
    sm_wp X 27 56 [some (.ref 45), some (.int x1), some (.long x2), none, none, none, none, none] [] (sM mo G I J) Q =
    (if ¬ (x1 : Int32) = (33 : Int32) then sm_wp X 27 65 [some (.ref 45), some (.int x1), some (.long x2), none, none, none, none, none] [] (sM mo G I J) Q else (True ∧ Q (some (.long (-x2))) (sM mo G I J))) :=
  (sm_blk X 27 56 (tt_lin 27 (by decide)) rfl rfl _ _ _ _).trans rfl
set_option maxRecDepth 100000 in
theorem bk_27_65 (X : (Nat → Int32) × Nat) (mo : Bool) (G : Nat × Nat) (I : Nat → Nat → Int32) (J : Nat → Nat → Int64) (Q : Option Value → sm_M → Prop) (x1 : Int32) (x2 : Int64) :
    sm_wp X 27 65 [some (.ref 45), some (.int x1), some (.long x2), none, none, none, none, none] [] (sM mo G I J) Q =
    (sm_wp X 28 0 [some (.ref 45)] [] (sM mo G I J) (fun v M => sm_wp X 27 69 [some (.ref 45), some (.int x1), some (.long x2), none, none, none, none, none] (v.toList ++ []) M Q)) :=
  (sm_blk X 27 65 (tt_lin 27 (by decide)) rfl rfl _ _ _ _).trans rfl
set_option maxRecDepth 100000 in
theorem bk_27_69 (X : (Nat → Int32) × Nat) (mo : Bool) (G : Nat × Nat) (I : Nat → Nat → Int32) (J : Nat → Nat → Int64) (Q : Option Value → sm_M → Prop) (x1 : Int32) (x2 : Int64) (s0 : Int64) :
    sm_wp X 27 69 [some (.ref 45), some (.int x1), some (.long x2), none, none, none, none, none] [.long s0] (sM mo G I J) Q =
    (if (x1 : Int32) < (19 : Int32) then sm_wp X 27 93 [some (.ref 45), some (.int x1), some (.long x2), none, some (.long s0), none, none, none] [] (sM mo G I J) Q else (if (23 : Int32) < (x1 : Int32) then sm_wp X 27 93 [some (.ref 45), some (.int x1), some (.long x2), none, some (.long s0), none, none, none] [] (sM mo G I J) Q else (sm_wp X 29 0 [some (.int x1), some (.long s0), none, some (.long x2), none] [] (sM mo G I J) (fun v M => sm_wp X 27 90 [some (.ref 45), some (.int x1), some (.long x2), none, some (.long s0), none, none, none] (v.toList ++ []) M Q)))) :=
  (sm_blk X 27 69 (tt_lin 27 (by decide)) rfl rfl _ _ _ _).trans rfl
set_option maxRecDepth 100000 in
theorem bk_27_90 (X : (Nat → Int32) × Nat) (mo : Bool) (G : Nat × Nat) (I : Nat → Nat → Int32) (J : Nat → Nat → Int64) (Q : Option Value → sm_M → Prop) (x1 : Int32) (x2 : Int64) (x4 : Int64) (s0 : Int64) :
    sm_wp X 27 90 [some (.ref 45), some (.int x1), some (.long x2), none, some (.long x4), none, none, none] [.long s0] (sM mo G I J) Q =
    (sm_wp X 27 108 [some (.ref 45), some (.int x1), some (.long x2), none, some (.long x4), none, none, none] [.long s0] (sM mo G I J) Q) :=
  (sm_blk X 27 90 (tt_lin 27 (by decide)) rfl rfl _ _ _ _).trans rfl
set_option maxRecDepth 100000 in
theorem bk_27_93 (X : (Nat → Int32) × Nat) (mo : Bool) (G : Nat × Nat) (I : Nat → Nat → Int32) (J : Nat → Nat → Int64) (Q : Option Value → sm_M → Prop) (x1 : Int32) (x2 : Int64) (x4 : Int64) :
    sm_wp X 27 93 [some (.ref 45), some (.int x1), some (.long x2), none, some (.long x4), none, none, none] [] (sM mo G I J) Q =
    (sm_wp X 30 0 [some (.int x1), some (.long x4), none, some (.long x2), none] [] (sM mo G I J) (fun v M => sm_wp X 27 100 [some (.ref 45), some (.int x1), some (.long x2), none, some (.long x4), none, none, none] (v.toList ++ []) M Q)) :=
  (sm_blk X 27 93 (tt_lin 27 (by decide)) rfl rfl _ _ _ _).trans rfl
set_option maxRecDepth 100000 in
theorem bk_27_100 (X : (Nat → Int32) × Nat) (mo : Bool) (G : Nat × Nat) (I : Nat → Nat → Int32) (J : Nat → Nat → Int64) (Q : Option Value → sm_M → Prop) (x1 : Int32) (x2 : Int64) (x4 : Int64) (s0 : Int32) :
    sm_wp X 27 100 [some (.ref 45), some (.int x1), some (.long x2), none, some (.long x4), none, none, none] [.int s0] (sM mo G I J) Q =
    (if (s0 : Int32) = 0 then sm_wp X 27 107 [some (.ref 45), some (.int x1), some (.long x2), none, some (.long x4), none, none, none] [] (sM mo G I J) Q else (sm_wp X 27 108 [some (.ref 45), some (.int x1), some (.long x2), none, some (.long x4), none, none, none] [.long 1] (sM mo G I J) Q)) :=
  (sm_blk X 27 100 (tt_lin 27 (by decide)) rfl rfl _ _ _ _).trans rfl
set_option maxRecDepth 100000 in
theorem bk_27_107 (X : (Nat → Int32) × Nat) (mo : Bool) (G : Nat × Nat) (I : Nat → Nat → Int32) (J : Nat → Nat → Int64) (Q : Option Value → sm_M → Prop) (x1 : Int32) (x2 : Int64) (x4 : Int64) :
    sm_wp X 27 107 [some (.ref 45), some (.int x1), some (.long x2), none, some (.long x4), none, none, none] [] (sM mo G I J) Q =
    (if 0 < (lg_cmp 0 1000000000000 : Int32) then sm_wp X 27 128 [some (.ref 45), some (.int x1), some (.long x2), none, some (.long x4), none, some (.long 0), none] [] (sM mo G I J) Q else (if 0 ≤ (lg_cmp 0 (-1000000000000) : Int32) then sm_wp X 27 134 [some (.ref 45), some (.int x1), some (.long x2), none, some (.long x4), none, some (.long 0), none] [] (sM mo G I J) Q else (sm_wp X 27 136 [some (.ref 45), some (.int x1), some (.long x2), none, some (.long x4), none, some (.long 0), none] [.long (-9223372036854775808)] (sM mo G I J) Q))) :=
  (sm_blk X 27 107 (tt_lin 27 (by decide)) rfl rfl _ _ _ _).trans rfl
set_option maxRecDepth 100000 in
theorem bk_27_108 (X : (Nat → Int32) × Nat) (mo : Bool) (G : Nat × Nat) (I : Nat → Nat → Int32) (J : Nat → Nat → Int64) (Q : Option Value → sm_M → Prop) (x1 : Int32) (x2 : Int64) (x4 : Int64) (s0 : Int64) :
    sm_wp X 27 108 [some (.ref 45), some (.int x1), some (.long x2), none, some (.long x4), none, none, none] [.long s0] (sM mo G I J) Q =
    (if 0 < (lg_cmp s0 1000000000000 : Int32) then sm_wp X 27 128 [some (.ref 45), some (.int x1), some (.long x2), none, some (.long x4), none, some (.long s0), none] [] (sM mo G I J) Q else (if 0 ≤ (lg_cmp s0 (-1000000000000) : Int32) then sm_wp X 27 134 [some (.ref 45), some (.int x1), some (.long x2), none, some (.long x4), none, some (.long s0), none] [] (sM mo G I J) Q else (sm_wp X 27 136 [some (.ref 45), some (.int x1), some (.long x2), none, some (.long x4), none, some (.long s0), none] [.long (-9223372036854775808)] (sM mo G I J) Q))) :=
  (sm_blk X 27 108 (tt_lin 27 (by decide)) rfl rfl _ _ _ _).trans rfl
set_option maxRecDepth 100000 in
theorem bk_27_128 (X : (Nat → Int32) × Nat) (mo : Bool) (G : Nat × Nat) (I : Nat → Nat → Int32) (J : Nat → Nat → Int64) (Q : Option Value → sm_M → Prop) (x1 : Int32) (x2 : Int64) (x4 : Int64) (x6 : Int64) :
    sm_wp X 27 128 [some (.ref 45), some (.int x1), some (.long x2), none, some (.long x4), none, some (.long x6), none] [] (sM mo G I J) Q =
    (sm_wp X 27 136 [some (.ref 45), some (.int x1), some (.long x2), none, some (.long x4), none, some (.long x6), none] [.long (-9223372036854775808)] (sM mo G I J) Q) :=
  (sm_blk X 27 128 (tt_lin 27 (by decide)) rfl rfl _ _ _ _).trans rfl
set_option maxRecDepth 100000 in
theorem bk_27_134 (X : (Nat → Int32) × Nat) (mo : Bool) (G : Nat × Nat) (I : Nat → Nat → Int32) (J : Nat → Nat → Int64) (Q : Option Value → sm_M → Prop) (x1 : Int32) (x2 : Int64) (x4 : Int64) (x6 : Int64) :
    sm_wp X 27 134 [some (.ref 45), some (.int x1), some (.long x2), none, some (.long x4), none, some (.long x6), none] [] (sM mo G I J) Q =
    (True ∧ Q (some (.long x6)) (sM mo G I J)) :=
  (sm_blk X 27 134 (tt_lin 27 (by decide)) rfl rfl _ _ _ _).trans rfl
set_option maxRecDepth 100000 in
theorem bk_27_136 (X : (Nat → Int32) × Nat) (mo : Bool) (G : Nat × Nat) (I : Nat → Nat → Int32) (J : Nat → Nat → Int64) (Q : Option Value → sm_M → Prop) (x1 : Int32) (x2 : Int64) (x4 : Int64) (x6 : Int64) (s0 : Int64) :
    sm_wp X 27 136 [some (.ref 45), some (.int x1), some (.long x2), none, some (.long x4), none, some (.long x6), none] [.long s0] (sM mo G I J) Q =
    (True ∧ Q (some (.long s0)) (sM mo G I J)) :=
  (sm_blk X 27 136 (tt_lin 27 (by decide)) rfl rfl _ _ _ _).trans rfl
set_option maxRecDepth 100000 in
theorem bk_28_0 (X : (Nat → Int32) × Nat) (mo : Bool) (G : Nat × Nat) (I : Nat → Nat → Int32) (J : Nat → Nat → Int64) (Q : Option Value → sm_M → Prop)  :
    sm_wp X 28 0 [some (.ref 45)] [] (sM mo G I J) Q =
    (if (I 45 5 : Int32) < (1 : Int32) then sm_wp X 28 17 [some (.ref 45)] [] (sM mo G I J) Q else (if (I 45 5 : Int32) ≤ (64 : Int32) then sm_wp X 28 19 [some (.ref 45)] [] (sM mo G I J) Q else (True ∧ Q (some (.long 0)) (sM mo G I J)))) :=
  (sm_blk X 28 0 (tt_lin 28 (by decide)) rfl rfl _ _ _ _).trans rfl
set_option maxRecDepth 100000 in
theorem bk_28_17 (X : (Nat → Int32) × Nat) (mo : Bool) (G : Nat × Nat) (I : Nat → Nat → Int32) (J : Nat → Nat → Int64) (Q : Option Value → sm_M → Prop)  :
    sm_wp X 28 17 [some (.ref 45)] [] (sM mo G I J) Q =
    (True ∧ Q (some (.long 0)) (sM mo G I J)) :=
  (sm_blk X 28 17 (tt_lin 28 (by decide)) rfl rfl _ _ _ _).trans rfl
set_option maxRecDepth 100000 in
theorem bk_28_19 (X : (Nat → Int32) × Nat) (mo : Bool) (G : Nat × Nat) (I : Nat → Nat → Int32) (J : Nat → Nat → Int64) (Q : Option Value → sm_M → Prop)  :
    sm_wp X 28 19 [some (.ref 45)] [] (sM mo G I J) Q =
    (vp_in ((up2 I 45 5 ((I 45 5) - 1)) 45 5) 64 ∧ (True ∧ Q (some (.long (J 47 (((up2 I 45 5 ((I 45 5) - 1)) 45 5).toNatClampNeg)))) (sM mo G (up2 I 45 5 ((I 45 5) - 1)) J))) :=
  (sm_blk X 28 19 (tt_lin 28 (by decide)) rfl rfl _ _ _ _).trans rfl
set_option maxRecDepth 100000 in
theorem bk_29_0 (X : (Nat → Int32) × Nat) (mo : Bool) (G : Nat × Nat) (I : Nat → Nat → Int32) (J : Nat → Nat → Int64) (Q : Option Value → sm_M → Prop) (x0 : Int32) (x1 : Int64) (x3 : Int64) :
    sm_wp X 29 0 [some (.int x0), some (.long x1), none, some (.long x3), none] [] (sM mo G I J) Q =
    (if (x0 : Int32) = 19 then sm_wp X 29 32 [some (.int x0), some (.long x1), none, some (.long x3), none] [] (sM mo G I J) Q else if (x0 : Int32) = 20 then sm_wp X 29 36 [some (.int x0), some (.long x1), none, some (.long x3), none] [] (sM mo G I J) Q else if (x0 : Int32) = 21 then sm_wp X 29 40 [some (.int x0), some (.long x1), none, some (.long x3), none] [] (sM mo G I J) Q else if (x0 : Int32) = 22 then sm_wp X 29 72 [some (.int x0), some (.long x1), none, some (.long x3), none] [] (sM mo G I J) Q else sm_wp X 29 88 [some (.int x0), some (.long x1), none, some (.long x3), none] [] (sM mo G I J) Q) :=
  (sm_blk X 29 0 (tt_lin 29 (by decide)) rfl rfl _ _ _ _).trans rfl
set_option maxRecDepth 100000 in
theorem bk_29_32 (X : (Nat → Int32) × Nat) (mo : Bool) (G : Nat × Nat) (I : Nat → Nat → Int32) (J : Nat → Nat → Int64) (Q : Option Value → sm_M → Prop) (x0 : Int32) (x1 : Int64) (x3 : Int64) :
    sm_wp X 29 32 [some (.int x0), some (.long x1), none, some (.long x3), none] [] (sM mo G I J) Q =
    (True ∧ Q (some (.long (x1 + x3))) (sM mo G I J)) :=
  (sm_blk X 29 32 (tt_lin 29 (by decide)) rfl rfl _ _ _ _).trans rfl
set_option maxRecDepth 100000 in
theorem bk_29_36 (X : (Nat → Int32) × Nat) (mo : Bool) (G : Nat × Nat) (I : Nat → Nat → Int32) (J : Nat → Nat → Int64) (Q : Option Value → sm_M → Prop) (x0 : Int32) (x1 : Int64) (x3 : Int64) :
    sm_wp X 29 36 [some (.int x0), some (.long x1), none, some (.long x3), none] [] (sM mo G I J) Q =
    (True ∧ Q (some (.long (x1 - x3))) (sM mo G I J)) :=
  (sm_blk X 29 36 (tt_lin 29 (by decide)) rfl rfl _ _ _ _).trans rfl
set_option maxRecDepth 100000 in
theorem bk_29_40 (X : (Nat → Int32) × Nat) (mo : Bool) (G : Nat × Nat) (I : Nat → Nat → Int32) (J : Nat → Nat → Int64) (Q : Option Value → sm_M → Prop) (x0 : Int32) (x1 : Int64) (x3 : Int64) :
    sm_wp X 29 40 [some (.int x0), some (.long x1), none, some (.long x3), none] [] (sM mo G I J) Q =
    (if (lg_cmp x1 0 : Int32) = 0 then sm_wp X 29 68 [some (.int x0), some (.long x1), none, some (.long x3), none] [] (sM mo G I J) Q else (True ∧ (True ∧ (¬ (if 0 < (x1 : Int64) then x1 else -x1 : Int64) = 0 ∧ (if (lg_cmp (if 0 < (x3 : Int64) then x3 else -x3) (1000000000000 / (if 0 < (x1 : Int64) then x1 else -x1)) : Int32) ≤ 0 then sm_wp X 29 68 [some (.int x0), some (.long x1), none, some (.long x3), none] [] (sM mo G I J) Q else (sm_wp X 29 71 [some (.int x0), some (.long x1), none, some (.long x3), none] [.long (-9223372036854775808)] (sM mo G I J) Q)))))) :=
  (sm_blk X 29 40 (tt_lin 29 (by decide)) rfl rfl _ _ _ _).trans rfl
set_option maxRecDepth 100000 in
theorem bk_29_68 (X : (Nat → Int32) × Nat) (mo : Bool) (G : Nat × Nat) (I : Nat → Nat → Int32) (J : Nat → Nat → Int64) (Q : Option Value → sm_M → Prop) (x0 : Int32) (x1 : Int64) (x3 : Int64) :
    sm_wp X 29 68 [some (.int x0), some (.long x1), none, some (.long x3), none] [] (sM mo G I J) Q =
    (True ∧ Q (some (.long (x1 * x3))) (sM mo G I J)) :=
  (sm_blk X 29 68 (tt_lin 29 (by decide)) rfl rfl _ _ _ _).trans rfl
set_option maxRecDepth 100000 in
theorem bk_29_71 (X : (Nat → Int32) × Nat) (mo : Bool) (G : Nat × Nat) (I : Nat → Nat → Int32) (J : Nat → Nat → Int64) (Q : Option Value → sm_M → Prop) (x0 : Int32) (x1 : Int64) (x3 : Int64) (s0 : Int64) :
    sm_wp X 29 71 [some (.int x0), some (.long x1), none, some (.long x3), none] [.long s0] (sM mo G I J) Q =
    (True ∧ Q (some (.long s0)) (sM mo G I J)) :=
  (sm_blk X 29 71 (tt_lin 29 (by decide)) rfl rfl _ _ _ _).trans rfl
set_option maxRecDepth 100000 in
theorem bk_29_72 (X : (Nat → Int32) × Nat) (mo : Bool) (G : Nat × Nat) (I : Nat → Nat → Int32) (J : Nat → Nat → Int64) (Q : Option Value → sm_M → Prop) (x0 : Int32) (x1 : Int64) (x3 : Int64) :
    sm_wp X 29 72 [some (.int x0), some (.long x1), none, some (.long x3), none] [] (sM mo G I J) Q =
    (if ¬ (lg_cmp x3 0 : Int32) = 0 then sm_wp X 29 84 [some (.int x0), some (.long x1), none, some (.long x3), none] [] (sM mo G I J) Q else (sm_wp X 29 87 [some (.int x0), some (.long x1), none, some (.long x3), none] [.long (-9223372036854775808)] (sM mo G I J) Q)) :=
  (sm_blk X 29 72 (tt_lin 29 (by decide)) rfl rfl _ _ _ _).trans rfl
set_option maxRecDepth 100000 in
theorem bk_29_84 (X : (Nat → Int32) × Nat) (mo : Bool) (G : Nat × Nat) (I : Nat → Nat → Int32) (J : Nat → Nat → Int64) (Q : Option Value → sm_M → Prop) (x0 : Int32) (x1 : Int64) (x3 : Int64) :
    sm_wp X 29 84 [some (.int x0), some (.long x1), none, some (.long x3), none] [] (sM mo G I J) Q =
    (¬ (x3 : Int64) = 0 ∧ (True ∧ Q (some (.long (x1 / x3))) (sM mo G I J))) :=
  (sm_blk X 29 84 (tt_lin 29 (by decide)) rfl rfl _ _ _ _).trans rfl
set_option maxRecDepth 100000 in
theorem bk_29_87 (X : (Nat → Int32) × Nat) (mo : Bool) (G : Nat × Nat) (I : Nat → Nat → Int32) (J : Nat → Nat → Int64) (Q : Option Value → sm_M → Prop) (x0 : Int32) (x1 : Int64) (x3 : Int64) (s0 : Int64) :
    sm_wp X 29 87 [some (.int x0), some (.long x1), none, some (.long x3), none] [.long s0] (sM mo G I J) Q =
    (True ∧ Q (some (.long s0)) (sM mo G I J)) :=
  (sm_blk X 29 87 (tt_lin 29 (by decide)) rfl rfl _ _ _ _).trans rfl
set_option maxRecDepth 100000 in
theorem bk_29_88 (X : (Nat → Int32) × Nat) (mo : Bool) (G : Nat × Nat) (I : Nat → Nat → Int32) (J : Nat → Nat → Int64) (Q : Option Value → sm_M → Prop) (x0 : Int32) (x1 : Int64) (x3 : Int64) :
    sm_wp X 29 88 [some (.int x0), some (.long x1), none, some (.long x3), none] [] (sM mo G I J) Q =
    (if ¬ (lg_cmp x3 0 : Int32) = 0 then sm_wp X 29 100 [some (.int x0), some (.long x1), none, some (.long x3), none] [] (sM mo G I J) Q else (sm_wp X 29 103 [some (.int x0), some (.long x1), none, some (.long x3), none] [.long (-9223372036854775808)] (sM mo G I J) Q)) :=
  (sm_blk X 29 88 (tt_lin 29 (by decide)) rfl rfl _ _ _ _).trans rfl
set_option maxRecDepth 100000 in
theorem bk_29_100 (X : (Nat → Int32) × Nat) (mo : Bool) (G : Nat × Nat) (I : Nat → Nat → Int32) (J : Nat → Nat → Int64) (Q : Option Value → sm_M → Prop) (x0 : Int32) (x1 : Int64) (x3 : Int64) :
    sm_wp X 29 100 [some (.int x0), some (.long x1), none, some (.long x3), none] [] (sM mo G I J) Q =
    (¬ (x3 : Int64) = 0 ∧ (True ∧ Q (some (.long (x1 - x1 / x3 * x3))) (sM mo G I J))) :=
  (sm_blk X 29 100 (tt_lin 29 (by decide)) rfl rfl _ _ _ _).trans rfl
set_option maxRecDepth 100000 in
theorem bk_29_103 (X : (Nat → Int32) × Nat) (mo : Bool) (G : Nat × Nat) (I : Nat → Nat → Int32) (J : Nat → Nat → Int64) (Q : Option Value → sm_M → Prop) (x0 : Int32) (x1 : Int64) (x3 : Int64) (s0 : Int64) :
    sm_wp X 29 103 [some (.int x0), some (.long x1), none, some (.long x3), none] [.long s0] (sM mo G I J) Q =
    (True ∧ Q (some (.long s0)) (sM mo G I J)) :=
  (sm_blk X 29 103 (tt_lin 29 (by decide)) rfl rfl _ _ _ _).trans rfl
set_option maxRecDepth 100000 in
theorem bk_30_0 (X : (Nat → Int32) × Nat) (mo : Bool) (G : Nat × Nat) (I : Nat → Nat → Int32) (J : Nat → Nat → Int64) (Q : Option Value → sm_M → Prop) (x0 : Int32) (x1 : Int64) (x3 : Int64) :
    sm_wp X 30 0 [some (.int x0), some (.long x1), none, some (.long x3), none] [] (sM mo G I J) Q =
    (if (x0 : Int32) = 5 then sm_wp X 30 112 [some (.int x0), some (.long x1), none, some (.long x3), none] [] (sM mo G I J) Q else if (x0 : Int32) = 6 then sm_wp X 30 130 [some (.int x0), some (.long x1), none, some (.long x3), none] [] (sM mo G I J) Q else if (x0 : Int32) = 7 then sm_wp X 30 208 [some (.int x0), some (.long x1), none, some (.long x3), none] [] (sM mo G I J) Q else if (x0 : Int32) = 8 then sm_wp X 30 208 [some (.int x0), some (.long x1), none, some (.long x3), none] [] (sM mo G I J) Q else if (x0 : Int32) = 9 then sm_wp X 30 208 [some (.int x0), some (.long x1), none, some (.long x3), none] [] (sM mo G I J) Q else if (x0 : Int32) = 10 then sm_wp X 30 208 [some (.int x0), some (.long x1), none, some (.long x3), none] [] (sM mo G I J) Q else if (x0 : Int32) = 11 then sm_wp X 30 208 [some (.int x0), some (.long x1), none, some (.long x3), none] [] (sM mo G I J) Q else if (x0 : Int32) = 12 then sm_wp X 30 208 [some (.int x0), some (.long x1), none, some (.long x3), none] [] (sM mo G I J) Q else if (x0 : Int32) = 13 then sm_wp X 30 208 [some (.int x0), some (.long x1), none, some (.long x3), none] [] (sM mo G I J) Q else if (x0 : Int32) = 14 then sm_wp X 30 208 [some (.int x0), some (.long x1), none, some (.long x3), none] [] (sM mo G I J) Q else if (x0 : Int32) = 15 then sm_wp X 30 208 [some (.int x0), some (.long x1), none, some (.long x3), none] [] (sM mo G I J) Q else if (x0 : Int32) = 16 then sm_wp X 30 208 [some (.int x0), some (.long x1), none, some (.long x3), none] [] (sM mo G I J) Q else if (x0 : Int32) = 17 then sm_wp X 30 208 [some (.int x0), some (.long x1), none, some (.long x3), none] [] (sM mo G I J) Q else if (x0 : Int32) = 18 then sm_wp X 30 208 [some (.int x0), some (.long x1), none, some (.long x3), none] [] (sM mo G I J) Q else if (x0 : Int32) = 19 then sm_wp X 30 208 [some (.int x0), some (.long x1), none, some (.long x3), none] [] (sM mo G I J) Q else if (x0 : Int32) = 20 then sm_wp X 30 208 [some (.int x0), some (.long x1), none, some (.long x3), none] [] (sM mo G I J) Q else if (x0 : Int32) = 21 then sm_wp X 30 208 [some (.int x0), some (.long x1), none, some (.long x3), none] [] (sM mo G I J) Q else if (x0 : Int32) = 22 then sm_wp X 30 208 [some (.int x0), some (.long x1), none, some (.long x3), none] [] (sM mo G I J) Q else if (x0 : Int32) = 23 then sm_wp X 30 208 [some (.int x0), some (.long x1), none, some (.long x3), none] [] (sM mo G I J) Q else if (x0 : Int32) = 24 then sm_wp X 30 148 [some (.int x0), some (.long x1), none, some (.long x3), none] [] (sM mo G I J) Q else if (x0 : Int32) = 25 then sm_wp X 30 160 [some (.int x0), some (.long x1), none, some (.long x3), none] [] (sM mo G I J) Q else if (x0 : Int32) = 26 then sm_wp X 30 172 [some (.int x0), some (.long x1), none, some (.long x3), none] [] (sM mo G I J) Q else if (x0 : Int32) = 27 then sm_wp X 30 184 [some (.int x0), some (.long x1), none, some (.long x3), none] [] (sM mo G I J) Q else if (x0 : Int32) = 28 then sm_wp X 30 196 [some (.int x0), some (.long x1), none, some (.long x3), none] [] (sM mo G I J) Q else sm_wp X 30 208 [some (.int x0), some (.long x1), none, some (.long x3), none] [] (sM mo G I J) Q) :=
  (sm_blk X 30 0 (tt_lin 30 (by decide)) rfl rfl _ _ _ _).trans rfl
set_option maxRecDepth 100000 in
theorem bk_30_112 (X : (Nat → Int32) × Nat) (mo : Bool) (G : Nat × Nat) (I : Nat → Nat → Int32) (J : Nat → Nat → Int64) (Q : Option Value → sm_M → Prop) (x0 : Int32) (x1 : Int64) (x3 : Int64) :
    sm_wp X 30 112 [some (.int x0), some (.long x1), none, some (.long x3), none] [] (sM mo G I J) Q =
    (if (lg_cmp x1 0 : Int32) = 0 then sm_wp X 30 128 [some (.int x0), some (.long x1), none, some (.long x3), none] [] (sM mo G I J) Q else (if (lg_cmp x3 0 : Int32) = 0 then sm_wp X 30 128 [some (.int x0), some (.long x1), none, some (.long x3), none] [] (sM mo G I J) Q else (sm_wp X 30 129 [some (.int x0), some (.long x1), none, some (.long x3), none] [.int 1] (sM mo G I J) Q))) :=
  (sm_blk X 30 112 (tt_lin 30 (by decide)) rfl rfl _ _ _ _).trans rfl
set_option maxRecDepth 100000 in
theorem bk_30_128 (X : (Nat → Int32) × Nat) (mo : Bool) (G : Nat × Nat) (I : Nat → Nat → Int32) (J : Nat → Nat → Int64) (Q : Option Value → sm_M → Prop) (x0 : Int32) (x1 : Int64) (x3 : Int64) :
    sm_wp X 30 128 [some (.int x0), some (.long x1), none, some (.long x3), none] [] (sM mo G I J) Q =
    (sm_zb 0 ∧ Q (some (.int 0)) (sM mo G I J)) :=
  (sm_blk X 30 128 (tt_lin 30 (by decide)) rfl rfl _ _ _ _).trans rfl
set_option maxRecDepth 100000 in
theorem bk_30_129 (X : (Nat → Int32) × Nat) (mo : Bool) (G : Nat × Nat) (I : Nat → Nat → Int32) (J : Nat → Nat → Int64) (Q : Option Value → sm_M → Prop) (x0 : Int32) (x1 : Int64) (x3 : Int64) (s0 : Int32) :
    sm_wp X 30 129 [some (.int x0), some (.long x1), none, some (.long x3), none] [.int s0] (sM mo G I J) Q =
    (sm_zb s0 ∧ Q (some (.int s0)) (sM mo G I J)) :=
  (sm_blk X 30 129 (tt_lin 30 (by decide)) rfl rfl _ _ _ _).trans rfl
set_option maxRecDepth 100000 in
theorem bk_30_130 (X : (Nat → Int32) × Nat) (mo : Bool) (G : Nat × Nat) (I : Nat → Nat → Int32) (J : Nat → Nat → Int64) (Q : Option Value → sm_M → Prop) (x0 : Int32) (x1 : Int64) (x3 : Int64) :
    sm_wp X 30 130 [some (.int x0), some (.long x1), none, some (.long x3), none] [] (sM mo G I J) Q =
    (if ¬ (lg_cmp x1 0 : Int32) = 0 then sm_wp X 30 142 [some (.int x0), some (.long x1), none, some (.long x3), none] [] (sM mo G I J) Q else (if (lg_cmp x3 0 : Int32) = 0 then sm_wp X 30 146 [some (.int x0), some (.long x1), none, some (.long x3), none] [] (sM mo G I J) Q else (sm_wp X 30 147 [some (.int x0), some (.long x1), none, some (.long x3), none] [.int 1] (sM mo G I J) Q))) :=
  (sm_blk X 30 130 (tt_lin 30 (by decide)) rfl rfl _ _ _ _).trans rfl
set_option maxRecDepth 100000 in
theorem bk_30_142 (X : (Nat → Int32) × Nat) (mo : Bool) (G : Nat × Nat) (I : Nat → Nat → Int32) (J : Nat → Nat → Int64) (Q : Option Value → sm_M → Prop) (x0 : Int32) (x1 : Int64) (x3 : Int64) :
    sm_wp X 30 142 [some (.int x0), some (.long x1), none, some (.long x3), none] [] (sM mo G I J) Q =
    (sm_wp X 30 147 [some (.int x0), some (.long x1), none, some (.long x3), none] [.int 1] (sM mo G I J) Q) :=
  (sm_blk X 30 142 (tt_lin 30 (by decide)) rfl rfl _ _ _ _).trans rfl
set_option maxRecDepth 100000 in
theorem bk_30_146 (X : (Nat → Int32) × Nat) (mo : Bool) (G : Nat × Nat) (I : Nat → Nat → Int32) (J : Nat → Nat → Int64) (Q : Option Value → sm_M → Prop) (x0 : Int32) (x1 : Int64) (x3 : Int64) :
    sm_wp X 30 146 [some (.int x0), some (.long x1), none, some (.long x3), none] [] (sM mo G I J) Q =
    (sm_zb 0 ∧ Q (some (.int 0)) (sM mo G I J)) :=
  (sm_blk X 30 146 (tt_lin 30 (by decide)) rfl rfl _ _ _ _).trans rfl
set_option maxRecDepth 100000 in
theorem bk_30_147 (X : (Nat → Int32) × Nat) (mo : Bool) (G : Nat × Nat) (I : Nat → Nat → Int32) (J : Nat → Nat → Int64) (Q : Option Value → sm_M → Prop) (x0 : Int32) (x1 : Int64) (x3 : Int64) (s0 : Int32) :
    sm_wp X 30 147 [some (.int x0), some (.long x1), none, some (.long x3), none] [.int s0] (sM mo G I J) Q =
    (sm_zb s0 ∧ Q (some (.int s0)) (sM mo G I J)) :=
  (sm_blk X 30 147 (tt_lin 30 (by decide)) rfl rfl _ _ _ _).trans rfl
set_option maxRecDepth 100000 in
theorem bk_30_148 (X : (Nat → Int32) × Nat) (mo : Bool) (G : Nat × Nat) (I : Nat → Nat → Int32) (J : Nat → Nat → Int64) (Q : Option Value → sm_M → Prop) (x0 : Int32) (x1 : Int64) (x3 : Int64) :
    sm_wp X 30 148 [some (.int x0), some (.long x1), none, some (.long x3), none] [] (sM mo G I J) Q =
    (if 0 ≤ (lg_cmp x1 x3 : Int32) then sm_wp X 30 158 [some (.int x0), some (.long x1), none, some (.long x3), none] [] (sM mo G I J) Q else (sm_wp X 30 159 [some (.int x0), some (.long x1), none, some (.long x3), none] [.int 1] (sM mo G I J) Q)) :=
  (sm_blk X 30 148 (tt_lin 30 (by decide)) rfl rfl _ _ _ _).trans rfl
set_option maxRecDepth 100000 in
theorem bk_30_158 (X : (Nat → Int32) × Nat) (mo : Bool) (G : Nat × Nat) (I : Nat → Nat → Int32) (J : Nat → Nat → Int64) (Q : Option Value → sm_M → Prop) (x0 : Int32) (x1 : Int64) (x3 : Int64) :
    sm_wp X 30 158 [some (.int x0), some (.long x1), none, some (.long x3), none] [] (sM mo G I J) Q =
    (sm_zb 0 ∧ Q (some (.int 0)) (sM mo G I J)) :=
  (sm_blk X 30 158 (tt_lin 30 (by decide)) rfl rfl _ _ _ _).trans rfl
set_option maxRecDepth 100000 in
theorem bk_30_159 (X : (Nat → Int32) × Nat) (mo : Bool) (G : Nat × Nat) (I : Nat → Nat → Int32) (J : Nat → Nat → Int64) (Q : Option Value → sm_M → Prop) (x0 : Int32) (x1 : Int64) (x3 : Int64) (s0 : Int32) :
    sm_wp X 30 159 [some (.int x0), some (.long x1), none, some (.long x3), none] [.int s0] (sM mo G I J) Q =
    (sm_zb s0 ∧ Q (some (.int s0)) (sM mo G I J)) :=
  (sm_blk X 30 159 (tt_lin 30 (by decide)) rfl rfl _ _ _ _).trans rfl
set_option maxRecDepth 100000 in
theorem bk_30_160 (X : (Nat → Int32) × Nat) (mo : Bool) (G : Nat × Nat) (I : Nat → Nat → Int32) (J : Nat → Nat → Int64) (Q : Option Value → sm_M → Prop) (x0 : Int32) (x1 : Int64) (x3 : Int64) :
    sm_wp X 30 160 [some (.int x0), some (.long x1), none, some (.long x3), none] [] (sM mo G I J) Q =
    (if 0 < (lg_cmp x1 x3 : Int32) then sm_wp X 30 170 [some (.int x0), some (.long x1), none, some (.long x3), none] [] (sM mo G I J) Q else (sm_wp X 30 171 [some (.int x0), some (.long x1), none, some (.long x3), none] [.int 1] (sM mo G I J) Q)) :=
  (sm_blk X 30 160 (tt_lin 30 (by decide)) rfl rfl _ _ _ _).trans rfl
set_option maxRecDepth 100000 in
theorem bk_30_170 (X : (Nat → Int32) × Nat) (mo : Bool) (G : Nat × Nat) (I : Nat → Nat → Int32) (J : Nat → Nat → Int64) (Q : Option Value → sm_M → Prop) (x0 : Int32) (x1 : Int64) (x3 : Int64) :
    sm_wp X 30 170 [some (.int x0), some (.long x1), none, some (.long x3), none] [] (sM mo G I J) Q =
    (sm_zb 0 ∧ Q (some (.int 0)) (sM mo G I J)) :=
  (sm_blk X 30 170 (tt_lin 30 (by decide)) rfl rfl _ _ _ _).trans rfl
set_option maxRecDepth 100000 in
theorem bk_30_171 (X : (Nat → Int32) × Nat) (mo : Bool) (G : Nat × Nat) (I : Nat → Nat → Int32) (J : Nat → Nat → Int64) (Q : Option Value → sm_M → Prop) (x0 : Int32) (x1 : Int64) (x3 : Int64) (s0 : Int32) :
    sm_wp X 30 171 [some (.int x0), some (.long x1), none, some (.long x3), none] [.int s0] (sM mo G I J) Q =
    (sm_zb s0 ∧ Q (some (.int s0)) (sM mo G I J)) :=
  (sm_blk X 30 171 (tt_lin 30 (by decide)) rfl rfl _ _ _ _).trans rfl
set_option maxRecDepth 100000 in
theorem bk_30_172 (X : (Nat → Int32) × Nat) (mo : Bool) (G : Nat × Nat) (I : Nat → Nat → Int32) (J : Nat → Nat → Int64) (Q : Option Value → sm_M → Prop) (x0 : Int32) (x1 : Int64) (x3 : Int64) :
    sm_wp X 30 172 [some (.int x0), some (.long x1), none, some (.long x3), none] [] (sM mo G I J) Q =
    (if ¬ (lg_cmp x1 x3 : Int32) = 0 then sm_wp X 30 182 [some (.int x0), some (.long x1), none, some (.long x3), none] [] (sM mo G I J) Q else (sm_wp X 30 183 [some (.int x0), some (.long x1), none, some (.long x3), none] [.int 1] (sM mo G I J) Q)) :=
  (sm_blk X 30 172 (tt_lin 30 (by decide)) rfl rfl _ _ _ _).trans rfl
set_option maxRecDepth 100000 in
theorem bk_30_182 (X : (Nat → Int32) × Nat) (mo : Bool) (G : Nat × Nat) (I : Nat → Nat → Int32) (J : Nat → Nat → Int64) (Q : Option Value → sm_M → Prop) (x0 : Int32) (x1 : Int64) (x3 : Int64) :
    sm_wp X 30 182 [some (.int x0), some (.long x1), none, some (.long x3), none] [] (sM mo G I J) Q =
    (sm_zb 0 ∧ Q (some (.int 0)) (sM mo G I J)) :=
  (sm_blk X 30 182 (tt_lin 30 (by decide)) rfl rfl _ _ _ _).trans rfl
set_option maxRecDepth 100000 in
theorem bk_30_183 (X : (Nat → Int32) × Nat) (mo : Bool) (G : Nat × Nat) (I : Nat → Nat → Int32) (J : Nat → Nat → Int64) (Q : Option Value → sm_M → Prop) (x0 : Int32) (x1 : Int64) (x3 : Int64) (s0 : Int32) :
    sm_wp X 30 183 [some (.int x0), some (.long x1), none, some (.long x3), none] [.int s0] (sM mo G I J) Q =
    (sm_zb s0 ∧ Q (some (.int s0)) (sM mo G I J)) :=
  (sm_blk X 30 183 (tt_lin 30 (by decide)) rfl rfl _ _ _ _).trans rfl
set_option maxRecDepth 100000 in
theorem bk_30_184 (X : (Nat → Int32) × Nat) (mo : Bool) (G : Nat × Nat) (I : Nat → Nat → Int32) (J : Nat → Nat → Int64) (Q : Option Value → sm_M → Prop) (x0 : Int32) (x1 : Int64) (x3 : Int64) :
    sm_wp X 30 184 [some (.int x0), some (.long x1), none, some (.long x3), none] [] (sM mo G I J) Q =
    (if (lg_cmp x1 x3 : Int32) = 0 then sm_wp X 30 194 [some (.int x0), some (.long x1), none, some (.long x3), none] [] (sM mo G I J) Q else (sm_wp X 30 195 [some (.int x0), some (.long x1), none, some (.long x3), none] [.int 1] (sM mo G I J) Q)) :=
  (sm_blk X 30 184 (tt_lin 30 (by decide)) rfl rfl _ _ _ _).trans rfl
set_option maxRecDepth 100000 in
theorem bk_30_194 (X : (Nat → Int32) × Nat) (mo : Bool) (G : Nat × Nat) (I : Nat → Nat → Int32) (J : Nat → Nat → Int64) (Q : Option Value → sm_M → Prop) (x0 : Int32) (x1 : Int64) (x3 : Int64) :
    sm_wp X 30 194 [some (.int x0), some (.long x1), none, some (.long x3), none] [] (sM mo G I J) Q =
    (sm_zb 0 ∧ Q (some (.int 0)) (sM mo G I J)) :=
  (sm_blk X 30 194 (tt_lin 30 (by decide)) rfl rfl _ _ _ _).trans rfl
set_option maxRecDepth 100000 in
theorem bk_30_195 (X : (Nat → Int32) × Nat) (mo : Bool) (G : Nat × Nat) (I : Nat → Nat → Int32) (J : Nat → Nat → Int64) (Q : Option Value → sm_M → Prop) (x0 : Int32) (x1 : Int64) (x3 : Int64) (s0 : Int32) :
    sm_wp X 30 195 [some (.int x0), some (.long x1), none, some (.long x3), none] [.int s0] (sM mo G I J) Q =
    (sm_zb s0 ∧ Q (some (.int s0)) (sM mo G I J)) :=
  (sm_blk X 30 195 (tt_lin 30 (by decide)) rfl rfl _ _ _ _).trans rfl
set_option maxRecDepth 100000 in
theorem bk_30_196 (X : (Nat → Int32) × Nat) (mo : Bool) (G : Nat × Nat) (I : Nat → Nat → Int32) (J : Nat → Nat → Int64) (Q : Option Value → sm_M → Prop) (x0 : Int32) (x1 : Int64) (x3 : Int64) :
    sm_wp X 30 196 [some (.int x0), some (.long x1), none, some (.long x3), none] [] (sM mo G I J) Q =
    (if (lg_cmp x1 x3 : Int32) < 0 then sm_wp X 30 206 [some (.int x0), some (.long x1), none, some (.long x3), none] [] (sM mo G I J) Q else (sm_wp X 30 207 [some (.int x0), some (.long x1), none, some (.long x3), none] [.int 1] (sM mo G I J) Q)) :=
  (sm_blk X 30 196 (tt_lin 30 (by decide)) rfl rfl _ _ _ _).trans rfl
set_option maxRecDepth 100000 in
theorem bk_30_206 (X : (Nat → Int32) × Nat) (mo : Bool) (G : Nat × Nat) (I : Nat → Nat → Int32) (J : Nat → Nat → Int64) (Q : Option Value → sm_M → Prop) (x0 : Int32) (x1 : Int64) (x3 : Int64) :
    sm_wp X 30 206 [some (.int x0), some (.long x1), none, some (.long x3), none] [] (sM mo G I J) Q =
    (sm_zb 0 ∧ Q (some (.int 0)) (sM mo G I J)) :=
  (sm_blk X 30 206 (tt_lin 30 (by decide)) rfl rfl _ _ _ _).trans rfl
set_option maxRecDepth 100000 in
theorem bk_30_207 (X : (Nat → Int32) × Nat) (mo : Bool) (G : Nat × Nat) (I : Nat → Nat → Int32) (J : Nat → Nat → Int64) (Q : Option Value → sm_M → Prop) (x0 : Int32) (x1 : Int64) (x3 : Int64) (s0 : Int32) :
    sm_wp X 30 207 [some (.int x0), some (.long x1), none, some (.long x3), none] [.int s0] (sM mo G I J) Q =
    (sm_zb s0 ∧ Q (some (.int s0)) (sM mo G I J)) :=
  (sm_blk X 30 207 (tt_lin 30 (by decide)) rfl rfl _ _ _ _).trans rfl
set_option maxRecDepth 100000 in
theorem bk_30_208 (X : (Nat → Int32) × Nat) (mo : Bool) (G : Nat × Nat) (I : Nat → Nat → Int32) (J : Nat → Nat → Int64) (Q : Option Value → sm_M → Prop) (x0 : Int32) (x1 : Int64) (x3 : Int64) :
    sm_wp X 30 208 [some (.int x0), some (.long x1), none, some (.long x3), none] [] (sM mo G I J) Q =
    (if (lg_cmp x1 x3 : Int32) ≤ 0 then sm_wp X 30 218 [some (.int x0), some (.long x1), none, some (.long x3), none] [] (sM mo G I J) Q else (sm_wp X 30 219 [some (.int x0), some (.long x1), none, some (.long x3), none] [.int 1] (sM mo G I J) Q)) :=
  (sm_blk X 30 208 (tt_lin 30 (by decide)) rfl rfl _ _ _ _).trans rfl
set_option maxRecDepth 100000 in
theorem bk_30_218 (X : (Nat → Int32) × Nat) (mo : Bool) (G : Nat × Nat) (I : Nat → Nat → Int32) (J : Nat → Nat → Int64) (Q : Option Value → sm_M → Prop) (x0 : Int32) (x1 : Int64) (x3 : Int64) :
    sm_wp X 30 218 [some (.int x0), some (.long x1), none, some (.long x3), none] [] (sM mo G I J) Q =
    (sm_zb 0 ∧ Q (some (.int 0)) (sM mo G I J)) :=
  (sm_blk X 30 218 (tt_lin 30 (by decide)) rfl rfl _ _ _ _).trans rfl
set_option maxRecDepth 100000 in
theorem bk_30_219 (X : (Nat → Int32) × Nat) (mo : Bool) (G : Nat × Nat) (I : Nat → Nat → Int32) (J : Nat → Nat → Int64) (Q : Option Value → sm_M → Prop) (x0 : Int32) (x1 : Int64) (x3 : Int64) (s0 : Int32) :
    sm_wp X 30 219 [some (.int x0), some (.long x1), none, some (.long x3), none] [.int s0] (sM mo G I J) Q =
    (sm_zb s0 ∧ Q (some (.int s0)) (sM mo G I J)) :=
  (sm_blk X 30 219 (tt_lin 30 (by decide)) rfl rfl _ _ _ _).trans rfl
set_option maxRecDepth 100000 in
theorem bk_31_0 (X : (Nat → Int32) × Nat) (mo : Bool) (G : Nat × Nat) (I : Nat → Nat → Int32) (J : Nat → Nat → Int64) (Q : Option Value → sm_M → Prop) (x1 : Int64) :
    sm_wp X 31 0 [some (.ref 45), some (.long x1), none] [] (sM mo G I J) Q =
    (if (I 45 5 : Int32) < 0 then sm_wp X 31 36 [some (.ref 45), some (.long x1), none] [] (sM mo G I J) Q else (if (64 : Int32) ≤ (I 45 5 : Int32) then sm_wp X 31 36 [some (.ref 45), some (.long x1), none] [] (sM mo G I J) Q else (vp_in (I 45 5) 64 ∧ (True ∧ Q none (sM mo G (up2 I 45 5 ((I 45 5) + 1)) (up2 J 47 (I 45 5).toNatClampNeg x1)))))) :=
  (sm_blk X 31 0 (tt_lin 31 (by decide)) rfl rfl _ _ _ _).trans rfl
set_option maxRecDepth 100000 in
theorem bk_31_36 (X : (Nat → Int32) × Nat) (mo : Bool) (G : Nat × Nat) (I : Nat → Nat → Int32) (J : Nat → Nat → Int64) (Q : Option Value → sm_M → Prop) (x1 : Int64) :
    sm_wp X 31 36 [some (.ref 45), some (.long x1), none] [] (sM mo G I J) Q =
    (True ∧ Q none (sM mo G I J)) :=
  (sm_blk X 31 36 (tt_lin 31 (by decide)) rfl rfl _ _ _ _).trans rfl
set_option maxRecDepth 100000 in
theorem bk_32_0 (X : (Nat → Int32) × Nat) (mo : Bool) (G : Nat × Nat) (I : Nat → Nat → Int32) (J : Nat → Nat → Int64) (Q : Option Value → sm_M → Prop) (x1 : Int32) (x2 : Int32) :
    sm_wp X 32 0 [some (.ref 45), some (.int x1), some (.int x2), none, none] [] (sM mo G I J) Q =
    (sm_wp X 73 0 [some (.ref 31), some (.int x1)] [] (sM mo G I J) (fun v M => sm_wp X 32 8 [some (.ref 45), some (.int x1), some (.int x2), none, none] (v.toList ++ []) M Q)) :=
  (sm_blk X 32 0 (tt_lin 32 (by decide)) rfl rfl _ _ _ _).trans rfl
set_option maxRecDepth 100000 in
theorem bk_32_8 (X : (Nat → Int32) × Nat) (mo : Bool) (G : Nat × Nat) (I : Nat → Nat → Int32) (J : Nat → Nat → Int64) (Q : Option Value → sm_M → Prop) (x1 : Int32) (x2 : Int32) (s0 : Int32) :
    sm_wp X 32 8 [some (.ref 45), some (.int x1), some (.int x2), none, none] [.int s0] (sM mo G I J) Q =
    (sm_wp X 43 0 [some (.ref 21), some (.int s0), some (.int x2)] [] (sM mo G I J) (fun v M => sm_wp X 32 18 [some (.ref 45), some (.int x1), some (.int x2), some (.int s0), none] (v.toList ++ []) M Q)) :=
  (sm_blk X 32 8 (tt_lin 32 (by decide)) rfl rfl _ _ _ _).trans rfl
set_option maxRecDepth 100000 in
theorem bk_32_18 (X : (Nat → Int32) × Nat) (mo : Bool) (G : Nat × Nat) (I : Nat → Nat → Int32) (J : Nat → Nat → Int64) (Q : Option Value → sm_M → Prop) (x1 : Int32) (x2 : Int32) (x3 : Int32) (s0 : Int32) :
    sm_wp X 32 18 [some (.ref 45), some (.int x1), some (.int x2), some (.int x3), none] [.int s0] (sM mo G I J) Q =
    (if ¬ (s0 : Int32) = 0 then sm_wp X 32 22 [some (.ref 45), some (.int x1), some (.int x2), some (.int x3), none] [] (sM mo G I J) Q else (True ∧ Q none (sM mo G I J))) :=
  (sm_blk X 32 18 (tt_lin 32 (by decide)) rfl rfl _ _ _ _).trans rfl
set_option maxRecDepth 100000 in
theorem bk_32_22 (X : (Nat → Int32) × Nat) (mo : Bool) (G : Nat × Nat) (I : Nat → Nat → Int32) (J : Nat → Nat → Int64) (Q : Option Value → sm_M → Prop) (x1 : Int32) (x2 : Int32) (x3 : Int32) :
    sm_wp X 32 22 [some (.ref 45), some (.int x1), some (.int x2), some (.int x3), none] [] (sM mo G I J) Q =
    (sm_wp X 78 0 [some (.ref 31), some (.int x1), some (.int x2)] [] (sM mo G I J) (fun v M => sm_wp X 32 31 [some (.ref 45), some (.int x1), some (.int x2), some (.int x3), none] (v.toList ++ []) M Q)) :=
  (sm_blk X 32 22 (tt_lin 32 (by decide)) rfl rfl _ _ _ _).trans rfl
set_option maxRecDepth 100000 in
theorem bk_32_31 (X : (Nat → Int32) × Nat) (mo : Bool) (G : Nat × Nat) (I : Nat → Nat → Int32) (J : Nat → Nat → Int64) (Q : Option Value → sm_M → Prop) (x1 : Int32) (x2 : Int32) (x3 : Int32) :
    sm_wp X 32 31 [some (.ref 45), some (.int x1), some (.int x2), some (.int x3), none] [] (sM mo G I J) Q =
    (sm_wp X 42 0 [some (.ref 21), some (.int x3), some (.int x2)] [] (sM mo G I J) (fun v M => sm_wp X 32 40 [some (.ref 45), some (.int x1), some (.int x2), some (.int x3), none] (v.toList ++ []) M Q)) :=
  (sm_blk X 32 31 (tt_lin 32 (by decide)) rfl rfl _ _ _ _).trans rfl
set_option maxRecDepth 100000 in
theorem bk_32_40 (X : (Nat → Int32) × Nat) (mo : Bool) (G : Nat × Nat) (I : Nat → Nat → Int32) (J : Nat → Nat → Int64) (Q : Option Value → sm_M → Prop) (x1 : Int32) (x2 : Int32) (x3 : Int32) (s0 : Int32) :
    sm_wp X 32 40 [some (.ref 45), some (.int x1), some (.int x2), some (.int x3), none] [.int s0] (sM mo G I J) Q =
    (if ¬ (s0 : Int32) = 0 then sm_wp X 32 59 [some (.ref 45), some (.int x1), some (.int x2), some (.int x3), some (.int s0)] [] (sM mo G I J) Q else (sm_wp X 74 0 [some (.ref 31), some (.int x1), some (.int 2)] [] (sM mo G I J) (fun v M => sm_wp X 32 56 [some (.ref 45), some (.int x1), some (.int x2), some (.int x3), some (.int s0)] (v.toList ++ []) M Q))) :=
  (sm_blk X 32 40 (tt_lin 32 (by decide)) rfl rfl _ _ _ _).trans rfl
set_option maxRecDepth 100000 in
theorem bk_32_56 (X : (Nat → Int32) × Nat) (mo : Bool) (G : Nat × Nat) (I : Nat → Nat → Int32) (J : Nat → Nat → Int64) (Q : Option Value → sm_M → Prop) (x1 : Int32) (x2 : Int32) (x3 : Int32) (x4 : Int32) :
    sm_wp X 32 56 [some (.ref 45), some (.int x1), some (.int x2), some (.int x3), some (.int x4)] [] (sM mo G I J) Q =
    (sm_wp X 32 118 [some (.ref 45), some (.int x1), some (.int x2), some (.int x3), some (.int x4)] [] (sM mo G I J) Q) :=
  (sm_blk X 32 56 (tt_lin 32 (by decide)) rfl rfl _ _ _ _).trans rfl
set_option maxRecDepth 100000 in
theorem bk_32_59 (X : (Nat → Int32) × Nat) (mo : Bool) (G : Nat × Nat) (I : Nat → Nat → Int32) (J : Nat → Nat → Int64) (Q : Option Value → sm_M → Prop) (x1 : Int32) (x2 : Int32) (x3 : Int32) (x4 : Int32) :
    sm_wp X 32 59 [some (.ref 45), some (.int x1), some (.int x2), some (.int x3), some (.int x4)] [] (sM mo G I J) Q =
    (if ¬ (x4 : Int32) = (1 : Int32) then sm_wp X 32 77 [some (.ref 45), some (.int x1), some (.int x2), some (.int x3), some (.int x4)] [] (sM mo G I J) Q else (sm_wp X 74 0 [some (.ref 31), some (.int x1), some (.int 3)] [] (sM mo G I J) (fun v M => sm_wp X 32 74 [some (.ref 45), some (.int x1), some (.int x2), some (.int x3), some (.int x4)] (v.toList ++ []) M Q))) :=
  (sm_blk X 32 59 (tt_lin 32 (by decide)) rfl rfl _ _ _ _).trans rfl
set_option maxRecDepth 100000 in
theorem bk_32_74 (X : (Nat → Int32) × Nat) (mo : Bool) (G : Nat × Nat) (I : Nat → Nat → Int32) (J : Nat → Nat → Int64) (Q : Option Value → sm_M → Prop) (x1 : Int32) (x2 : Int32) (x3 : Int32) (x4 : Int32) :
    sm_wp X 32 74 [some (.ref 45), some (.int x1), some (.int x2), some (.int x3), some (.int x4)] [] (sM mo G I J) Q =
    (sm_wp X 32 118 [some (.ref 45), some (.int x1), some (.int x2), some (.int x3), some (.int x4)] [] (sM mo G I J) Q) :=
  (sm_blk X 32 74 (tt_lin 32 (by decide)) rfl rfl _ _ _ _).trans rfl
set_option maxRecDepth 100000 in
theorem bk_32_77 (X : (Nat → Int32) × Nat) (mo : Bool) (G : Nat × Nat) (I : Nat → Nat → Int32) (J : Nat → Nat → Int64) (Q : Option Value → sm_M → Prop) (x1 : Int32) (x2 : Int32) (x3 : Int32) (x4 : Int32) :
    sm_wp X 32 77 [some (.ref 45), some (.int x1), some (.int x2), some (.int x3), some (.int x4)] [] (sM mo G I J) Q =
    (if ¬ (x4 : Int32) = (2 : Int32) then sm_wp X 32 118 [some (.ref 45), some (.int x1), some (.int x2), some (.int x3), some (.int x4)] [] (sM mo G I J) Q else (sm_wp X 74 0 [some (.ref 31), some (.int x1), some (.int 1)] [] (sM mo G I J) (fun v M => sm_wp X 32 92 [some (.ref 45), some (.int x1), some (.int x2), some (.int x3), some (.int x4)] (v.toList ++ []) M Q))) :=
  (sm_blk X 32 77 (tt_lin 32 (by decide)) rfl rfl _ _ _ _).trans rfl
set_option maxRecDepth 100000 in
theorem bk_32_92 (X : (Nat → Int32) × Nat) (mo : Bool) (G : Nat × Nat) (I : Nat → Nat → Int32) (J : Nat → Nat → Int64) (Q : Option Value → sm_M → Prop) (x1 : Int32) (x2 : Int32) (x3 : Int32) (x4 : Int32) :
    sm_wp X 32 92 [some (.ref 45), some (.int x1), some (.int x2), some (.int x3), some (.int x4)] [] (sM mo G I J) Q =
    (sm_wp X 110 0 [some (.ref 1), some (.int x3)] [] (sM mo G I J) (fun v M => sm_wp X 32 113 [some (.ref 45), some (.int x1), some (.int x2), some (.int x3), some (.int x4)] (v.toList ++ [.int 2, .int (I 1 3), .int x1, .ref 31]) M Q)) :=
  (sm_blk X 32 92 (tt_lin 32 (by decide)) rfl rfl _ _ _ _).trans rfl
set_option maxRecDepth 100000 in
theorem bk_32_113 (X : (Nat → Int32) × Nat) (mo : Bool) (G : Nat × Nat) (I : Nat → Nat → Int32) (J : Nat → Nat → Int64) (Q : Option Value → sm_M → Prop) (x1 : Int32) (x2 : Int32) (x3 : Int32) (x4 : Int32) (s1 : Int32) (s2 : Int32) (s3 : Int32) (s4 : Int32) :
    sm_wp X 32 113 [some (.ref 45), some (.int x1), some (.int x2), some (.int x3), some (.int x4)] [.int s4, .int s3, .int s2, .int s1, .ref 31] (sM mo G I J) Q =
    (sm_wp X 79 0 [some (.ref 31), some (.int s1), some (.int (s2 + (s3 * s4)))] [] (sM mo G I J) (fun v M => sm_wp X 32 118 [some (.ref 45), some (.int x1), some (.int x2), some (.int x3), some (.int x4)] (v.toList ++ []) M Q)) :=
  (sm_blk X 32 113 (tt_lin 32 (by decide)) rfl rfl _ _ _ _).trans rfl
set_option maxRecDepth 100000 in
theorem bk_32_118 (X : (Nat → Int32) × Nat) (mo : Bool) (G : Nat × Nat) (I : Nat → Nat → Int32) (J : Nat → Nat → Int64) (Q : Option Value → sm_M → Prop) (x1 : Int32) (x2 : Int32) (x3 : Int32) (x4 : Int32) :
    sm_wp X 32 118 [some (.ref 45), some (.int x1), some (.int x2), some (.int x3), some (.int x4)] [] (sM mo G I J) Q =
    (True ∧ Q none (sM mo G I J)) :=
  (sm_blk X 32 118 (tt_lin 32 (by decide)) rfl rfl _ _ _ _).trans rfl
set_option maxRecDepth 100000 in
theorem bk_33_0 (X : (Nat → Int32) × Nat) (mo : Bool) (G : Nat × Nat) (I : Nat → Nat → Int32) (J : Nat → Nat → Int64) (Q : Option Value → sm_M → Prop) (x1 : Int32) (x2 : Int32) :
    sm_wp X 33 0 [some (.ref 45), some (.int x1), some (.int x2)] [] (sM mo G I J) Q =
    (if ¬ (x2 : Int32) = ((-1) : Int32) then sm_wp X 33 17 [some (.ref 45), some (.int x1), some (.int x2)] [] (sM mo G I J) Q else (sm_wp X 74 0 [some (.ref 31), some (.int x1), some (.int 3)] [] (sM mo G I J) (fun v M => sm_wp X 33 14 [some (.ref 45), some (.int x1), some (.int x2)] (v.toList ++ []) M Q))) :=
  (sm_blk X 33 0 (tt_lin 33 (by decide)) rfl rfl _ _ _ _).trans rfl
set_option maxRecDepth 100000 in
theorem bk_33_14 (X : (Nat → Int32) × Nat) (mo : Bool) (G : Nat × Nat) (I : Nat → Nat → Int32) (J : Nat → Nat → Int64) (Q : Option Value → sm_M → Prop) (x1 : Int32) (x2 : Int32) :
    sm_wp X 33 14 [some (.ref 45), some (.int x1), some (.int x2)] [] (sM mo G I J) Q =
    (sm_wp X 33 35 [some (.ref 45), some (.int x1), some (.int x2)] [] (sM mo G I J) Q) :=
  (sm_blk X 33 14 (tt_lin 33 (by decide)) rfl rfl _ _ _ _).trans rfl
set_option maxRecDepth 100000 in
theorem bk_33_17 (X : (Nat → Int32) × Nat) (mo : Bool) (G : Nat × Nat) (I : Nat → Nat → Int32) (J : Nat → Nat → Int64) (Q : Option Value → sm_M → Prop) (x1 : Int32) (x2 : Int32) :
    sm_wp X 33 17 [some (.ref 45), some (.int x1), some (.int x2)] [] (sM mo G I J) Q =
    (sm_wp X 74 0 [some (.ref 31), some (.int x1), some (.int 2)] [] (sM mo G I J) (fun v M => sm_wp X 33 26 [some (.ref 45), some (.int x1), some (.int x2)] (v.toList ++ []) M Q)) :=
  (sm_blk X 33 17 (tt_lin 33 (by decide)) rfl rfl _ _ _ _).trans rfl
set_option maxRecDepth 100000 in
theorem bk_33_26 (X : (Nat → Int32) × Nat) (mo : Bool) (G : Nat × Nat) (I : Nat → Nat → Int32) (J : Nat → Nat → Int64) (Q : Option Value → sm_M → Prop) (x1 : Int32) (x2 : Int32) :
    sm_wp X 33 26 [some (.ref 45), some (.int x1), some (.int x2)] [] (sM mo G I J) Q =
    (sm_wp X 78 0 [some (.ref 31), some (.int x1), some (.int x2)] [] (sM mo G I J) (fun v M => sm_wp X 33 35 [some (.ref 45), some (.int x1), some (.int x2)] (v.toList ++ []) M Q)) :=
  (sm_blk X 33 26 (tt_lin 33 (by decide)) rfl rfl _ _ _ _).trans rfl
set_option maxRecDepth 100000 in
theorem bk_33_35 (X : (Nat → Int32) × Nat) (mo : Bool) (G : Nat × Nat) (I : Nat → Nat → Int32) (J : Nat → Nat → Int64) (Q : Option Value → sm_M → Prop) (x1 : Int32) (x2 : Int32) :
    sm_wp X 33 35 [some (.ref 45), some (.int x1), some (.int x2)] [] (sM mo G I J) Q =
    (True ∧ Q none (sM mo G I J)) :=
  (sm_blk X 33 35 (tt_lin 33 (by decide)) rfl rfl _ _ _ _).trans rfl
set_option maxRecDepth 100000 in
theorem bk_34_0 (X : (Nat → Int32) × Nat) (mo : Bool) (G : Nat × Nat) (I : Nat → Nat → Int32) (J : Nat → Nat → Int64) (Q : Option Value → sm_M → Prop) (x1 : Int32) :
    sm_wp X 34 0 [some (.ref 45), some (.int x1), none, none, none, none] [] (sM mo G I J) Q =
    (sm_wp X 34 7 [some (.ref 45), some (.int x1), some (.int 0), some (.int 0), some (.int 0), none] [] (sM mo G I J) Q) :=
  (sm_blk X 34 0 (tt_lin 34 (by decide)) rfl rfl _ _ _ _).trans rfl
set_option maxRecDepth 100000 in
theorem bk_34_7 (X : (Nat → Int32) × Nat) (mo : Bool) (G : Nat × Nat) (I : Nat → Nat → Int32) (J : Nat → Nat → Int64) (Q : Option Value → sm_M → Prop) (x1 : Int32) (x2 : Int32) (x3 : Int32) (x4 : Int32) :
    sm_wp X 34 7 [some (.ref 45), some (.int x1), some (.int x2), some (.int x3), some (.int x4), none] [] (sM mo G I J) Q =
    (if (I 31 0 : Int32) ≤ (x4 : Int32) then sm_wp X 34 99 [some (.ref 45), some (.int x1), some (.int x2), some (.int x3), some (.int x4), none] [] (sM mo G I J) Q else (sm_wp X 81 0 [some (.ref 31), some (.int x1), some (.int x4)] [] (sM mo G I J) (fun v M => sm_wp X 34 29 [some (.ref 45), some (.int x1), some (.int x2), some (.int x3), some (.int x4), none] (v.toList ++ []) M Q))) :=
  (sm_blk X 34 7 (tt_lin 34 (by decide)) rfl rfl _ _ _ _).trans rfl
set_option maxRecDepth 100000 in
theorem bk_34_29 (X : (Nat → Int32) × Nat) (mo : Bool) (G : Nat × Nat) (I : Nat → Nat → Int32) (J : Nat → Nat → Int64) (Q : Option Value → sm_M → Prop) (x1 : Int32) (x2 : Int32) (x3 : Int32) (x4 : Int32) (s0 : Int32) :
    sm_wp X 34 29 [some (.ref 45), some (.int x1), some (.int x2), some (.int x3), some (.int x4), none] [.int s0] (sM mo G I J) Q =
    (if (s0 : Int32) = 0 then sm_wp X 34 93 [some (.ref 45), some (.int x1), some (.int x2), some (.int x3), some (.int x4), none] [] (sM mo G I J) Q else (sm_wp X 70 0 [some (.ref 31), some (.int x4)] [] (sM mo G I J) (fun v M => sm_wp X 34 41 [some (.ref 45), some (.int x1), some (.int x2), some (.int x3), some (.int x4), none] (v.toList ++ []) M Q))) :=
  (sm_blk X 34 29 (tt_lin 34 (by decide)) rfl rfl _ _ _ _).trans rfl
set_option maxRecDepth 100000 in
theorem bk_34_41 (X : (Nat → Int32) × Nat) (mo : Bool) (G : Nat × Nat) (I : Nat → Nat → Int32) (J : Nat → Nat → Int64) (Q : Option Value → sm_M → Prop) (x1 : Int32) (x2 : Int32) (x3 : Int32) (x4 : Int32) (s0 : Int32) :
    sm_wp X 34 41 [some (.ref 45), some (.int x1), some (.int x2), some (.int x3), some (.int x4), none] [.int s0] (sM mo G I J) Q =
    (if ¬ (x2 : Int32) = 0 then sm_wp X 34 66 [some (.ref 45), some (.int x1), some (.int x2), some (.int x3), some (.int x4), some (.int s0)] [] (sM mo G I J) Q else (if (s0 : Int32) = (3 : Int32) then sm_wp X 34 66 [some (.ref 45), some (.int x1), some (.int x2), some (.int x3), some (.int x4), some (.int s0)] [] (sM mo G I J) Q else (if (s0 : Int32) = (4 : Int32) then sm_wp X 34 66 [some (.ref 45), some (.int x1), some (.int x2), some (.int x3), some (.int x4), some (.int s0)] [] (sM mo G I J) Q else (if ¬ (s0 : Int32) = (6 : Int32) then sm_wp X 34 70 [some (.ref 45), some (.int x1), some (.int x2), some (.int x3), some (.int x4), some (.int s0)] [] (sM mo G I J) Q else (sm_wp X 34 71 [some (.ref 45), some (.int x1), some (.int x2), some (.int x3), some (.int x4), some (.int s0)] [.int 1] (sM mo G I J) Q))))) :=
  (sm_blk X 34 41 (tt_lin 34 (by decide)) rfl rfl _ _ _ _).trans rfl
set_option maxRecDepth 100000 in
theorem bk_34_66 (X : (Nat → Int32) × Nat) (mo : Bool) (G : Nat × Nat) (I : Nat → Nat → Int32) (J : Nat → Nat → Int64) (Q : Option Value → sm_M → Prop) (x1 : Int32) (x2 : Int32) (x3 : Int32) (x4 : Int32) (x5 : Int32) :
    sm_wp X 34 66 [some (.ref 45), some (.int x1), some (.int x2), some (.int x3), some (.int x4), some (.int x5)] [] (sM mo G I J) Q =
    (sm_wp X 34 71 [some (.ref 45), some (.int x1), some (.int x2), some (.int x3), some (.int x4), some (.int x5)] [.int 1] (sM mo G I J) Q) :=
  (sm_blk X 34 66 (tt_lin 34 (by decide)) rfl rfl _ _ _ _).trans rfl
set_option maxRecDepth 100000 in
theorem bk_34_70 (X : (Nat → Int32) × Nat) (mo : Bool) (G : Nat × Nat) (I : Nat → Nat → Int32) (J : Nat → Nat → Int64) (Q : Option Value → sm_M → Prop) (x1 : Int32) (x2 : Int32) (x3 : Int32) (x4 : Int32) (x5 : Int32) :
    sm_wp X 34 70 [some (.ref 45), some (.int x1), some (.int x2), some (.int x3), some (.int x4), some (.int x5)] [] (sM mo G I J) Q =
    (if ¬ (x3 : Int32) = 0 then sm_wp X 34 87 [some (.ref 45), some (.int x1), some (.int 0), some (.int x3), some (.int x4), some (.int x5)] [] (sM mo G I J) Q else (if (x5 : Int32) = 0 then sm_wp X 34 87 [some (.ref 45), some (.int x1), some (.int 0), some (.int x3), some (.int x4), some (.int x5)] [] (sM mo G I J) Q else (if ¬ (x5 : Int32) = (1 : Int32) then sm_wp X 34 91 [some (.ref 45), some (.int x1), some (.int 0), some (.int x3), some (.int x4), some (.int x5)] [] (sM mo G I J) Q else (sm_wp X 34 92 [some (.ref 45), some (.int x1), some (.int 0), some (.int x3), some (.int x4), some (.int x5)] [.int 1] (sM mo G I J) Q)))) :=
  (sm_blk X 34 70 (tt_lin 34 (by decide)) rfl rfl _ _ _ _).trans rfl
set_option maxRecDepth 100000 in
theorem bk_34_71 (X : (Nat → Int32) × Nat) (mo : Bool) (G : Nat × Nat) (I : Nat → Nat → Int32) (J : Nat → Nat → Int64) (Q : Option Value → sm_M → Prop) (x1 : Int32) (x2 : Int32) (x3 : Int32) (x4 : Int32) (x5 : Int32) (s0 : Int32) :
    sm_wp X 34 71 [some (.ref 45), some (.int x1), some (.int x2), some (.int x3), some (.int x4), some (.int x5)] [.int s0] (sM mo G I J) Q =
    (if ¬ (x3 : Int32) = 0 then sm_wp X 34 87 [some (.ref 45), some (.int x1), some (.int s0), some (.int x3), some (.int x4), some (.int x5)] [] (sM mo G I J) Q else (if (x5 : Int32) = 0 then sm_wp X 34 87 [some (.ref 45), some (.int x1), some (.int s0), some (.int x3), some (.int x4), some (.int x5)] [] (sM mo G I J) Q else (if ¬ (x5 : Int32) = (1 : Int32) then sm_wp X 34 91 [some (.ref 45), some (.int x1), some (.int s0), some (.int x3), some (.int x4), some (.int x5)] [] (sM mo G I J) Q else (sm_wp X 34 92 [some (.ref 45), some (.int x1), some (.int s0), some (.int x3), some (.int x4), some (.int x5)] [.int 1] (sM mo G I J) Q)))) :=
  (sm_blk X 34 71 (tt_lin 34 (by decide)) rfl rfl _ _ _ _).trans rfl
set_option maxRecDepth 100000 in
theorem bk_34_87 (X : (Nat → Int32) × Nat) (mo : Bool) (G : Nat × Nat) (I : Nat → Nat → Int32) (J : Nat → Nat → Int64) (Q : Option Value → sm_M → Prop) (x1 : Int32) (x2 : Int32) (x3 : Int32) (x4 : Int32) (x5 : Int32) :
    sm_wp X 34 87 [some (.ref 45), some (.int x1), some (.int x2), some (.int x3), some (.int x4), some (.int x5)] [] (sM mo G I J) Q =
    (sm_wp X 34 92 [some (.ref 45), some (.int x1), some (.int x2), some (.int x3), some (.int x4), some (.int x5)] [.int 1] (sM mo G I J) Q) :=
  (sm_blk X 34 87 (tt_lin 34 (by decide)) rfl rfl _ _ _ _).trans rfl
set_option maxRecDepth 100000 in
theorem bk_34_91 (X : (Nat → Int32) × Nat) (mo : Bool) (G : Nat × Nat) (I : Nat → Nat → Int32) (J : Nat → Nat → Int64) (Q : Option Value → sm_M → Prop) (x1 : Int32) (x2 : Int32) (x3 : Int32) (x4 : Int32) (x5 : Int32) :
    sm_wp X 34 91 [some (.ref 45), some (.int x1), some (.int x2), some (.int x3), some (.int x4), some (.int x5)] [] (sM mo G I J) Q =
    (sm_wp X 34 7 [some (.ref 45), some (.int x1), some (.int x2), some (.int 0), some (.int (x4 + 1)), none] [] (sM mo G I J) Q) :=
  (sm_blk X 34 91 (tt_lin 34 (by decide)) rfl rfl _ _ _ _).trans rfl
set_option maxRecDepth 100000 in
theorem bk_34_92 (X : (Nat → Int32) × Nat) (mo : Bool) (G : Nat × Nat) (I : Nat → Nat → Int32) (J : Nat → Nat → Int64) (Q : Option Value → sm_M → Prop) (x1 : Int32) (x2 : Int32) (x3 : Int32) (x4 : Int32) (x5 : Int32) (s0 : Int32) :
    sm_wp X 34 92 [some (.ref 45), some (.int x1), some (.int x2), some (.int x3), some (.int x4), some (.int x5)] [.int s0] (sM mo G I J) Q =
    (sm_wp X 34 7 [some (.ref 45), some (.int x1), some (.int x2), some (.int s0), some (.int (x4 + 1)), none] [] (sM mo G I J) Q) :=
  (sm_blk X 34 92 (tt_lin 34 (by decide)) rfl rfl _ _ _ _).trans rfl
set_option maxRecDepth 100000 in
theorem bk_34_93 (X : (Nat → Int32) × Nat) (mo : Bool) (G : Nat × Nat) (I : Nat → Nat → Int32) (J : Nat → Nat → Int64) (Q : Option Value → sm_M → Prop) (x1 : Int32) (x2 : Int32) (x3 : Int32) (x4 : Int32) :
    sm_wp X 34 93 [some (.ref 45), some (.int x1), some (.int x2), some (.int x3), some (.int x4), none] [] (sM mo G I J) Q =
    (sm_wp X 34 7 [some (.ref 45), some (.int x1), some (.int x2), some (.int x3), some (.int (x4 + 1)), none] [] (sM mo G I J) Q) :=
  (sm_blk X 34 93 (tt_lin 34 (by decide)) rfl rfl _ _ _ _).trans rfl
set_option maxRecDepth 100000 in
theorem bk_34_99 (X : (Nat → Int32) × Nat) (mo : Bool) (G : Nat × Nat) (I : Nat → Nat → Int32) (J : Nat → Nat → Int64) (Q : Option Value → sm_M → Prop) (x1 : Int32) (x2 : Int32) (x3 : Int32) (x4 : Int32) :
    sm_wp X 34 99 [some (.ref 45), some (.int x1), some (.int x2), some (.int x3), some (.int x4), none] [] (sM mo G I J) Q =
    (if (x2 : Int32) = 0 then sm_wp X 34 113 [some (.ref 45), some (.int x1), some (.int x2), some (.int x3), some (.int x4), none] [] (sM mo G I J) Q else (sm_wp X 35 0 [some (.ref 45), some (.int x1), some (.int 6), none] [] (sM mo G I J) (fun v M => sm_wp X 34 110 [some (.ref 45), some (.int x1), some (.int x2), some (.int x3), some (.int x4), none] (v.toList ++ []) M Q))) :=
  (sm_blk X 34 99 (tt_lin 34 (by decide)) rfl rfl _ _ _ _).trans rfl
set_option maxRecDepth 100000 in
theorem bk_34_110 (X : (Nat → Int32) × Nat) (mo : Bool) (G : Nat × Nat) (I : Nat → Nat → Int32) (J : Nat → Nat → Int64) (Q : Option Value → sm_M → Prop) (x1 : Int32) (x2 : Int32) (x3 : Int32) (x4 : Int32) :
    sm_wp X 34 110 [some (.ref 45), some (.int x1), some (.int x2), some (.int x3), some (.int x4), none] [] (sM mo G I J) Q =
    (sm_wp X 34 122 [some (.ref 45), some (.int x1), some (.int x2), some (.int x3), some (.int x4), none] [] (sM mo G I J) Q) :=
  (sm_blk X 34 110 (tt_lin 34 (by decide)) rfl rfl _ _ _ _).trans rfl
set_option maxRecDepth 100000 in
theorem bk_34_113 (X : (Nat → Int32) × Nat) (mo : Bool) (G : Nat × Nat) (I : Nat → Nat → Int32) (J : Nat → Nat → Int64) (Q : Option Value → sm_M → Prop) (x1 : Int32) (x2 : Int32) (x3 : Int32) (x4 : Int32) :
    sm_wp X 34 113 [some (.ref 45), some (.int x1), some (.int x2), some (.int x3), some (.int x4), none] [] (sM mo G I J) Q =
    (if ¬ (x3 : Int32) = 0 then sm_wp X 34 122 [some (.ref 45), some (.int x1), some (.int x2), some (.int x3), some (.int x4), none] [] (sM mo G I J) Q else (sm_wp X 36 0 [some (.ref 45), some (.int x1), none] [] (sM mo G I J) (fun v M => sm_wp X 34 122 [some (.ref 45), some (.int x1), some (.int x2), some (.int x3), some (.int x4), none] (v.toList ++ []) M Q))) :=
  (sm_blk X 34 113 (tt_lin 34 (by decide)) rfl rfl _ _ _ _).trans rfl
set_option maxRecDepth 100000 in
theorem bk_34_122 (X : (Nat → Int32) × Nat) (mo : Bool) (G : Nat × Nat) (I : Nat → Nat → Int32) (J : Nat → Nat → Int64) (Q : Option Value → sm_M → Prop) (x1 : Int32) (x2 : Int32) (x3 : Int32) (x4 : Int32) :
    sm_wp X 34 122 [some (.ref 45), some (.int x1), some (.int x2), some (.int x3), some (.int x4), none] [] (sM mo G I J) Q =
    (True ∧ Q none (sM mo G I J)) :=
  (sm_blk X 34 122 (tt_lin 34 (by decide)) rfl rfl _ _ _ _).trans rfl
set_option maxRecDepth 100000 in
theorem bk_35_0 (X : (Nat → Int32) × Nat) (mo : Bool) (G : Nat × Nat) (I : Nat → Nat → Int32) (J : Nat → Nat → Int64) (Q : Option Value → sm_M → Prop) (x1 : Int32) (x2 : Int32) :
    sm_wp X 35 0 [some (.ref 45), some (.int x1), some (.int x2), none] [] (sM mo G I J) Q =
    (sm_wp X 35 2 [some (.ref 45), some (.int x1), some (.int x2), some (.int 0)] [] (sM mo G I J) Q) :=
  (sm_blk X 35 0 (tt_lin 35 (by decide)) rfl rfl _ _ _ _).trans rfl
set_option maxRecDepth 100000 in
theorem bk_35_2 (X : (Nat → Int32) × Nat) (mo : Bool) (G : Nat × Nat) (I : Nat → Nat → Int32) (J : Nat → Nat → Int64) (Q : Option Value → sm_M → Prop) (x1 : Int32) (x2 : Int32) (x3 : Int32) :
    sm_wp X 35 2 [some (.ref 45), some (.int x1), some (.int x2), some (.int x3)] [] (sM mo G I J) Q =
    (if (I 31 0 : Int32) ≤ (x3 : Int32) then sm_wp X 35 51 [some (.ref 45), some (.int x1), some (.int x2), some (.int x3)] [] (sM mo G I J) Q else (sm_wp X 81 0 [some (.ref 31), some (.int x1), some (.int x3)] [] (sM mo G I J) (fun v M => sm_wp X 35 22 [some (.ref 45), some (.int x1), some (.int x2), some (.int x3)] (v.toList ++ []) M Q))) :=
  (sm_blk X 35 2 (tt_lin 35 (by decide)) rfl rfl _ _ _ _).trans rfl
set_option maxRecDepth 100000 in
theorem bk_35_22 (X : (Nat → Int32) × Nat) (mo : Bool) (G : Nat × Nat) (I : Nat → Nat → Int32) (J : Nat → Nat → Int64) (Q : Option Value → sm_M → Prop) (x1 : Int32) (x2 : Int32) (x3 : Int32) (s0 : Int32) :
    sm_wp X 35 22 [some (.ref 45), some (.int x1), some (.int x2), some (.int x3)] [.int s0] (sM mo G I J) Q =
    (if (s0 : Int32) = 0 then sm_wp X 35 45 [some (.ref 45), some (.int x1), some (.int x2), some (.int x3)] [] (sM mo G I J) Q else (sm_wp X 82 0 [some (.ref 31), some (.int x3), none] [] (sM mo G I J) (fun v M => sm_wp X 35 33 [some (.ref 45), some (.int x1), some (.int x2), some (.int x3)] (v.toList ++ []) M Q))) :=
  (sm_blk X 35 22 (tt_lin 35 (by decide)) rfl rfl _ _ _ _).trans rfl
set_option maxRecDepth 100000 in
theorem bk_35_33 (X : (Nat → Int32) × Nat) (mo : Bool) (G : Nat × Nat) (I : Nat → Nat → Int32) (J : Nat → Nat → Int64) (Q : Option Value → sm_M → Prop) (x1 : Int32) (x2 : Int32) (x3 : Int32) (s0 : Int32) :
    sm_wp X 35 33 [some (.ref 45), some (.int x1), some (.int x2), some (.int x3)] [.int s0] (sM mo G I J) Q =
    (if (s0 : Int32) = 0 then sm_wp X 35 45 [some (.ref 45), some (.int x1), some (.int x2), some (.int x3)] [] (sM mo G I J) Q else (sm_wp X 74 0 [some (.ref 31), some (.int x3), some (.int x2)] [] (sM mo G I J) (fun v M => sm_wp X 35 45 [some (.ref 45), some (.int x1), some (.int x2), some (.int x3)] (v.toList ++ []) M Q))) :=
  (sm_blk X 35 33 (tt_lin 35 (by decide)) rfl rfl _ _ _ _).trans rfl
set_option maxRecDepth 100000 in
theorem bk_35_45 (X : (Nat → Int32) × Nat) (mo : Bool) (G : Nat × Nat) (I : Nat → Nat → Int32) (J : Nat → Nat → Int64) (Q : Option Value → sm_M → Prop) (x1 : Int32) (x2 : Int32) (x3 : Int32) :
    sm_wp X 35 45 [some (.ref 45), some (.int x1), some (.int x2), some (.int x3)] [] (sM mo G I J) Q =
    (sm_wp X 35 2 [some (.ref 45), some (.int x1), some (.int x2), some (.int (x3 + 1))] [] (sM mo G I J) Q) :=
  (sm_blk X 35 45 (tt_lin 35 (by decide)) rfl rfl _ _ _ _).trans rfl
set_option maxRecDepth 100000 in
theorem bk_35_51 (X : (Nat → Int32) × Nat) (mo : Bool) (G : Nat × Nat) (I : Nat → Nat → Int32) (J : Nat → Nat → Int64) (Q : Option Value → sm_M → Prop) (x1 : Int32) (x2 : Int32) (x3 : Int32) :
    sm_wp X 35 51 [some (.ref 45), some (.int x1), some (.int x2), some (.int x3)] [] (sM mo G I J) Q =
    (True ∧ Q none (sM mo G I J)) :=
  (sm_blk X 35 51 (tt_lin 35 (by decide)) rfl rfl _ _ _ _).trans rfl
set_option maxRecDepth 100000 in
theorem bk_36_0 (X : (Nat → Int32) × Nat) (mo : Bool) (G : Nat × Nat) (I : Nat → Nat → Int32) (J : Nat → Nat → Int64) (Q : Option Value → sm_M → Prop) (x1 : Int32) :
    sm_wp X 36 0 [some (.ref 45), some (.int x1), none] [] (sM mo G I J) Q =
    (sm_wp X 37 0 [some (.ref 45), some (.int x1), none, none, none, none] [] (sM mo G I J) (fun v M => sm_wp X 36 5 [some (.ref 45), some (.int x1), none] (v.toList ++ []) M Q)) :=
  (sm_blk X 36 0 (tt_lin 36 (by decide)) rfl rfl _ _ _ _).trans rfl
set_option maxRecDepth 100000 in
theorem bk_36_5 (X : (Nat → Int32) × Nat) (mo : Bool) (G : Nat × Nat) (I : Nat → Nat → Int32) (J : Nat → Nat → Int64) (Q : Option Value → sm_M → Prop) (x1 : Int32) (s0 : Int32) :
    sm_wp X 36 5 [some (.ref 45), some (.int x1), none] [.int s0] (sM mo G I J) Q =
    (if ¬ (s0 : Int32) = 0 then sm_wp X 36 16 [some (.ref 45), some (.int x1), none] [] (sM mo G I J) Q else (sm_wp X 35 0 [some (.ref 45), some (.int x1), some (.int 6), none] [] (sM mo G I J) (fun v M => sm_wp X 36 15 [some (.ref 45), some (.int x1), none] (v.toList ++ []) M Q))) :=
  (sm_blk X 36 5 (tt_lin 36 (by decide)) rfl rfl _ _ _ _).trans rfl
set_option maxRecDepth 100000 in
theorem bk_36_15 (X : (Nat → Int32) × Nat) (mo : Bool) (G : Nat × Nat) (I : Nat → Nat → Int32) (J : Nat → Nat → Int64) (Q : Option Value → sm_M → Prop) (x1 : Int32) :
    sm_wp X 36 15 [some (.ref 45), some (.int x1), none] [] (sM mo G I J) Q =
    (True ∧ Q none (sM mo G I J)) :=
  (sm_blk X 36 15 (tt_lin 36 (by decide)) rfl rfl _ _ _ _).trans rfl
set_option maxRecDepth 100000 in
theorem bk_36_16 (X : (Nat → Int32) × Nat) (mo : Bool) (G : Nat × Nat) (I : Nat → Nat → Int32) (J : Nat → Nat → Int64) (Q : Option Value → sm_M → Prop) (x1 : Int32) :
    sm_wp X 36 16 [some (.ref 45), some (.int x1), none] [] (sM mo G I J) Q =
    (sm_wp X 36 18 [some (.ref 45), some (.int x1), some (.int 0)] [] (sM mo G I J) Q) :=
  (sm_blk X 36 16 (tt_lin 36 (by decide)) rfl rfl _ _ _ _).trans rfl
set_option maxRecDepth 100000 in
theorem bk_36_18 (X : (Nat → Int32) × Nat) (mo : Bool) (G : Nat × Nat) (I : Nat → Nat → Int32) (J : Nat → Nat → Int64) (Q : Option Value → sm_M → Prop) (x1 : Int32) (x2 : Int32) :
    sm_wp X 36 18 [some (.ref 45), some (.int x1), some (.int x2)] [] (sM mo G I J) Q =
    (if (I 31 0 : Int32) ≤ (x2 : Int32) then sm_wp X 36 101 [some (.ref 45), some (.int x1), some (.int x2)] [] (sM mo G I J) Q else (sm_wp X 81 0 [some (.ref 31), some (.int x1), some (.int x2)] [] (sM mo G I J) (fun v M => sm_wp X 36 38 [some (.ref 45), some (.int x1), some (.int x2)] (v.toList ++ []) M Q))) :=
  (sm_blk X 36 18 (tt_lin 36 (by decide)) rfl rfl _ _ _ _).trans rfl
set_option maxRecDepth 100000 in
theorem bk_36_38 (X : (Nat → Int32) × Nat) (mo : Bool) (G : Nat × Nat) (I : Nat → Nat → Int32) (J : Nat → Nat → Int64) (Q : Option Value → sm_M → Prop) (x1 : Int32) (x2 : Int32) (s0 : Int32) :
    sm_wp X 36 38 [some (.ref 45), some (.int x1), some (.int x2)] [.int s0] (sM mo G I J) Q =
    (if (s0 : Int32) = 0 then sm_wp X 36 95 [some (.ref 45), some (.int x1), some (.int x2)] [] (sM mo G I J) Q else (sm_wp X 70 0 [some (.ref 31), some (.int x2)] [] (sM mo G I J) (fun v M => sm_wp X 36 49 [some (.ref 45), some (.int x1), some (.int x2)] (v.toList ++ []) M Q))) :=
  (sm_blk X 36 38 (tt_lin 36 (by decide)) rfl rfl _ _ _ _).trans rfl
set_option maxRecDepth 100000 in
theorem bk_36_49 (X : (Nat → Int32) × Nat) (mo : Bool) (G : Nat × Nat) (I : Nat → Nat → Int32) (J : Nat → Nat → Int64) (Q : Option Value → sm_M → Prop) (x1 : Int32) (x2 : Int32) (s0 : Int32) :
    sm_wp X 36 49 [some (.ref 45), some (.int x1), some (.int x2)] [.int s0] (sM mo G I J) Q =
    (if ¬ (s0 : Int32) = (2 : Int32) then sm_wp X 36 95 [some (.ref 45), some (.int x1), some (.int x2)] [] (sM mo G I J) Q else (sm_wp X 75 0 [some (.ref 31), some (.int x2)] [] (sM mo G I J) (fun v M => sm_wp X 36 62 [some (.ref 45), some (.int x1), some (.int x2)] (v.toList ++ [.ref 45]) M Q))) :=
  (sm_blk X 36 49 (tt_lin 36 (by decide)) rfl rfl _ _ _ _).trans rfl
set_option maxRecDepth 100000 in
theorem bk_36_62 (X : (Nat → Int32) × Nat) (mo : Bool) (G : Nat × Nat) (I : Nat → Nat → Int32) (J : Nat → Nat → Int64) (Q : Option Value → sm_M → Prop) (x1 : Int32) (x2 : Int32) (s1 : Int32) :
    sm_wp X 36 62 [some (.ref 45), some (.int x1), some (.int x2)] [.int s1, .ref 45] (sM mo G I J) Q =
    (sm_wp X 73 0 [some (.ref 31), some (.int x2)] [] (sM mo G I J) (fun v M => sm_wp X 36 70 [some (.ref 45), some (.int x1), some (.int x2)] (v.toList ++ [.int s1, .ref 45]) M Q)) :=
  (sm_blk X 36 62 (tt_lin 36 (by decide)) rfl rfl _ _ _ _).trans rfl
set_option maxRecDepth 100000 in
theorem bk_36_70 (X : (Nat → Int32) × Nat) (mo : Bool) (G : Nat × Nat) (I : Nat → Nat → Int32) (J : Nat → Nat → Int64) (Q : Option Value → sm_M → Prop) (x1 : Int32) (x2 : Int32) (s1 : Int32) (s2 : Int32) :
    sm_wp X 36 70 [some (.ref 45), some (.int x1), some (.int x2)] [.int s2, .int s1, .ref 45] (sM mo G I J) Q =
    (sm_wp X 38 0 [some (.ref 45), some (.int s1), some (.int s2), some (.int x2), none] [] (sM mo G I J) (fun v M => sm_wp X 36 74 [some (.ref 45), some (.int x1), some (.int x2)] (v.toList ++ []) M Q)) :=
  (sm_blk X 36 70 (tt_lin 36 (by decide)) rfl rfl _ _ _ _).trans rfl
set_option maxRecDepth 100000 in
theorem bk_36_74 (X : (Nat → Int32) × Nat) (mo : Bool) (G : Nat × Nat) (I : Nat → Nat → Int32) (J : Nat → Nat → Int64) (Q : Option Value → sm_M → Prop) (x1 : Int32) (x2 : Int32) :
    sm_wp X 36 74 [some (.ref 45), some (.int x1), some (.int x2)] [] (sM mo G I J) Q =
    (sm_wp X 76 0 [some (.ref 31), some (.int x2)] [] (sM mo G I J) (fun v M => sm_wp X 36 83 [some (.ref 45), some (.int x1), some (.int x2)] (v.toList ++ [.ref 45]) M Q)) :=
  (sm_blk X 36 74 (tt_lin 36 (by decide)) rfl rfl _ _ _ _).trans rfl
set_option maxRecDepth 100000 in
theorem bk_36_83 (X : (Nat → Int32) × Nat) (mo : Bool) (G : Nat × Nat) (I : Nat → Nat → Int32) (J : Nat → Nat → Int64) (Q : Option Value → sm_M → Prop) (x1 : Int32) (x2 : Int32) (s1 : Int32) :
    sm_wp X 36 83 [some (.ref 45), some (.int x1), some (.int x2)] [.int s1, .ref 45] (sM mo G I J) Q =
    (sm_wp X 72 0 [some (.ref 31), some (.int x2)] [] (sM mo G I J) (fun v M => sm_wp X 36 91 [some (.ref 45), some (.int x1), some (.int x2)] (v.toList ++ [.int s1, .ref 45]) M Q)) :=
  (sm_blk X 36 83 (tt_lin 36 (by decide)) rfl rfl _ _ _ _).trans rfl
set_option maxRecDepth 100000 in
theorem bk_36_91 (X : (Nat → Int32) × Nat) (mo : Bool) (G : Nat × Nat) (I : Nat → Nat → Int32) (J : Nat → Nat → Int64) (Q : Option Value → sm_M → Prop) (x1 : Int32) (x2 : Int32) (s1 : Int32) (s2 : Int32) :
    sm_wp X 36 91 [some (.ref 45), some (.int x1), some (.int x2)] [.int s2, .int s1, .ref 45] (sM mo G I J) Q =
    (sm_wp X 38 0 [some (.ref 45), some (.int s1), some (.int s2), some (.int x2), none] [] (sM mo G I J) (fun v M => sm_wp X 36 95 [some (.ref 45), some (.int x1), some (.int x2)] (v.toList ++ []) M Q)) :=
  (sm_blk X 36 91 (tt_lin 36 (by decide)) rfl rfl _ _ _ _).trans rfl
set_option maxRecDepth 100000 in
theorem bk_36_95 (X : (Nat → Int32) × Nat) (mo : Bool) (G : Nat × Nat) (I : Nat → Nat → Int32) (J : Nat → Nat → Int64) (Q : Option Value → sm_M → Prop) (x1 : Int32) (x2 : Int32) :
    sm_wp X 36 95 [some (.ref 45), some (.int x1), some (.int x2)] [] (sM mo G I J) Q =
    (sm_wp X 36 18 [some (.ref 45), some (.int x1), some (.int (x2 + 1))] [] (sM mo G I J) Q) :=
  (sm_blk X 36 95 (tt_lin 36 (by decide)) rfl rfl _ _ _ _).trans rfl
set_option maxRecDepth 100000 in
theorem bk_36_101 (X : (Nat → Int32) × Nat) (mo : Bool) (G : Nat × Nat) (I : Nat → Nat → Int32) (J : Nat → Nat → Int64) (Q : Option Value → sm_M → Prop) (x1 : Int32) (x2 : Int32) :
    sm_wp X 36 101 [some (.ref 45), some (.int x1), some (.int x2)] [] (sM mo G I J) Q =
    (sm_wp X 35 0 [some (.ref 45), some (.int x1), some (.int 5), none] [] (sM mo G I J) (fun v M => sm_wp X 36 107 [some (.ref 45), some (.int x1), some (.int x2)] (v.toList ++ []) M Q)) :=
  (sm_blk X 36 101 (tt_lin 36 (by decide)) rfl rfl _ _ _ _).trans rfl
set_option maxRecDepth 100000 in
theorem bk_36_107 (X : (Nat → Int32) × Nat) (mo : Bool) (G : Nat × Nat) (I : Nat → Nat → Int32) (J : Nat → Nat → Int64) (Q : Option Value → sm_M → Prop) (x1 : Int32) (x2 : Int32) :
    sm_wp X 36 107 [some (.ref 45), some (.int x1), some (.int x2)] [] (sM mo G I J) Q =
    (True ∧ Q none (sM mo G I J)) :=
  (sm_blk X 36 107 (tt_lin 36 (by decide)) rfl rfl _ _ _ _).trans rfl
set_option maxRecDepth 100000 in
theorem bk_37_0 (X : (Nat → Int32) × Nat) (mo : Bool) (G : Nat × Nat) (I : Nat → Nat → Int32) (J : Nat → Nat → Int64) (Q : Option Value → sm_M → Prop) (x1 : Int32) :
    sm_wp X 37 0 [some (.ref 45), some (.int x1), none, none, none, none] [] (sM mo G I J) Q =
    (sm_wp X 37 4 [some (.ref 45), some (.int x1), some (.int 0), some (.int 0), none, none] [] (sM mo G I J) Q) :=
  (sm_blk X 37 0 (tt_lin 37 (by decide)) rfl rfl _ _ _ _).trans rfl
set_option maxRecDepth 100000 in
theorem bk_37_4 (X : (Nat → Int32) × Nat) (mo : Bool) (G : Nat × Nat) (I : Nat → Nat → Int32) (J : Nat → Nat → Int64) (Q : Option Value → sm_M → Prop) (x1 : Int32) (x2 : Int32) (x3 : Int32) :
    sm_wp X 37 4 [some (.ref 45), some (.int x1), some (.int x2), some (.int x3), none, none] [] (sM mo G I J) Q =
    (if (I 31 0 : Int32) ≤ (x3 : Int32) then sm_wp X 37 131 [some (.ref 45), some (.int x1), some (.int x2), some (.int x3), none, none] [] (sM mo G I J) Q else (sm_wp X 81 0 [some (.ref 31), some (.int x1), some (.int x3)] [] (sM mo G I J) (fun v M => sm_wp X 37 24 [some (.ref 45), some (.int x1), some (.int x2), some (.int x3), none, none] (v.toList ++ []) M Q))) :=
  (sm_blk X 37 4 (tt_lin 37 (by decide)) rfl rfl _ _ _ _).trans rfl
set_option maxRecDepth 100000 in
theorem bk_37_24 (X : (Nat → Int32) × Nat) (mo : Bool) (G : Nat × Nat) (I : Nat → Nat → Int32) (J : Nat → Nat → Int64) (Q : Option Value → sm_M → Prop) (x1 : Int32) (x2 : Int32) (x3 : Int32) (s0 : Int32) :
    sm_wp X 37 24 [some (.ref 45), some (.int x1), some (.int x2), some (.int x3), none, none] [.int s0] (sM mo G I J) Q =
    (if (s0 : Int32) = 0 then sm_wp X 37 125 [some (.ref 45), some (.int x1), some (.int x2), some (.int x3), none, none] [] (sM mo G I J) Q else (sm_wp X 70 0 [some (.ref 31), some (.int x3)] [] (sM mo G I J) (fun v M => sm_wp X 37 35 [some (.ref 45), some (.int x1), some (.int x2), some (.int x3), none, none] (v.toList ++ []) M Q))) :=
  (sm_blk X 37 24 (tt_lin 37 (by decide)) rfl rfl _ _ _ _).trans rfl
set_option maxRecDepth 100000 in
theorem bk_37_35 (X : (Nat → Int32) × Nat) (mo : Bool) (G : Nat × Nat) (I : Nat → Nat → Int32) (J : Nat → Nat → Int64) (Q : Option Value → sm_M → Prop) (x1 : Int32) (x2 : Int32) (x3 : Int32) (s0 : Int32) :
    sm_wp X 37 35 [some (.ref 45), some (.int x1), some (.int x2), some (.int x3), none, none] [.int s0] (sM mo G I J) Q =
    (if ¬ (s0 : Int32) = (2 : Int32) then sm_wp X 37 125 [some (.ref 45), some (.int x1), some (.int x2), some (.int x3), none, none] [] (sM mo G I J) Q else (sm_wp X 75 0 [some (.ref 31), some (.int x3)] [] (sM mo G I J) (fun v M => sm_wp X 37 47 [some (.ref 45), some (.int x1), some (.int x2), some (.int x3), none, none] (v.toList ++ []) M Q))) :=
  (sm_blk X 37 35 (tt_lin 37 (by decide)) rfl rfl _ _ _ _).trans rfl
set_option maxRecDepth 100000 in
theorem bk_37_47 (X : (Nat → Int32) × Nat) (mo : Bool) (G : Nat × Nat) (I : Nat → Nat → Int32) (J : Nat → Nat → Int64) (Q : Option Value → sm_M → Prop) (x1 : Int32) (x2 : Int32) (x3 : Int32) (s0 : Int32) :
    sm_wp X 37 47 [some (.ref 45), some (.int x1), some (.int x2), some (.int x3), none, none] [.int s0] (sM mo G I J) Q =
    (sm_wp X 76 0 [some (.ref 31), some (.int x3)] [] (sM mo G I J) (fun v M => sm_wp X 37 57 [some (.ref 45), some (.int x1), some (.int x2), some (.int x3), some (.int s0), none] (v.toList ++ []) M Q)) :=
  (sm_blk X 37 47 (tt_lin 37 (by decide)) rfl rfl _ _ _ _).trans rfl
set_option maxRecDepth 100000 in
theorem bk_37_57 (X : (Nat → Int32) × Nat) (mo : Bool) (G : Nat × Nat) (I : Nat → Nat → Int32) (J : Nat → Nat → Int64) (Q : Option Value → sm_M → Prop) (x1 : Int32) (x2 : Int32) (x3 : Int32) (x4 : Int32) (s0 : Int32) :
    sm_wp X 37 57 [some (.ref 45), some (.int x1), some (.int x2), some (.int x3), some (.int x4), none] [.int s0] (sM mo G I J) Q =
    (if ¬ (x2 &&& (x4 ||| s0) : Int32) = 0 then sm_wp X 37 115 [some (.ref 45), some (.int x1), some (.int x2), some (.int x3), some (.int x4), some (.int s0)] [] (sM mo G I J) Q else (sm_wp X 72 0 [some (.ref 31), some (.int x3)] [] (sM mo G I J) (fun v M => sm_wp X 37 83 [some (.ref 45), some (.int x1), some (.int x2), some (.int x3), some (.int x4), some (.int s0)] (v.toList ++ [.ref 1, .int x4]) M Q))) :=
  (sm_blk X 37 57 (tt_lin 37 (by decide)) rfl rfl _ _ _ _).trans rfl
set_option maxRecDepth 100000 in
theorem bk_37_83 (X : (Nat → Int32) × Nat) (mo : Bool) (G : Nat × Nat) (I : Nat → Nat → Int32) (J : Nat → Nat → Int64) (Q : Option Value → sm_M → Prop) (x1 : Int32) (x2 : Int32) (x3 : Int32) (x4 : Int32) (x5 : Int32) (s0 : Int32) (s2 : Int32) :
    sm_wp X 37 83 [some (.ref 45), some (.int x1), some (.int x2), some (.int x3), some (.int x4), some (.int x5)] [.int s2, .ref 1, .int s0] (sM mo G I J) Q =
    (sm_wp X 105 0 [some (.ref 1), some (.int s2), none, none] [] (sM mo G I J) (fun v M => sm_wp X 37 86 [some (.ref 45), some (.int x1), some (.int x2), some (.int x3), some (.int x4), some (.int x5)] (v.toList ++ [.int s0]) M Q)) :=
  (sm_blk X 37 83 (tt_lin 37 (by decide)) rfl rfl _ _ _ _).trans rfl
set_option maxRecDepth 100000 in
theorem bk_37_86 (X : (Nat → Int32) × Nat) (mo : Bool) (G : Nat × Nat) (I : Nat → Nat → Int32) (J : Nat → Nat → Int64) (Q : Option Value → sm_M → Prop) (x1 : Int32) (x2 : Int32) (x3 : Int32) (x4 : Int32) (x5 : Int32) (s0 : Int32) (s1 : Int32) :
    sm_wp X 37 86 [some (.ref 45), some (.int x1), some (.int x2), some (.int x3), some (.int x4), some (.int x5)] [.int s1, .int s0] (sM mo G I J) Q =
    (if ¬ (s0 &&& (s1 ^^^ (-1)) : Int32) = 0 then sm_wp X 37 115 [some (.ref 45), some (.int x1), some (.int x2), some (.int x3), some (.int x4), some (.int x5)] [] (sM mo G I J) Q else (sm_wp X 73 0 [some (.ref 31), some (.int x3)] [] (sM mo G I J) (fun v M => sm_wp X 37 106 [some (.ref 45), some (.int x1), some (.int x2), some (.int x3), some (.int x4), some (.int x5)] (v.toList ++ [.ref 1, .int x5]) M Q))) :=
  (sm_blk X 37 86 (tt_lin 37 (by decide)) rfl rfl _ _ _ _).trans rfl
set_option maxRecDepth 100000 in
theorem bk_37_106 (X : (Nat → Int32) × Nat) (mo : Bool) (G : Nat × Nat) (I : Nat → Nat → Int32) (J : Nat → Nat → Int64) (Q : Option Value → sm_M → Prop) (x1 : Int32) (x2 : Int32) (x3 : Int32) (x4 : Int32) (x5 : Int32) (s0 : Int32) (s2 : Int32) :
    sm_wp X 37 106 [some (.ref 45), some (.int x1), some (.int x2), some (.int x3), some (.int x4), some (.int x5)] [.int s2, .ref 1, .int s0] (sM mo G I J) Q =
    (sm_wp X 105 0 [some (.ref 1), some (.int s2), none, none] [] (sM mo G I J) (fun v M => sm_wp X 37 109 [some (.ref 45), some (.int x1), some (.int x2), some (.int x3), some (.int x4), some (.int x5)] (v.toList ++ [.int s0]) M Q)) :=
  (sm_blk X 37 106 (tt_lin 37 (by decide)) rfl rfl _ _ _ _).trans rfl
set_option maxRecDepth 100000 in
theorem bk_37_109 (X : (Nat → Int32) × Nat) (mo : Bool) (G : Nat × Nat) (I : Nat → Nat → Int32) (J : Nat → Nat → Int64) (Q : Option Value → sm_M → Prop) (x1 : Int32) (x2 : Int32) (x3 : Int32) (x4 : Int32) (x5 : Int32) (s0 : Int32) (s1 : Int32) :
    sm_wp X 37 109 [some (.ref 45), some (.int x1), some (.int x2), some (.int x3), some (.int x4), some (.int x5)] [.int s1, .int s0] (sM mo G I J) Q =
    (if (s0 &&& (s1 ^^^ (-1)) : Int32) = 0 then sm_wp X 37 117 [some (.ref 45), some (.int x1), some (.int x2), some (.int x3), some (.int x4), some (.int x5)] [] (sM mo G I J) Q else (sm_zb 0 ∧ Q (some (.int 0)) (sM mo G I J))) :=
  (sm_blk X 37 109 (tt_lin 37 (by decide)) rfl rfl _ _ _ _).trans rfl
set_option maxRecDepth 100000 in
theorem bk_37_115 (X : (Nat → Int32) × Nat) (mo : Bool) (G : Nat × Nat) (I : Nat → Nat → Int32) (J : Nat → Nat → Int64) (Q : Option Value → sm_M → Prop) (x1 : Int32) (x2 : Int32) (x3 : Int32) (x4 : Int32) (x5 : Int32) :
    sm_wp X 37 115 [some (.ref 45), some (.int x1), some (.int x2), some (.int x3), some (.int x4), some (.int x5)] [] (sM mo G I J) Q =
    (sm_zb 0 ∧ Q (some (.int 0)) (sM mo G I J)) :=
  (sm_blk X 37 115 (tt_lin 37 (by decide)) rfl rfl _ _ _ _).trans rfl
set_option maxRecDepth 100000 in
theorem bk_37_117 (X : (Nat → Int32) × Nat) (mo : Bool) (G : Nat × Nat) (I : Nat → Nat → Int32) (J : Nat → Nat → Int64) (Q : Option Value → sm_M → Prop) (x1 : Int32) (x2 : Int32) (x3 : Int32) (x4 : Int32) (x5 : Int32) :
    sm_wp X 37 117 [some (.ref 45), some (.int x1), some (.int x2), some (.int x3), some (.int x4), some (.int x5)] [] (sM mo G I J) Q =
    (sm_wp X 37 4 [some (.ref 45), some (.int x1), some (.int (x2 ||| (x4 ||| x5))), some (.int (x3 + 1)), none, none] [] (sM mo G I J) Q) :=
  (sm_blk X 37 117 (tt_lin 37 (by decide)) rfl rfl _ _ _ _).trans rfl
set_option maxRecDepth 100000 in
theorem bk_37_125 (X : (Nat → Int32) × Nat) (mo : Bool) (G : Nat × Nat) (I : Nat → Nat → Int32) (J : Nat → Nat → Int64) (Q : Option Value → sm_M → Prop) (x1 : Int32) (x2 : Int32) (x3 : Int32) :
    sm_wp X 37 125 [some (.ref 45), some (.int x1), some (.int x2), some (.int x3), none, none] [] (sM mo G I J) Q =
    (sm_wp X 37 4 [some (.ref 45), some (.int x1), some (.int x2), some (.int (x3 + 1)), none, none] [] (sM mo G I J) Q) :=
  (sm_blk X 37 125 (tt_lin 37 (by decide)) rfl rfl _ _ _ _).trans rfl
set_option maxRecDepth 100000 in
theorem bk_37_131 (X : (Nat → Int32) × Nat) (mo : Bool) (G : Nat × Nat) (I : Nat → Nat → Int32) (J : Nat → Nat → Int64) (Q : Option Value → sm_M → Prop) (x1 : Int32) (x2 : Int32) (x3 : Int32) :
    sm_wp X 37 131 [some (.ref 45), some (.int x1), some (.int x2), some (.int x3), none, none] [] (sM mo G I J) Q =
    (sm_zb 1 ∧ Q (some (.int 1)) (sM mo G I J)) :=
  (sm_blk X 37 131 (tt_lin 37 (by decide)) rfl rfl _ _ _ _).trans rfl
set_option maxRecDepth 100000 in
theorem bk_38_0 (X : (Nat → Int32) × Nat) (mo : Bool) (G : Nat × Nat) (I : Nat → Nat → Int32) (J : Nat → Nat → Int64) (Q : Option Value → sm_M → Prop) (x1 : Int32) (x2 : Int32) (x3 : Int32) :
    sm_wp X 38 0 [some (.ref 45), some (.int x1), some (.int x2), some (.int x3), none] [] (sM mo G I J) Q =
    (sm_wp X 38 3 [some (.ref 45), some (.int x1), some (.int x2), some (.int x3), some (.int 0)] [] (sM mo G I J) Q) :=
  (sm_blk X 38 0 (tt_lin 38 (by decide)) rfl rfl _ _ _ _).trans rfl
set_option maxRecDepth 100000 in
theorem bk_38_3 (X : (Nat → Int32) × Nat) (mo : Bool) (G : Nat × Nat) (I : Nat → Nat → Int32) (J : Nat → Nat → Int64) (Q : Option Value → sm_M → Prop) (x1 : Int32) (x2 : Int32) (x3 : Int32) (x4 : Int32) :
    sm_wp X 38 3 [some (.ref 45), some (.int x1), some (.int x2), some (.int x3), some (.int x4)] [] (sM mo G I J) Q =
    (if (I 1 0 : Int32) ≤ (x4 : Int32) then sm_wp X 38 41 [some (.ref 45), some (.int x1), some (.int x2), some (.int x3), some (.int x4)] [] (sM mo G I J) Q else (sm_wp X 169 0 [some (.int x1), some (.int x4)] [] (sM mo G I J) (fun v M => sm_wp X 38 21 [some (.ref 45), some (.int x1), some (.int x2), some (.int x3), some (.int x4)] (v.toList ++ []) M Q))) :=
  (sm_blk X 38 3 (tt_lin 38 (by decide)) rfl rfl _ _ _ _).trans rfl
set_option maxRecDepth 100000 in
theorem bk_38_21 (X : (Nat → Int32) × Nat) (mo : Bool) (G : Nat × Nat) (I : Nat → Nat → Int32) (J : Nat → Nat → Int64) (Q : Option Value → sm_M → Prop) (x1 : Int32) (x2 : Int32) (x3 : Int32) (x4 : Int32) (s0 : Int32) :
    sm_wp X 38 21 [some (.ref 45), some (.int x1), some (.int x2), some (.int x3), some (.int x4)] [.int s0] (sM mo G I J) Q =
    (if (s0 : Int32) = 0 then sm_wp X 38 35 [some (.ref 45), some (.int x1), some (.int x2), some (.int x3), some (.int x4)] [] (sM mo G I J) Q else (sm_wp X 97 0 [some (.ref 1), some (.int x4), some (.int x2), some (.int x3), none, none] [] (sM mo G I J) (fun v M => sm_wp X 38 35 [some (.ref 45), some (.int x1), some (.int x2), some (.int x3), some (.int x4)] (v.toList ++ []) M Q))) :=
  (sm_blk X 38 21 (tt_lin 38 (by decide)) rfl rfl _ _ _ _).trans rfl
set_option maxRecDepth 100000 in
theorem bk_38_35 (X : (Nat → Int32) × Nat) (mo : Bool) (G : Nat × Nat) (I : Nat → Nat → Int32) (J : Nat → Nat → Int64) (Q : Option Value → sm_M → Prop) (x1 : Int32) (x2 : Int32) (x3 : Int32) (x4 : Int32) :
    sm_wp X 38 35 [some (.ref 45), some (.int x1), some (.int x2), some (.int x3), some (.int x4)] [] (sM mo G I J) Q =
    (sm_wp X 38 3 [some (.ref 45), some (.int x1), some (.int x2), some (.int x3), some (.int (x4 + 1))] [] (sM mo G I J) Q) :=
  (sm_blk X 38 35 (tt_lin 38 (by decide)) rfl rfl _ _ _ _).trans rfl
set_option maxRecDepth 100000 in
theorem bk_38_41 (X : (Nat → Int32) × Nat) (mo : Bool) (G : Nat × Nat) (I : Nat → Nat → Int32) (J : Nat → Nat → Int64) (Q : Option Value → sm_M → Prop) (x1 : Int32) (x2 : Int32) (x3 : Int32) (x4 : Int32) :
    sm_wp X 38 41 [some (.ref 45), some (.int x1), some (.int x2), some (.int x3), some (.int x4)] [] (sM mo G I J) Q =
    (True ∧ Q none (sM mo G I J)) :=
  (sm_blk X 38 41 (tt_lin 38 (by decide)) rfl rfl _ _ _ _).trans rfl
end
section
set_option maxRecDepth 100000 in
theorem bk_167_0 (X : (Nat → Int32) × Nat) (mo : Bool) (G : Nat × Nat) (I : Nat → Nat → Int32) (J : Nat → Nat → Int64) (Q : Option Value → sm_M → Prop) (x1 : Int32) (x2 : Int32) (x3 : Int32) (x4 : Int32) (x5 : Int32) :
    sm_wp X 167 0 [some (.ref 0), some (.int x1), some (.int x2), some (.int x3), some (.int x4), some (.int x5)] [] (sM mo G I J) Q =
    (if ((I 14 0) + 20 : Int32) ≤ (400 : Int32) then sm_wp X 167 18 [some (.ref 0), some (.int x1), some (.int x2), some (.int x3), some (.int x4), some (.int x5)] [] (sM mo G I J) Q else (True ∧ Q (some (.int (-1))) (sM mo G I J))) :=
  (sm_blk X 167 0 (tt_lin 167 (by decide)) rfl rfl _ _ _ _).trans rfl
set_option maxRecDepth 100000 in
theorem bk_167_18 (X : (Nat → Int32) × Nat) (mo : Bool) (G : Nat × Nat) (I : Nat → Nat → Int32) (J : Nat → Nat → Int64) (Q : Option Value → sm_M → Prop) (x1 : Int32) (x2 : Int32) (x3 : Int32) (x4 : Int32) (x5 : Int32) :
    sm_wp X 167 18 [some (.ref 0), some (.int x1), some (.int x2), some (.int x3), some (.int x4), some (.int x5)] [] (sM mo G I J) Q =
    (sm_wp X 154 0 [some (.ref 14), some (.int x1), none] [] (sM mo G I J) (fun v M => sm_wp X 167 26 [some (.ref 0), some (.int x1), some (.int x2), some (.int x3), some (.int x4), some (.int x5)] (v.toList ++ []) M Q)) :=
  (sm_blk X 167 18 (tt_lin 167 (by decide)) rfl rfl _ _ _ _).trans rfl
set_option maxRecDepth 100000 in
theorem bk_167_26 (X : (Nat → Int32) × Nat) (mo : Bool) (G : Nat × Nat) (I : Nat → Nat → Int32) (J : Nat → Nat → Int64) (Q : Option Value → sm_M → Prop) (x1 : Int32) (x2 : Int32) (x3 : Int32) (x4 : Int32) (x5 : Int32) :
    sm_wp X 167 26 [some (.ref 0), some (.int x1), some (.int x2), some (.int x3), some (.int x4), some (.int x5)] [] (sM mo G I J) Q =
    (sm_wp X 154 0 [some (.ref 14), some (.int x2), none] [] (sM mo G I J) (fun v M => sm_wp X 167 34 [some (.ref 0), some (.int x1), some (.int x2), some (.int x3), some (.int x4), some (.int x5)] (v.toList ++ []) M Q)) :=
  (sm_blk X 167 26 (tt_lin 167 (by decide)) rfl rfl _ _ _ _).trans rfl
set_option maxRecDepth 100000 in
theorem bk_167_34 (X : (Nat → Int32) × Nat) (mo : Bool) (G : Nat × Nat) (I : Nat → Nat → Int32) (J : Nat → Nat → Int64) (Q : Option Value → sm_M → Prop) (x1 : Int32) (x2 : Int32) (x3 : Int32) (x4 : Int32) (x5 : Int32) :
    sm_wp X 167 34 [some (.ref 0), some (.int x1), some (.int x2), some (.int x3), some (.int x4), some (.int x5)] [] (sM mo G I J) Q =
    (sm_wp X 154 0 [some (.ref 14), some (.int x3), none] [] (sM mo G I J) (fun v M => sm_wp X 167 42 [some (.ref 0), some (.int x1), some (.int x2), some (.int x3), some (.int x4), some (.int x5)] (v.toList ++ []) M Q)) :=
  (sm_blk X 167 34 (tt_lin 167 (by decide)) rfl rfl _ _ _ _).trans rfl
set_option maxRecDepth 100000 in
theorem bk_167_42 (X : (Nat → Int32) × Nat) (mo : Bool) (G : Nat × Nat) (I : Nat → Nat → Int32) (J : Nat → Nat → Int64) (Q : Option Value → sm_M → Prop) (x1 : Int32) (x2 : Int32) (x3 : Int32) (x4 : Int32) (x5 : Int32) :
    sm_wp X 167 42 [some (.ref 0), some (.int x1), some (.int x2), some (.int x3), some (.int x4), some (.int x5)] [] (sM mo G I J) Q =
    (sm_wp X 154 0 [some (.ref 14), some (.int x4), none] [] (sM mo G I J) (fun v M => sm_wp X 167 51 [some (.ref 0), some (.int x1), some (.int x2), some (.int x3), some (.int x4), some (.int x5)] (v.toList ++ []) M Q)) :=
  (sm_blk X 167 42 (tt_lin 167 (by decide)) rfl rfl _ _ _ _).trans rfl
set_option maxRecDepth 100000 in
theorem bk_167_51 (X : (Nat → Int32) × Nat) (mo : Bool) (G : Nat × Nat) (I : Nat → Nat → Int32) (J : Nat → Nat → Int64) (Q : Option Value → sm_M → Prop) (x1 : Int32) (x2 : Int32) (x3 : Int32) (x4 : Int32) (x5 : Int32) :
    sm_wp X 167 51 [some (.ref 0), some (.int x1), some (.int x2), some (.int x3), some (.int x4), some (.int x5)] [] (sM mo G I J) Q =
    (sm_wp X 154 0 [some (.ref 14), some (.int x5), none] [] (sM mo G I J) (fun v M => sm_wp X 167 60 [some (.ref 0), some (.int x1), some (.int x2), some (.int x3), some (.int x4), some (.int x5)] (v.toList ++ []) M Q)) :=
  (sm_blk X 167 51 (tt_lin 167 (by decide)) rfl rfl _ _ _ _).trans rfl
set_option maxRecDepth 100000 in
theorem bk_167_60 (X : (Nat → Int32) × Nat) (mo : Bool) (G : Nat × Nat) (I : Nat → Nat → Int32) (J : Nat → Nat → Int64) (Q : Option Value → sm_M → Prop) (x1 : Int32) (x2 : Int32) (x3 : Int32) (x4 : Int32) (x5 : Int32) :
    sm_wp X 167 60 [some (.ref 0), some (.int x1), some (.int x2), some (.int x3), some (.int x4), some (.int x5)] [] (sM mo G I J) Q =
    (True ∧ Q (some (.int (I 14 0))) (sM mo G I J)) :=
  (sm_blk X 167 60 (tt_lin 167 (by decide)) rfl rfl _ _ _ _).trans rfl
set_option maxRecDepth 100000 in
theorem bk_168_0 (X : (Nat → Int32) × Nat) (mo : Bool) (G : Nat × Nat) (I : Nat → Nat → Int32) (J : Nat → Nat → Int64) (Q : Option Value → sm_M → Prop) (x1 : Int32) (x2 : Int32) :
    sm_wp X 168 0 [some (.ref 0), some (.int x1), some (.int x2)] [] (sM mo G I J) Q =
    (if (x1 : Int32) < 0 then sm_wp X 168 26 [some (.ref 0), some (.int x1), some (.int x2)] [] (sM mo G I J) Q else (if (I 14 0 : Int32) < (x1 : Int32) then sm_wp X 168 26 [some (.ref 0), some (.int x1), some (.int x2)] [] (sM mo G I J) Q else (sm_wp X 88 0 [some (.ref 1), some (.int x2)] [] (sM mo G I J) (fun v M => sm_wp X 168 23 [some (.ref 0), some (.int x1), some (.int x2)] (v.toList ++ []) M Q)))) :=
  (sm_blk X 168 0 (tt_lin 168 (by decide)) rfl rfl _ _ _ _).trans rfl
set_option maxRecDepth 100000 in
theorem bk_168_23 (X : (Nat → Int32) × Nat) (mo : Bool) (G : Nat × Nat) (I : Nat → Nat → Int32) (J : Nat → Nat → Int64) (Q : Option Value → sm_M → Prop) (x1 : Int32) (x2 : Int32) (s0 : Int32) :
    sm_wp X 168 23 [some (.ref 0), some (.int x1), some (.int x2)] [.int s0] (sM mo G I J) Q =
    (if ¬ (s0 : Int32) = 0 then sm_wp X 168 29 [some (.ref 0), some (.int x1), some (.int x2)] [] (sM mo G I J) Q else (True ∧ Q (some (.int (-2))) (sM mo G I J))) :=
  (sm_blk X 168 23 (tt_lin 168 (by decide)) rfl rfl _ _ _ _).trans rfl
set_option maxRecDepth 100000 in
theorem bk_168_26 (X : (Nat → Int32) × Nat) (mo : Bool) (G : Nat × Nat) (I : Nat → Nat → Int32) (J : Nat → Nat → Int64) (Q : Option Value → sm_M → Prop) (x1 : Int32) (x2 : Int32) :
    sm_wp X 168 26 [some (.ref 0), some (.int x1), some (.int x2)] [] (sM mo G I J) Q =
    (True ∧ Q (some (.int (-2))) (sM mo G I J)) :=
  (sm_blk X 168 26 (tt_lin 168 (by decide)) rfl rfl _ _ _ _).trans rfl
set_option maxRecDepth 100000 in
theorem bk_168_29 (X : (Nat → Int32) × Nat) (mo : Bool) (G : Nat × Nat) (I : Nat → Nat → Int32) (J : Nat → Nat → Int64) (Q : Option Value → sm_M → Prop) (x1 : Int32) (x2 : Int32) :
    sm_wp X 168 29 [some (.ref 0), some (.int x1), some (.int x2)] [] (sM mo G I J) Q =
    (sm_wp X 47 0 [some (.ref 16), some (.int x1), none] [] (sM mo G I J) (fun v M => sm_wp X 168 37 [some (.ref 0), some (.int x1), some (.int x2)] (v.toList ++ []) M Q)) :=
  (sm_blk X 168 29 (tt_lin 168 (by decide)) rfl rfl _ _ _ _).trans rfl
set_option maxRecDepth 100000 in
theorem bk_168_37 (X : (Nat → Int32) × Nat) (mo : Bool) (G : Nat × Nat) (I : Nat → Nat → Int32) (J : Nat → Nat → Int64) (Q : Option Value → sm_M → Prop) (x1 : Int32) (x2 : Int32) :
    sm_wp X 168 37 [some (.ref 0), some (.int x1), some (.int x2)] [] (sM mo G I J) Q =
    (if (I 16 0 : Int32) = 0 then sm_wp X 168 49 [some (.ref 0), some (.int x1), some (.int x2)] [] (sM mo G I J) Q else (True ∧ Q (some (.int (-1))) (sM mo G I J))) :=
  (sm_blk X 168 37 (tt_lin 168 (by decide)) rfl rfl _ _ _ _).trans rfl
set_option maxRecDepth 100000 in
theorem bk_168_49 (X : (Nat → Int32) × Nat) (mo : Bool) (G : Nat × Nat) (I : Nat → Nat → Int32) (J : Nat → Nat → Int64) (Q : Option Value → sm_M → Prop) (x1 : Int32) (x2 : Int32) :
    sm_wp X 168 49 [some (.ref 0), some (.int x1), some (.int x2)] [] (sM mo G I J) Q =
    (sm_wp X 40 0 [some (.ref 21), some (.ref 16), some (.int x2), none] [] (sM mo G I J) (fun v M => sm_wp X 168 61 [some (.ref 0), some (.int x1), some (.int x2)] (v.toList ++ []) M Q)) :=
  (sm_blk X 168 49 (tt_lin 168 (by decide)) rfl rfl _ _ _ _).trans rfl
set_option maxRecDepth 100000 in
theorem bk_168_61 (X : (Nat → Int32) × Nat) (mo : Bool) (G : Nat × Nat) (I : Nat → Nat → Int32) (J : Nat → Nat → Int64) (Q : Option Value → sm_M → Prop) (x1 : Int32) (x2 : Int32) :
    sm_wp X 168 61 [some (.ref 0), some (.int x1), some (.int x2)] [] (sM mo G I J) Q =
    (True ∧ Q (some (.int (I 16 2))) (sM mo G I J)) :=
  (sm_blk X 168 61 (tt_lin 168 (by decide)) rfl rfl _ _ _ _).trans rfl
set_option maxRecDepth 100000 in
theorem bk_169_0 (X : (Nat → Int32) × Nat) (mo : Bool) (G : Nat × Nat) (I : Nat → Nat → Int32) (J : Nat → Nat → Int64) (Q : Option Value → sm_M → Prop) (x0 : Int32) (x1 : Int32) :
    sm_wp X 169 0 [some (.int x0), some (.int x1)] [] (sM mo G I J) Q =
    (if (x1 : Int32) < 0 then sm_wp X 169 22 [some (.int x0), some (.int x1)] [] (sM mo G I J) Q else (if (31 : Int32) ≤ (x1 : Int32) then sm_wp X 169 22 [some (.int x0), some (.int x1)] [] (sM mo G I J) Q else (if ((x0 >>> (x1 &&& 31)) &&& 1 : Int32) = 0 then sm_wp X 169 22 [some (.int x0), some (.int x1)] [] (sM mo G I J) Q else (sm_wp X 169 23 [some (.int x0), some (.int x1)] [.int 1] (sM mo G I J) Q)))) :=
  (sm_blk X 169 0 (tt_lin 169 (by decide)) rfl rfl _ _ _ _).trans rfl
set_option maxRecDepth 100000 in
theorem bk_169_22 (X : (Nat → Int32) × Nat) (mo : Bool) (G : Nat × Nat) (I : Nat → Nat → Int32) (J : Nat → Nat → Int64) (Q : Option Value → sm_M → Prop) (x0 : Int32) (x1 : Int32) :
    sm_wp X 169 22 [some (.int x0), some (.int x1)] [] (sM mo G I J) Q =
    (sm_zb 0 ∧ Q (some (.int 0)) (sM mo G I J)) :=
  (sm_blk X 169 22 (tt_lin 169 (by decide)) rfl rfl _ _ _ _).trans rfl
set_option maxRecDepth 100000 in
theorem bk_169_23 (X : (Nat → Int32) × Nat) (mo : Bool) (G : Nat × Nat) (I : Nat → Nat → Int32) (J : Nat → Nat → Int64) (Q : Option Value → sm_M → Prop) (x0 : Int32) (x1 : Int32) (s0 : Int32) :
    sm_wp X 169 23 [some (.int x0), some (.int x1)] [.int s0] (sM mo G I J) Q =
    (sm_zb s0 ∧ Q (some (.int s0)) (sM mo G I J)) :=
  (sm_blk X 169 23 (tt_lin 169 (by decide)) rfl rfl _ _ _ _).trans rfl
set_option maxRecDepth 100000 in
theorem bk_170_0 (X : (Nat → Int32) × Nat) (mo : Bool) (G : Nat × Nat) (I : Nat → Nat → Int32) (J : Nat → Nat → Int64) (Q : Option Value → sm_M → Prop) (x1 : Int32) :
    sm_wp X 170 0 [some (.ref 0), some (.int x1)] [] (sM mo G I J) Q =
    (if ¬ (x1 : Int32) = 0 then sm_wp X 170 12 [some (.ref 0), some (.int x1)] [] (sM mo G I J) Q else (True ∧ Q (some (.int (I 16 0))) (sM mo G I J))) :=
  (sm_blk X 170 0 (tt_lin 170 (by decide)) rfl rfl _ _ _ _).trans rfl
set_option maxRecDepth 100000 in
theorem bk_170_12 (X : (Nat → Int32) × Nat) (mo : Bool) (G : Nat × Nat) (I : Nat → Nat → Int32) (J : Nat → Nat → Int64) (Q : Option Value → sm_M → Prop) (x1 : Int32) :
    sm_wp X 170 12 [some (.ref 0), some (.int x1)] [] (sM mo G I J) Q =
    (if ¬ (x1 : Int32) = (1 : Int32) then sm_wp X 170 27 [some (.ref 0), some (.int x1)] [] (sM mo G I J) Q else (sm_wp X 170 28 [some (.ref 0), some (.int x1)] [.int (I 16 1)] (sM mo G I J) Q)) :=
  (sm_blk X 170 12 (tt_lin 170 (by decide)) rfl rfl _ _ _ _).trans rfl
set_option maxRecDepth 100000 in
theorem bk_170_27 (X : (Nat → Int32) × Nat) (mo : Bool) (G : Nat × Nat) (I : Nat → Nat → Int32) (J : Nat → Nat → Int64) (Q : Option Value → sm_M → Prop) (x1 : Int32) :
    sm_wp X 170 27 [some (.ref 0), some (.int x1)] [] (sM mo G I J) Q =
    (True ∧ Q (some (.int (-1))) (sM mo G I J)) :=
  (sm_blk X 170 27 (tt_lin 170 (by decide)) rfl rfl _ _ _ _).trans rfl
set_option maxRecDepth 100000 in
theorem bk_170_28 (X : (Nat → Int32) × Nat) (mo : Bool) (G : Nat × Nat) (I : Nat → Nat → Int32) (J : Nat → Nat → Int64) (Q : Option Value → sm_M → Prop) (x1 : Int32) (s0 : Int32) :
    sm_wp X 170 28 [some (.ref 0), some (.int x1)] [.int s0] (sM mo G I J) Q =
    (True ∧ Q (some (.int s0)) (sM mo G I J)) :=
  (sm_blk X 170 28 (tt_lin 170 (by decide)) rfl rfl _ _ _ _).trans rfl
set_option maxRecDepth 100000 in
theorem bk_171_0 (X : (Nat → Int32) × Nat) (mo : Bool) (G : Nat × Nat) (I : Nat → Nat → Int32) (J : Nat → Nat → Int64) (Q : Option Value → sm_M → Prop) (x1 : Int32) :
    sm_wp X 171 0 [some (.ref 0), some (.int x1)] [] (sM mo G I J) Q =
    (if (x1 : Int32) < (1 : Int32) then sm_wp X 171 12 [some (.ref 0), some (.int x1)] [] (sM mo G I J) Q else (if (x1 : Int32) ≤ (9999 : Int32) then sm_wp X 171 14 [some (.ref 0), some (.int x1)] [] (sM mo G I J) Q else (True ∧ Q (some (.int (-1))) (sM mo G I J)))) :=
  (sm_blk X 171 0 (tt_lin 171 (by decide)) rfl rfl _ _ _ _).trans rfl
set_option maxRecDepth 100000 in
theorem bk_171_12 (X : (Nat → Int32) × Nat) (mo : Bool) (G : Nat × Nat) (I : Nat → Nat → Int32) (J : Nat → Nat → Int64) (Q : Option Value → sm_M → Prop) (x1 : Int32) :
    sm_wp X 171 12 [some (.ref 0), some (.int x1)] [] (sM mo G I J) Q =
    (True ∧ Q (some (.int (-1))) (sM mo G I J)) :=
  (sm_blk X 171 12 (tt_lin 171 (by decide)) rfl rfl _ _ _ _).trans rfl
set_option maxRecDepth 100000 in
theorem bk_171_14 (X : (Nat → Int32) × Nat) (mo : Bool) (G : Nat × Nat) (I : Nat → Nat → Int32) (J : Nat → Nat → Int64) (Q : Option Value → sm_M → Prop) (x1 : Int32) :
    sm_wp X 171 14 [some (.ref 0), some (.int x1)] [] (sM mo G I J) Q =
    (sm_wp X 89 0 [some (.ref 1), some (.int x1)] [] (sM mo G I J) (fun v M => sm_wp X 171 22 [some (.ref 0), some (.int x1)] (v.toList ++ []) M Q)) :=
  (sm_blk X 171 14 (tt_lin 171 (by decide)) rfl rfl _ _ _ _).trans rfl
set_option maxRecDepth 100000 in
theorem bk_171_22 (X : (Nat → Int32) × Nat) (mo : Bool) (G : Nat × Nat) (I : Nat → Nat → Int32) (J : Nat → Nat → Int64) (Q : Option Value → sm_M → Prop) (x1 : Int32) (s0 : Int32) :
    sm_wp X 171 22 [some (.ref 0), some (.int x1)] [.int s0] (sM mo G I J) Q =
    (True ∧ Q (some (.int s0)) (sM mo G I J)) :=
  (sm_blk X 171 22 (tt_lin 171 (by decide)) rfl rfl _ _ _ _).trans rfl
set_option maxRecDepth 100000 in
theorem bk_172_0 (X : (Nat → Int32) × Nat) (mo : Bool) (G : Nat × Nat) (I : Nat → Nat → Int32) (J : Nat → Nat → Int64) (Q : Option Value → sm_M → Prop) (x1 : Int32) (x2 : Int32) :
    sm_wp X 172 0 [some (.ref 0), some (.int x1), some (.int x2)] [] (sM mo G I J) Q =
    (sm_wp X 90 0 [some (.ref 1), some (.int x1)] [] (sM mo G I J) (fun v M => sm_wp X 172 8 [some (.ref 0), some (.int x1), some (.int x2)] (v.toList ++ []) M Q)) :=
  (sm_blk X 172 0 (tt_lin 172 (by decide)) rfl rfl _ _ _ _).trans rfl
set_option maxRecDepth 100000 in
theorem bk_172_8 (X : (Nat → Int32) × Nat) (mo : Bool) (G : Nat × Nat) (I : Nat → Nat → Int32) (J : Nat → Nat → Int64) (Q : Option Value → sm_M → Prop) (x1 : Int32) (x2 : Int32) (s0 : Int32) :
    sm_wp X 172 8 [some (.ref 0), some (.int x1), some (.int x2)] [.int s0] (sM mo G I J) Q =
    (if (s0 : Int32) = 0 then sm_wp X 172 39 [some (.ref 0), some (.int x1), some (.int x2)] [] (sM mo G I J) Q else (sm_wp X 90 0 [some (.ref 1), some (.int x2)] [] (sM mo G I J) (fun v M => sm_wp X 172 19 [some (.ref 0), some (.int x1), some (.int x2)] (v.toList ++ []) M Q))) :=
  (sm_blk X 172 8 (tt_lin 172 (by decide)) rfl rfl _ _ _ _).trans rfl
set_option maxRecDepth 100000 in
theorem bk_172_19 (X : (Nat → Int32) × Nat) (mo : Bool) (G : Nat × Nat) (I : Nat → Nat → Int32) (J : Nat → Nat → Int64) (Q : Option Value → sm_M → Prop) (x1 : Int32) (x2 : Int32) (s0 : Int32) :
    sm_wp X 172 19 [some (.ref 0), some (.int x1), some (.int x2)] [.int s0] (sM mo G I J) Q =
    (if (s0 : Int32) = 0 then sm_wp X 172 39 [some (.ref 0), some (.int x1), some (.int x2)] [] (sM mo G I J) Q else (if (x1 : Int32) = (x2 : Int32) then sm_wp X 172 39 [some (.ref 0), some (.int x1), some (.int x2)] [] (sM mo G I J) Q else (sm_wp X 91 0 [some (.ref 1), some (.int x1), some (.int x2)] [] (sM mo G I J) (fun v M => sm_wp X 172 36 [some (.ref 0), some (.int x1), some (.int x2)] (v.toList ++ []) M Q)))) :=
  (sm_blk X 172 19 (tt_lin 172 (by decide)) rfl rfl _ _ _ _).trans rfl
set_option maxRecDepth 100000 in
theorem bk_172_36 (X : (Nat → Int32) × Nat) (mo : Bool) (G : Nat × Nat) (I : Nat → Nat → Int32) (J : Nat → Nat → Int64) (Q : Option Value → sm_M → Prop) (x1 : Int32) (x2 : Int32) (s0 : Int32) :
    sm_wp X 172 36 [some (.ref 0), some (.int x1), some (.int x2)] [.int s0] (sM mo G I J) Q =
    (if (s0 : Int32) = 0 then sm_wp X 172 41 [some (.ref 0), some (.int x1), some (.int x2)] [] (sM mo G I J) Q else (sm_zb 0 ∧ Q (some (.int 0)) (sM mo G I J))) :=
  (sm_blk X 172 36 (tt_lin 172 (by decide)) rfl rfl _ _ _ _).trans rfl
set_option maxRecDepth 100000 in
theorem bk_172_39 (X : (Nat → Int32) × Nat) (mo : Bool) (G : Nat × Nat) (I : Nat → Nat → Int32) (J : Nat → Nat → Int64) (Q : Option Value → sm_M → Prop) (x1 : Int32) (x2 : Int32) :
    sm_wp X 172 39 [some (.ref 0), some (.int x1), some (.int x2)] [] (sM mo G I J) Q =
    (sm_zb 0 ∧ Q (some (.int 0)) (sM mo G I J)) :=
  (sm_blk X 172 39 (tt_lin 172 (by decide)) rfl rfl _ _ _ _).trans rfl
set_option maxRecDepth 100000 in
theorem bk_172_41 (X : (Nat → Int32) × Nat) (mo : Bool) (G : Nat × Nat) (I : Nat → Nat → Int32) (J : Nat → Nat → Int64) (Q : Option Value → sm_M → Prop) (x1 : Int32) (x2 : Int32) :
    sm_wp X 172 41 [some (.ref 0), some (.int x1), some (.int x2)] [] (sM mo G I J) Q =
    (sm_wp X 92 0 [some (.ref 1), some (.int x1), some (.int x2)] [] (sM mo G I J) (fun v M => sm_wp X 172 50 [some (.ref 0), some (.int x1), some (.int x2)] (v.toList ++ []) M Q)) :=
  (sm_blk X 172 41 (tt_lin 172 (by decide)) rfl rfl _ _ _ _).trans rfl
set_option maxRecDepth 100000 in
theorem bk_172_50 (X : (Nat → Int32) × Nat) (mo : Bool) (G : Nat × Nat) (I : Nat → Nat → Int32) (J : Nat → Nat → Int64) (Q : Option Value → sm_M → Prop) (x1 : Int32) (x2 : Int32) :
    sm_wp X 172 50 [some (.ref 0), some (.int x1), some (.int x2)] [] (sM mo G I J) Q =
    (sm_zb 1 ∧ Q (some (.int 1)) (sM mo G I J)) :=
  (sm_blk X 172 50 (tt_lin 172 (by decide)) rfl rfl _ _ _ _).trans rfl
set_option maxRecDepth 100000 in
theorem bk_173_0 (X : (Nat → Int32) × Nat) (mo : Bool) (G : Nat × Nat) (I : Nat → Nat → Int32) (J : Nat → Nat → Int64) (Q : Option Value → sm_M → Prop) (x1 : Int32) (x2 : Int32) :
    sm_wp X 173 0 [some (.ref 0), some (.int x1), some (.int x2)] [] (sM mo G I J) Q =
    (if (x1 : Int32) < 0 then sm_wp X 173 20 [some (.ref 0), some (.int x1), some (.int x2)] [] (sM mo G I J) Q else (if (99 : Int32) < (x1 : Int32) then sm_wp X 173 20 [some (.ref 0), some (.int x1), some (.int x2)] [] (sM mo G I J) Q else (if (x2 : Int32) < 0 then sm_wp X 173 20 [some (.ref 0), some (.int x1), some (.int x2)] [] (sM mo G I J) Q else (if (x2 : Int32) ≤ (9 : Int32) then sm_wp X 173 22 [some (.ref 0), some (.int x1), some (.int x2)] [] (sM mo G I J) Q else (True ∧ Q (some (.int (-1))) (sM mo G I J)))))) :=
  (sm_blk X 173 0 (tt_lin 173 (by decide)) rfl rfl _ _ _ _).trans rfl
set_option maxRecDepth 100000 in
theorem bk_173_20 (X : (Nat → Int32) × Nat) (mo : Bool) (G : Nat × Nat) (I : Nat → Nat → Int32) (J : Nat → Nat → Int64) (Q : Option Value → sm_M → Prop) (x1 : Int32) (x2 : Int32) :
    sm_wp X 173 20 [some (.ref 0), some (.int x1), some (.int x2)] [] (sM mo G I J) Q =
    (True ∧ Q (some (.int (-1))) (sM mo G I J)) :=
  (sm_blk X 173 20 (tt_lin 173 (by decide)) rfl rfl _ _ _ _).trans rfl
set_option maxRecDepth 100000 in
theorem bk_173_22 (X : (Nat → Int32) × Nat) (mo : Bool) (G : Nat × Nat) (I : Nat → Nat → Int32) (J : Nat → Nat → Int64) (Q : Option Value → sm_M → Prop) (x1 : Int32) (x2 : Int32) :
    sm_wp X 173 22 [some (.ref 0), some (.int x1), some (.int x2)] [] (sM mo G I J) Q =
    (sm_wp X 93 0 [some (.ref 1), some (.int x1), some (.int x2)] [] (sM mo G I J) (fun v M => sm_wp X 173 31 [some (.ref 0), some (.int x1), some (.int x2)] (v.toList ++ []) M Q)) :=
  (sm_blk X 173 22 (tt_lin 173 (by decide)) rfl rfl _ _ _ _).trans rfl
set_option maxRecDepth 100000 in
theorem bk_173_31 (X : (Nat → Int32) × Nat) (mo : Bool) (G : Nat × Nat) (I : Nat → Nat → Int32) (J : Nat → Nat → Int64) (Q : Option Value → sm_M → Prop) (x1 : Int32) (x2 : Int32) (s0 : Int32) :
    sm_wp X 173 31 [some (.ref 0), some (.int x1), some (.int x2)] [.int s0] (sM mo G I J) Q =
    (True ∧ Q (some (.int s0)) (sM mo G I J)) :=
  (sm_blk X 173 31 (tt_lin 173 (by decide)) rfl rfl _ _ _ _).trans rfl
set_option maxRecDepth 100000 in
theorem bk_174_0 (X : (Nat → Int32) × Nat) (mo : Bool) (G : Nat × Nat) (I : Nat → Nat → Int32) (J : Nat → Nat → Int64) (Q : Option Value → sm_M → Prop) (x1 : Int32) (x2 : Int32) :
    sm_wp X 174 0 [some (.ref 0), some (.int x1), some (.int x2)] [] (sM mo G I J) Q =
    (sm_wp X 90 0 [some (.ref 1), some (.int x1)] [] (sM mo G I J) (fun v M => sm_wp X 174 8 [some (.ref 0), some (.int x1), some (.int x2)] (v.toList ++ []) M Q)) :=
  (sm_blk X 174 0 (tt_lin 174 (by decide)) rfl rfl _ _ _ _).trans rfl
set_option maxRecDepth 100000 in
theorem bk_174_8 (X : (Nat → Int32) × Nat) (mo : Bool) (G : Nat × Nat) (I : Nat → Nat → Int32) (J : Nat → Nat → Int64) (Q : Option Value → sm_M → Prop) (x1 : Int32) (x2 : Int32) (s0 : Int32) :
    sm_wp X 174 8 [some (.ref 0), some (.int x1), some (.int x2)] [.int s0] (sM mo G I J) Q =
    (if (s0 : Int32) = 0 then sm_wp X 174 27 [some (.ref 0), some (.int x1), some (.int x2)] [] (sM mo G I J) Q else (if (x2 : Int32) = ((-1) : Int32) then sm_wp X 174 29 [some (.ref 0), some (.int x1), some (.int x2)] [] (sM mo G I J) Q else (sm_wp X 94 0 [some (.ref 1), some (.int x2)] [] (sM mo G I J) (fun v M => sm_wp X 174 24 [some (.ref 0), some (.int x1), some (.int x2)] (v.toList ++ []) M Q)))) :=
  (sm_blk X 174 8 (tt_lin 174 (by decide)) rfl rfl _ _ _ _).trans rfl
set_option maxRecDepth 100000 in
theorem bk_174_24 (X : (Nat → Int32) × Nat) (mo : Bool) (G : Nat × Nat) (I : Nat → Nat → Int32) (J : Nat → Nat → Int64) (Q : Option Value → sm_M → Prop) (x1 : Int32) (x2 : Int32) (s0 : Int32) :
    sm_wp X 174 24 [some (.ref 0), some (.int x1), some (.int x2)] [.int s0] (sM mo G I J) Q =
    (if ¬ (s0 : Int32) = 0 then sm_wp X 174 29 [some (.ref 0), some (.int x1), some (.int x2)] [] (sM mo G I J) Q else (sm_zb 0 ∧ Q (some (.int 0)) (sM mo G I J))) :=
  (sm_blk X 174 24 (tt_lin 174 (by decide)) rfl rfl _ _ _ _).trans rfl
set_option maxRecDepth 100000 in
theorem bk_174_27 (X : (Nat → Int32) × Nat) (mo : Bool) (G : Nat × Nat) (I : Nat → Nat → Int32) (J : Nat → Nat → Int64) (Q : Option Value → sm_M → Prop) (x1 : Int32) (x2 : Int32) :
    sm_wp X 174 27 [some (.ref 0), some (.int x1), some (.int x2)] [] (sM mo G I J) Q =
    (sm_zb 0 ∧ Q (some (.int 0)) (sM mo G I J)) :=
  (sm_blk X 174 27 (tt_lin 174 (by decide)) rfl rfl _ _ _ _).trans rfl
set_option maxRecDepth 100000 in
theorem bk_174_29 (X : (Nat → Int32) × Nat) (mo : Bool) (G : Nat × Nat) (I : Nat → Nat → Int32) (J : Nat → Nat → Int64) (Q : Option Value → sm_M → Prop) (x1 : Int32) (x2 : Int32) :
    sm_wp X 174 29 [some (.ref 0), some (.int x1), some (.int x2)] [] (sM mo G I J) Q =
    (sm_wp X 95 0 [some (.ref 1), some (.int x1)] [] (sM mo G I J) (fun v M => sm_wp X 174 37 [some (.ref 0), some (.int x1), some (.int x2)] (v.toList ++ []) M Q)) :=
  (sm_blk X 174 29 (tt_lin 174 (by decide)) rfl rfl _ _ _ _).trans rfl
set_option maxRecDepth 100000 in
theorem bk_174_37 (X : (Nat → Int32) × Nat) (mo : Bool) (G : Nat × Nat) (I : Nat → Nat → Int32) (J : Nat → Nat → Int64) (Q : Option Value → sm_M → Prop) (x1 : Int32) (x2 : Int32) (s0 : Int32) :
    sm_wp X 174 37 [some (.ref 0), some (.int x1), some (.int x2)] [.int s0] (sM mo G I J) Q =
    (if (s0 : Int32) = (x2 : Int32) then sm_wp X 174 54 [some (.ref 0), some (.int x1), some (.int x2)] [] (sM mo G I J) Q else (sm_wp X 96 0 [some (.ref 1), some (.int x1)] [] (sM mo G I J) (fun v M => sm_wp X 174 49 [some (.ref 0), some (.int x1), some (.int x2)] (v.toList ++ []) M Q))) :=
  (sm_blk X 174 37 (tt_lin 174 (by decide)) rfl rfl _ _ _ _).trans rfl
set_option maxRecDepth 100000 in
theorem bk_174_49 (X : (Nat → Int32) × Nat) (mo : Bool) (G : Nat × Nat) (I : Nat → Nat → Int32) (J : Nat → Nat → Int64) (Q : Option Value → sm_M → Prop) (x1 : Int32) (x2 : Int32) (s0 : Int32) :
    sm_wp X 174 49 [some (.ref 0), some (.int x1), some (.int x2)] [.int s0] (sM mo G I J) Q =
    (if (s0 : Int32) < (20 : Int32) then sm_wp X 174 56 [some (.ref 0), some (.int x1), some (.int x2)] [] (sM mo G I J) Q else (sm_zb 0 ∧ Q (some (.int 0)) (sM mo G I J))) :=
  (sm_blk X 174 49 (tt_lin 174 (by decide)) rfl rfl _ _ _ _).trans rfl
set_option maxRecDepth 100000 in
theorem bk_174_54 (X : (Nat → Int32) × Nat) (mo : Bool) (G : Nat × Nat) (I : Nat → Nat → Int32) (J : Nat → Nat → Int64) (Q : Option Value → sm_M → Prop) (x1 : Int32) (x2 : Int32) :
    sm_wp X 174 54 [some (.ref 0), some (.int x1), some (.int x2)] [] (sM mo G I J) Q =
    (sm_zb 0 ∧ Q (some (.int 0)) (sM mo G I J)) :=
  (sm_blk X 174 54 (tt_lin 174 (by decide)) rfl rfl _ _ _ _).trans rfl
set_option maxRecDepth 100000 in
theorem bk_174_56 (X : (Nat → Int32) × Nat) (mo : Bool) (G : Nat × Nat) (I : Nat → Nat → Int32) (J : Nat → Nat → Int64) (Q : Option Value → sm_M → Prop) (x1 : Int32) (x2 : Int32) :
    sm_wp X 174 56 [some (.ref 0), some (.int x1), some (.int x2)] [] (sM mo G I J) Q =
    (sm_wp X 97 0 [some (.ref 1), some (.int x1), some (.int x2), some (.int (-1)), none, none] [] (sM mo G I J) (fun v M => sm_wp X 174 66 [some (.ref 0), some (.int x1), some (.int x2)] (v.toList ++ []) M Q)) :=
  (sm_blk X 174 56 (tt_lin 174 (by decide)) rfl rfl _ _ _ _).trans rfl
set_option maxRecDepth 100000 in
theorem bk_174_66 (X : (Nat → Int32) × Nat) (mo : Bool) (G : Nat × Nat) (I : Nat → Nat → Int32) (J : Nat → Nat → Int64) (Q : Option Value → sm_M → Prop) (x1 : Int32) (x2 : Int32) :
    sm_wp X 174 66 [some (.ref 0), some (.int x1), some (.int x2)] [] (sM mo G I J) Q =
    (sm_zb 1 ∧ Q (some (.int 1)) (sM mo G I J)) :=
  (sm_blk X 174 66 (tt_lin 174 (by decide)) rfl rfl _ _ _ _).trans rfl
set_option maxRecDepth 100000 in
theorem bk_175_0 (X : (Nat → Int32) × Nat) (mo : Bool) (G : Nat × Nat) (I : Nat → Nat → Int32) (J : Nat → Nat → Int64) (Q : Option Value → sm_M → Prop) (x1 : Int32) (x2 : Int32) (x3 : Int32) :
    sm_wp X 175 0 [some (.ref 0), some (.int x1), some (.int x2), some (.int x3), none] [] (sM mo G I J) Q =
    (sm_wp X 90 0 [some (.ref 1), some (.int x1)] [] (sM mo G I J) (fun v M => sm_wp X 175 8 [some (.ref 0), some (.int x1), some (.int x2), some (.int x3), none] (v.toList ++ []) M Q)) :=
  (sm_blk X 175 0 (tt_lin 175 (by decide)) rfl rfl _ _ _ _).trans rfl
set_option maxRecDepth 100000 in
theorem bk_175_8 (X : (Nat → Int32) × Nat) (mo : Bool) (G : Nat × Nat) (I : Nat → Nat → Int32) (J : Nat → Nat → Int64) (Q : Option Value → sm_M → Prop) (x1 : Int32) (x2 : Int32) (x3 : Int32) (s0 : Int32) :
    sm_wp X 175 8 [some (.ref 0), some (.int x1), some (.int x2), some (.int x3), none] [.int s0] (sM mo G I J) Q =
    (if (s0 : Int32) = 0 then sm_wp X 175 22 [some (.ref 0), some (.int x1), some (.int x2), some (.int x3), none] [] (sM mo G I J) Q else (sm_wp X 88 0 [some (.ref 1), some (.int x2)] [] (sM mo G I J) (fun v M => sm_wp X 175 19 [some (.ref 0), some (.int x1), some (.int x2), some (.int x3), none] (v.toList ++ []) M Q))) :=
  (sm_blk X 175 8 (tt_lin 175 (by decide)) rfl rfl _ _ _ _).trans rfl
set_option maxRecDepth 100000 in
theorem bk_175_19 (X : (Nat → Int32) × Nat) (mo : Bool) (G : Nat × Nat) (I : Nat → Nat → Int32) (J : Nat → Nat → Int64) (Q : Option Value → sm_M → Prop) (x1 : Int32) (x2 : Int32) (x3 : Int32) (s0 : Int32) :
    sm_wp X 175 19 [some (.ref 0), some (.int x1), some (.int x2), some (.int x3), none] [.int s0] (sM mo G I J) Q =
    (if ¬ (s0 : Int32) = 0 then sm_wp X 175 24 [some (.ref 0), some (.int x1), some (.int x2), some (.int x3), none] [] (sM mo G I J) Q else (sm_zb 0 ∧ Q (some (.int 0)) (sM mo G I J))) :=
  (sm_blk X 175 19 (tt_lin 175 (by decide)) rfl rfl _ _ _ _).trans rfl
set_option maxRecDepth 100000 in
theorem bk_175_22 (X : (Nat → Int32) × Nat) (mo : Bool) (G : Nat × Nat) (I : Nat → Nat → Int32) (J : Nat → Nat → Int64) (Q : Option Value → sm_M → Prop) (x1 : Int32) (x2 : Int32) (x3 : Int32) :
    sm_wp X 175 22 [some (.ref 0), some (.int x1), some (.int x2), some (.int x3), none] [] (sM mo G I J) Q =
    (sm_zb 0 ∧ Q (some (.int 0)) (sM mo G I J)) :=
  (sm_blk X 175 22 (tt_lin 175 (by decide)) rfl rfl _ _ _ _).trans rfl
set_option maxRecDepth 100000 in
theorem bk_175_24 (X : (Nat → Int32) × Nat) (mo : Bool) (G : Nat × Nat) (I : Nat → Nat → Int32) (J : Nat → Nat → Int64) (Q : Option Value → sm_M → Prop) (x1 : Int32) (x2 : Int32) (x3 : Int32) :
    sm_wp X 175 24 [some (.ref 0), some (.int x1), some (.int x2), some (.int x3), none] [] (sM mo G I J) Q =
    (sm_wp X 98 0 [some (.ref 1), some (.int x1)] [] (sM mo G I J) (fun v M => sm_wp X 175 32 [some (.ref 0), some (.int x1), some (.int x2), some (.int x3), none] (v.toList ++ []) M Q)) :=
  (sm_blk X 175 24 (tt_lin 175 (by decide)) rfl rfl _ _ _ _).trans rfl
set_option maxRecDepth 100000 in
theorem bk_175_32 (X : (Nat → Int32) × Nat) (mo : Bool) (G : Nat × Nat) (I : Nat → Nat → Int32) (J : Nat → Nat → Int64) (Q : Option Value → sm_M → Prop) (x1 : Int32) (x2 : Int32) (x3 : Int32) (s0 : Int32) :
    sm_wp X 175 32 [some (.ref 0), some (.int x1), some (.int x2), some (.int x3), none] [.int s0] (sM mo G I J) Q =
    (sm_wp X 169 0 [some (.int s0), some (.int x2)] [] (sM mo G I J) (fun v M => sm_wp X 175 40 [some (.ref 0), some (.int x1), some (.int x2), some (.int x3), some (.int s0)] (v.toList ++ []) M Q)) :=
  (sm_blk X 175 32 (tt_lin 175 (by decide)) rfl rfl _ _ _ _).trans rfl
set_option maxRecDepth 100000 in
theorem bk_175_40 (X : (Nat → Int32) × Nat) (mo : Bool) (G : Nat × Nat) (I : Nat → Nat → Int32) (J : Nat → Nat → Int64) (Q : Option Value → sm_M → Prop) (x1 : Int32) (x2 : Int32) (x3 : Int32) (x4 : Int32) (s0 : Int32) :
    sm_wp X 175 40 [some (.ref 0), some (.int x1), some (.int x2), some (.int x3), some (.int x4)] [.int s0] (sM mo G I J) Q =
    (if (s0 : Int32) = (x3 : Int32) then sm_wp X 175 57 [some (.ref 0), some (.int x1), some (.int x2), some (.int x3), some (.int x4)] [] (sM mo G I J) Q else (if (x3 : Int32) = 0 then sm_wp X 175 59 [some (.ref 0), some (.int x1), some (.int x2), some (.int x3), some (.int x4)] [] (sM mo G I J) Q else (sm_wp X 314 0 [some (.int x4)] [] (sM mo G I J) (fun v M => sm_wp X 175 53 [some (.ref 0), some (.int x1), some (.int x2), some (.int x3), some (.int x4)] (v.toList ++ []) M Q)))) :=
  (sm_blk X 175 40 (tt_lin 175 (by decide)) rfl rfl _ _ _ _).trans rfl
set_option maxRecDepth 100000 in
theorem bk_175_53 (X : (Nat → Int32) × Nat) (mo : Bool) (G : Nat × Nat) (I : Nat → Nat → Int32) (J : Nat → Nat → Int64) (Q : Option Value → sm_M → Prop) (x1 : Int32) (x2 : Int32) (x3 : Int32) (x4 : Int32) (s0 : Int32) :
    sm_wp X 175 53 [some (.ref 0), some (.int x1), some (.int x2), some (.int x3), some (.int x4)] [.int s0] (sM mo G I J) Q =
    (if (s0 : Int32) < (3 : Int32) then sm_wp X 175 59 [some (.ref 0), some (.int x1), some (.int x2), some (.int x3), some (.int x4)] [] (sM mo G I J) Q else (sm_zb 0 ∧ Q (some (.int 0)) (sM mo G I J))) :=
  (sm_blk X 175 53 (tt_lin 175 (by decide)) rfl rfl _ _ _ _).trans rfl
set_option maxRecDepth 100000 in
theorem bk_175_57 (X : (Nat → Int32) × Nat) (mo : Bool) (G : Nat × Nat) (I : Nat → Nat → Int32) (J : Nat → Nat → Int64) (Q : Option Value → sm_M → Prop) (x1 : Int32) (x2 : Int32) (x3 : Int32) (x4 : Int32) :
    sm_wp X 175 57 [some (.ref 0), some (.int x1), some (.int x2), some (.int x3), some (.int x4)] [] (sM mo G I J) Q =
    (sm_zb 0 ∧ Q (some (.int 0)) (sM mo G I J)) :=
  (sm_blk X 175 57 (tt_lin 175 (by decide)) rfl rfl _ _ _ _).trans rfl
set_option maxRecDepth 100000 in
theorem bk_175_59 (X : (Nat → Int32) × Nat) (mo : Bool) (G : Nat × Nat) (I : Nat → Nat → Int32) (J : Nat → Nat → Int64) (Q : Option Value → sm_M → Prop) (x1 : Int32) (x2 : Int32) (x3 : Int32) (x4 : Int32) :
    sm_wp X 175 59 [some (.ref 0), some (.int x1), some (.int x2), some (.int x3), some (.int x4)] [] (sM mo G I J) Q =
    (sm_wp X 99 0 [some (.ref 1), some (.int x1), some (.int (x4 ^^^ (1 <<< (x2 &&& 31))))] [] (sM mo G I J) (fun v M => sm_wp X 175 73 [some (.ref 0), some (.int x1), some (.int x2), some (.int x3), some (.int x4)] (v.toList ++ []) M Q)) :=
  (sm_blk X 175 59 (tt_lin 175 (by decide)) rfl rfl _ _ _ _).trans rfl
set_option maxRecDepth 100000 in
theorem bk_175_73 (X : (Nat → Int32) × Nat) (mo : Bool) (G : Nat × Nat) (I : Nat → Nat → Int32) (J : Nat → Nat → Int64) (Q : Option Value → sm_M → Prop) (x1 : Int32) (x2 : Int32) (x3 : Int32) (x4 : Int32) :
    sm_wp X 175 73 [some (.ref 0), some (.int x1), some (.int x2), some (.int x3), some (.int x4)] [] (sM mo G I J) Q =
    (sm_zb 1 ∧ Q (some (.int 1)) (sM mo G I J)) :=
  (sm_blk X 175 73 (tt_lin 175 (by decide)) rfl rfl _ _ _ _).trans rfl
set_option maxRecDepth 100000 in
theorem bk_176_0 (X : (Nat → Int32) × Nat) (mo : Bool) (G : Nat × Nat) (I : Nat → Nat → Int32) (J : Nat → Nat → Int64) (Q : Option Value → sm_M → Prop) (x1 : Int32) (x2 : Int32) (x3 : Int32) :
    sm_wp X 176 0 [some (.ref 0), some (.int x1), some (.int x2), some (.int x3)] [] (sM mo G I J) Q =
    (sm_wp X 88 0 [some (.ref 1), some (.int x1)] [] (sM mo G I J) (fun v M => sm_wp X 176 8 [some (.ref 0), some (.int x1), some (.int x2), some (.int x3)] (v.toList ++ []) M Q)) :=
  (sm_blk X 176 0 (tt_lin 176 (by decide)) rfl rfl _ _ _ _).trans rfl
set_option maxRecDepth 100000 in
theorem bk_176_8 (X : (Nat → Int32) × Nat) (mo : Bool) (G : Nat × Nat) (I : Nat → Nat → Int32) (J : Nat → Nat → Int64) (Q : Option Value → sm_M → Prop) (x1 : Int32) (x2 : Int32) (x3 : Int32) (s0 : Int32) :
    sm_wp X 176 8 [some (.ref 0), some (.int x1), some (.int x2), some (.int x3)] [.int s0] (sM mo G I J) Q =
    (if (s0 : Int32) = 0 then sm_wp X 176 32 [some (.ref 0), some (.int x1), some (.int x2), some (.int x3)] [] (sM mo G I J) Q else (sm_wp X 90 0 [some (.ref 1), some (.int x2)] [] (sM mo G I J) (fun v M => sm_wp X 176 19 [some (.ref 0), some (.int x1), some (.int x2), some (.int x3)] (v.toList ++ []) M Q))) :=
  (sm_blk X 176 8 (tt_lin 176 (by decide)) rfl rfl _ _ _ _).trans rfl
set_option maxRecDepth 100000 in
theorem bk_176_19 (X : (Nat → Int32) × Nat) (mo : Bool) (G : Nat × Nat) (I : Nat → Nat → Int32) (J : Nat → Nat → Int64) (Q : Option Value → sm_M → Prop) (x1 : Int32) (x2 : Int32) (x3 : Int32) (s0 : Int32) :
    sm_wp X 176 19 [some (.ref 0), some (.int x1), some (.int x2), some (.int x3)] [.int s0] (sM mo G I J) Q =
    (if (s0 : Int32) = 0 then sm_wp X 176 32 [some (.ref 0), some (.int x1), some (.int x2), some (.int x3)] [] (sM mo G I J) Q else (if (x3 : Int32) < 0 then sm_wp X 176 32 [some (.ref 0), some (.int x1), some (.int x2), some (.int x3)] [] (sM mo G I J) Q else (if (x3 : Int32) ≤ (99 : Int32) then sm_wp X 176 34 [some (.ref 0), some (.int x1), some (.int x2), some (.int x3)] [] (sM mo G I J) Q else (sm_zb 0 ∧ Q (some (.int 0)) (sM mo G I J))))) :=
  (sm_blk X 176 19 (tt_lin 176 (by decide)) rfl rfl _ _ _ _).trans rfl
set_option maxRecDepth 100000 in
theorem bk_176_32 (X : (Nat → Int32) × Nat) (mo : Bool) (G : Nat × Nat) (I : Nat → Nat → Int32) (J : Nat → Nat → Int64) (Q : Option Value → sm_M → Prop) (x1 : Int32) (x2 : Int32) (x3 : Int32) :
    sm_wp X 176 32 [some (.ref 0), some (.int x1), some (.int x2), some (.int x3)] [] (sM mo G I J) Q =
    (sm_zb 0 ∧ Q (some (.int 0)) (sM mo G I J)) :=
  (sm_blk X 176 32 (tt_lin 176 (by decide)) rfl rfl _ _ _ _).trans rfl
set_option maxRecDepth 100000 in
theorem bk_176_34 (X : (Nat → Int32) × Nat) (mo : Bool) (G : Nat × Nat) (I : Nat → Nat → Int32) (J : Nat → Nat → Int64) (Q : Option Value → sm_M → Prop) (x1 : Int32) (x2 : Int32) (x3 : Int32) :
    sm_wp X 176 34 [some (.ref 0), some (.int x1), some (.int x2), some (.int x3)] [] (sM mo G I J) Q =
    (sm_wp X 100 0 [some (.ref 1), some (.int x1), some (.int x2), some (.int x3)] [] (sM mo G I J) (fun v M => sm_wp X 176 44 [some (.ref 0), some (.int x1), some (.int x2), some (.int x3)] (v.toList ++ []) M Q)) :=
  (sm_blk X 176 34 (tt_lin 176 (by decide)) rfl rfl _ _ _ _).trans rfl
set_option maxRecDepth 100000 in
theorem bk_176_44 (X : (Nat → Int32) × Nat) (mo : Bool) (G : Nat × Nat) (I : Nat → Nat → Int32) (J : Nat → Nat → Int64) (Q : Option Value → sm_M → Prop) (x1 : Int32) (x2 : Int32) (x3 : Int32) :
    sm_wp X 176 44 [some (.ref 0), some (.int x1), some (.int x2), some (.int x3)] [] (sM mo G I J) Q =
    (sm_zb 1 ∧ Q (some (.int 1)) (sM mo G I J)) :=
  (sm_blk X 176 44 (tt_lin 176 (by decide)) rfl rfl _ _ _ _).trans rfl
set_option maxRecDepth 100000 in
theorem bk_177_0 (X : (Nat → Int32) × Nat) (mo : Bool) (G : Nat × Nat) (I : Nat → Nat → Int32) (J : Nat → Nat → Int64) (Q : Option Value → sm_M → Prop) (x1 : Int32) (x2 : Int32) :
    sm_wp X 177 0 [some (.ref 0), some (.int x1), some (.int x2)] [] (sM mo G I J) Q =
    (sm_wp X 88 0 [some (.ref 1), some (.int x1)] [] (sM mo G I J) (fun v M => sm_wp X 177 8 [some (.ref 0), some (.int x1), some (.int x2)] (v.toList ++ []) M Q)) :=
  (sm_blk X 177 0 (tt_lin 177 (by decide)) rfl rfl _ _ _ _).trans rfl
set_option maxRecDepth 100000 in
theorem bk_177_8 (X : (Nat → Int32) × Nat) (mo : Bool) (G : Nat × Nat) (I : Nat → Nat → Int32) (J : Nat → Nat → Int64) (Q : Option Value → sm_M → Prop) (x1 : Int32) (x2 : Int32) (s0 : Int32) :
    sm_wp X 177 8 [some (.ref 0), some (.int x1), some (.int x2)] [.int s0] (sM mo G I J) Q =
    (if (s0 : Int32) = 0 then sm_wp X 177 22 [some (.ref 0), some (.int x1), some (.int x2)] [] (sM mo G I J) Q else (if (x2 : Int32) < 0 then sm_wp X 177 22 [some (.ref 0), some (.int x1), some (.int x2)] [] (sM mo G I J) Q else (if (x2 : Int32) ≤ (999 : Int32) then sm_wp X 177 24 [some (.ref 0), some (.int x1), some (.int x2)] [] (sM mo G I J) Q else (sm_zb 0 ∧ Q (some (.int 0)) (sM mo G I J))))) :=
  (sm_blk X 177 8 (tt_lin 177 (by decide)) rfl rfl _ _ _ _).trans rfl
set_option maxRecDepth 100000 in
theorem bk_177_22 (X : (Nat → Int32) × Nat) (mo : Bool) (G : Nat × Nat) (I : Nat → Nat → Int32) (J : Nat → Nat → Int64) (Q : Option Value → sm_M → Prop) (x1 : Int32) (x2 : Int32) :
    sm_wp X 177 22 [some (.ref 0), some (.int x1), some (.int x2)] [] (sM mo G I J) Q =
    (sm_zb 0 ∧ Q (some (.int 0)) (sM mo G I J)) :=
  (sm_blk X 177 22 (tt_lin 177 (by decide)) rfl rfl _ _ _ _).trans rfl
set_option maxRecDepth 100000 in
theorem bk_177_24 (X : (Nat → Int32) × Nat) (mo : Bool) (G : Nat × Nat) (I : Nat → Nat → Int32) (J : Nat → Nat → Int64) (Q : Option Value → sm_M → Prop) (x1 : Int32) (x2 : Int32) :
    sm_wp X 177 24 [some (.ref 0), some (.int x1), some (.int x2)] [] (sM mo G I J) Q =
    (sm_wp X 101 0 [some (.ref 1), some (.int x1), some (.int x2)] [] (sM mo G I J) (fun v M => sm_wp X 177 33 [some (.ref 0), some (.int x1), some (.int x2)] (v.toList ++ []) M Q)) :=
  (sm_blk X 177 24 (tt_lin 177 (by decide)) rfl rfl _ _ _ _).trans rfl
set_option maxRecDepth 100000 in
theorem bk_177_33 (X : (Nat → Int32) × Nat) (mo : Bool) (G : Nat × Nat) (I : Nat → Nat → Int32) (J : Nat → Nat → Int64) (Q : Option Value → sm_M → Prop) (x1 : Int32) (x2 : Int32) :
    sm_wp X 177 33 [some (.ref 0), some (.int x1), some (.int x2)] [] (sM mo G I J) Q =
    (sm_zb 1 ∧ Q (some (.int 1)) (sM mo G I J)) :=
  (sm_blk X 177 33 (tt_lin 177 (by decide)) rfl rfl _ _ _ _).trans rfl
set_option maxRecDepth 100000 in
theorem bk_178_0 (X : (Nat → Int32) × Nat) (mo : Bool) (G : Nat × Nat) (I : Nat → Nat → Int32) (J : Nat → Nat → Int64) (Q : Option Value → sm_M → Prop) (x1 : Int32) (x2 : Int32) (x3 : Int32) (x4 : Int32) (x5 : Int32) (x6 : Int32) :
    sm_wp X 178 0 [some (.ref 0), some (.int x1), some (.int x2), some (.int x3), some (.int x4), some (.int x5), some (.int x6), none, none] [] (sM mo G I J) Q =
    (sm_wp X 94 0 [some (.ref 1), some (.int x1)] [] (sM mo G I J) (fun v M => sm_wp X 178 8 [some (.ref 0), some (.int x1), some (.int x2), some (.int x3), some (.int x4), some (.int x5), some (.int x6), none, none] (v.toList ++ []) M Q)) :=
  (sm_blk X 178 0 (tt_lin 178 (by decide)) rfl rfl _ _ _ _).trans rfl
set_option maxRecDepth 100000 in
theorem bk_178_8 (X : (Nat → Int32) × Nat) (mo : Bool) (G : Nat × Nat) (I : Nat → Nat → Int32) (J : Nat → Nat → Int64) (Q : Option Value → sm_M → Prop) (x1 : Int32) (x2 : Int32) (x3 : Int32) (x4 : Int32) (x5 : Int32) (x6 : Int32) (s0 : Int32) :
    sm_wp X 178 8 [some (.ref 0), some (.int x1), some (.int x2), some (.int x3), some (.int x4), some (.int x5), some (.int x6), none, none] [.int s0] (sM mo G I J) Q =
    (if (s0 : Int32) = 0 then sm_wp X 178 27 [some (.ref 0), some (.int x1), some (.int x2), some (.int x3), some (.int x4), some (.int x5), some (.int x6), none, none] [] (sM mo G I J) Q else (sm_wp X 94 0 [some (.ref 1), some (.int x2)] [] (sM mo G I J) (fun v M => sm_wp X 178 19 [some (.ref 0), some (.int x1), some (.int x2), some (.int x3), some (.int x4), some (.int x5), some (.int x6), none, none] (v.toList ++ []) M Q))) :=
  (sm_blk X 178 8 (tt_lin 178 (by decide)) rfl rfl _ _ _ _).trans rfl
set_option maxRecDepth 100000 in
theorem bk_178_19 (X : (Nat → Int32) × Nat) (mo : Bool) (G : Nat × Nat) (I : Nat → Nat → Int32) (J : Nat → Nat → Int64) (Q : Option Value → sm_M → Prop) (x1 : Int32) (x2 : Int32) (x3 : Int32) (x4 : Int32) (x5 : Int32) (x6 : Int32) (s0 : Int32) :
    sm_wp X 178 19 [some (.ref 0), some (.int x1), some (.int x2), some (.int x3), some (.int x4), some (.int x5), some (.int x6), none, none] [.int s0] (sM mo G I J) Q =
    (if (s0 : Int32) = 0 then sm_wp X 178 27 [some (.ref 0), some (.int x1), some (.int x2), some (.int x3), some (.int x4), some (.int x5), some (.int x6), none, none] [] (sM mo G I J) Q else (if ¬ (x1 : Int32) = (x2 : Int32) then sm_wp X 178 29 [some (.ref 0), some (.int x1), some (.int x2), some (.int x3), some (.int x4), some (.int x5), some (.int x6), none, none] [] (sM mo G I J) Q else (True ∧ Q (some (.int (-1))) (sM mo G I J)))) :=
  (sm_blk X 178 19 (tt_lin 178 (by decide)) rfl rfl _ _ _ _).trans rfl
set_option maxRecDepth 100000 in
theorem bk_178_27 (X : (Nat → Int32) × Nat) (mo : Bool) (G : Nat × Nat) (I : Nat → Nat → Int32) (J : Nat → Nat → Int64) (Q : Option Value → sm_M → Prop) (x1 : Int32) (x2 : Int32) (x3 : Int32) (x4 : Int32) (x5 : Int32) (x6 : Int32) :
    sm_wp X 178 27 [some (.ref 0), some (.int x1), some (.int x2), some (.int x3), some (.int x4), some (.int x5), some (.int x6), none, none] [] (sM mo G I J) Q =
    (True ∧ Q (some (.int (-1))) (sM mo G I J)) :=
  (sm_blk X 178 27 (tt_lin 178 (by decide)) rfl rfl _ _ _ _).trans rfl
set_option maxRecDepth 100000 in
theorem bk_178_29 (X : (Nat → Int32) × Nat) (mo : Bool) (G : Nat × Nat) (I : Nat → Nat → Int32) (J : Nat → Nat → Int64) (Q : Option Value → sm_M → Prop) (x1 : Int32) (x2 : Int32) (x3 : Int32) (x4 : Int32) (x5 : Int32) (x6 : Int32) :
    sm_wp X 178 29 [some (.ref 0), some (.int x1), some (.int x2), some (.int x3), some (.int x4), some (.int x5), some (.int x6), none, none] [] (sM mo G I J) Q =
    (if (x3 ||| x4 : Int32) = 0 then sm_wp X 178 62 [some (.ref 0), some (.int x1), some (.int x2), some (.int x3), some (.int x4), some (.int x5), some (.int x6), some (.int (x3 ||| x4)), none] [] (sM mo G I J) Q else (if ¬ (x3 &&& x4 : Int32) = 0 then sm_wp X 178 62 [some (.ref 0), some (.int x1), some (.int x2), some (.int x3), some (.int x4), some (.int x5), some (.int x6), some (.int (x3 ||| x4)), none] [] (sM mo G I J) Q else (sm_wp X 102 0 [some (.ref 1)] [] (sM mo G I J) (fun v M => sm_wp X 178 56 [some (.ref 0), some (.int x1), some (.int x2), some (.int x3), some (.int x4), some (.int x5), some (.int x6), some (.int (x3 ||| x4)), none] (v.toList ++ [.int (x3 ||| x4)]) M Q)))) :=
  (sm_blk X 178 29 (tt_lin 178 (by decide)) rfl rfl _ _ _ _).trans rfl
set_option maxRecDepth 100000 in
theorem bk_178_56 (X : (Nat → Int32) × Nat) (mo : Bool) (G : Nat × Nat) (I : Nat → Nat → Int32) (J : Nat → Nat → Int64) (Q : Option Value → sm_M → Prop) (x1 : Int32) (x2 : Int32) (x3 : Int32) (x4 : Int32) (x5 : Int32) (x6 : Int32) (x7 : Int32) (s0 : Int32) (s1 : Int32) :
    sm_wp X 178 56 [some (.ref 0), some (.int x1), some (.int x2), some (.int x3), some (.int x4), some (.int x5), some (.int x6), some (.int x7), none] [.int s1, .int s0] (sM mo G I J) Q =
    (if (s0 &&& (s1 ^^^ (-1)) : Int32) = 0 then sm_wp X 178 64 [some (.ref 0), some (.int x1), some (.int x2), some (.int x3), some (.int x4), some (.int x5), some (.int x6), some (.int x7), none] [] (sM mo G I J) Q else (True ∧ Q (some (.int (-1))) (sM mo G I J))) :=
  (sm_blk X 178 56 (tt_lin 178 (by decide)) rfl rfl _ _ _ _).trans rfl
set_option maxRecDepth 100000 in
theorem bk_178_62 (X : (Nat → Int32) × Nat) (mo : Bool) (G : Nat × Nat) (I : Nat → Nat → Int32) (J : Nat → Nat → Int64) (Q : Option Value → sm_M → Prop) (x1 : Int32) (x2 : Int32) (x3 : Int32) (x4 : Int32) (x5 : Int32) (x6 : Int32) (x7 : Int32) :
    sm_wp X 178 62 [some (.ref 0), some (.int x1), some (.int x2), some (.int x3), some (.int x4), some (.int x5), some (.int x6), some (.int x7), none] [] (sM mo G I J) Q =
    (True ∧ Q (some (.int (-1))) (sM mo G I J)) :=
  (sm_blk X 178 62 (tt_lin 178 (by decide)) rfl rfl _ _ _ _).trans rfl
set_option maxRecDepth 100000 in
theorem bk_178_64 (X : (Nat → Int32) × Nat) (mo : Bool) (G : Nat × Nat) (I : Nat → Nat → Int32) (J : Nat → Nat → Int64) (Q : Option Value → sm_M → Prop) (x1 : Int32) (x2 : Int32) (x3 : Int32) (x4 : Int32) (x5 : Int32) (x6 : Int32) (x7 : Int32) :
    sm_wp X 178 64 [some (.ref 0), some (.int x1), some (.int x2), some (.int x3), some (.int x4), some (.int x5), some (.int x6), some (.int x7), none] [] (sM mo G I J) Q =
    (if (x5 : Int32) < (I 1 3 : Int32) then sm_wp X 178 94 [some (.ref 0), some (.int x1), some (.int x2), some (.int x3), some (.int x4), some (.int x5), some (.int x6), some (.int x7), none] [] (sM mo G I J) Q else (if (300 : Int32) < (x5 : Int32) then sm_wp X 178 94 [some (.ref 0), some (.int x1), some (.int x2), some (.int x3), some (.int x4), some (.int x5), some (.int x6), some (.int x7), none] [] (sM mo G I J) Q else (sm_wp X 64 0 [some (.ref 31)] [] (sM mo G I J) (fun v M => sm_wp X 178 91 [some (.ref 0), some (.int x1), some (.int x2), some (.int x3), some (.int x4), some (.int x5), some (.int x6), some (.int x7), none] (v.toList ++ []) M Q)))) :=
  (sm_blk X 178 64 (tt_lin 178 (by decide)) rfl rfl _ _ _ _).trans rfl
set_option maxRecDepth 100000 in
theorem bk_178_91 (X : (Nat → Int32) × Nat) (mo : Bool) (G : Nat × Nat) (I : Nat → Nat → Int32) (J : Nat → Nat → Int64) (Q : Option Value → sm_M → Prop) (x1 : Int32) (x2 : Int32) (x3 : Int32) (x4 : Int32) (x5 : Int32) (x6 : Int32) (x7 : Int32) (s0 : Int32) :
    sm_wp X 178 91 [some (.ref 0), some (.int x1), some (.int x2), some (.int x3), some (.int x4), some (.int x5), some (.int x6), some (.int x7), none] [.int s0] (sM mo G I J) Q =
    (if (s0 : Int32) = 0 then sm_wp X 178 96 [some (.ref 0), some (.int x1), some (.int x2), some (.int x3), some (.int x4), some (.int x5), some (.int x6), some (.int x7), none] [] (sM mo G I J) Q else (True ∧ Q (some (.int (-1))) (sM mo G I J))) :=
  (sm_blk X 178 91 (tt_lin 178 (by decide)) rfl rfl _ _ _ _).trans rfl
set_option maxRecDepth 100000 in
theorem bk_178_94 (X : (Nat → Int32) × Nat) (mo : Bool) (G : Nat × Nat) (I : Nat → Nat → Int32) (J : Nat → Nat → Int64) (Q : Option Value → sm_M → Prop) (x1 : Int32) (x2 : Int32) (x3 : Int32) (x4 : Int32) (x5 : Int32) (x6 : Int32) (x7 : Int32) :
    sm_wp X 178 94 [some (.ref 0), some (.int x1), some (.int x2), some (.int x3), some (.int x4), some (.int x5), some (.int x6), some (.int x7), none] [] (sM mo G I J) Q =
    (True ∧ Q (some (.int (-1))) (sM mo G I J)) :=
  (sm_blk X 178 94 (tt_lin 178 (by decide)) rfl rfl _ _ _ _).trans rfl
set_option maxRecDepth 100000 in
theorem bk_178_96 (X : (Nat → Int32) × Nat) (mo : Bool) (G : Nat × Nat) (I : Nat → Nat → Int32) (J : Nat → Nat → Int64) (Q : Option Value → sm_M → Prop) (x1 : Int32) (x2 : Int32) (x3 : Int32) (x4 : Int32) (x5 : Int32) (x6 : Int32) (x7 : Int32) :
    sm_wp X 178 96 [some (.ref 0), some (.int x1), some (.int x2), some (.int x3), some (.int x4), some (.int x5), some (.int x6), some (.int x7), none] [] (sM mo G I J) Q =
    (if (x6 : Int32) = ((-1) : Int32) then sm_wp X 178 116 [some (.ref 0), some (.int x1), some (.int x2), some (.int x3), some (.int x4), some (.int x5), some (.int x6), some (.int x7), none] [] (sM mo G I J) Q else (sm_wp X 65 0 [some (.ref 31), some (.int x6)] [] (sM mo G I J) (fun v M => sm_wp X 178 111 [some (.ref 0), some (.int x1), some (.int x2), some (.int x3), some (.int x4), some (.int x5), some (.int x6), some (.int x7), none] (v.toList ++ []) M Q))) :=
  (sm_blk X 178 96 (tt_lin 178 (by decide)) rfl rfl _ _ _ _).trans rfl
set_option maxRecDepth 100000 in
theorem bk_178_111 (X : (Nat → Int32) × Nat) (mo : Bool) (G : Nat × Nat) (I : Nat → Nat → Int32) (J : Nat → Nat → Int64) (Q : Option Value → sm_M → Prop) (x1 : Int32) (x2 : Int32) (x3 : Int32) (x4 : Int32) (x5 : Int32) (x6 : Int32) (x7 : Int32) (s0 : Int32) :
    sm_wp X 178 111 [some (.ref 0), some (.int x1), some (.int x2), some (.int x3), some (.int x4), some (.int x5), some (.int x6), some (.int x7), none] [.int s0] (sM mo G I J) Q =
    (if ¬ (s0 : Int32) = 0 then sm_wp X 178 116 [some (.ref 0), some (.int x1), some (.int x2), some (.int x3), some (.int x4), some (.int x5), some (.int x6), some (.int x7), none] [] (sM mo G I J) Q else (True ∧ Q (some (.int (-1))) (sM mo G I J))) :=
  (sm_blk X 178 111 (tt_lin 178 (by decide)) rfl rfl _ _ _ _).trans rfl
set_option maxRecDepth 100000 in
theorem bk_178_116 (X : (Nat → Int32) × Nat) (mo : Bool) (G : Nat × Nat) (I : Nat → Nat → Int32) (J : Nat → Nat → Int64) (Q : Option Value → sm_M → Prop) (x1 : Int32) (x2 : Int32) (x3 : Int32) (x4 : Int32) (x5 : Int32) (x6 : Int32) (x7 : Int32) :
    sm_wp X 178 116 [some (.ref 0), some (.int x1), some (.int x2), some (.int x3), some (.int x4), some (.int x5), some (.int x6), some (.int x7), none] [] (sM mo G I J) Q =
    (sm_wp X 67 0 [some (.ref 31), some (.int x1), some (.int x2), some (.int (I 1 3))] [] (sM mo G I J) (fun v M => sm_wp X 178 132 [some (.ref 0), some (.int x1), some (.int x2), some (.int x3), some (.int x4), some (.int x5), some (.int x6), some (.int x7), none] (v.toList ++ []) M Q)) :=
  (sm_blk X 178 116 (tt_lin 178 (by decide)) rfl rfl _ _ _ _).trans rfl
set_option maxRecDepth 100000 in
theorem bk_178_132 (X : (Nat → Int32) × Nat) (mo : Bool) (G : Nat × Nat) (I : Nat → Nat → Int32) (J : Nat → Nat → Int64) (Q : Option Value → sm_M → Prop) (x1 : Int32) (x2 : Int32) (x3 : Int32) (x4 : Int32) (x5 : Int32) (x6 : Int32) (x7 : Int32) (s0 : Int32) :
    sm_wp X 178 132 [some (.ref 0), some (.int x1), some (.int x2), some (.int x3), some (.int x4), some (.int x5), some (.int x6), some (.int x7), none] [.int s0] (sM mo G I J) Q =
    (sm_wp X 68 0 [some (.ref 31), some (.int s0), some (.int x3), some (.int x4), some (.int x5), some (.int x6)] [] (sM mo G I J) (fun v M => sm_wp X 178 150 [some (.ref 0), some (.int x1), some (.int x2), some (.int x3), some (.int x4), some (.int x5), some (.int x6), some (.int x7), some (.int s0)] (v.toList ++ []) M Q)) :=
  (sm_blk X 178 132 (tt_lin 178 (by decide)) rfl rfl _ _ _ _).trans rfl
set_option maxRecDepth 100000 in
theorem bk_178_150 (X : (Nat → Int32) × Nat) (mo : Bool) (G : Nat × Nat) (I : Nat → Nat → Int32) (J : Nat → Nat → Int64) (Q : Option Value → sm_M → Prop) (x1 : Int32) (x2 : Int32) (x3 : Int32) (x4 : Int32) (x5 : Int32) (x6 : Int32) (x7 : Int32) (x8 : Int32) :
    sm_wp X 178 150 [some (.ref 0), some (.int x1), some (.int x2), some (.int x3), some (.int x4), some (.int x5), some (.int x6), some (.int x7), some (.int x8)] [] (sM mo G I J) Q =
    (True ∧ Q (some (.int x8)) (sM mo G I J)) :=
  (sm_blk X 178 150 (tt_lin 178 (by decide)) rfl rfl _ _ _ _).trans rfl
set_option maxRecDepth 100000 in
theorem bk_179_0 (X : (Nat → Int32) × Nat) (mo : Bool) (G : Nat × Nat) (I : Nat → Nat → Int32) (J : Nat → Nat → Int64) (Q : Option Value → sm_M → Prop) (x1 : Int32) (x2 : Int32) (x3 : Int32) :
    sm_wp X 179 0 [some (.ref 0), some (.int x1), some (.int x2), some (.int x3), none] [] (sM mo G I J) Q =
    (sm_wp X 94 0 [some (.ref 1), some (.int x1)] [] (sM mo G I J) (fun v M => sm_wp X 179 8 [some (.ref 0), some (.int x1), some (.int x2), some (.int x3), none] (v.toList ++ []) M Q)) :=
  (sm_blk X 179 0 (tt_lin 179 (by decide)) rfl rfl _ _ _ _).trans rfl
set_option maxRecDepth 100000 in
theorem bk_179_8 (X : (Nat → Int32) × Nat) (mo : Bool) (G : Nat × Nat) (I : Nat → Nat → Int32) (J : Nat → Nat → Int64) (Q : Option Value → sm_M → Prop) (x1 : Int32) (x2 : Int32) (x3 : Int32) (s0 : Int32) :
    sm_wp X 179 8 [some (.ref 0), some (.int x1), some (.int x2), some (.int x3), none] [.int s0] (sM mo G I J) Q =
    (if (s0 : Int32) = 0 then sm_wp X 179 39 [some (.ref 0), some (.int x1), some (.int x2), some (.int x3), none] [] (sM mo G I J) Q else (sm_wp X 94 0 [some (.ref 1), some (.int x2)] [] (sM mo G I J) (fun v M => sm_wp X 179 19 [some (.ref 0), some (.int x1), some (.int x2), some (.int x3), none] (v.toList ++ []) M Q))) :=
  (sm_blk X 179 8 (tt_lin 179 (by decide)) rfl rfl _ _ _ _).trans rfl
set_option maxRecDepth 100000 in
theorem bk_179_19 (X : (Nat → Int32) × Nat) (mo : Bool) (G : Nat × Nat) (I : Nat → Nat → Int32) (J : Nat → Nat → Int64) (Q : Option Value → sm_M → Prop) (x1 : Int32) (x2 : Int32) (x3 : Int32) (s0 : Int32) :
    sm_wp X 179 19 [some (.ref 0), some (.int x1), some (.int x2), some (.int x3), none] [.int s0] (sM mo G I J) Q =
    (if (s0 : Int32) = 0 then sm_wp X 179 39 [some (.ref 0), some (.int x1), some (.int x2), some (.int x3), none] [] (sM mo G I J) Q else (sm_wp X 180 0 [some (.int x3)] [] (sM mo G I J) (fun v M => sm_wp X 179 26 [some (.ref 0), some (.int x1), some (.int x2), some (.int x3), none] (v.toList ++ []) M Q))) :=
  (sm_blk X 179 19 (tt_lin 179 (by decide)) rfl rfl _ _ _ _).trans rfl
set_option maxRecDepth 100000 in
theorem bk_179_26 (X : (Nat → Int32) × Nat) (mo : Bool) (G : Nat × Nat) (I : Nat → Nat → Int32) (J : Nat → Nat → Int64) (Q : Option Value → sm_M → Prop) (x1 : Int32) (x2 : Int32) (x3 : Int32) (s0 : Int32) :
    sm_wp X 179 26 [some (.ref 0), some (.int x1), some (.int x2), some (.int x3), none] [.int s0] (sM mo G I J) Q =
    (if (s0 : Int32) = 0 then sm_wp X 179 39 [some (.ref 0), some (.int x1), some (.int x2), some (.int x3), none] [] (sM mo G I J) Q else (sm_wp X 64 0 [some (.ref 31)] [] (sM mo G I J) (fun v M => sm_wp X 179 36 [some (.ref 0), some (.int x1), some (.int x2), some (.int x3), none] (v.toList ++ []) M Q))) :=
  (sm_blk X 179 26 (tt_lin 179 (by decide)) rfl rfl _ _ _ _).trans rfl
set_option maxRecDepth 100000 in
theorem bk_179_36 (X : (Nat → Int32) × Nat) (mo : Bool) (G : Nat × Nat) (I : Nat → Nat → Int32) (J : Nat → Nat → Int64) (Q : Option Value → sm_M → Prop) (x1 : Int32) (x2 : Int32) (x3 : Int32) (s0 : Int32) :
    sm_wp X 179 36 [some (.ref 0), some (.int x1), some (.int x2), some (.int x3), none] [.int s0] (sM mo G I J) Q =
    (if (s0 : Int32) = 0 then sm_wp X 179 41 [some (.ref 0), some (.int x1), some (.int x2), some (.int x3), none] [] (sM mo G I J) Q else (True ∧ Q (some (.int (-1))) (sM mo G I J))) :=
  (sm_blk X 179 36 (tt_lin 179 (by decide)) rfl rfl _ _ _ _).trans rfl
set_option maxRecDepth 100000 in
theorem bk_179_39 (X : (Nat → Int32) × Nat) (mo : Bool) (G : Nat × Nat) (I : Nat → Nat → Int32) (J : Nat → Nat → Int64) (Q : Option Value → sm_M → Prop) (x1 : Int32) (x2 : Int32) (x3 : Int32) :
    sm_wp X 179 39 [some (.ref 0), some (.int x1), some (.int x2), some (.int x3), none] [] (sM mo G I J) Q =
    (True ∧ Q (some (.int (-1))) (sM mo G I J)) :=
  (sm_blk X 179 39 (tt_lin 179 (by decide)) rfl rfl _ _ _ _).trans rfl
set_option maxRecDepth 100000 in
theorem bk_179_41 (X : (Nat → Int32) × Nat) (mo : Bool) (G : Nat × Nat) (I : Nat → Nat → Int32) (J : Nat → Nat → Int64) (Q : Option Value → sm_M → Prop) (x1 : Int32) (x2 : Int32) (x3 : Int32) :
    sm_wp X 179 41 [some (.ref 0), some (.int x1), some (.int x2), some (.int x3), none] [] (sM mo G I J) Q =
    (sm_wp X 67 0 [some (.ref 31), some (.int x1), some (.int x2), some (.int (I 1 3))] [] (sM mo G I J) (fun v M => sm_wp X 179 57 [some (.ref 0), some (.int x1), some (.int x2), some (.int x3), none] (v.toList ++ []) M Q)) :=
  (sm_blk X 179 41 (tt_lin 179 (by decide)) rfl rfl _ _ _ _).trans rfl
set_option maxRecDepth 100000 in
theorem bk_179_57 (X : (Nat → Int32) × Nat) (mo : Bool) (G : Nat × Nat) (I : Nat → Nat → Int32) (J : Nat → Nat → Int64) (Q : Option Value → sm_M → Prop) (x1 : Int32) (x2 : Int32) (x3 : Int32) (s0 : Int32) :
    sm_wp X 179 57 [some (.ref 0), some (.int x1), some (.int x2), some (.int x3), none] [.int s0] (sM mo G I J) Q =
    (if ¬ (x1 : Int32) = (x2 : Int32) then sm_wp X 179 89 [some (.ref 0), some (.int x1), some (.int x2), some (.int x3), some (.int s0)] [.int x3, .int s0, .ref 31] (sM mo G I J) Q else (sm_wp X 151 0 [some (.ref 26), some (.int x1), some (.int (I 1 3)), none, none] [] (sM mo G I J) (fun v M => sm_wp X 179 86 [some (.ref 0), some (.int x1), some (.int x2), some (.int x3), some (.int s0)] (v.toList ++ [.int x3, .int s0, .ref 31]) M Q))) :=
  (sm_blk X 179 57 (tt_lin 179 (by decide)) rfl rfl _ _ _ _).trans rfl
set_option maxRecDepth 100000 in
theorem bk_179_86 (X : (Nat → Int32) × Nat) (mo : Bool) (G : Nat × Nat) (I : Nat → Nat → Int32) (J : Nat → Nat → Int64) (Q : Option Value → sm_M → Prop) (x1 : Int32) (x2 : Int32) (x3 : Int32) (x4 : Int32) (s1 : Int32) (s2 : Int32) (s3 : Int32) :
    sm_wp X 179 86 [some (.ref 0), some (.int x1), some (.int x2), some (.int x3), some (.int x4)] [.int s3, .int s2, .int s1, .ref 31] (sM mo G I J) Q =
    (sm_wp X 179 90 [some (.ref 0), some (.int x1), some (.int x2), some (.int x3), some (.int x4)] [.int s3, .int s2, .int s1, .ref 31] (sM mo G I J) Q) :=
  (sm_blk X 179 86 (tt_lin 179 (by decide)) rfl rfl _ _ _ _).trans rfl
set_option maxRecDepth 100000 in
theorem bk_179_89 (X : (Nat → Int32) × Nat) (mo : Bool) (G : Nat × Nat) (I : Nat → Nat → Int32) (J : Nat → Nat → Int64) (Q : Option Value → sm_M → Prop) (x1 : Int32) (x2 : Int32) (x3 : Int32) (x4 : Int32) (s1 : Int32) (s2 : Int32) :
    sm_wp X 179 89 [some (.ref 0), some (.int x1), some (.int x2), some (.int x3), some (.int x4)] [.int s2, .int s1, .ref 31] (sM mo G I J) Q =
    (sm_wp X 69 0 [some (.ref 31), some (.int s1), some (.int s2), some (.int 0)] [] (sM mo G I J) (fun v M => sm_wp X 179 93 [some (.ref 0), some (.int x1), some (.int x2), some (.int x3), some (.int x4)] (v.toList ++ []) M Q)) :=
  (sm_blk X 179 89 (tt_lin 179 (by decide)) rfl rfl _ _ _ _).trans rfl
set_option maxRecDepth 100000 in
theorem bk_179_90 (X : (Nat → Int32) × Nat) (mo : Bool) (G : Nat × Nat) (I : Nat → Nat → Int32) (J : Nat → Nat → Int64) (Q : Option Value → sm_M → Prop) (x1 : Int32) (x2 : Int32) (x3 : Int32) (x4 : Int32) (s1 : Int32) (s2 : Int32) (s3 : Int32) :
    sm_wp X 179 90 [some (.ref 0), some (.int x1), some (.int x2), some (.int x3), some (.int x4)] [.int s3, .int s2, .int s1, .ref 31] (sM mo G I J) Q =
    (sm_wp X 69 0 [some (.ref 31), some (.int s1), some (.int s2), some (.int s3)] [] (sM mo G I J) (fun v M => sm_wp X 179 93 [some (.ref 0), some (.int x1), some (.int x2), some (.int x3), some (.int x4)] (v.toList ++ []) M Q)) :=
  (sm_blk X 179 90 (tt_lin 179 (by decide)) rfl rfl _ _ _ _).trans rfl
set_option maxRecDepth 100000 in
theorem bk_179_93 (X : (Nat → Int32) × Nat) (mo : Bool) (G : Nat × Nat) (I : Nat → Nat → Int32) (J : Nat → Nat → Int64) (Q : Option Value → sm_M → Prop) (x1 : Int32) (x2 : Int32) (x3 : Int32) (x4 : Int32) :
    sm_wp X 179 93 [some (.ref 0), some (.int x1), some (.int x2), some (.int x3), some (.int x4)] [] (sM mo G I J) Q =
    (True ∧ Q (some (.int x4)) (sM mo G I J)) :=
  (sm_blk X 179 93 (tt_lin 179 (by decide)) rfl rfl _ _ _ _).trans rfl
set_option maxRecDepth 100000 in
theorem bk_180_0 (X : (Nat → Int32) × Nat) (mo : Bool) (G : Nat × Nat) (I : Nat → Nat → Int32) (J : Nat → Nat → Int64) (Q : Option Value → sm_M → Prop) (x0 : Int32) :
    sm_wp X 180 0 [some (.int x0)] [] (sM mo G I J) Q =
    (if (x0 : Int32) < (1 : Int32) then sm_wp X 180 15 [some (.int x0)] [] (sM mo G I J) Q else (if (99 : Int32) < (x0 : Int32) then sm_wp X 180 15 [some (.int x0)] [] (sM mo G I J) Q else (sm_wp X 180 16 [some (.int x0)] [.int 1] (sM mo G I J) Q))) :=
  (sm_blk X 180 0 (tt_lin 180 (by decide)) rfl rfl _ _ _ _).trans rfl
set_option maxRecDepth 100000 in
theorem bk_180_15 (X : (Nat → Int32) × Nat) (mo : Bool) (G : Nat × Nat) (I : Nat → Nat → Int32) (J : Nat → Nat → Int64) (Q : Option Value → sm_M → Prop) (x0 : Int32) :
    sm_wp X 180 15 [some (.int x0)] [] (sM mo G I J) Q =
    (sm_zb 0 ∧ Q (some (.int 0)) (sM mo G I J)) :=
  (sm_blk X 180 15 (tt_lin 180 (by decide)) rfl rfl _ _ _ _).trans rfl
set_option maxRecDepth 100000 in
theorem bk_180_16 (X : (Nat → Int32) × Nat) (mo : Bool) (G : Nat × Nat) (I : Nat → Nat → Int32) (J : Nat → Nat → Int64) (Q : Option Value → sm_M → Prop) (x0 : Int32) (s0 : Int32) :
    sm_wp X 180 16 [some (.int x0)] [.int s0] (sM mo G I J) Q =
    (sm_zb s0 ∧ Q (some (.int s0)) (sM mo G I J)) :=
  (sm_blk X 180 16 (tt_lin 180 (by decide)) rfl rfl _ _ _ _).trans rfl
set_option maxRecDepth 100000 in
theorem bk_181_0 (X : (Nat → Int32) × Nat) (mo : Bool) (G : Nat × Nat) (I : Nat → Nat → Int32) (J : Nat → Nat → Int64) (Q : Option Value → sm_M → Prop) (x1 : Int32) (x2 : Int32) (x3 : Int32) (x4 : Int32) :
    sm_wp X 181 0 [some (.ref 0), some (.int x1), some (.int x2), some (.int x3), some (.int x4)] [] (sM mo G I J) Q =
    (sm_wp X 88 0 [some (.ref 1), some (.int x1)] [] (sM mo G I J) (fun v M => sm_wp X 181 8 [some (.ref 0), some (.int x1), some (.int x2), some (.int x3), some (.int x4)] (v.toList ++ []) M Q)) :=
  (sm_blk X 181 0 (tt_lin 181 (by decide)) rfl rfl _ _ _ _).trans rfl
set_option maxRecDepth 100000 in
theorem bk_181_8 (X : (Nat → Int32) × Nat) (mo : Bool) (G : Nat × Nat) (I : Nat → Nat → Int32) (J : Nat → Nat → Int64) (Q : Option Value → sm_M → Prop) (x1 : Int32) (x2 : Int32) (x3 : Int32) (x4 : Int32) (s0 : Int32) :
    sm_wp X 181 8 [some (.ref 0), some (.int x1), some (.int x2), some (.int x3), some (.int x4)] [.int s0] (sM mo G I J) Q =
    (if (s0 : Int32) = 0 then sm_wp X 181 27 [some (.ref 0), some (.int x1), some (.int x2), some (.int x3), some (.int x4)] [] (sM mo G I J) Q else (sm_wp X 88 0 [some (.ref 1), some (.int x2)] [] (sM mo G I J) (fun v M => sm_wp X 181 19 [some (.ref 0), some (.int x1), some (.int x2), some (.int x3), some (.int x4)] (v.toList ++ []) M Q))) :=
  (sm_blk X 181 8 (tt_lin 181 (by decide)) rfl rfl _ _ _ _).trans rfl
set_option maxRecDepth 100000 in
theorem bk_181_19 (X : (Nat → Int32) × Nat) (mo : Bool) (G : Nat × Nat) (I : Nat → Nat → Int32) (J : Nat → Nat → Int64) (Q : Option Value → sm_M → Prop) (x1 : Int32) (x2 : Int32) (x3 : Int32) (x4 : Int32) (s0 : Int32) :
    sm_wp X 181 19 [some (.ref 0), some (.int x1), some (.int x2), some (.int x3), some (.int x4)] [.int s0] (sM mo G I J) Q =
    (if (s0 : Int32) = 0 then sm_wp X 181 27 [some (.ref 0), some (.int x1), some (.int x2), some (.int x3), some (.int x4)] [] (sM mo G I J) Q else (if ¬ (x1 : Int32) = (x2 : Int32) then sm_wp X 181 29 [some (.ref 0), some (.int x1), some (.int x2), some (.int x3), some (.int x4)] [] (sM mo G I J) Q else (sm_zb 0 ∧ Q (some (.int 0)) (sM mo G I J)))) :=
  (sm_blk X 181 19 (tt_lin 181 (by decide)) rfl rfl _ _ _ _).trans rfl
set_option maxRecDepth 100000 in
theorem bk_181_27 (X : (Nat → Int32) × Nat) (mo : Bool) (G : Nat × Nat) (I : Nat → Nat → Int32) (J : Nat → Nat → Int64) (Q : Option Value → sm_M → Prop) (x1 : Int32) (x2 : Int32) (x3 : Int32) (x4 : Int32) :
    sm_wp X 181 27 [some (.ref 0), some (.int x1), some (.int x2), some (.int x3), some (.int x4)] [] (sM mo G I J) Q =
    (sm_zb 0 ∧ Q (some (.int 0)) (sM mo G I J)) :=
  (sm_blk X 181 27 (tt_lin 181 (by decide)) rfl rfl _ _ _ _).trans rfl
set_option maxRecDepth 100000 in
theorem bk_181_29 (X : (Nat → Int32) × Nat) (mo : Bool) (G : Nat × Nat) (I : Nat → Nat → Int32) (J : Nat → Nat → Int64) (Q : Option Value → sm_M → Prop) (x1 : Int32) (x2 : Int32) (x3 : Int32) (x4 : Int32) :
    sm_wp X 181 29 [some (.ref 0), some (.int x1), some (.int x2), some (.int x3), some (.int x4)] [] (sM mo G I J) Q =
    (if (x3 : Int32) < (I 1 3 : Int32) then sm_wp X 181 54 [some (.ref 0), some (.int x1), some (.int x2), some (.int x3), some (.int x4)] [] (sM mo G I J) Q else (if (x4 : Int32) < (x3 : Int32) then sm_wp X 181 54 [some (.ref 0), some (.int x1), some (.int x2), some (.int x3), some (.int x4)] [] (sM mo G I J) Q else (if (x4 : Int32) ≤ (300 : Int32) then sm_wp X 181 56 [some (.ref 0), some (.int x1), some (.int x2), some (.int x3), some (.int x4)] [] (sM mo G I J) Q else (sm_zb 0 ∧ Q (some (.int 0)) (sM mo G I J))))) :=
  (sm_blk X 181 29 (tt_lin 181 (by decide)) rfl rfl _ _ _ _).trans rfl
set_option maxRecDepth 100000 in
theorem bk_181_54 (X : (Nat → Int32) × Nat) (mo : Bool) (G : Nat × Nat) (I : Nat → Nat → Int32) (J : Nat → Nat → Int64) (Q : Option Value → sm_M → Prop) (x1 : Int32) (x2 : Int32) (x3 : Int32) (x4 : Int32) :
    sm_wp X 181 54 [some (.ref 0), some (.int x1), some (.int x2), some (.int x3), some (.int x4)] [] (sM mo G I J) Q =
    (sm_zb 0 ∧ Q (some (.int 0)) (sM mo G I J)) :=
  (sm_blk X 181 54 (tt_lin 181 (by decide)) rfl rfl _ _ _ _).trans rfl
set_option maxRecDepth 100000 in
theorem bk_181_56 (X : (Nat → Int32) × Nat) (mo : Bool) (G : Nat × Nat) (I : Nat → Nat → Int32) (J : Nat → Nat → Int64) (Q : Option Value → sm_M → Prop) (x1 : Int32) (x2 : Int32) (x3 : Int32) (x4 : Int32) :
    sm_wp X 181 56 [some (.ref 0), some (.int x1), some (.int x2), some (.int x3), some (.int x4)] [] (sM mo G I J) Q =
    (sm_wp X 152 0 [some (.ref 26), some (.int x1), some (.int x2), some (.int x3), some (.int x4)] [] (sM mo G I J) (fun v M => sm_wp X 181 68 [some (.ref 0), some (.int x1), some (.int x2), some (.int x3), some (.int x4)] (v.toList ++ []) M Q)) :=
  (sm_blk X 181 56 (tt_lin 181 (by decide)) rfl rfl _ _ _ _).trans rfl
set_option maxRecDepth 100000 in
theorem bk_181_68 (X : (Nat → Int32) × Nat) (mo : Bool) (G : Nat × Nat) (I : Nat → Nat → Int32) (J : Nat → Nat → Int64) (Q : Option Value → sm_M → Prop) (x1 : Int32) (x2 : Int32) (x3 : Int32) (x4 : Int32) (s0 : Int32) :
    sm_wp X 181 68 [some (.ref 0), some (.int x1), some (.int x2), some (.int x3), some (.int x4)] [.int s0] (sM mo G I J) Q =
    (sm_zb s0 ∧ Q (some (.int s0)) (sM mo G I J)) :=
  (sm_blk X 181 68 (tt_lin 181 (by decide)) rfl rfl _ _ _ _).trans rfl
set_option maxRecDepth 100000 in
theorem bk_182_0 (X : (Nat → Int32) × Nat) (mo : Bool) (G : Nat × Nat) (I : Nat → Nat → Int32) (J : Nat → Nat → Int64) (Q : Option Value → sm_M → Prop) (x1 : Int32) :
    sm_wp X 182 0 [some (.ref 0), some (.int x1), none] [] (sM mo G I J) Q =
    (if (x1 : Int32) < (1 : Int32) then sm_wp X 182 26 [some (.ref 0), some (.int x1), none] [] (sM mo G I J) Q else (if (50 : Int32) < (x1 : Int32) then sm_wp X 182 26 [some (.ref 0), some (.int x1), none] [] (sM mo G I J) Q else (if ((I 1 3) + x1 : Int32) ≤ (300 : Int32) then sm_wp X 182 28 [some (.ref 0), some (.int x1), none] [] (sM mo G I J) Q else (True ∧ Q (some (.int (-1))) (sM mo G I J))))) :=
  (sm_blk X 182 0 (tt_lin 182 (by decide)) rfl rfl _ _ _ _).trans rfl
set_option maxRecDepth 100000 in
theorem bk_182_26 (X : (Nat → Int32) × Nat) (mo : Bool) (G : Nat × Nat) (I : Nat → Nat → Int32) (J : Nat → Nat → Int64) (Q : Option Value → sm_M → Prop) (x1 : Int32) :
    sm_wp X 182 26 [some (.ref 0), some (.int x1), none] [] (sM mo G I J) Q =
    (True ∧ Q (some (.int (-1))) (sM mo G I J)) :=
  (sm_blk X 182 26 (tt_lin 182 (by decide)) rfl rfl _ _ _ _).trans rfl
set_option maxRecDepth 100000 in
theorem bk_182_28 (X : (Nat → Int32) × Nat) (mo : Bool) (G : Nat × Nat) (I : Nat → Nat → Int32) (J : Nat → Nat → Int64) (Q : Option Value → sm_M → Prop) (x1 : Int32) :
    sm_wp X 182 28 [some (.ref 0), some (.int x1), none] [] (sM mo G I J) Q =
    (sm_wp X 182 30 [some (.ref 0), some (.int x1), some (.int 0)] [] (sM mo G I J) Q) :=
  (sm_blk X 182 28 (tt_lin 182 (by decide)) rfl rfl _ _ _ _).trans rfl
set_option maxRecDepth 100000 in
theorem bk_182_30 (X : (Nat → Int32) × Nat) (mo : Bool) (G : Nat × Nat) (I : Nat → Nat → Int32) (J : Nat → Nat → Int64) (Q : Option Value → sm_M → Prop) (x1 : Int32) (x2 : Int32) :
    sm_wp X 182 30 [some (.ref 0), some (.int x1), some (.int x2)] [] (sM mo G I J) Q =
    (if (x1 : Int32) ≤ (x2 : Int32) then sm_wp X 182 48 [some (.ref 0), some (.int x1), some (.int x2)] [] (sM mo G I J) Q else (sm_wp X 22 0 [some (.ref 45), none, none] [] (sM mo G I J) (fun v M => sm_wp X 182 42 [some (.ref 0), some (.int x1), some (.int x2)] (v.toList ++ []) M Q))) :=
  (sm_blk X 182 30 (tt_lin 182 (by decide)) rfl rfl _ _ _ _).trans rfl
set_option maxRecDepth 100000 in
theorem bk_182_42 (X : (Nat → Int32) × Nat) (mo : Bool) (G : Nat × Nat) (I : Nat → Nat → Int32) (J : Nat → Nat → Int64) (Q : Option Value → sm_M → Prop) (x1 : Int32) (x2 : Int32) :
    sm_wp X 182 42 [some (.ref 0), some (.int x1), some (.int x2)] [] (sM mo G I J) Q =
    (sm_wp X 182 30 [some (.ref 0), some (.int x1), some (.int (x2 + 1))] [] (sM mo G I J) Q) :=
  (sm_blk X 182 42 (tt_lin 182 (by decide)) rfl rfl _ _ _ _).trans rfl
set_option maxRecDepth 100000 in
theorem bk_182_48 (X : (Nat → Int32) × Nat) (mo : Bool) (G : Nat × Nat) (I : Nat → Nat → Int32) (J : Nat → Nat → Int64) (Q : Option Value → sm_M → Prop) (x1 : Int32) (x2 : Int32) :
    sm_wp X 182 48 [some (.ref 0), some (.int x1), some (.int x2)] [] (sM mo G I J) Q =
    (True ∧ Q (some (.int (I 1 3))) (sM mo G I J)) :=
  (sm_blk X 182 48 (tt_lin 182 (by decide)) rfl rfl _ _ _ _).trans rfl
set_option maxRecDepth 100000 in
theorem bk_183_0 (X : (Nat → Int32) × Nat) (mo : Bool) (G : Nat × Nat) (I : Nat → Nat → Int32) (J : Nat → Nat → Int64) (Q : Option Value → sm_M → Prop) (x1 : Int32) (x2 : Int32) :
    sm_wp X 183 0 [some (.ref 0), some (.int x1), some (.int x2)] [] (sM mo G I J) Q =
    (sm_wp X 83 0 [some (.ref 31), some (.int x1), some (.int x2)] [] (sM mo G I J) (fun v M => sm_wp X 183 9 [some (.ref 0), some (.int x1), some (.int x2)] (v.toList ++ []) M Q)) :=
  (sm_blk X 183 0 (tt_lin 183 (by decide)) rfl rfl _ _ _ _).trans rfl
set_option maxRecDepth 100000 in
theorem bk_183_9 (X : (Nat → Int32) × Nat) (mo : Bool) (G : Nat × Nat) (I : Nat → Nat → Int32) (J : Nat → Nat → Int64) (Q : Option Value → sm_M → Prop) (x1 : Int32) (x2 : Int32) (s0 : Int32) :
    sm_wp X 183 9 [some (.ref 0), some (.int x1), some (.int x2)] [.int s0] (sM mo G I J) Q =
    (True ∧ Q (some (.int s0)) (sM mo G I J)) :=
  (sm_blk X 183 9 (tt_lin 183 (by decide)) rfl rfl _ _ _ _).trans rfl
set_option maxRecDepth 100000 in
theorem bk_184_0 (X : (Nat → Int32) × Nat) (mo : Bool) (G : Nat × Nat) (I : Nat → Nat → Int32) (J : Nat → Nat → Int64) (Q : Option Value → sm_M → Prop) (x1 : Int32) :
    sm_wp X 184 0 [some (.ref 0), some (.int x1)] [] (sM mo G I J) Q =
    (sm_wp X 65 0 [some (.ref 31), some (.int x1)] [] (sM mo G I J) (fun v M => sm_wp X 184 8 [some (.ref 0), some (.int x1)] (v.toList ++ []) M Q)) :=
  (sm_blk X 184 0 (tt_lin 184 (by decide)) rfl rfl _ _ _ _).trans rfl
set_option maxRecDepth 100000 in
theorem bk_184_8 (X : (Nat → Int32) × Nat) (mo : Bool) (G : Nat × Nat) (I : Nat → Nat → Int32) (J : Nat → Nat → Int64) (Q : Option Value → sm_M → Prop) (x1 : Int32) (s0 : Int32) :
    sm_wp X 184 8 [some (.ref 0), some (.int x1)] [.int s0] (sM mo G I J) Q =
    (if (s0 : Int32) = 0 then sm_wp X 184 23 [some (.ref 0), some (.int x1)] [] (sM mo G I J) Q else (sm_wp X 24 0 [some (.ref 45), some (.int x1), some (.int 0), none, none, none, none, none] [] (sM mo G I J) (fun v M => sm_wp X 184 20 [some (.ref 0), some (.int x1)] (v.toList ++ []) M Q))) :=
  (sm_blk X 184 8 (tt_lin 184 (by decide)) rfl rfl _ _ _ _).trans rfl
set_option maxRecDepth 100000 in
theorem bk_184_20 (X : (Nat → Int32) × Nat) (mo : Bool) (G : Nat × Nat) (I : Nat → Nat → Int32) (J : Nat → Nat → Int64) (Q : Option Value → sm_M → Prop) (x1 : Int32) (s0 : Int32) :
    sm_wp X 184 20 [some (.ref 0), some (.int x1)] [.int s0] (sM mo G I J) Q =
    (sm_wp X 184 24 [some (.ref 0), some (.int x1)] [.int s0] (sM mo G I J) Q) :=
  (sm_blk X 184 20 (tt_lin 184 (by decide)) rfl rfl _ _ _ _).trans rfl
set_option maxRecDepth 100000 in
theorem bk_184_23 (X : (Nat → Int32) × Nat) (mo : Bool) (G : Nat × Nat) (I : Nat → Nat → Int32) (J : Nat → Nat → Int64) (Q : Option Value → sm_M → Prop) (x1 : Int32) :
    sm_wp X 184 23 [some (.ref 0), some (.int x1)] [] (sM mo G I J) Q =
    (True ∧ Q (some (.int (-1))) (sM mo G I J)) :=
  (sm_blk X 184 23 (tt_lin 184 (by decide)) rfl rfl _ _ _ _).trans rfl
set_option maxRecDepth 100000 in
theorem bk_184_24 (X : (Nat → Int32) × Nat) (mo : Bool) (G : Nat × Nat) (I : Nat → Nat → Int32) (J : Nat → Nat → Int64) (Q : Option Value → sm_M → Prop) (x1 : Int32) (s0 : Int32) :
    sm_wp X 184 24 [some (.ref 0), some (.int x1)] [.int s0] (sM mo G I J) Q =
    (True ∧ Q (some (.int s0)) (sM mo G I J)) :=
  (sm_blk X 184 24 (tt_lin 184 (by decide)) rfl rfl _ _ _ _).trans rfl
set_option maxRecDepth 100000 in
theorem bk_185_0 (X : (Nat → Int32) × Nat) (mo : Bool) (G : Nat × Nat) (I : Nat → Nat → Int32) (J : Nat → Nat → Int64) (Q : Option Value → sm_M → Prop) (x1 : Int32) (x2 : Int32) :
    sm_wp X 185 0 [some (.ref 0), some (.int x1), some (.int x2)] [] (sM mo G I J) Q =
    (sm_wp X 65 0 [some (.ref 31), some (.int x1)] [] (sM mo G I J) (fun v M => sm_wp X 185 8 [some (.ref 0), some (.int x1), some (.int x2)] (v.toList ++ []) M Q)) :=
  (sm_blk X 185 0 (tt_lin 185 (by decide)) rfl rfl _ _ _ _).trans rfl
set_option maxRecDepth 100000 in
theorem bk_185_8 (X : (Nat → Int32) × Nat) (mo : Bool) (G : Nat × Nat) (I : Nat → Nat → Int32) (J : Nat → Nat → Int64) (Q : Option Value → sm_M → Prop) (x1 : Int32) (x2 : Int32) (s0 : Int32) :
    sm_wp X 185 8 [some (.ref 0), some (.int x1), some (.int x2)] [.int s0] (sM mo G I J) Q =
    (if (s0 : Int32) = 0 then sm_wp X 185 30 [some (.ref 0), some (.int x1), some (.int x2)] [] (sM mo G I J) Q else (sm_wp X 73 0 [some (.ref 31), some (.int x1)] [] (sM mo G I J) (fun v M => sm_wp X 185 23 [some (.ref 0), some (.int x1), some (.int x2)] (v.toList ++ [.ref 21]) M Q))) :=
  (sm_blk X 185 8 (tt_lin 185 (by decide)) rfl rfl _ _ _ _).trans rfl
set_option maxRecDepth 100000 in
theorem bk_185_23 (X : (Nat → Int32) × Nat) (mo : Bool) (G : Nat × Nat) (I : Nat → Nat → Int32) (J : Nat → Nat → Int64) (Q : Option Value → sm_M → Prop) (x1 : Int32) (x2 : Int32) (s1 : Int32) :
    sm_wp X 185 23 [some (.ref 0), some (.int x1), some (.int x2)] [.int s1, .ref 21] (sM mo G I J) Q =
    (sm_wp X 43 0 [some (.ref 21), some (.int s1), some (.int x2)] [] (sM mo G I J) (fun v M => sm_wp X 185 27 [some (.ref 0), some (.int x1), some (.int x2)] (v.toList ++ []) M Q)) :=
  (sm_blk X 185 23 (tt_lin 185 (by decide)) rfl rfl _ _ _ _).trans rfl
set_option maxRecDepth 100000 in
theorem bk_185_27 (X : (Nat → Int32) × Nat) (mo : Bool) (G : Nat × Nat) (I : Nat → Nat → Int32) (J : Nat → Nat → Int64) (Q : Option Value → sm_M → Prop) (x1 : Int32) (x2 : Int32) (s0 : Int32) :
    sm_wp X 185 27 [some (.ref 0), some (.int x1), some (.int x2)] [.int s0] (sM mo G I J) Q =
    (if ¬ (s0 : Int32) = 0 then sm_wp X 185 34 [some (.ref 0), some (.int x1), some (.int x2)] [] (sM mo G I J) Q else (True ∧ Q (some (.long (-9223372036854775808))) (sM mo G I J))) :=
  (sm_blk X 185 27 (tt_lin 185 (by decide)) rfl rfl _ _ _ _).trans rfl
set_option maxRecDepth 100000 in
theorem bk_185_30 (X : (Nat → Int32) × Nat) (mo : Bool) (G : Nat × Nat) (I : Nat → Nat → Int32) (J : Nat → Nat → Int64) (Q : Option Value → sm_M → Prop) (x1 : Int32) (x2 : Int32) :
    sm_wp X 185 30 [some (.ref 0), some (.int x1), some (.int x2)] [] (sM mo G I J) Q =
    (True ∧ Q (some (.long (-9223372036854775808))) (sM mo G I J)) :=
  (sm_blk X 185 30 (tt_lin 185 (by decide)) rfl rfl _ _ _ _).trans rfl
set_option maxRecDepth 100000 in
theorem bk_185_34 (X : (Nat → Int32) × Nat) (mo : Bool) (G : Nat × Nat) (I : Nat → Nat → Int32) (J : Nat → Nat → Int64) (Q : Option Value → sm_M → Prop) (x1 : Int32) (x2 : Int32) :
    sm_wp X 185 34 [some (.ref 0), some (.int x1), some (.int x2)] [] (sM mo G I J) Q =
    (sm_wp X 25 0 [some (.ref 45), some (.int x1), none, none, none, none, none, none] [] (sM mo G I J) (fun v M => sm_wp X 185 42 [some (.ref 0), some (.int x1), some (.int x2)] (v.toList ++ []) M Q)) :=
  (sm_blk X 185 34 (tt_lin 185 (by decide)) rfl rfl _ _ _ _).trans rfl
set_option maxRecDepth 100000 in
theorem bk_185_42 (X : (Nat → Int32) × Nat) (mo : Bool) (G : Nat × Nat) (I : Nat → Nat → Int32) (J : Nat → Nat → Int64) (Q : Option Value → sm_M → Prop) (x1 : Int32) (x2 : Int32) :
    sm_wp X 185 42 [some (.ref 0), some (.int x1), some (.int x2)] [] (sM mo G I J) Q =
    (sm_wp X 73 0 [some (.ref 31), some (.int x1)] [] (sM mo G I J) (fun v M => sm_wp X 185 54 [some (.ref 0), some (.int x1), some (.int x2)] (v.toList ++ [.ref 45]) M Q)) :=
  (sm_blk X 185 42 (tt_lin 185 (by decide)) rfl rfl _ _ _ _).trans rfl
set_option maxRecDepth 100000 in
theorem bk_185_54 (X : (Nat → Int32) × Nat) (mo : Bool) (G : Nat × Nat) (I : Nat → Nat → Int32) (J : Nat → Nat → Int64) (Q : Option Value → sm_M → Prop) (x1 : Int32) (x2 : Int32) (s1 : Int32) :
    sm_wp X 185 54 [some (.ref 0), some (.int x1), some (.int x2)] [.int s1, .ref 45] (sM mo G I J) Q =
    (sm_wp X 26 0 [some (.ref 45), some (.int s1), some (.int x2), none, none, none, none] [] (sM mo G I J) (fun v M => sm_wp X 185 58 [some (.ref 0), some (.int x1), some (.int x2)] (v.toList ++ []) M Q)) :=
  (sm_blk X 185 54 (tt_lin 185 (by decide)) rfl rfl _ _ _ _).trans rfl
set_option maxRecDepth 100000 in
theorem bk_185_58 (X : (Nat → Int32) × Nat) (mo : Bool) (G : Nat × Nat) (I : Nat → Nat → Int32) (J : Nat → Nat → Int64) (Q : Option Value → sm_M → Prop) (x1 : Int32) (x2 : Int32) (s0 : Int64) :
    sm_wp X 185 58 [some (.ref 0), some (.int x1), some (.int x2)] [.long s0] (sM mo G I J) Q =
    (True ∧ Q (some (.long s0)) (sM mo G I J)) :=
  (sm_blk X 185 58 (tt_lin 185 (by decide)) rfl rfl _ _ _ _).trans rfl
set_option maxRecDepth 100000 in
theorem bk_186_0 (X : (Nat → Int32) × Nat) (mo : Bool) (G : Nat × Nat) (I : Nat → Nat → Int32) (J : Nat → Nat → Int64) (Q : Option Value → sm_M → Prop) (x1 : Int32) (x2 : Int32) :
    sm_wp X 186 0 [some (.ref 0), some (.int x1), some (.int x2), none] [] (sM mo G I J) Q =
    (sm_wp X 66 0 [some (.ref 31), some (.int x1)] [] (sM mo G I J) (fun v M => sm_wp X 186 8 [some (.ref 0), some (.int x1), some (.int x2), none] (v.toList ++ []) M Q)) :=
  (sm_blk X 186 0 (tt_lin 186 (by decide)) rfl rfl _ _ _ _).trans rfl
set_option maxRecDepth 100000 in
theorem bk_186_8 (X : (Nat → Int32) × Nat) (mo : Bool) (G : Nat × Nat) (I : Nat → Nat → Int32) (J : Nat → Nat → Int64) (Q : Option Value → sm_M → Prop) (x1 : Int32) (x2 : Int32) (s0 : Int32) :
    sm_wp X 186 8 [some (.ref 0), some (.int x1), some (.int x2), none] [.int s0] (sM mo G I J) Q =
    (if (s0 : Int32) = 0 then sm_wp X 186 22 [some (.ref 0), some (.int x1), some (.int x2), none] [] (sM mo G I J) Q else (sm_wp X 88 0 [some (.ref 1), some (.int x2)] [] (sM mo G I J) (fun v M => sm_wp X 186 19 [some (.ref 0), some (.int x1), some (.int x2), none] (v.toList ++ []) M Q))) :=
  (sm_blk X 186 8 (tt_lin 186 (by decide)) rfl rfl _ _ _ _).trans rfl
set_option maxRecDepth 100000 in
theorem bk_186_19 (X : (Nat → Int32) × Nat) (mo : Bool) (G : Nat × Nat) (I : Nat → Nat → Int32) (J : Nat → Nat → Int64) (Q : Option Value → sm_M → Prop) (x1 : Int32) (x2 : Int32) (s0 : Int32) :
    sm_wp X 186 19 [some (.ref 0), some (.int x1), some (.int x2), none] [.int s0] (sM mo G I J) Q =
    (if ¬ (s0 : Int32) = 0 then sm_wp X 186 24 [some (.ref 0), some (.int x1), some (.int x2), none] [] (sM mo G I J) Q else (True ∧ Q (some (.int (-1))) (sM mo G I J))) :=
  (sm_blk X 186 19 (tt_lin 186 (by decide)) rfl rfl _ _ _ _).trans rfl
set_option maxRecDepth 100000 in
theorem bk_186_22 (X : (Nat → Int32) × Nat) (mo : Bool) (G : Nat × Nat) (I : Nat → Nat → Int32) (J : Nat → Nat → Int64) (Q : Option Value → sm_M → Prop) (x1 : Int32) (x2 : Int32) :
    sm_wp X 186 22 [some (.ref 0), some (.int x1), some (.int x2), none] [] (sM mo G I J) Q =
    (True ∧ Q (some (.int (-1))) (sM mo G I J)) :=
  (sm_blk X 186 22 (tt_lin 186 (by decide)) rfl rfl _ _ _ _).trans rfl
set_option maxRecDepth 100000 in
theorem bk_186_24 (X : (Nat → Int32) × Nat) (mo : Bool) (G : Nat × Nat) (I : Nat → Nat → Int32) (J : Nat → Nat → Int64) (Q : Option Value → sm_M → Prop) (x1 : Int32) (x2 : Int32) :
    sm_wp X 186 24 [some (.ref 0), some (.int x1), some (.int x2), none] [] (sM mo G I J) Q =
    (sm_wp X 84 0 [some (.ref 31), some (.int x1), some (.int x2)] [] (sM mo G I J) (fun v M => sm_wp X 186 33 [some (.ref 0), some (.int x1), some (.int x2), none] (v.toList ++ []) M Q)) :=
  (sm_blk X 186 24 (tt_lin 186 (by decide)) rfl rfl _ _ _ _).trans rfl
set_option maxRecDepth 100000 in
theorem bk_186_33 (X : (Nat → Int32) × Nat) (mo : Bool) (G : Nat × Nat) (I : Nat → Nat → Int32) (J : Nat → Nat → Int64) (Q : Option Value → sm_M → Prop) (x1 : Int32) (x2 : Int32) (s0 : Int32) :
    sm_wp X 186 33 [some (.ref 0), some (.int x1), some (.int x2), none] [.int s0] (sM mo G I J) Q =
    (if (I 1 3 : Int32) < (s0 : Int32) then sm_wp X 186 49 [some (.ref 0), some (.int x1), some (.int x2), some (.int s0)] [] (sM mo G I J) Q else (sm_wp X 186 50 [some (.ref 0), some (.int x1), some (.int x2), some (.int s0)] [.int s0] (sM mo G I J) Q)) :=
  (sm_blk X 186 33 (tt_lin 186 (by decide)) rfl rfl _ _ _ _).trans rfl
set_option maxRecDepth 100000 in
theorem bk_186_49 (X : (Nat → Int32) × Nat) (mo : Bool) (G : Nat × Nat) (I : Nat → Nat → Int32) (J : Nat → Nat → Int64) (Q : Option Value → sm_M → Prop) (x1 : Int32) (x2 : Int32) (x3 : Int32) :
    sm_wp X 186 49 [some (.ref 0), some (.int x1), some (.int x2), some (.int x3)] [] (sM mo G I J) Q =
    (True ∧ Q (some (.int (-1))) (sM mo G I J)) :=
  (sm_blk X 186 49 (tt_lin 186 (by decide)) rfl rfl _ _ _ _).trans rfl
set_option maxRecDepth 100000 in
theorem bk_186_50 (X : (Nat → Int32) × Nat) (mo : Bool) (G : Nat × Nat) (I : Nat → Nat → Int32) (J : Nat → Nat → Int64) (Q : Option Value → sm_M → Prop) (x1 : Int32) (x2 : Int32) (x3 : Int32) (s0 : Int32) :
    sm_wp X 186 50 [some (.ref 0), some (.int x1), some (.int x2), some (.int x3)] [.int s0] (sM mo G I J) Q =
    (True ∧ Q (some (.int s0)) (sM mo G I J)) :=
  (sm_blk X 186 50 (tt_lin 186 (by decide)) rfl rfl _ _ _ _).trans rfl
set_option maxRecDepth 100000 in
theorem bk_187_0 (X : (Nat → Int32) × Nat) (mo : Bool) (G : Nat × Nat) (I : Nat → Nat → Int32) (J : Nat → Nat → Int64) (Q : Option Value → sm_M → Prop) (x1 : Int32) (x2 : Int32) (x3 : Int32) :
    sm_wp X 187 0 [some (.ref 0), some (.int x1), some (.int x2), some (.int x3)] [] (sM mo G I J) Q =
    (sm_wp X 88 0 [some (.ref 1), some (.int x1)] [] (sM mo G I J) (fun v M => sm_wp X 187 8 [some (.ref 0), some (.int x1), some (.int x2), some (.int x3)] (v.toList ++ []) M Q)) :=
  (sm_blk X 187 0 (tt_lin 187 (by decide)) rfl rfl _ _ _ _).trans rfl
set_option maxRecDepth 100000 in
theorem bk_187_8 (X : (Nat → Int32) × Nat) (mo : Bool) (G : Nat × Nat) (I : Nat → Nat → Int32) (J : Nat → Nat → Int64) (Q : Option Value → sm_M → Prop) (x1 : Int32) (x2 : Int32) (x3 : Int32) (s0 : Int32) :
    sm_wp X 187 8 [some (.ref 0), some (.int x1), some (.int x2), some (.int x3)] [.int s0] (sM mo G I J) Q =
    (if (s0 : Int32) = 0 then sm_wp X 187 33 [some (.ref 0), some (.int x1), some (.int x2), some (.int x3)] [] (sM mo G I J) Q else (if (x2 : Int32) < 0 then sm_wp X 187 33 [some (.ref 0), some (.int x1), some (.int x2), some (.int x3)] [] (sM mo G I J) Q else (if (I 1 3 : Int32) < (x2 : Int32) then sm_wp X 187 33 [some (.ref 0), some (.int x1), some (.int x2), some (.int x3)] [] (sM mo G I J) Q else (sm_wp X 180 0 [some (.int x3)] [] (sM mo G I J) (fun v M => sm_wp X 187 30 [some (.ref 0), some (.int x1), some (.int x2), some (.int x3)] (v.toList ++ []) M Q))))) :=
  (sm_blk X 187 8 (tt_lin 187 (by decide)) rfl rfl _ _ _ _).trans rfl
set_option maxRecDepth 100000 in
theorem bk_187_30 (X : (Nat → Int32) × Nat) (mo : Bool) (G : Nat × Nat) (I : Nat → Nat → Int32) (J : Nat → Nat → Int64) (Q : Option Value → sm_M → Prop) (x1 : Int32) (x2 : Int32) (x3 : Int32) (s0 : Int32) :
    sm_wp X 187 30 [some (.ref 0), some (.int x1), some (.int x2), some (.int x3)] [.int s0] (sM mo G I J) Q =
    (if ¬ (s0 : Int32) = 0 then sm_wp X 187 35 [some (.ref 0), some (.int x1), some (.int x2), some (.int x3)] [] (sM mo G I J) Q else (True ∧ Q (some (.int (-1))) (sM mo G I J))) :=
  (sm_blk X 187 30 (tt_lin 187 (by decide)) rfl rfl _ _ _ _).trans rfl
set_option maxRecDepth 100000 in
theorem bk_187_33 (X : (Nat → Int32) × Nat) (mo : Bool) (G : Nat × Nat) (I : Nat → Nat → Int32) (J : Nat → Nat → Int64) (Q : Option Value → sm_M → Prop) (x1 : Int32) (x2 : Int32) (x3 : Int32) :
    sm_wp X 187 33 [some (.ref 0), some (.int x1), some (.int x2), some (.int x3)] [] (sM mo G I J) Q =
    (True ∧ Q (some (.int (-1))) (sM mo G I J)) :=
  (sm_blk X 187 33 (tt_lin 187 (by decide)) rfl rfl _ _ _ _).trans rfl
set_option maxRecDepth 100000 in
theorem bk_187_35 (X : (Nat → Int32) × Nat) (mo : Bool) (G : Nat × Nat) (I : Nat → Nat → Int32) (J : Nat → Nat → Int64) (Q : Option Value → sm_M → Prop) (x1 : Int32) (x2 : Int32) (x3 : Int32) :
    sm_wp X 187 35 [some (.ref 0), some (.int x1), some (.int x2), some (.int x3)] [] (sM mo G I J) Q =
    (sm_wp X 85 0 [some (.ref 31), some (.int x1), some (.int x2), some (.int x3), none, none, none] [] (sM mo G I J) (fun v M => sm_wp X 187 45 [some (.ref 0), some (.int x1), some (.int x2), some (.int x3)] (v.toList ++ []) M Q)) :=
  (sm_blk X 187 35 (tt_lin 187 (by decide)) rfl rfl _ _ _ _).trans rfl
set_option maxRecDepth 100000 in
theorem bk_187_45 (X : (Nat → Int32) × Nat) (mo : Bool) (G : Nat × Nat) (I : Nat → Nat → Int32) (J : Nat → Nat → Int64) (Q : Option Value → sm_M → Prop) (x1 : Int32) (x2 : Int32) (x3 : Int32) (s0 : Int32) :
    sm_wp X 187 45 [some (.ref 0), some (.int x1), some (.int x2), some (.int x3)] [.int s0] (sM mo G I J) Q =
    (True ∧ Q (some (.int s0)) (sM mo G I J)) :=
  (sm_blk X 187 45 (tt_lin 187 (by decide)) rfl rfl _ _ _ _).trans rfl
set_option maxRecDepth 100000 in
theorem bk_188_0 (X : (Nat → Int32) × Nat) (mo : Bool) (G : Nat × Nat) (I : Nat → Nat → Int32) (J : Nat → Nat → Int64) (Q : Option Value → sm_M → Prop) (x1 : Int32) :
    sm_wp X 188 0 [some (.ref 0), some (.int x1)] [] (sM mo G I J) Q =
    (sm_wp X 88 0 [some (.ref 1), some (.int x1)] [] (sM mo G I J) (fun v M => sm_wp X 188 8 [some (.ref 0), some (.int x1)] (v.toList ++ []) M Q)) :=
  (sm_blk X 188 0 (tt_lin 188 (by decide)) rfl rfl _ _ _ _).trans rfl
set_option maxRecDepth 100000 in
theorem bk_188_8 (X : (Nat → Int32) × Nat) (mo : Bool) (G : Nat × Nat) (I : Nat → Nat → Int32) (J : Nat → Nat → Int64) (Q : Option Value → sm_M → Prop) (x1 : Int32) (s0 : Int32) :
    sm_wp X 188 8 [some (.ref 0), some (.int x1)] [.int s0] (sM mo G I J) Q =
    (if (s0 : Int32) = 0 then sm_wp X 188 22 [some (.ref 0), some (.int x1)] [] (sM mo G I J) Q else (sm_wp X 111 0 [some (.ref 1), some (.int x1)] [] (sM mo G I J) (fun v M => sm_wp X 188 19 [some (.ref 0), some (.int x1)] (v.toList ++ []) M Q))) :=
  (sm_blk X 188 8 (tt_lin 188 (by decide)) rfl rfl _ _ _ _).trans rfl
set_option maxRecDepth 100000 in
theorem bk_188_19 (X : (Nat → Int32) × Nat) (mo : Bool) (G : Nat × Nat) (I : Nat → Nat → Int32) (J : Nat → Nat → Int64) (Q : Option Value → sm_M → Prop) (x1 : Int32) (s0 : Int32) :
    sm_wp X 188 19 [some (.ref 0), some (.int x1)] [.int s0] (sM mo G I J) Q =
    (sm_wp X 188 23 [some (.ref 0), some (.int x1)] [.int s0] (sM mo G I J) Q) :=
  (sm_blk X 188 19 (tt_lin 188 (by decide)) rfl rfl _ _ _ _).trans rfl
set_option maxRecDepth 100000 in
theorem bk_188_22 (X : (Nat → Int32) × Nat) (mo : Bool) (G : Nat × Nat) (I : Nat → Nat → Int32) (J : Nat → Nat → Int64) (Q : Option Value → sm_M → Prop) (x1 : Int32) :
    sm_wp X 188 22 [some (.ref 0), some (.int x1)] [] (sM mo G I J) Q =
    (True ∧ Q (some (.int (-1))) (sM mo G I J)) :=
  (sm_blk X 188 22 (tt_lin 188 (by decide)) rfl rfl _ _ _ _).trans rfl
set_option maxRecDepth 100000 in
theorem bk_188_23 (X : (Nat → Int32) × Nat) (mo : Bool) (G : Nat × Nat) (I : Nat → Nat → Int32) (J : Nat → Nat → Int64) (Q : Option Value → sm_M → Prop) (x1 : Int32) (s0 : Int32) :
    sm_wp X 188 23 [some (.ref 0), some (.int x1)] [.int s0] (sM mo G I J) Q =
    (True ∧ Q (some (.int s0)) (sM mo G I J)) :=
  (sm_blk X 188 23 (tt_lin 188 (by decide)) rfl rfl _ _ _ _).trans rfl
set_option maxRecDepth 100000 in
theorem bk_189_0 (X : (Nat → Int32) × Nat) (mo : Bool) (G : Nat × Nat) (I : Nat → Nat → Int32) (J : Nat → Nat → Int64) (Q : Option Value → sm_M → Prop) (x1 : Int32) :
    sm_wp X 189 0 [some (.ref 0), some (.int x1)] [] (sM mo G I J) Q =
    (if (x1 : Int32) < 0 then sm_wp X 189 9 [some (.ref 0), some (.int x1)] [] (sM mo G I J) Q else (if (x1 : Int32) ≤ (3 : Int32) then sm_wp X 189 11 [some (.ref 0), some (.int x1)] [] (sM mo G I J) Q else (True ∧ Q (some (.int (-1))) (sM mo G I J)))) :=
  (sm_blk X 189 0 (tt_lin 189 (by decide)) rfl rfl _ _ _ _).trans rfl
set_option maxRecDepth 100000 in
theorem bk_189_9 (X : (Nat → Int32) × Nat) (mo : Bool) (G : Nat × Nat) (I : Nat → Nat → Int32) (J : Nat → Nat → Int64) (Q : Option Value → sm_M → Prop) (x1 : Int32) :
    sm_wp X 189 9 [some (.ref 0), some (.int x1)] [] (sM mo G I J) Q =
    (True ∧ Q (some (.int (-1))) (sM mo G I J)) :=
  (sm_blk X 189 9 (tt_lin 189 (by decide)) rfl rfl _ _ _ _).trans rfl
set_option maxRecDepth 100000 in
theorem bk_189_11 (X : (Nat → Int32) × Nat) (mo : Bool) (G : Nat × Nat) (I : Nat → Nat → Int32) (J : Nat → Nat → Int64) (Q : Option Value → sm_M → Prop) (x1 : Int32) :
    sm_wp X 189 11 [some (.ref 0), some (.int x1)] [] (sM mo G I J) Q =
    (if ¬ (x1 : Int32) = 0 then sm_wp X 189 30 [some (.ref 0), some (.int x1)] [] (sM mo G I J) Q else (sm_wp X 112 0 [some (.ref 1), some (.int (I 1 2)), none, none] [] (sM mo G I J) (fun v M => sm_wp X 189 29 [some (.ref 0), some (.int x1)] (v.toList ++ []) M Q))) :=
  (sm_blk X 189 11 (tt_lin 189 (by decide)) rfl rfl _ _ _ _).trans rfl
set_option maxRecDepth 100000 in
theorem bk_189_29 (X : (Nat → Int32) × Nat) (mo : Bool) (G : Nat × Nat) (I : Nat → Nat → Int32) (J : Nat → Nat → Int64) (Q : Option Value → sm_M → Prop) (x1 : Int32) (s0 : Int32) :
    sm_wp X 189 29 [some (.ref 0), some (.int x1)] [.int s0] (sM mo G I J) Q =
    (True ∧ Q (some (.int s0)) (sM mo G I J)) :=
  (sm_blk X 189 29 (tt_lin 189 (by decide)) rfl rfl _ _ _ _).trans rfl
set_option maxRecDepth 100000 in
theorem bk_189_30 (X : (Nat → Int32) × Nat) (mo : Bool) (G : Nat × Nat) (I : Nat → Nat → Int32) (J : Nat → Nat → Int64) (Q : Option Value → sm_M → Prop) (x1 : Int32) :
    sm_wp X 189 30 [some (.ref 0), some (.int x1)] [] (sM mo G I J) Q =
    (sm_wp X 128 0 [some (.ref 52), some (.int (I 1 2)), none, none] [] (sM mo G I J) (fun v M => sm_wp X 189 44 [some (.ref 0), some (.int x1)] (v.toList ++ []) M Q)) :=
  (sm_blk X 189 30 (tt_lin 189 (by decide)) rfl rfl _ _ _ _).trans rfl
set_option maxRecDepth 100000 in
theorem bk_189_44 (X : (Nat → Int32) × Nat) (mo : Bool) (G : Nat × Nat) (I : Nat → Nat → Int32) (J : Nat → Nat → Int64) (Q : Option Value → sm_M → Prop) (x1 : Int32) :
    sm_wp X 189 44 [some (.ref 0), some (.int x1)] [] (sM mo G I J) Q =
    (sm_wp X 138 0 [some (.ref 52), some (.int x1)] [] (sM mo G I J) (fun v M => sm_wp X 189 52 [some (.ref 0), some (.int x1)] (v.toList ++ []) M Q)) :=
  (sm_blk X 189 44 (tt_lin 189 (by decide)) rfl rfl _ _ _ _).trans rfl
set_option maxRecDepth 100000 in
theorem bk_189_52 (X : (Nat → Int32) × Nat) (mo : Bool) (G : Nat × Nat) (I : Nat → Nat → Int32) (J : Nat → Nat → Int64) (Q : Option Value → sm_M → Prop) (x1 : Int32) (s0 : Int32) :
    sm_wp X 189 52 [some (.ref 0), some (.int x1)] [.int s0] (sM mo G I J) Q =
    (True ∧ Q (some (.int s0)) (sM mo G I J)) :=
  (sm_blk X 189 52 (tt_lin 189 (by decide)) rfl rfl _ _ _ _).trans rfl
set_option maxRecDepth 100000 in
theorem bk_190_0 (X : (Nat → Int32) × Nat) (mo : Bool) (G : Nat × Nat) (I : Nat → Nat → Int32) (J : Nat → Nat → Int64) (Q : Option Value → sm_M → Prop) (x1 : Int32) :
    sm_wp X 190 0 [some (.ref 0), some (.int x1)] [] (sM mo G I J) Q =
    (sm_wp X 128 0 [some (.ref 52), some (.int (I 1 2)), none, none] [] (sM mo G I J) (fun v M => sm_wp X 190 14 [some (.ref 0), some (.int x1)] (v.toList ++ []) M Q)) :=
  (sm_blk X 190 0 (tt_lin 190 (by decide)) rfl rfl _ _ _ _).trans rfl
set_option maxRecDepth 100000 in
theorem bk_190_14 (X : (Nat → Int32) × Nat) (mo : Bool) (G : Nat × Nat) (I : Nat → Nat → Int32) (J : Nat → Nat → Int64) (Q : Option Value → sm_M → Prop) (x1 : Int32) :
    sm_wp X 190 14 [some (.ref 0), some (.int x1)] [] (sM mo G I J) Q =
    (sm_wp X 139 0 [some (.ref 52), some (.int x1)] [] (sM mo G I J) (fun v M => sm_wp X 190 22 [some (.ref 0), some (.int x1)] (v.toList ++ []) M Q)) :=
  (sm_blk X 190 14 (tt_lin 190 (by decide)) rfl rfl _ _ _ _).trans rfl
set_option maxRecDepth 100000 in
theorem bk_190_22 (X : (Nat → Int32) × Nat) (mo : Bool) (G : Nat × Nat) (I : Nat → Nat → Int32) (J : Nat → Nat → Int64) (Q : Option Value → sm_M → Prop) (x1 : Int32) (s0 : Int32) :
    sm_wp X 190 22 [some (.ref 0), some (.int x1)] [.int s0] (sM mo G I J) Q =
    (True ∧ Q (some (.int s0)) (sM mo G I J)) :=
  (sm_blk X 190 22 (tt_lin 190 (by decide)) rfl rfl _ _ _ _).trans rfl
set_option maxRecDepth 100000 in
theorem bk_191_0 (X : (Nat → Int32) × Nat) (mo : Bool) (G : Nat × Nat) (I : Nat → Nat → Int32) (J : Nat → Nat → Int64) (Q : Option Value → sm_M → Prop) (x1 : Int32) (x2 : Int32) :
    sm_wp X 191 0 [some (.ref 0), some (.int x1), some (.int x2)] [] (sM mo G I J) Q =
    (sm_wp X 94 0 [some (.ref 1), some (.int x1)] [] (sM mo G I J) (fun v M => sm_wp X 191 8 [some (.ref 0), some (.int x1), some (.int x2)] (v.toList ++ []) M Q)) :=
  (sm_blk X 191 0 (tt_lin 191 (by decide)) rfl rfl _ _ _ _).trans rfl
set_option maxRecDepth 100000 in
theorem bk_191_8 (X : (Nat → Int32) × Nat) (mo : Bool) (G : Nat × Nat) (I : Nat → Nat → Int32) (J : Nat → Nat → Int64) (Q : Option Value → sm_M → Prop) (x1 : Int32) (x2 : Int32) (s0 : Int32) :
    sm_wp X 191 8 [some (.ref 0), some (.int x1), some (.int x2)] [.int s0] (sM mo G I J) Q =
    (if ¬ (s0 : Int32) = 0 then sm_wp X 191 13 [some (.ref 0), some (.int x1), some (.int x2)] [] (sM mo G I J) Q else (True ∧ Q (some (.int (-1))) (sM mo G I J))) :=
  (sm_blk X 191 8 (tt_lin 191 (by decide)) rfl rfl _ _ _ _).trans rfl
set_option maxRecDepth 100000 in
theorem bk_191_13 (X : (Nat → Int32) × Nat) (mo : Bool) (G : Nat × Nat) (I : Nat → Nat → Int32) (J : Nat → Nat → Int64) (Q : Option Value → sm_M → Prop) (x1 : Int32) (x2 : Int32) :
    sm_wp X 191 13 [some (.ref 0), some (.int x1), some (.int x2)] [] (sM mo G I J) Q =
    (sm_wp X 128 0 [some (.ref 60), some (.int ((I 1 2) &&& ((1 <<< (x1 &&& 31)) ^^^ (-1)))), none, none] [] (sM mo G I J) (fun v M => sm_wp X 191 33 [some (.ref 0), some (.int x1), some (.int x2)] (v.toList ++ []) M Q)) :=
  (sm_blk X 191 13 (tt_lin 191 (by decide)) rfl rfl _ _ _ _).trans rfl
set_option maxRecDepth 100000 in
theorem bk_191_33 (X : (Nat → Int32) × Nat) (mo : Bool) (G : Nat × Nat) (I : Nat → Nat → Int32) (J : Nat → Nat → Int64) (Q : Option Value → sm_M → Prop) (x1 : Int32) (x2 : Int32) :
    sm_wp X 191 33 [some (.ref 0), some (.int x1), some (.int x2)] [] (sM mo G I J) Q =
    (sm_wp X 139 0 [some (.ref 60), some (.int x2)] [] (sM mo G I J) (fun v M => sm_wp X 191 41 [some (.ref 0), some (.int x1), some (.int x2)] (v.toList ++ []) M Q)) :=
  (sm_blk X 191 33 (tt_lin 191 (by decide)) rfl rfl _ _ _ _).trans rfl
set_option maxRecDepth 100000 in
theorem bk_191_41 (X : (Nat → Int32) × Nat) (mo : Bool) (G : Nat × Nat) (I : Nat → Nat → Int32) (J : Nat → Nat → Int64) (Q : Option Value → sm_M → Prop) (x1 : Int32) (x2 : Int32) (s0 : Int32) :
    sm_wp X 191 41 [some (.ref 0), some (.int x1), some (.int x2)] [.int s0] (sM mo G I J) Q =
    (True ∧ Q (some (.int s0)) (sM mo G I J)) :=
  (sm_blk X 191 41 (tt_lin 191 (by decide)) rfl rfl _ _ _ _).trans rfl
set_option maxRecDepth 100000 in
theorem bk_192_0 (X : (Nat → Int32) × Nat) (mo : Bool) (G : Nat × Nat) (I : Nat → Nat → Int32) (J : Nat → Nat → Int64) (Q : Option Value → sm_M → Prop)  :
    sm_wp X 192 0 [some (.ref 0)] [] (sM mo G I J) Q =
    (sm_wp X 128 0 [some (.ref 52), some (.int (I 1 2)), none, none] [] (sM mo G I J) (fun v M => sm_wp X 192 14 [some (.ref 0)] (v.toList ++ []) M Q)) :=
  (sm_blk X 192 0 (tt_lin 192 (by decide)) rfl rfl _ _ _ _).trans rfl
set_option maxRecDepth 100000 in
theorem bk_192_14 (X : (Nat → Int32) × Nat) (mo : Bool) (G : Nat × Nat) (I : Nat → Nat → Int32) (J : Nat → Nat → Int64) (Q : Option Value → sm_M → Prop)  :
    sm_wp X 192 14 [some (.ref 0)] [] (sM mo G I J) Q =
    (sm_wp X 141 0 [some (.ref 52), none, none] [] (sM mo G I J) (fun v M => sm_wp X 192 21 [some (.ref 0)] (v.toList ++ []) M Q)) :=
  (sm_blk X 192 14 (tt_lin 192 (by decide)) rfl rfl _ _ _ _).trans rfl
set_option maxRecDepth 100000 in
theorem bk_192_21 (X : (Nat → Int32) × Nat) (mo : Bool) (G : Nat × Nat) (I : Nat → Nat → Int32) (J : Nat → Nat → Int64) (Q : Option Value → sm_M → Prop) (s0 : Int32) :
    sm_wp X 192 21 [some (.ref 0)] [.int s0] (sM mo G I J) Q =
    (True ∧ Q (some (.int s0)) (sM mo G I J)) :=
  (sm_blk X 192 21 (tt_lin 192 (by decide)) rfl rfl _ _ _ _).trans rfl
set_option maxRecDepth 100000 in
theorem bk_193_0 (X : (Nat → Int32) × Nat) (mo : Bool) (G : Nat × Nat) (I : Nat → Nat → Int32) (J : Nat → Nat → Int64) (Q : Option Value → sm_M → Prop) (x1 : Int32) :
    sm_wp X 193 0 [some (.ref 0), some (.int x1)] [] (sM mo G I J) Q =
    (sm_wp X 143 0 [some (.ref 52), some (.int (I 1 2)), some (.int x1), none, none] [] (sM mo G I J) (fun v M => sm_wp X 193 15 [some (.ref 0), some (.int x1)] (v.toList ++ []) M Q)) :=
  (sm_blk X 193 0 (tt_lin 193 (by decide)) rfl rfl _ _ _ _).trans rfl
set_option maxRecDepth 100000 in
theorem bk_193_15 (X : (Nat → Int32) × Nat) (mo : Bool) (G : Nat × Nat) (I : Nat → Nat → Int32) (J : Nat → Nat → Int64) (Q : Option Value → sm_M → Prop) (x1 : Int32) (s0 : Int32) :
    sm_wp X 193 15 [some (.ref 0), some (.int x1)] [.int s0] (sM mo G I J) Q =
    (True ∧ Q (some (.int s0)) (sM mo G I J)) :=
  (sm_blk X 193 15 (tt_lin 193 (by decide)) rfl rfl _ _ _ _).trans rfl
set_option maxRecDepth 100000 in
theorem bk_194_0 (X : (Nat → Int32) × Nat) (mo : Bool) (G : Nat × Nat) (I : Nat → Nat → Int32) (J : Nat → Nat → Int64) (Q : Option Value → sm_M → Prop) (x1 : Int32) :
    sm_wp X 194 0 [some (.ref 0), some (.int x1)] [] (sM mo G I J) Q =
    (sm_wp X 119 0 [some (.ref 68), none] [] (sM mo G I J) (fun v M => sm_wp X 194 7 [some (.ref 0), some (.int x1)] (v.toList ++ []) M Q)) :=
  (sm_blk X 194 0 (tt_lin 194 (by decide)) rfl rfl _ _ _ _).trans rfl
set_option maxRecDepth 100000 in
theorem bk_194_7 (X : (Nat → Int32) × Nat) (mo : Bool) (G : Nat × Nat) (I : Nat → Nat → Int32) (J : Nat → Nat → Int64) (Q : Option Value → sm_M → Prop) (x1 : Int32) :
    sm_wp X 194 7 [some (.ref 0), some (.int x1)] [] (sM mo G I J) Q =
    (sm_wp X 126 0 [some (.ref 68), some (.int x1), none] [] (sM mo G I J) (fun v M => sm_wp X 194 15 [some (.ref 0), some (.int x1)] (v.toList ++ []) M Q)) :=
  (sm_blk X 194 7 (tt_lin 194 (by decide)) rfl rfl _ _ _ _).trans rfl
set_option maxRecDepth 100000 in
theorem bk_194_15 (X : (Nat → Int32) × Nat) (mo : Bool) (G : Nat × Nat) (I : Nat → Nat → Int32) (J : Nat → Nat → Int64) (Q : Option Value → sm_M → Prop) (x1 : Int32) (s0 : Int32) :
    sm_wp X 194 15 [some (.ref 0), some (.int x1)] [.int s0] (sM mo G I J) Q =
    (True ∧ Q (some (.int s0)) (sM mo G I J)) :=
  (sm_blk X 194 15 (tt_lin 194 (by decide)) rfl rfl _ _ _ _).trans rfl
set_option maxRecDepth 100000 in
theorem bk_195_0 (X : (Nat → Int32) × Nat) (mo : Bool) (G : Nat × Nat) (I : Nat → Nat → Int32) (J : Nat → Nat → Int64) (Q : Option Value → sm_M → Prop)  :
    sm_wp X 195 0 [some (.ref 0)] [] (sM mo G I J) Q =
    (sm_wp X 1 0 [some (.ref 71)] [] (sM mo G I J) (fun v M => sm_wp X 195 7 [some (.ref 0)] (v.toList ++ []) M Q)) :=
  (sm_blk X 195 0 (tt_lin 195 (by decide)) rfl rfl _ _ _ _).trans rfl
set_option maxRecDepth 100000 in
theorem bk_195_7 (X : (Nat → Int32) × Nat) (mo : Bool) (G : Nat × Nat) (I : Nat → Nat → Int32) (J : Nat → Nat → Int64) (Q : Option Value → sm_M → Prop) (s0 : Int32) :
    sm_wp X 195 7 [some (.ref 0)] [.int s0] (sM mo G I J) Q =
    (True ∧ Q (some (.int s0)) (sM mo G I J)) :=
  (sm_blk X 195 7 (tt_lin 195 (by decide)) rfl rfl _ _ _ _).trans rfl
set_option maxRecDepth 100000 in
theorem bk_196_0 (X : (Nat → Int32) × Nat) (mo : Bool) (G : Nat × Nat) (I : Nat → Nat → Int32) (J : Nat → Nat → Int64) (Q : Option Value → sm_M → Prop) (x1 : Int32) (x2 : Int32) (x3 : Int32) :
    sm_wp X 196 0 [some (.ref 0), some (.int x1), some (.int x2), some (.int x3)] [] (sM mo G I J) Q =
    (sm_wp X 2 0 [some (.ref 71), some (.int x1)] [] (sM mo G I J) (fun v M => sm_wp X 196 8 [some (.ref 0), some (.int x1), some (.int x2), some (.int x3)] (v.toList ++ []) M Q)) :=
  (sm_blk X 196 0 (tt_lin 196 (by decide)) rfl rfl _ _ _ _).trans rfl
set_option maxRecDepth 100000 in
theorem bk_196_8 (X : (Nat → Int32) × Nat) (mo : Bool) (G : Nat × Nat) (I : Nat → Nat → Int32) (J : Nat → Nat → Int64) (Q : Option Value → sm_M → Prop) (x1 : Int32) (x2 : Int32) (x3 : Int32) (s0 : Int32) :
    sm_wp X 196 8 [some (.ref 0), some (.int x1), some (.int x2), some (.int x3)] [.int s0] (sM mo G I J) Q =
    (if (s0 : Int32) = 0 then sm_wp X 196 22 [some (.ref 0), some (.int x1), some (.int x2), some (.int x3)] [] (sM mo G I J) Q else (sm_wp X 94 0 [some (.ref 1), some (.int x2)] [] (sM mo G I J) (fun v M => sm_wp X 196 19 [some (.ref 0), some (.int x1), some (.int x2), some (.int x3)] (v.toList ++ []) M Q))) :=
  (sm_blk X 196 8 (tt_lin 196 (by decide)) rfl rfl _ _ _ _).trans rfl
set_option maxRecDepth 100000 in
theorem bk_196_19 (X : (Nat → Int32) × Nat) (mo : Bool) (G : Nat × Nat) (I : Nat → Nat → Int32) (J : Nat → Nat → Int64) (Q : Option Value → sm_M → Prop) (x1 : Int32) (x2 : Int32) (x3 : Int32) (s0 : Int32) :
    sm_wp X 196 19 [some (.ref 0), some (.int x1), some (.int x2), some (.int x3)] [.int s0] (sM mo G I J) Q =
    (if ¬ (s0 : Int32) = 0 then sm_wp X 196 24 [some (.ref 0), some (.int x1), some (.int x2), some (.int x3)] [] (sM mo G I J) Q else (True ∧ Q (some (.int (-1))) (sM mo G I J))) :=
  (sm_blk X 196 19 (tt_lin 196 (by decide)) rfl rfl _ _ _ _).trans rfl
set_option maxRecDepth 100000 in
theorem bk_196_22 (X : (Nat → Int32) × Nat) (mo : Bool) (G : Nat × Nat) (I : Nat → Nat → Int32) (J : Nat → Nat → Int64) (Q : Option Value → sm_M → Prop) (x1 : Int32) (x2 : Int32) (x3 : Int32) :
    sm_wp X 196 22 [some (.ref 0), some (.int x1), some (.int x2), some (.int x3)] [] (sM mo G I J) Q =
    (True ∧ Q (some (.int (-1))) (sM mo G I J)) :=
  (sm_blk X 196 22 (tt_lin 196 (by decide)) rfl rfl _ _ _ _).trans rfl
set_option maxRecDepth 100000 in
theorem bk_196_24 (X : (Nat → Int32) × Nat) (mo : Bool) (G : Nat × Nat) (I : Nat → Nat → Int32) (J : Nat → Nat → Int64) (Q : Option Value → sm_M → Prop) (x1 : Int32) (x2 : Int32) (x3 : Int32) :
    sm_wp X 196 24 [some (.ref 0), some (.int x1), some (.int x2), some (.int x3)] [] (sM mo G I J) Q =
    (if ¬ (x3 : Int32) = 0 then sm_wp X 196 38 [some (.ref 0), some (.int x1), some (.int x2), some (.int x3)] [] (sM mo G I J) Q else (sm_wp X 3 0 [some (.ref 71), some (.int x1), some (.int x2)] [] (sM mo G I J) (fun v M => sm_wp X 196 37 [some (.ref 0), some (.int x1), some (.int x2), some (.int x3)] (v.toList ++ []) M Q))) :=
  (sm_blk X 196 24 (tt_lin 196 (by decide)) rfl rfl _ _ _ _).trans rfl
set_option maxRecDepth 100000 in
theorem bk_196_37 (X : (Nat → Int32) × Nat) (mo : Bool) (G : Nat × Nat) (I : Nat → Nat → Int32) (J : Nat → Nat → Int64) (Q : Option Value → sm_M → Prop) (x1 : Int32) (x2 : Int32) (x3 : Int32) (s0 : Int32) :
    sm_wp X 196 37 [some (.ref 0), some (.int x1), some (.int x2), some (.int x3)] [.int s0] (sM mo G I J) Q =
    (True ∧ Q (some (.int s0)) (sM mo G I J)) :=
  (sm_blk X 196 37 (tt_lin 196 (by decide)) rfl rfl _ _ _ _).trans rfl
set_option maxRecDepth 100000 in
theorem bk_196_38 (X : (Nat → Int32) × Nat) (mo : Bool) (G : Nat × Nat) (I : Nat → Nat → Int32) (J : Nat → Nat → Int64) (Q : Option Value → sm_M → Prop) (x1 : Int32) (x2 : Int32) (x3 : Int32) :
    sm_wp X 196 38 [some (.ref 0), some (.int x1), some (.int x2), some (.int x3)] [] (sM mo G I J) Q =
    (sm_wp X 180 0 [some (.int x3)] [] (sM mo G I J) (fun v M => sm_wp X 196 42 [some (.ref 0), some (.int x1), some (.int x2), some (.int x3)] (v.toList ++ []) M Q)) :=
  (sm_blk X 196 38 (tt_lin 196 (by decide)) rfl rfl _ _ _ _).trans rfl
set_option maxRecDepth 100000 in
theorem bk_196_42 (X : (Nat → Int32) × Nat) (mo : Bool) (G : Nat × Nat) (I : Nat → Nat → Int32) (J : Nat → Nat → Int64) (Q : Option Value → sm_M → Prop) (x1 : Int32) (x2 : Int32) (x3 : Int32) (s0 : Int32) :
    sm_wp X 196 42 [some (.ref 0), some (.int x1), some (.int x2), some (.int x3)] [.int s0] (sM mo G I J) Q =
    (if (s0 : Int32) = 0 then sm_wp X 196 58 [some (.ref 0), some (.int x1), some (.int x2), some (.int x3)] [] (sM mo G I J) Q else (sm_wp X 4 0 [some (.ref 71), some (.int x1), some (.int x2), some (.int x3), none, none] [] (sM mo G I J) (fun v M => sm_wp X 196 55 [some (.ref 0), some (.int x1), some (.int x2), some (.int x3)] (v.toList ++ []) M Q))) :=
  (sm_blk X 196 42 (tt_lin 196 (by decide)) rfl rfl _ _ _ _).trans rfl
set_option maxRecDepth 100000 in
theorem bk_196_55 (X : (Nat → Int32) × Nat) (mo : Bool) (G : Nat × Nat) (I : Nat → Nat → Int32) (J : Nat → Nat → Int64) (Q : Option Value → sm_M → Prop) (x1 : Int32) (x2 : Int32) (x3 : Int32) (s0 : Int32) :
    sm_wp X 196 55 [some (.ref 0), some (.int x1), some (.int x2), some (.int x3)] [.int s0] (sM mo G I J) Q =
    (sm_wp X 196 59 [some (.ref 0), some (.int x1), some (.int x2), some (.int x3)] [.int s0] (sM mo G I J) Q) :=
  (sm_blk X 196 55 (tt_lin 196 (by decide)) rfl rfl _ _ _ _).trans rfl
set_option maxRecDepth 100000 in
theorem bk_196_58 (X : (Nat → Int32) × Nat) (mo : Bool) (G : Nat × Nat) (I : Nat → Nat → Int32) (J : Nat → Nat → Int64) (Q : Option Value → sm_M → Prop) (x1 : Int32) (x2 : Int32) (x3 : Int32) :
    sm_wp X 196 58 [some (.ref 0), some (.int x1), some (.int x2), some (.int x3)] [] (sM mo G I J) Q =
    (True ∧ Q (some (.int (-1))) (sM mo G I J)) :=
  (sm_blk X 196 58 (tt_lin 196 (by decide)) rfl rfl _ _ _ _).trans rfl
set_option maxRecDepth 100000 in
theorem bk_196_59 (X : (Nat → Int32) × Nat) (mo : Bool) (G : Nat × Nat) (I : Nat → Nat → Int32) (J : Nat → Nat → Int64) (Q : Option Value → sm_M → Prop) (x1 : Int32) (x2 : Int32) (x3 : Int32) (s0 : Int32) :
    sm_wp X 196 59 [some (.ref 0), some (.int x1), some (.int x2), some (.int x3)] [.int s0] (sM mo G I J) Q =
    (True ∧ Q (some (.int s0)) (sM mo G I J)) :=
  (sm_blk X 196 59 (tt_lin 196 (by decide)) rfl rfl _ _ _ _).trans rfl
set_option maxRecDepth 100000 in
theorem bk_197_0 (X : (Nat → Int32) × Nat) (mo : Bool) (G : Nat × Nat) (I : Nat → Nat → Int32) (J : Nat → Nat → Int64) (Q : Option Value → sm_M → Prop) (x1 : Int32) (x2 : Int32) (x3 : Int32) :
    sm_wp X 197 0 [some (.ref 0), some (.int x1), some (.int x2), some (.int x3)] [] (sM mo G I J) Q =
    (sm_wp X 2 0 [some (.ref 71), some (.int x1)] [] (sM mo G I J) (fun v M => sm_wp X 197 8 [some (.ref 0), some (.int x1), some (.int x2), some (.int x3)] (v.toList ++ []) M Q)) :=
  (sm_blk X 197 0 (tt_lin 197 (by decide)) rfl rfl _ _ _ _).trans rfl
set_option maxRecDepth 100000 in
theorem bk_197_8 (X : (Nat → Int32) × Nat) (mo : Bool) (G : Nat × Nat) (I : Nat → Nat → Int32) (J : Nat → Nat → Int64) (Q : Option Value → sm_M → Prop) (x1 : Int32) (x2 : Int32) (x3 : Int32) (s0 : Int32) :
    sm_wp X 197 8 [some (.ref 0), some (.int x1), some (.int x2), some (.int x3)] [.int s0] (sM mo G I J) Q =
    (if (s0 : Int32) = 0 then sm_wp X 197 27 [some (.ref 0), some (.int x1), some (.int x2), some (.int x3)] [] (sM mo G I J) Q else (sm_wp X 2 0 [some (.ref 71), some (.int x2)] [] (sM mo G I J) (fun v M => sm_wp X 197 19 [some (.ref 0), some (.int x1), some (.int x2), some (.int x3)] (v.toList ++ []) M Q))) :=
  (sm_blk X 197 8 (tt_lin 197 (by decide)) rfl rfl _ _ _ _).trans rfl
set_option maxRecDepth 100000 in
theorem bk_197_19 (X : (Nat → Int32) × Nat) (mo : Bool) (G : Nat × Nat) (I : Nat → Nat → Int32) (J : Nat → Nat → Int64) (Q : Option Value → sm_M → Prop) (x1 : Int32) (x2 : Int32) (x3 : Int32) (s0 : Int32) :
    sm_wp X 197 19 [some (.ref 0), some (.int x1), some (.int x2), some (.int x3)] [.int s0] (sM mo G I J) Q =
    (if (s0 : Int32) = 0 then sm_wp X 197 27 [some (.ref 0), some (.int x1), some (.int x2), some (.int x3)] [] (sM mo G I J) Q else (if ¬ (x1 : Int32) = (x2 : Int32) then sm_wp X 197 29 [some (.ref 0), some (.int x1), some (.int x2), some (.int x3)] [] (sM mo G I J) Q else (sm_zb 0 ∧ Q (some (.int 0)) (sM mo G I J)))) :=
  (sm_blk X 197 19 (tt_lin 197 (by decide)) rfl rfl _ _ _ _).trans rfl
set_option maxRecDepth 100000 in
theorem bk_197_27 (X : (Nat → Int32) × Nat) (mo : Bool) (G : Nat × Nat) (I : Nat → Nat → Int32) (J : Nat → Nat → Int64) (Q : Option Value → sm_M → Prop) (x1 : Int32) (x2 : Int32) (x3 : Int32) :
    sm_wp X 197 27 [some (.ref 0), some (.int x1), some (.int x2), some (.int x3)] [] (sM mo G I J) Q =
    (sm_zb 0 ∧ Q (some (.int 0)) (sM mo G I J)) :=
  (sm_blk X 197 27 (tt_lin 197 (by decide)) rfl rfl _ _ _ _).trans rfl
set_option maxRecDepth 100000 in
theorem bk_197_29 (X : (Nat → Int32) × Nat) (mo : Bool) (G : Nat × Nat) (I : Nat → Nat → Int32) (J : Nat → Nat → Int64) (Q : Option Value → sm_M → Prop) (x1 : Int32) (x2 : Int32) (x3 : Int32) :
    sm_wp X 197 29 [some (.ref 0), some (.int x1), some (.int x2), some (.int x3)] [] (sM mo G I J) Q =
    (sm_wp X 5 0 [some (.ref 71), some (.int x1), some (.int x2), some (.int x3)] [] (sM mo G I J) (fun v M => sm_wp X 197 39 [some (.ref 0), some (.int x1), some (.int x2), some (.int x3)] (v.toList ++ []) M Q)) :=
  (sm_blk X 197 29 (tt_lin 197 (by decide)) rfl rfl _ _ _ _).trans rfl
set_option maxRecDepth 100000 in
theorem bk_197_39 (X : (Nat → Int32) × Nat) (mo : Bool) (G : Nat × Nat) (I : Nat → Nat → Int32) (J : Nat → Nat → Int64) (Q : Option Value → sm_M → Prop) (x1 : Int32) (x2 : Int32) (x3 : Int32) (s0 : Int32) :
    sm_wp X 197 39 [some (.ref 0), some (.int x1), some (.int x2), some (.int x3)] [.int s0] (sM mo G I J) Q =
    (sm_zb s0 ∧ Q (some (.int s0)) (sM mo G I J)) :=
  (sm_blk X 197 39 (tt_lin 197 (by decide)) rfl rfl _ _ _ _).trans rfl
set_option maxRecDepth 100000 in
theorem bk_198_0 (X : (Nat → Int32) × Nat) (mo : Bool) (G : Nat × Nat) (I : Nat → Nat → Int32) (J : Nat → Nat → Int64) (Q : Option Value → sm_M → Prop) (x1 : Int32) (x2 : Int32) (x3 : Int32) :
    sm_wp X 198 0 [some (.ref 0), some (.int x1), some (.int x2), some (.int x3)] [] (sM mo G I J) Q =
    (sm_wp X 2 0 [some (.ref 71), some (.int x1)] [] (sM mo G I J) (fun v M => sm_wp X 198 8 [some (.ref 0), some (.int x1), some (.int x2), some (.int x3)] (v.toList ++ []) M Q)) :=
  (sm_blk X 198 0 (tt_lin 198 (by decide)) rfl rfl _ _ _ _).trans rfl
set_option maxRecDepth 100000 in
theorem bk_198_8 (X : (Nat → Int32) × Nat) (mo : Bool) (G : Nat × Nat) (I : Nat → Nat → Int32) (J : Nat → Nat → Int64) (Q : Option Value → sm_M → Prop) (x1 : Int32) (x2 : Int32) (x3 : Int32) (s0 : Int32) :
    sm_wp X 198 8 [some (.ref 0), some (.int x1), some (.int x2), some (.int x3)] [.int s0] (sM mo G I J) Q =
    (if (s0 : Int32) = 0 then sm_wp X 198 22 [some (.ref 0), some (.int x1), some (.int x2), some (.int x3)] [] (sM mo G I J) Q else (sm_wp X 94 0 [some (.ref 1), some (.int x2)] [] (sM mo G I J) (fun v M => sm_wp X 198 19 [some (.ref 0), some (.int x1), some (.int x2), some (.int x3)] (v.toList ++ []) M Q))) :=
  (sm_blk X 198 8 (tt_lin 198 (by decide)) rfl rfl _ _ _ _).trans rfl
set_option maxRecDepth 100000 in
theorem bk_198_19 (X : (Nat → Int32) × Nat) (mo : Bool) (G : Nat × Nat) (I : Nat → Nat → Int32) (J : Nat → Nat → Int64) (Q : Option Value → sm_M → Prop) (x1 : Int32) (x2 : Int32) (x3 : Int32) (s0 : Int32) :
    sm_wp X 198 19 [some (.ref 0), some (.int x1), some (.int x2), some (.int x3)] [.int s0] (sM mo G I J) Q =
    (if ¬ (s0 : Int32) = 0 then sm_wp X 198 24 [some (.ref 0), some (.int x1), some (.int x2), some (.int x3)] [] (sM mo G I J) Q else (sm_zb 0 ∧ Q (some (.int 0)) (sM mo G I J))) :=
  (sm_blk X 198 19 (tt_lin 198 (by decide)) rfl rfl _ _ _ _).trans rfl
set_option maxRecDepth 100000 in
theorem bk_198_22 (X : (Nat → Int32) × Nat) (mo : Bool) (G : Nat × Nat) (I : Nat → Nat → Int32) (J : Nat → Nat → Int64) (Q : Option Value → sm_M → Prop) (x1 : Int32) (x2 : Int32) (x3 : Int32) :
    sm_wp X 198 22 [some (.ref 0), some (.int x1), some (.int x2), some (.int x3)] [] (sM mo G I J) Q =
    (sm_zb 0 ∧ Q (some (.int 0)) (sM mo G I J)) :=
  (sm_blk X 198 22 (tt_lin 198 (by decide)) rfl rfl _ _ _ _).trans rfl
set_option maxRecDepth 100000 in
theorem bk_198_24 (X : (Nat → Int32) × Nat) (mo : Bool) (G : Nat × Nat) (I : Nat → Nat → Int32) (J : Nat → Nat → Int64) (Q : Option Value → sm_M → Prop) (x1 : Int32) (x2 : Int32) (x3 : Int32) :
    sm_wp X 198 24 [some (.ref 0), some (.int x1), some (.int x2), some (.int x3)] [] (sM mo G I J) Q =
    (sm_wp X 6 0 [some (.ref 71), some (.int x1), some (.int x2), some (.int x3)] [] (sM mo G I J) (fun v M => sm_wp X 198 34 [some (.ref 0), some (.int x1), some (.int x2), some (.int x3)] (v.toList ++ []) M Q)) :=
  (sm_blk X 198 24 (tt_lin 198 (by decide)) rfl rfl _ _ _ _).trans rfl
set_option maxRecDepth 100000 in
theorem bk_198_34 (X : (Nat → Int32) × Nat) (mo : Bool) (G : Nat × Nat) (I : Nat → Nat → Int32) (J : Nat → Nat → Int64) (Q : Option Value → sm_M → Prop) (x1 : Int32) (x2 : Int32) (x3 : Int32) (s0 : Int32) :
    sm_wp X 198 34 [some (.ref 0), some (.int x1), some (.int x2), some (.int x3)] [.int s0] (sM mo G I J) Q =
    (sm_zb s0 ∧ Q (some (.int s0)) (sM mo G I J)) :=
  (sm_blk X 198 34 (tt_lin 198 (by decide)) rfl rfl _ _ _ _).trans rfl
set_option maxRecDepth 100000 in
theorem bk_199_0 (X : (Nat → Int32) × Nat) (mo : Bool) (G : Nat × Nat) (I : Nat → Nat → Int32) (J : Nat → Nat → Int64) (Q : Option Value → sm_M → Prop) (x1 : Int32) (x2 : Int32) (x3 : Int32) :
    sm_wp X 199 0 [some (.ref 0), some (.int x1), some (.int x2), some (.int x3)] [] (sM mo G I J) Q =
    (sm_wp X 7 0 [some (.ref 71), some (.int x1), some (.int x2)] [] (sM mo G I J) (fun v M => sm_wp X 199 9 [some (.ref 0), some (.int x1), some (.int x2), some (.int x3)] (v.toList ++ []) M Q)) :=
  (sm_blk X 199 0 (tt_lin 199 (by decide)) rfl rfl _ _ _ _).trans rfl
set_option maxRecDepth 100000 in
theorem bk_199_9 (X : (Nat → Int32) × Nat) (mo : Bool) (G : Nat × Nat) (I : Nat → Nat → Int32) (J : Nat → Nat → Int64) (Q : Option Value → sm_M → Prop) (x1 : Int32) (x2 : Int32) (x3 : Int32) (s0 : Int32) :
    sm_wp X 199 9 [some (.ref 0), some (.int x1), some (.int x2), some (.int x3)] [.int s0] (sM mo G I J) Q =
    (if (s0 : Int32) = 0 then sm_wp X 199 24 [some (.ref 0), some (.int x1), some (.int x2), some (.int x3)] [] (sM mo G I J) Q else (sm_wp X 7 0 [some (.ref 71), some (.int x1), some (.int x3)] [] (sM mo G I J) (fun v M => sm_wp X 199 21 [some (.ref 0), some (.int x1), some (.int x2), some (.int x3)] (v.toList ++ []) M Q))) :=
  (sm_blk X 199 9 (tt_lin 199 (by decide)) rfl rfl _ _ _ _).trans rfl
set_option maxRecDepth 100000 in
theorem bk_199_21 (X : (Nat → Int32) × Nat) (mo : Bool) (G : Nat × Nat) (I : Nat → Nat → Int32) (J : Nat → Nat → Int64) (Q : Option Value → sm_M → Prop) (x1 : Int32) (x2 : Int32) (x3 : Int32) (s0 : Int32) :
    sm_wp X 199 21 [some (.ref 0), some (.int x1), some (.int x2), some (.int x3)] [.int s0] (sM mo G I J) Q =
    (if ¬ (s0 : Int32) = 0 then sm_wp X 199 26 [some (.ref 0), some (.int x1), some (.int x2), some (.int x3)] [] (sM mo G I J) Q else (True ∧ Q (some (.int (-1))) (sM mo G I J))) :=
  (sm_blk X 199 21 (tt_lin 199 (by decide)) rfl rfl _ _ _ _).trans rfl
set_option maxRecDepth 100000 in
theorem bk_199_24 (X : (Nat → Int32) × Nat) (mo : Bool) (G : Nat × Nat) (I : Nat → Nat → Int32) (J : Nat → Nat → Int64) (Q : Option Value → sm_M → Prop) (x1 : Int32) (x2 : Int32) (x3 : Int32) :
    sm_wp X 199 24 [some (.ref 0), some (.int x1), some (.int x2), some (.int x3)] [] (sM mo G I J) Q =
    (True ∧ Q (some (.int (-1))) (sM mo G I J)) :=
  (sm_blk X 199 24 (tt_lin 199 (by decide)) rfl rfl _ _ _ _).trans rfl
set_option maxRecDepth 100000 in
theorem bk_199_26 (X : (Nat → Int32) × Nat) (mo : Bool) (G : Nat × Nat) (I : Nat → Nat → Int32) (J : Nat → Nat → Int64) (Q : Option Value → sm_M → Prop) (x1 : Int32) (x2 : Int32) (x3 : Int32) :
    sm_wp X 199 26 [some (.ref 0), some (.int x1), some (.int x2), some (.int x3)] [] (sM mo G I J) Q =
    (sm_wp X 8 0 [some (.ref 71), some (.int x1), some (.int x2), some (.int x3), none, none, none, none, none, none, none] [] (sM mo G I J) (fun v M => sm_wp X 199 36 [some (.ref 0), some (.int x1), some (.int x2), some (.int x3)] (v.toList ++ []) M Q)) :=
  (sm_blk X 199 26 (tt_lin 199 (by decide)) rfl rfl _ _ _ _).trans rfl
set_option maxRecDepth 100000 in
theorem bk_199_36 (X : (Nat → Int32) × Nat) (mo : Bool) (G : Nat × Nat) (I : Nat → Nat → Int32) (J : Nat → Nat → Int64) (Q : Option Value → sm_M → Prop) (x1 : Int32) (x2 : Int32) (x3 : Int32) (s0 : Int32) :
    sm_wp X 199 36 [some (.ref 0), some (.int x1), some (.int x2), some (.int x3)] [.int s0] (sM mo G I J) Q =
    (True ∧ Q (some (.int s0)) (sM mo G I J)) :=
  (sm_blk X 199 36 (tt_lin 199 (by decide)) rfl rfl _ _ _ _).trans rfl
set_option maxRecDepth 100000 in
theorem bk_200_0 (X : (Nat → Int32) × Nat) (mo : Bool) (G : Nat × Nat) (I : Nat → Nat → Int32) (J : Nat → Nat → Int64) (Q : Option Value → sm_M → Prop) (x1 : Int32) (x2 : Int32) :
    sm_wp X 200 0 [some (.ref 0), some (.int x1), some (.int x2)] [] (sM mo G I J) Q =
    (sm_wp X 2 0 [some (.ref 71), some (.int x1)] [] (sM mo G I J) (fun v M => sm_wp X 200 8 [some (.ref 0), some (.int x1), some (.int x2)] (v.toList ++ []) M Q)) :=
  (sm_blk X 200 0 (tt_lin 200 (by decide)) rfl rfl _ _ _ _).trans rfl
set_option maxRecDepth 100000 in
theorem bk_200_8 (X : (Nat → Int32) × Nat) (mo : Bool) (G : Nat × Nat) (I : Nat → Nat → Int32) (J : Nat → Nat → Int64) (Q : Option Value → sm_M → Prop) (x1 : Int32) (x2 : Int32) (s0 : Int32) :
    sm_wp X 200 8 [some (.ref 0), some (.int x1), some (.int x2)] [.int s0] (sM mo G I J) Q =
    (if ¬ (s0 : Int32) = 0 then sm_wp X 200 13 [some (.ref 0), some (.int x1), some (.int x2)] [] (sM mo G I J) Q else (True ∧ Q (some (.int (-1))) (sM mo G I J))) :=
  (sm_blk X 200 8 (tt_lin 200 (by decide)) rfl rfl _ _ _ _).trans rfl
set_option maxRecDepth 100000 in
theorem bk_200_13 (X : (Nat → Int32) × Nat) (mo : Bool) (G : Nat × Nat) (I : Nat → Nat → Int32) (J : Nat → Nat → Int64) (Q : Option Value → sm_M → Prop) (x1 : Int32) (x2 : Int32) :
    sm_wp X 200 13 [some (.ref 0), some (.int x1), some (.int x2)] [] (sM mo G I J) Q =
    (if (x2 : Int32) = 0 then sm_wp X 200 44 [some (.ref 0), some (.int x1), some (.int x2)] [] (sM mo G I J) Q else if (x2 : Int32) = 1 then sm_wp X 200 53 [some (.ref 0), some (.int x1), some (.int x2)] [] (sM mo G I J) Q else if (x2 : Int32) = 2 then sm_wp X 200 70 [some (.ref 0), some (.int x1), some (.int x2)] [] (sM mo G I J) Q else if (x2 : Int32) = 3 then sm_wp X 200 87 [some (.ref 0), some (.int x1), some (.int x2)] [] (sM mo G I J) Q else sm_wp X 200 111 [some (.ref 0), some (.int x1), some (.int x2)] [] (sM mo G I J) Q) :=
  (sm_blk X 200 13 (tt_lin 200 (by decide)) rfl rfl _ _ _ _).trans rfl
set_option maxRecDepth 100000 in
theorem bk_200_44 (X : (Nat → Int32) × Nat) (mo : Bool) (G : Nat × Nat) (I : Nat → Nat → Int32) (J : Nat → Nat → Int64) (Q : Option Value → sm_M → Prop) (x1 : Int32) (x2 : Int32) :
    sm_wp X 200 44 [some (.ref 0), some (.int x1), some (.int x2)] [] (sM mo G I J) Q =
    (sm_wp X 10 0 [some (.ref 71), some (.int x1), none, none, none] [] (sM mo G I J) (fun v M => sm_wp X 200 52 [some (.ref 0), some (.int x1), some (.int x2)] (v.toList ++ []) M Q)) :=
  (sm_blk X 200 44 (tt_lin 200 (by decide)) rfl rfl _ _ _ _).trans rfl
set_option maxRecDepth 100000 in
theorem bk_200_52 (X : (Nat → Int32) × Nat) (mo : Bool) (G : Nat × Nat) (I : Nat → Nat → Int32) (J : Nat → Nat → Int64) (Q : Option Value → sm_M → Prop) (x1 : Int32) (x2 : Int32) (s0 : Int32) :
    sm_wp X 200 52 [some (.ref 0), some (.int x1), some (.int x2)] [.int s0] (sM mo G I J) Q =
    (True ∧ Q (some (.int s0)) (sM mo G I J)) :=
  (sm_blk X 200 52 (tt_lin 200 (by decide)) rfl rfl _ _ _ _).trans rfl
set_option maxRecDepth 100000 in
theorem bk_200_53 (X : (Nat → Int32) × Nat) (mo : Bool) (G : Nat × Nat) (I : Nat → Nat → Int32) (J : Nat → Nat → Int64) (Q : Option Value → sm_M → Prop) (x1 : Int32) (x2 : Int32) :
    sm_wp X 200 53 [some (.ref 0), some (.int x1), some (.int x2)] [] (sM mo G I J) Q =
    (sm_wp X 10 0 [some (.ref 71), some (.int x1), none, none, none] [] (sM mo G I J) (fun v M => sm_wp X 200 66 [some (.ref 0), some (.int x1), some (.int x2)] (v.toList ++ [.int x1, .ref 71]) M Q)) :=
  (sm_blk X 200 53 (tt_lin 200 (by decide)) rfl rfl _ _ _ _).trans rfl
set_option maxRecDepth 100000 in
theorem bk_200_66 (X : (Nat → Int32) × Nat) (mo : Bool) (G : Nat × Nat) (I : Nat → Nat → Int32) (J : Nat → Nat → Int64) (Q : Option Value → sm_M → Prop) (x1 : Int32) (x2 : Int32) (s1 : Int32) (s2 : Int32) :
    sm_wp X 200 66 [some (.ref 0), some (.int x1), some (.int x2)] [.int s2, .int s1, .ref 71] (sM mo G I J) Q =
    (sm_wp X 7 0 [some (.ref 71), some (.int s1), some (.int s2)] [] (sM mo G I J) (fun v M => sm_wp X 200 69 [some (.ref 0), some (.int x1), some (.int x2)] (v.toList ++ []) M Q)) :=
  (sm_blk X 200 66 (tt_lin 200 (by decide)) rfl rfl _ _ _ _).trans rfl
set_option maxRecDepth 100000 in
theorem bk_200_69 (X : (Nat → Int32) × Nat) (mo : Bool) (G : Nat × Nat) (I : Nat → Nat → Int32) (J : Nat → Nat → Int64) (Q : Option Value → sm_M → Prop) (x1 : Int32) (x2 : Int32) (s0 : Int32) :
    sm_wp X 200 69 [some (.ref 0), some (.int x1), some (.int x2)] [.int s0] (sM mo G I J) Q =
    (True ∧ Q (some (.int s0)) (sM mo G I J)) :=
  (sm_blk X 200 69 (tt_lin 200 (by decide)) rfl rfl _ _ _ _).trans rfl
set_option maxRecDepth 100000 in
theorem bk_200_70 (X : (Nat → Int32) × Nat) (mo : Bool) (G : Nat × Nat) (I : Nat → Nat → Int32) (J : Nat → Nat → Int64) (Q : Option Value → sm_M → Prop) (x1 : Int32) (x2 : Int32) :
    sm_wp X 200 70 [some (.ref 0), some (.int x1), some (.int x2)] [] (sM mo G I J) Q =
    (sm_wp X 13 0 [some (.ref 71), some (.int x1), none, none, none] [] (sM mo G I J) (fun v M => sm_wp X 200 78 [some (.ref 0), some (.int x1), some (.int x2)] (v.toList ++ []) M Q)) :=
  (sm_blk X 200 70 (tt_lin 200 (by decide)) rfl rfl _ _ _ _).trans rfl
set_option maxRecDepth 100000 in
theorem bk_200_78 (X : (Nat → Int32) × Nat) (mo : Bool) (G : Nat × Nat) (I : Nat → Nat → Int32) (J : Nat → Nat → Int64) (Q : Option Value → sm_M → Prop) (x1 : Int32) (x2 : Int32) (s0 : Int32) :
    sm_wp X 200 78 [some (.ref 0), some (.int x1), some (.int x2)] [.int s0] (sM mo G I J) Q =
    (if (s0 : Int32) = 0 then sm_wp X 200 85 [some (.ref 0), some (.int x1), some (.int x2)] [] (sM mo G I J) Q else (sm_wp X 200 86 [some (.ref 0), some (.int x1), some (.int x2)] [.int 1] (sM mo G I J) Q)) :=
  (sm_blk X 200 78 (tt_lin 200 (by decide)) rfl rfl _ _ _ _).trans rfl
set_option maxRecDepth 100000 in
theorem bk_200_85 (X : (Nat → Int32) × Nat) (mo : Bool) (G : Nat × Nat) (I : Nat → Nat → Int32) (J : Nat → Nat → Int64) (Q : Option Value → sm_M → Prop) (x1 : Int32) (x2 : Int32) :
    sm_wp X 200 85 [some (.ref 0), some (.int x1), some (.int x2)] [] (sM mo G I J) Q =
    (True ∧ Q (some (.int 0)) (sM mo G I J)) :=
  (sm_blk X 200 85 (tt_lin 200 (by decide)) rfl rfl _ _ _ _).trans rfl
set_option maxRecDepth 100000 in
theorem bk_200_86 (X : (Nat → Int32) × Nat) (mo : Bool) (G : Nat × Nat) (I : Nat → Nat → Int32) (J : Nat → Nat → Int64) (Q : Option Value → sm_M → Prop) (x1 : Int32) (x2 : Int32) (s0 : Int32) :
    sm_wp X 200 86 [some (.ref 0), some (.int x1), some (.int x2)] [.int s0] (sM mo G I J) Q =
    (True ∧ Q (some (.int s0)) (sM mo G I J)) :=
  (sm_blk X 200 86 (tt_lin 200 (by decide)) rfl rfl _ _ _ _).trans rfl
set_option maxRecDepth 100000 in
theorem bk_200_87 (X : (Nat → Int32) × Nat) (mo : Bool) (G : Nat × Nat) (I : Nat → Nat → Int32) (J : Nat → Nat → Int64) (Q : Option Value → sm_M → Prop) (x1 : Int32) (x2 : Int32) :
    sm_wp X 200 87 [some (.ref 0), some (.int x1), some (.int x2)] [] (sM mo G I J) Q =
    (sm_wp X 13 0 [some (.ref 71), some (.int x1), none, none, none] [] (sM mo G I J) (fun v M => sm_wp X 200 95 [some (.ref 0), some (.int x1), some (.int x2)] (v.toList ++ []) M Q)) :=
  (sm_blk X 200 87 (tt_lin 200 (by decide)) rfl rfl _ _ _ _).trans rfl
set_option maxRecDepth 100000 in
theorem bk_200_95 (X : (Nat → Int32) × Nat) (mo : Bool) (G : Nat × Nat) (I : Nat → Nat → Int32) (J : Nat → Nat → Int64) (Q : Option Value → sm_M → Prop) (x1 : Int32) (x2 : Int32) (s0 : Int32) :
    sm_wp X 200 95 [some (.ref 0), some (.int x1), some (.int x2)] [.int s0] (sM mo G I J) Q =
    (if (s0 : Int32) = 0 then sm_wp X 200 102 [some (.ref 0), some (.int x1), some (.int x2)] [] (sM mo G I J) Q else (sm_wp X 200 110 [some (.ref 0), some (.int x1), some (.int x2)] [.int 0] (sM mo G I J) Q)) :=
  (sm_blk X 200 95 (tt_lin 200 (by decide)) rfl rfl _ _ _ _).trans rfl
set_option maxRecDepth 100000 in
theorem bk_200_102 (X : (Nat → Int32) × Nat) (mo : Bool) (G : Nat × Nat) (I : Nat → Nat → Int32) (J : Nat → Nat → Int64) (Q : Option Value → sm_M → Prop) (x1 : Int32) (x2 : Int32) :
    sm_wp X 200 102 [some (.ref 0), some (.int x1), some (.int x2)] [] (sM mo G I J) Q =
    (sm_wp X 19 0 [some (.ref 71), some (.int x1), none] [] (sM mo G I J) (fun v M => sm_wp X 200 110 [some (.ref 0), some (.int x1), some (.int x2)] (v.toList ++ []) M Q)) :=
  (sm_blk X 200 102 (tt_lin 200 (by decide)) rfl rfl _ _ _ _).trans rfl
set_option maxRecDepth 100000 in
theorem bk_200_110 (X : (Nat → Int32) × Nat) (mo : Bool) (G : Nat × Nat) (I : Nat → Nat → Int32) (J : Nat → Nat → Int64) (Q : Option Value → sm_M → Prop) (x1 : Int32) (x2 : Int32) (s0 : Int32) :
    sm_wp X 200 110 [some (.ref 0), some (.int x1), some (.int x2)] [.int s0] (sM mo G I J) Q =
    (True ∧ Q (some (.int s0)) (sM mo G I J)) :=
  (sm_blk X 200 110 (tt_lin 200 (by decide)) rfl rfl _ _ _ _).trans rfl
set_option maxRecDepth 100000 in
theorem bk_200_111 (X : (Nat → Int32) × Nat) (mo : Bool) (G : Nat × Nat) (I : Nat → Nat → Int32) (J : Nat → Nat → Int64) (Q : Option Value → sm_M → Prop) (x1 : Int32) (x2 : Int32) :
    sm_wp X 200 111 [some (.ref 0), some (.int x1), some (.int x2)] [] (sM mo G I J) Q =
    (True ∧ Q (some (.int (-1))) (sM mo G I J)) :=
  (sm_blk X 200 111 (tt_lin 200 (by decide)) rfl rfl _ _ _ _).trans rfl
set_option maxRecDepth 100000 in
theorem bk_201_0 (X : (Nat → Int32) × Nat) (mo : Bool) (G : Nat × Nat) (I : Nat → Nat → Int32) (J : Nat → Nat → Int64) (Q : Option Value → sm_M → Prop) (x1 : Int32) (x2 : Int32) (x3 : Int32) :
    sm_wp X 201 0 [some (.ref 0), some (.int x1), some (.int x2), some (.int x3)] [] (sM mo G I J) Q =
    (sm_wp X 2 0 [some (.ref 71), some (.int x1)] [] (sM mo G I J) (fun v M => sm_wp X 201 8 [some (.ref 0), some (.int x1), some (.int x2), some (.int x3)] (v.toList ++ []) M Q)) :=
  (sm_blk X 201 0 (tt_lin 201 (by decide)) rfl rfl _ _ _ _).trans rfl
set_option maxRecDepth 100000 in
theorem bk_201_8 (X : (Nat → Int32) × Nat) (mo : Bool) (G : Nat × Nat) (I : Nat → Nat → Int32) (J : Nat → Nat → Int64) (Q : Option Value → sm_M → Prop) (x1 : Int32) (x2 : Int32) (x3 : Int32) (s0 : Int32) :
    sm_wp X 201 8 [some (.ref 0), some (.int x1), some (.int x2), some (.int x3)] [.int s0] (sM mo G I J) Q =
    (if ¬ (s0 : Int32) = 0 then sm_wp X 201 13 [some (.ref 0), some (.int x1), some (.int x2), some (.int x3)] [] (sM mo G I J) Q else (True ∧ Q (some (.int (-1))) (sM mo G I J))) :=
  (sm_blk X 201 8 (tt_lin 201 (by decide)) rfl rfl _ _ _ _).trans rfl
set_option maxRecDepth 100000 in
theorem bk_201_13 (X : (Nat → Int32) × Nat) (mo : Bool) (G : Nat × Nat) (I : Nat → Nat → Int32) (J : Nat → Nat → Int64) (Q : Option Value → sm_M → Prop) (x1 : Int32) (x2 : Int32) (x3 : Int32) :
    sm_wp X 201 13 [some (.ref 0), some (.int x1), some (.int x2), some (.int x3)] [] (sM mo G I J) Q =
    (sm_wp X 20 0 [some (.ref 71), some (.int x1), some (.int x2), some (.int x3), none] [] (sM mo G I J) (fun v M => sm_wp X 201 23 [some (.ref 0), some (.int x1), some (.int x2), some (.int x3)] (v.toList ++ []) M Q)) :=
  (sm_blk X 201 13 (tt_lin 201 (by decide)) rfl rfl _ _ _ _).trans rfl
set_option maxRecDepth 100000 in
theorem bk_201_23 (X : (Nat → Int32) × Nat) (mo : Bool) (G : Nat × Nat) (I : Nat → Nat → Int32) (J : Nat → Nat → Int64) (Q : Option Value → sm_M → Prop) (x1 : Int32) (x2 : Int32) (x3 : Int32) (s0 : Int32) :
    sm_wp X 201 23 [some (.ref 0), some (.int x1), some (.int x2), some (.int x3)] [.int s0] (sM mo G I J) Q =
    (True ∧ Q (some (.int s0)) (sM mo G I J)) :=
  (sm_blk X 201 23 (tt_lin 201 (by decide)) rfl rfl _ _ _ _).trans rfl
set_option maxRecDepth 100000 in
theorem bk_202_0 (X : (Nat → Int32) × Nat) (mo : Bool) (G : Nat × Nat) (I : Nat → Nat → Int32) (J : Nat → Nat → Int64) (Q : Option Value → sm_M → Prop) (x1 : Int32) :
    sm_wp X 202 0 [some (.ref 0), some (.int x1)] [] (sM mo G I J) Q =
    (sm_wp X 94 0 [some (.ref 1), some (.int x1)] [] (sM mo G I J) (fun v M => sm_wp X 202 8 [some (.ref 0), some (.int x1)] (v.toList ++ []) M Q)) :=
  (sm_blk X 202 0 (tt_lin 202 (by decide)) rfl rfl _ _ _ _).trans rfl
set_option maxRecDepth 100000 in
theorem bk_202_8 (X : (Nat → Int32) × Nat) (mo : Bool) (G : Nat × Nat) (I : Nat → Nat → Int32) (J : Nat → Nat → Int64) (Q : Option Value → sm_M → Prop) (x1 : Int32) (s0 : Int32) :
    sm_wp X 202 8 [some (.ref 0), some (.int x1)] [.int s0] (sM mo G I J) Q =
    (if ¬ (s0 : Int32) = 0 then sm_wp X 202 13 [some (.ref 0), some (.int x1)] [] (sM mo G I J) Q else (True ∧ Q (some (.int (-1))) (sM mo G I J))) :=
  (sm_blk X 202 8 (tt_lin 202 (by decide)) rfl rfl _ _ _ _).trans rfl
set_option maxRecDepth 100000 in
theorem bk_202_13 (X : (Nat → Int32) × Nat) (mo : Bool) (G : Nat × Nat) (I : Nat → Nat → Int32) (J : Nat → Nat → Int64) (Q : Option Value → sm_M → Prop) (x1 : Int32) :
    sm_wp X 202 13 [some (.ref 0), some (.int x1)] [] (sM mo G I J) Q =
    (sm_wp X 114 0 [some (.ref 1), some (.int x1)] [] (sM mo G I J) (fun v M => sm_wp X 202 21 [some (.ref 0), some (.int x1)] (v.toList ++ []) M Q)) :=
  (sm_blk X 202 13 (tt_lin 202 (by decide)) rfl rfl _ _ _ _).trans rfl
set_option maxRecDepth 100000 in
theorem bk_202_21 (X : (Nat → Int32) × Nat) (mo : Bool) (G : Nat × Nat) (I : Nat → Nat → Int32) (J : Nat → Nat → Int64) (Q : Option Value → sm_M → Prop) (x1 : Int32) :
    sm_wp X 202 21 [some (.ref 0), some (.int x1)] [] (sM mo G I J) Q =
    (sm_wp X 86 0 [some (.ref 31), some (.int x1), none, none] [] (sM mo G I J) (fun v M => sm_wp X 202 29 [some (.ref 0), some (.int x1)] (v.toList ++ []) M Q)) :=
  (sm_blk X 202 21 (tt_lin 202 (by decide)) rfl rfl _ _ _ _).trans rfl
set_option maxRecDepth 100000 in
theorem bk_202_29 (X : (Nat → Int32) × Nat) (mo : Bool) (G : Nat × Nat) (I : Nat → Nat → Int32) (J : Nat → Nat → Int64) (Q : Option Value → sm_M → Prop) (x1 : Int32) (s0 : Int32) :
    sm_wp X 202 29 [some (.ref 0), some (.int x1)] [.int s0] (sM mo G I J) Q =
    (True ∧ Q (some (.int s0)) (sM mo G I J)) :=
  (sm_blk X 202 29 (tt_lin 202 (by decide)) rfl rfl _ _ _ _).trans rfl
set_option maxRecDepth 100000 in
theorem bk_203_0 (X : (Nat → Int32) × Nat) (mo : Bool) (G : Nat × Nat) (I : Nat → Nat → Int32) (J : Nat → Nat → Int64) (Q : Option Value → sm_M → Prop) (x1 : Int32) (x2 : Int32) (x3 : Int32) :
    sm_wp X 203 0 [some (.ref 0), some (.int x1), some (.int x2), some (.int x3)] [] (sM mo G I J) Q =
    (sm_wp X 115 0 [some (.ref 1), some (.int x1), some (.int x2), some (.int x3), none] [] (sM mo G I J) (fun v M => sm_wp X 203 10 [some (.ref 0), some (.int x1), some (.int x2), some (.int x3)] (v.toList ++ []) M Q)) :=
  (sm_blk X 203 0 (tt_lin 203 (by decide)) rfl rfl _ _ _ _).trans rfl
set_option maxRecDepth 100000 in
theorem bk_203_10 (X : (Nat → Int32) × Nat) (mo : Bool) (G : Nat × Nat) (I : Nat → Nat → Int32) (J : Nat → Nat → Int64) (Q : Option Value → sm_M → Prop) (x1 : Int32) (x2 : Int32) (x3 : Int32) (s0 : Int32) :
    sm_wp X 203 10 [some (.ref 0), some (.int x1), some (.int x2), some (.int x3)] [.int s0] (sM mo G I J) Q =
    (True ∧ Q (some (.int s0)) (sM mo G I J)) :=
  (sm_blk X 203 10 (tt_lin 203 (by decide)) rfl rfl _ _ _ _).trans rfl
set_option maxRecDepth 100000 in
theorem bk_204_0 (X : (Nat → Int32) × Nat) (mo : Bool) (G : Nat × Nat) (I : Nat → Nat → Int32) (J : Nat → Nat → Int64) (Q : Option Value → sm_M → Prop) (x1 : Int32) :
    sm_wp X 204 0 [some (.ref 0), some (.int x1)] [] (sM mo G I J) Q =
    (if (x1 : Int32) = 0 then sm_wp X 204 48 [some (.ref 0), some (.int x1)] [] (sM mo G I J) Q else if (x1 : Int32) = 1 then sm_wp X 204 56 [some (.ref 0), some (.int x1)] [] (sM mo G I J) Q else if (x1 : Int32) = 2 then sm_wp X 204 64 [some (.ref 0), some (.int x1)] [] (sM mo G I J) Q else if (x1 : Int32) = 3 then sm_wp X 204 72 [some (.ref 0), some (.int x1)] [] (sM mo G I J) Q else if (x1 : Int32) = 4 then sm_wp X 204 80 [some (.ref 0), some (.int x1)] [] (sM mo G I J) Q else if (x1 : Int32) = 5 then sm_wp X 204 88 [some (.ref 0), some (.int x1)] [] (sM mo G I J) Q else if (x1 : Int32) = 6 then sm_wp X 204 96 [some (.ref 0), some (.int x1)] [] (sM mo G I J) Q else if (x1 : Int32) = 7 then sm_wp X 204 104 [some (.ref 0), some (.int x1)] [] (sM mo G I J) Q else sm_wp X 204 112 [some (.ref 0), some (.int x1)] [] (sM mo G I J) Q) :=
  (sm_blk X 204 0 (tt_lin 204 (by decide)) rfl rfl _ _ _ _).trans rfl
set_option maxRecDepth 100000 in
theorem bk_204_48 (X : (Nat → Int32) × Nat) (mo : Bool) (G : Nat × Nat) (I : Nat → Nat → Int32) (J : Nat → Nat → Int64) (Q : Option Value → sm_M → Prop) (x1 : Int32) :
    sm_wp X 204 48 [some (.ref 0), some (.int x1)] [] (sM mo G I J) Q =
    (True ∧ Q (some (.int (I 1 0))) (sM mo G I J)) :=
  (sm_blk X 204 48 (tt_lin 204 (by decide)) rfl rfl _ _ _ _).trans rfl
set_option maxRecDepth 100000 in
theorem bk_204_56 (X : (Nat → Int32) × Nat) (mo : Bool) (G : Nat × Nat) (I : Nat → Nat → Int32) (J : Nat → Nat → Int64) (Q : Option Value → sm_M → Prop) (x1 : Int32) :
    sm_wp X 204 56 [some (.ref 0), some (.int x1)] [] (sM mo G I J) Q =
    (True ∧ Q (some (.int (I 1 1))) (sM mo G I J)) :=
  (sm_blk X 204 56 (tt_lin 204 (by decide)) rfl rfl _ _ _ _).trans rfl
set_option maxRecDepth 100000 in
theorem bk_204_64 (X : (Nat → Int32) × Nat) (mo : Bool) (G : Nat × Nat) (I : Nat → Nat → Int32) (J : Nat → Nat → Int64) (Q : Option Value → sm_M → Prop) (x1 : Int32) :
    sm_wp X 204 64 [some (.ref 0), some (.int x1)] [] (sM mo G I J) Q =
    (True ∧ Q (some (.int (I 1 2))) (sM mo G I J)) :=
  (sm_blk X 204 64 (tt_lin 204 (by decide)) rfl rfl _ _ _ _).trans rfl
set_option maxRecDepth 100000 in
theorem bk_204_72 (X : (Nat → Int32) × Nat) (mo : Bool) (G : Nat × Nat) (I : Nat → Nat → Int32) (J : Nat → Nat → Int64) (Q : Option Value → sm_M → Prop) (x1 : Int32) :
    sm_wp X 204 72 [some (.ref 0), some (.int x1)] [] (sM mo G I J) Q =
    (True ∧ Q (some (.int (I 31 0))) (sM mo G I J)) :=
  (sm_blk X 204 72 (tt_lin 204 (by decide)) rfl rfl _ _ _ _).trans rfl
set_option maxRecDepth 100000 in
theorem bk_204_80 (X : (Nat → Int32) × Nat) (mo : Bool) (G : Nat × Nat) (I : Nat → Nat → Int32) (J : Nat → Nat → Int64) (Q : Option Value → sm_M → Prop) (x1 : Int32) :
    sm_wp X 204 80 [some (.ref 0), some (.int x1)] [] (sM mo G I J) Q =
    (True ∧ Q (some (.int (I 1 3))) (sM mo G I J)) :=
  (sm_blk X 204 80 (tt_lin 204 (by decide)) rfl rfl _ _ _ _).trans rfl
set_option maxRecDepth 100000 in
theorem bk_204_88 (X : (Nat → Int32) × Nat) (mo : Bool) (G : Nat × Nat) (I : Nat → Nat → Int32) (J : Nat → Nat → Int64) (Q : Option Value → sm_M → Prop) (x1 : Int32) :
    sm_wp X 204 88 [some (.ref 0), some (.int x1)] [] (sM mo G I J) Q =
    (True ∧ Q (some (.int (I 71 0))) (sM mo G I J)) :=
  (sm_blk X 204 88 (tt_lin 204 (by decide)) rfl rfl _ _ _ _).trans rfl
set_option maxRecDepth 100000 in
theorem bk_204_96 (X : (Nat → Int32) × Nat) (mo : Bool) (G : Nat × Nat) (I : Nat → Nat → Int32) (J : Nat → Nat → Int64) (Q : Option Value → sm_M → Prop) (x1 : Int32) :
    sm_wp X 204 96 [some (.ref 0), some (.int x1)] [] (sM mo G I J) Q =
    (True ∧ Q (some (.int (I 26 0))) (sM mo G I J)) :=
  (sm_blk X 204 96 (tt_lin 204 (by decide)) rfl rfl _ _ _ _).trans rfl
set_option maxRecDepth 100000 in
theorem bk_204_104 (X : (Nat → Int32) × Nat) (mo : Bool) (G : Nat × Nat) (I : Nat → Nat → Int32) (J : Nat → Nat → Int64) (Q : Option Value → sm_M → Prop) (x1 : Int32) :
    sm_wp X 204 104 [some (.ref 0), some (.int x1)] [] (sM mo G I J) Q =
    (sm_wp X 116 0 [some (.ref 1)] [] (sM mo G I J) (fun v M => sm_wp X 204 111 [some (.ref 0), some (.int x1)] (v.toList ++ []) M Q)) :=
  (sm_blk X 204 104 (tt_lin 204 (by decide)) rfl rfl _ _ _ _).trans rfl
set_option maxRecDepth 100000 in
theorem bk_204_111 (X : (Nat → Int32) × Nat) (mo : Bool) (G : Nat × Nat) (I : Nat → Nat → Int32) (J : Nat → Nat → Int64) (Q : Option Value → sm_M → Prop) (x1 : Int32) (s0 : Int32) :
    sm_wp X 204 111 [some (.ref 0), some (.int x1)] [.int s0] (sM mo G I J) Q =
    (True ∧ Q (some (.int s0)) (sM mo G I J)) :=
  (sm_blk X 204 111 (tt_lin 204 (by decide)) rfl rfl _ _ _ _).trans rfl
set_option maxRecDepth 100000 in
theorem bk_204_112 (X : (Nat → Int32) × Nat) (mo : Bool) (G : Nat × Nat) (I : Nat → Nat → Int32) (J : Nat → Nat → Int64) (Q : Option Value → sm_M → Prop) (x1 : Int32) :
    sm_wp X 204 112 [some (.ref 0), some (.int x1)] [] (sM mo G I J) Q =
    (True ∧ Q (some (.int (-1))) (sM mo G I J)) :=
  (sm_blk X 204 112 (tt_lin 204 (by decide)) rfl rfl _ _ _ _).trans rfl
end
section
set_option maxRecDepth 100000 in
theorem bk_311_0 (X : (Nat → Int32) × Nat) (mo : Bool) (G : Nat × Nat) (I : Nat → Nat → Int32) (J : Nat → Nat → Int64) (Q : Option Value → sm_M → Prop) (x0 : Int32) (x1 : Int32) :
    sm_wp X 311 0 [some (.int x0), some (.int x1)] [] (sM mo G I J) Q =
    (if (x0 : Int32) < (x1 : Int32) then sm_wp X 311 9 [some (.int x0), some (.int x1)] [] (sM mo G I J) Q else (sm_wp X 311 10 [some (.int x0), some (.int x1)] [.int x0] (sM mo G I J) Q)) :=
  (sm_blk X 311 0 (tt_lin 311 (by decide)) rfl rfl _ _ _ _).trans rfl
set_option maxRecDepth 100000 in
theorem bk_311_9 (X : (Nat → Int32) × Nat) (mo : Bool) (G : Nat × Nat) (I : Nat → Nat → Int32) (J : Nat → Nat → Int64) (Q : Option Value → sm_M → Prop) (x0 : Int32) (x1 : Int32) :
    sm_wp X 311 9 [some (.int x0), some (.int x1)] [] (sM mo G I J) Q =
    (True ∧ Q (some (.int x1)) (sM mo G I J)) :=
  (sm_blk X 311 9 (tt_lin 311 (by decide)) rfl rfl _ _ _ _).trans rfl
set_option maxRecDepth 100000 in
theorem bk_311_10 (X : (Nat → Int32) × Nat) (mo : Bool) (G : Nat × Nat) (I : Nat → Nat → Int32) (J : Nat → Nat → Int64) (Q : Option Value → sm_M → Prop) (x0 : Int32) (x1 : Int32) (s0 : Int32) :
    sm_wp X 311 10 [some (.int x0), some (.int x1)] [.int s0] (sM mo G I J) Q =
    (True ∧ Q (some (.int s0)) (sM mo G I J)) :=
  (sm_blk X 311 10 (tt_lin 311 (by decide)) rfl rfl _ _ _ _).trans rfl
set_option maxRecDepth 100000 in
theorem bk_312_0 (X : (Nat → Int32) × Nat) (mo : Bool) (G : Nat × Nat) (I : Nat → Nat → Int32) (J : Nat → Nat → Int64) (Q : Option Value → sm_M → Prop) (x0 : Int32) (x1 : Int32) :
    sm_wp X 312 0 [some (.int x0), some (.int x1)] [] (sM mo G I J) Q =
    (if (x1 : Int32) < (x0 : Int32) then sm_wp X 312 9 [some (.int x0), some (.int x1)] [] (sM mo G I J) Q else (sm_wp X 312 10 [some (.int x0), some (.int x1)] [.int x0] (sM mo G I J) Q)) :=
  (sm_blk X 312 0 (tt_lin 312 (by decide)) rfl rfl _ _ _ _).trans rfl
set_option maxRecDepth 100000 in
theorem bk_312_9 (X : (Nat → Int32) × Nat) (mo : Bool) (G : Nat × Nat) (I : Nat → Nat → Int32) (J : Nat → Nat → Int64) (Q : Option Value → sm_M → Prop) (x0 : Int32) (x1 : Int32) :
    sm_wp X 312 9 [some (.int x0), some (.int x1)] [] (sM mo G I J) Q =
    (True ∧ Q (some (.int x1)) (sM mo G I J)) :=
  (sm_blk X 312 9 (tt_lin 312 (by decide)) rfl rfl _ _ _ _).trans rfl
set_option maxRecDepth 100000 in
theorem bk_312_10 (X : (Nat → Int32) × Nat) (mo : Bool) (G : Nat × Nat) (I : Nat → Nat → Int32) (J : Nat → Nat → Int64) (Q : Option Value → sm_M → Prop) (x0 : Int32) (x1 : Int32) (s0 : Int32) :
    sm_wp X 312 10 [some (.int x0), some (.int x1)] [.int s0] (sM mo G I J) Q =
    (True ∧ Q (some (.int s0)) (sM mo G I J)) :=
  (sm_blk X 312 10 (tt_lin 312 (by decide)) rfl rfl _ _ _ _).trans rfl
set_option maxRecDepth 100000 in
theorem bk_313_0 (X : (Nat → Int32) × Nat) (mo : Bool) (G : Nat × Nat) (I : Nat → Nat → Int32) (J : Nat → Nat → Int64) (Q : Option Value → sm_M → Prop) (x0 : Int64) :
    sm_wp X 313 0 [some (.long x0), none] [] (sM mo G I J) Q =
    (if 0 ≤ (lg_cmp x0 0 : Int32) then sm_wp X 313 11 [some (.long x0), none] [] (sM mo G I J) Q else (sm_wp X 313 12 [some (.long x0), none] [.long (-x0)] (sM mo G I J) Q)) :=
  (sm_blk X 313 0 (tt_lin 313 (by decide)) rfl rfl _ _ _ _).trans rfl
set_option maxRecDepth 100000 in
theorem bk_313_11 (X : (Nat → Int32) × Nat) (mo : Bool) (G : Nat × Nat) (I : Nat → Nat → Int32) (J : Nat → Nat → Int64) (Q : Option Value → sm_M → Prop) (x0 : Int64) :
    sm_wp X 313 11 [some (.long x0), none] [] (sM mo G I J) Q =
    (True ∧ Q (some (.long x0)) (sM mo G I J)) :=
  (sm_blk X 313 11 (tt_lin 313 (by decide)) rfl rfl _ _ _ _).trans rfl
set_option maxRecDepth 100000 in
theorem bk_313_12 (X : (Nat → Int32) × Nat) (mo : Bool) (G : Nat × Nat) (I : Nat → Nat → Int32) (J : Nat → Nat → Int64) (Q : Option Value → sm_M → Prop) (x0 : Int64) (s0 : Int64) :
    sm_wp X 313 12 [some (.long x0), none] [.long s0] (sM mo G I J) Q =
    (True ∧ Q (some (.long s0)) (sM mo G I J)) :=
  (sm_blk X 313 12 (tt_lin 313 (by decide)) rfl rfl _ _ _ _).trans rfl
set_option maxRecDepth 100000 in
theorem bk_314_0 (X : (Nat → Int32) × Nat) (mo : Bool) (G : Nat × Nat) (I : Nat → Nat → Int32) (J : Nat → Nat → Int64) (Q : Option Value → sm_M → Prop) (x0 : Int32) :
    sm_wp X 314 0 [some (.int x0)] [] (sM mo G I J) Q =
    (True ∧ Q (some (.int ((((((((x0 - (((x0.toUInt32 >>> ((1 : Int32).toUInt32 &&& Int32.toUInt32 31)).toInt32) &&& 1431655765)) &&& 858993459) + ((((x0 - (((x0.toUInt32 >>> ((1 : Int32).toUInt32 &&& Int32.toUInt32 31)).toInt32) &&& 1431655765)).toUInt32 >>> ((2 : Int32).toUInt32 &&& Int32.toUInt32 31)).toInt32) &&& 858993459)) + (((((x0 - (((x0.toUInt32 >>> ((1 : Int32).toUInt32 &&& Int32.toUInt32 31)).toInt32) &&& 1431655765)) &&& 858993459) + ((((x0 - (((x0.toUInt32 >>> ((1 : Int32).toUInt32 &&& Int32.toUInt32 31)).toInt32) &&& 1431655765)).toUInt32 >>> ((2 : Int32).toUInt32 &&& Int32.toUInt32 31)).toInt32) &&& 858993459)).toUInt32 >>> ((4 : Int32).toUInt32 &&& Int32.toUInt32 31)).toInt32)) &&& 252645135) + (((((((x0 - (((x0.toUInt32 >>> ((1 : Int32).toUInt32 &&& Int32.toUInt32 31)).toInt32) &&& 1431655765)) &&& 858993459) + ((((x0 - (((x0.toUInt32 >>> ((1 : Int32).toUInt32 &&& Int32.toUInt32 31)).toInt32) &&& 1431655765)).toUInt32 >>> ((2 : Int32).toUInt32 &&& Int32.toUInt32 31)).toInt32) &&& 858993459)) + (((((x0 - (((x0.toUInt32 >>> ((1 : Int32).toUInt32 &&& Int32.toUInt32 31)).toInt32) &&& 1431655765)) &&& 858993459) + ((((x0 - (((x0.toUInt32 >>> ((1 : Int32).toUInt32 &&& Int32.toUInt32 31)).toInt32) &&& 1431655765)).toUInt32 >>> ((2 : Int32).toUInt32 &&& Int32.toUInt32 31)).toInt32) &&& 858993459)).toUInt32 >>> ((4 : Int32).toUInt32 &&& Int32.toUInt32 31)).toInt32)) &&& 252645135).toUInt32 >>> ((8 : Int32).toUInt32 &&& Int32.toUInt32 31)).toInt32)) + ((((((((x0 - (((x0.toUInt32 >>> ((1 : Int32).toUInt32 &&& Int32.toUInt32 31)).toInt32) &&& 1431655765)) &&& 858993459) + ((((x0 - (((x0.toUInt32 >>> ((1 : Int32).toUInt32 &&& Int32.toUInt32 31)).toInt32) &&& 1431655765)).toUInt32 >>> ((2 : Int32).toUInt32 &&& Int32.toUInt32 31)).toInt32) &&& 858993459)) + (((((x0 - (((x0.toUInt32 >>> ((1 : Int32).toUInt32 &&& Int32.toUInt32 31)).toInt32) &&& 1431655765)) &&& 858993459) + ((((x0 - (((x0.toUInt32 >>> ((1 : Int32).toUInt32 &&& Int32.toUInt32 31)).toInt32) &&& 1431655765)).toUInt32 >>> ((2 : Int32).toUInt32 &&& Int32.toUInt32 31)).toInt32) &&& 858993459)).toUInt32 >>> ((4 : Int32).toUInt32 &&& Int32.toUInt32 31)).toInt32)) &&& 252645135) + (((((((x0 - (((x0.toUInt32 >>> ((1 : Int32).toUInt32 &&& Int32.toUInt32 31)).toInt32) &&& 1431655765)) &&& 858993459) + ((((x0 - (((x0.toUInt32 >>> ((1 : Int32).toUInt32 &&& Int32.toUInt32 31)).toInt32) &&& 1431655765)).toUInt32 >>> ((2 : Int32).toUInt32 &&& Int32.toUInt32 31)).toInt32) &&& 858993459)) + (((((x0 - (((x0.toUInt32 >>> ((1 : Int32).toUInt32 &&& Int32.toUInt32 31)).toInt32) &&& 1431655765)) &&& 858993459) + ((((x0 - (((x0.toUInt32 >>> ((1 : Int32).toUInt32 &&& Int32.toUInt32 31)).toInt32) &&& 1431655765)).toUInt32 >>> ((2 : Int32).toUInt32 &&& Int32.toUInt32 31)).toInt32) &&& 858993459)).toUInt32 >>> ((4 : Int32).toUInt32 &&& Int32.toUInt32 31)).toInt32)) &&& 252645135).toUInt32 >>> ((8 : Int32).toUInt32 &&& Int32.toUInt32 31)).toInt32)).toUInt32 >>> ((16 : Int32).toUInt32 &&& Int32.toUInt32 31)).toInt32)) &&& 63))) (sM mo G I J)) :=
  (sm_blk X 314 0 (tt_lin 314 (by decide)) rfl rfl _ _ _ _).trans rfl
end
