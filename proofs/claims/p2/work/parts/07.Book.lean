set_option maxRecDepth 100000 in
theorem bk_40_0 (X : (Nat → Int32) × Nat) (mo : Bool) (G : Nat × Nat) (I : Nat → Nat → Int32) (J : Nat → Nat → Int64) (Q : Option Value → sm_M → Prop) (x2 : Int32) :
    sm_wp X 40 0 [some (.ref 21), some (.ref 16), some (.int x2), none] [] (sM mo G I J) Q =
    (if (x2 : Int32) < 0 then sm_wp X 40 10 [some (.ref 21), some (.ref 16), some (.int x2), none] [] (sM mo G I J) Q else (if (x2 : Int32) < (6 : Int32) then sm_wp X 40 11 [some (.ref 21), some (.ref 16), some (.int x2), none] [] (sM mo G I J) Q else (True ∧ Q none (sM mo G I J)))) :=
  (sm_blk X 40 0 (tt_lin 40 (by decide)) rfl rfl _ _ _ _).trans rfl
set_option maxRecDepth 100000 in
theorem bk_40_10 (X : (Nat → Int32) × Nat) (mo : Bool) (G : Nat × Nat) (I : Nat → Nat → Int32) (J : Nat → Nat → Int64) (Q : Option Value → sm_M → Prop) (x2 : Int32) :
    sm_wp X 40 10 [some (.ref 21), some (.ref 16), some (.int x2), none] [] (sM mo G I J) Q =
    (True ∧ Q none (sM mo G I J)) :=
  (sm_blk X 40 10 (tt_lin 40 (by decide)) rfl rfl _ _ _ _).trans rfl
set_option maxRecDepth 100000 in
theorem bk_40_11 (X : (Nat → Int32) × Nat) (mo : Bool) (G : Nat × Nat) (I : Nat → Nat → Int32) (J : Nat → Nat → Int64) (Q : Option Value → sm_M → Prop) (x2 : Int32) :
    sm_wp X 40 11 [some (.ref 21), some (.ref 16), some (.int x2), none] [] (sM mo G I J) Q =
    (True ∧ (vp_in x2 6 ∧ (sm_wp X 40 28 [some (.ref 21), some (.ref 16), some (.int x2), some (.int 0)] [] (sM mo G (up2 I 22 x2.toNatClampNeg (if (16 : Int32) < I 16 2 then 16 else I 16 2)) J) Q))) :=
  (sm_blk X 40 11 (tt_lin 40 (by decide)) rfl rfl _ _ _ _).trans rfl
set_option maxRecDepth 100000 in
theorem bk_40_28 (X : (Nat → Int32) × Nat) (mo : Bool) (G : Nat × Nat) (I : Nat → Nat → Int32) (J : Nat → Nat → Int64) (Q : Option Value → sm_M → Prop) (x2 : Int32) (x3 : Int32) :
    sm_wp X 40 28 [some (.ref 21), some (.ref 16), some (.int x2), some (.int x3)] [] (sM mo G I J) Q =
    (if (64 : Int32) ≤ (x3 : Int32) then sm_wp X 40 57 [some (.ref 21), some (.ref 16), some (.int x2), some (.int x3)] [] (sM mo G I J) Q else (vp_in x3 64 ∧ (vp_in ((x2 * 64) + x3) 384 ∧ (sm_wp X 40 28 [some (.ref 21), some (.ref 16), some (.int x2), some (.int (x3 + 1))] [] (sM mo G (up2 I 23 ((x2 * 64) + x3).toNatClampNeg (I 17 (x3.toNatClampNeg))) J) Q)))) :=
  (sm_blk X 40 28 (tt_lin 40 (by decide)) rfl rfl _ _ _ _).trans rfl
set_option maxRecDepth 100000 in
theorem bk_40_57 (X : (Nat → Int32) × Nat) (mo : Bool) (G : Nat × Nat) (I : Nat → Nat → Int32) (J : Nat → Nat → Int64) (Q : Option Value → sm_M → Prop) (x2 : Int32) (x3 : Int32) :
    sm_wp X 40 57 [some (.ref 21), some (.ref 16), some (.int x2), some (.int x3)] [] (sM mo G I J) Q =
    (sm_wp X 40 59 [some (.ref 21), some (.ref 16), some (.int x2), some (.int 0)] [] (sM mo G I J) Q) :=
  (sm_blk X 40 57 (tt_lin 40 (by decide)) rfl rfl _ _ _ _).trans rfl
set_option maxRecDepth 100000 in
theorem bk_40_59 (X : (Nat → Int32) × Nat) (mo : Bool) (G : Nat × Nat) (I : Nat → Nat → Int32) (J : Nat → Nat → Int64) (Q : Option Value → sm_M → Prop) (x2 : Int32) (x3 : Int32) :
    sm_wp X 40 59 [some (.ref 21), some (.ref 16), some (.int x2), some (.int x3)] [] (sM mo G I J) Q =
    (if (16 : Int32) ≤ (x3 : Int32) then sm_wp X 40 105 [some (.ref 21), some (.ref 16), some (.int x2), some (.int x3)] [] (sM mo G I J) Q else (vp_in x3 16 ∧ (vp_in ((x2 * 16) + x3) 96 ∧ (vp_in x3 16 ∧ (vp_in ((x2 * 16) + x3) 96 ∧ (sm_wp X 40 59 [some (.ref 21), some (.ref 16), some (.int x2), some (.int (x3 + 1))] [] (sM mo G (up2 (up2 I 24 ((x2 * 16) + x3).toNatClampNeg (I 18 (x3.toNatClampNeg))) 25 ((x2 * 16) + x3).toNatClampNeg ((up2 I 24 ((x2 * 16) + x3).toNatClampNeg (I 18 (x3.toNatClampNeg))) 19 (x3.toNatClampNeg))) J) Q)))))) :=
  (sm_blk X 40 59 (tt_lin 40 (by decide)) rfl rfl _ _ _ _).trans rfl
set_option maxRecDepth 100000 in
theorem bk_40_105 (X : (Nat → Int32) × Nat) (mo : Bool) (G : Nat × Nat) (I : Nat → Nat → Int32) (J : Nat → Nat → Int64) (Q : Option Value → sm_M → Prop) (x2 : Int32) (x3 : Int32) :
    sm_wp X 40 105 [some (.ref 21), some (.ref 16), some (.int x2), some (.int x3)] [] (sM mo G I J) Q =
    (True ∧ Q none (sM mo G I J)) :=
  (sm_blk X 40 105 (tt_lin 40 (by decide)) rfl rfl _ _ _ _).trans rfl
set_option maxRecDepth 100000 in
theorem bk_41_0 (X : (Nat → Int32) × Nat) (mo : Bool) (G : Nat × Nat) (I : Nat → Nat → Int32) (J : Nat → Nat → Int64) (Q : Option Value → sm_M → Prop) (x1 : Int32) :
    sm_wp X 41 0 [some (.ref 21), some (.int x1)] [] (sM mo G I J) Q =
    (if (x1 : Int32) < 0 then sm_wp X 41 19 [some (.ref 21), some (.int x1)] [] (sM mo G I J) Q else (if (6 : Int32) ≤ (x1 : Int32) then sm_wp X 41 19 [some (.ref 21), some (.int x1)] [] (sM mo G I J) Q else (vp_in x1 6 ∧ (sm_wp X 41 20 [some (.ref 21), some (.int x1)] [.int (I 22 (x1.toNatClampNeg))] (sM mo G I J) Q)))) :=
  (sm_blk X 41 0 (tt_lin 41 (by decide)) rfl rfl _ _ _ _).trans rfl
set_option maxRecDepth 100000 in
theorem bk_41_19 (X : (Nat → Int32) × Nat) (mo : Bool) (G : Nat × Nat) (I : Nat → Nat → Int32) (J : Nat → Nat → Int64) (Q : Option Value → sm_M → Prop) (x1 : Int32) :
    sm_wp X 41 19 [some (.ref 21), some (.int x1)] [] (sM mo G I J) Q =
    (True ∧ Q (some (.int 0)) (sM mo G I J)) :=
  (sm_blk X 41 19 (tt_lin 41 (by decide)) rfl rfl _ _ _ _).trans rfl
set_option maxRecDepth 100000 in
theorem bk_41_20 (X : (Nat → Int32) × Nat) (mo : Bool) (G : Nat × Nat) (I : Nat → Nat → Int32) (J : Nat → Nat → Int64) (Q : Option Value → sm_M → Prop) (x1 : Int32) (s0 : Int32) :
    sm_wp X 41 20 [some (.ref 21), some (.int x1)] [.int s0] (sM mo G I J) Q =
    (True ∧ Q (some (.int s0)) (sM mo G I J)) :=
  (sm_blk X 41 20 (tt_lin 41 (by decide)) rfl rfl _ _ _ _).trans rfl
set_option maxRecDepth 100000 in
theorem bk_42_0 (X : (Nat → Int32) × Nat) (mo : Bool) (G : Nat × Nat) (I : Nat → Nat → Int32) (J : Nat → Nat → Int64) (Q : Option Value → sm_M → Prop) (x1 : Int32) (x2 : Int32) :
    sm_wp X 42 0 [some (.ref 21), some (.int x1), some (.int x2)] [] (sM mo G I J) Q =
    (sm_wp X 43 0 [some (.ref 21), some (.int x1), some (.int x2)] [] (sM mo G I J) (fun v M => sm_wp X 42 6 [some (.ref 21), some (.int x1), some (.int x2)] (v.toList ++ []) M Q)) :=
  (sm_blk X 42 0 (tt_lin 42 (by decide)) rfl rfl _ _ _ _).trans rfl
set_option maxRecDepth 100000 in
theorem bk_42_6 (X : (Nat → Int32) × Nat) (mo : Bool) (G : Nat × Nat) (I : Nat → Nat → Int32) (J : Nat → Nat → Int64) (Q : Option Value → sm_M → Prop) (x1 : Int32) (x2 : Int32) (s0 : Int32) :
    sm_wp X 42 6 [some (.ref 21), some (.int x1), some (.int x2)] [.int s0] (sM mo G I J) Q =
    (if (s0 : Int32) = 0 then sm_wp X 42 23 [some (.ref 21), some (.int x1), some (.int x2)] [] (sM mo G I J) Q else (vp_in ((x1 * 16) + x2) 96 ∧ (sm_wp X 42 24 [some (.ref 21), some (.int x1), some (.int x2)] [.int (I 24 (((x1 * 16) + x2).toNatClampNeg))] (sM mo G I J) Q))) :=
  (sm_blk X 42 6 (tt_lin 42 (by decide)) rfl rfl _ _ _ _).trans rfl
set_option maxRecDepth 100000 in
theorem bk_42_23 (X : (Nat → Int32) × Nat) (mo : Bool) (G : Nat × Nat) (I : Nat → Nat → Int32) (J : Nat → Nat → Int64) (Q : Option Value → sm_M → Prop) (x1 : Int32) (x2 : Int32) :
    sm_wp X 42 23 [some (.ref 21), some (.int x1), some (.int x2)] [] (sM mo G I J) Q =
    (True ∧ Q (some (.int (-1))) (sM mo G I J)) :=
  (sm_blk X 42 23 (tt_lin 42 (by decide)) rfl rfl _ _ _ _).trans rfl
set_option maxRecDepth 100000 in
theorem bk_42_24 (X : (Nat → Int32) × Nat) (mo : Bool) (G : Nat × Nat) (I : Nat → Nat → Int32) (J : Nat → Nat → Int64) (Q : Option Value → sm_M → Prop) (x1 : Int32) (x2 : Int32) (s0 : Int32) :
    sm_wp X 42 24 [some (.ref 21), some (.int x1), some (.int x2)] [.int s0] (sM mo G I J) Q =
    (True ∧ Q (some (.int s0)) (sM mo G I J)) :=
  (sm_blk X 42 24 (tt_lin 42 (by decide)) rfl rfl _ _ _ _).trans rfl
set_option maxRecDepth 100000 in
theorem bk_43_0 (X : (Nat → Int32) × Nat) (mo : Bool) (G : Nat × Nat) (I : Nat → Nat → Int32) (J : Nat → Nat → Int64) (Q : Option Value → sm_M → Prop) (x1 : Int32) (x2 : Int32) :
    sm_wp X 43 0 [some (.ref 21), some (.int x1), some (.int x2)] [] (sM mo G I J) Q =
    (if (x2 : Int32) < 0 then sm_wp X 43 23 [some (.ref 21), some (.int x1), some (.int x2)] [] (sM mo G I J) Q else (if (16 : Int32) ≤ (x2 : Int32) then sm_wp X 43 23 [some (.ref 21), some (.int x1), some (.int x2)] [] (sM mo G I J) Q else (sm_wp X 41 0 [some (.ref 21), some (.int x1)] [] (sM mo G I J) (fun v M => sm_wp X 43 16 [some (.ref 21), some (.int x1), some (.int x2)] (v.toList ++ [.int x2]) M Q)))) :=
  (sm_blk X 43 0 (tt_lin 43 (by decide)) rfl rfl _ _ _ _).trans rfl
set_option maxRecDepth 100000 in
theorem bk_43_16 (X : (Nat → Int32) × Nat) (mo : Bool) (G : Nat × Nat) (I : Nat → Nat → Int32) (J : Nat → Nat → Int64) (Q : Option Value → sm_M → Prop) (x1 : Int32) (x2 : Int32) (s0 : Int32) (s1 : Int32) :
    sm_wp X 43 16 [some (.ref 21), some (.int x1), some (.int x2)] [.int s1, .int s0] (sM mo G I J) Q =
    (if (s1 : Int32) ≤ (s0 : Int32) then sm_wp X 43 23 [some (.ref 21), some (.int x1), some (.int x2)] [] (sM mo G I J) Q else (sm_wp X 43 24 [some (.ref 21), some (.int x1), some (.int x2)] [.int 1] (sM mo G I J) Q)) :=
  (sm_blk X 43 16 (tt_lin 43 (by decide)) rfl rfl _ _ _ _).trans rfl
set_option maxRecDepth 100000 in
theorem bk_43_23 (X : (Nat → Int32) × Nat) (mo : Bool) (G : Nat × Nat) (I : Nat → Nat → Int32) (J : Nat → Nat → Int64) (Q : Option Value → sm_M → Prop) (x1 : Int32) (x2 : Int32) :
    sm_wp X 43 23 [some (.ref 21), some (.int x1), some (.int x2)] [] (sM mo G I J) Q =
    (sm_zb 0 ∧ Q (some (.int 0)) (sM mo G I J)) :=
  (sm_blk X 43 23 (tt_lin 43 (by decide)) rfl rfl _ _ _ _).trans rfl
set_option maxRecDepth 100000 in
theorem bk_43_24 (X : (Nat → Int32) × Nat) (mo : Bool) (G : Nat × Nat) (I : Nat → Nat → Int32) (J : Nat → Nat → Int64) (Q : Option Value → sm_M → Prop) (x1 : Int32) (x2 : Int32) (s0 : Int32) :
    sm_wp X 43 24 [some (.ref 21), some (.int x1), some (.int x2)] [.int s0] (sM mo G I J) Q =
    (sm_zb s0 ∧ Q (some (.int s0)) (sM mo G I J)) :=
  (sm_blk X 43 24 (tt_lin 43 (by decide)) rfl rfl _ _ _ _).trans rfl
set_option maxRecDepth 100000 in
theorem bk_44_0 (X : (Nat → Int32) × Nat) (mo : Bool) (G : Nat × Nat) (I : Nat → Nat → Int32) (J : Nat → Nat → Int64) (Q : Option Value → sm_M → Prop) (x1 : Int32) (x2 : Int32) :
    sm_wp X 44 0 [some (.ref 21), some (.int x1), some (.int x2)] [] (sM mo G I J) Q =
    (sm_wp X 43 0 [some (.ref 21), some (.int x1), some (.int x2)] [] (sM mo G I J) (fun v M => sm_wp X 44 6 [some (.ref 21), some (.int x1), some (.int x2)] (v.toList ++ []) M Q)) :=
  (sm_blk X 44 0 (tt_lin 44 (by decide)) rfl rfl _ _ _ _).trans rfl
set_option maxRecDepth 100000 in
theorem bk_44_6 (X : (Nat → Int32) × Nat) (mo : Bool) (G : Nat × Nat) (I : Nat → Nat → Int32) (J : Nat → Nat → Int64) (Q : Option Value → sm_M → Prop) (x1 : Int32) (x2 : Int32) (s0 : Int32) :
    sm_wp X 44 6 [some (.ref 21), some (.int x1), some (.int x2)] [.int s0] (sM mo G I J) Q =
    (if (s0 : Int32) = 0 then sm_wp X 44 23 [some (.ref 21), some (.int x1), some (.int x2)] [] (sM mo G I J) Q else (vp_in ((x1 * 16) + x2) 96 ∧ (sm_wp X 44 24 [some (.ref 21), some (.int x1), some (.int x2)] [.int (I 25 (((x1 * 16) + x2).toNatClampNeg))] (sM mo G I J) Q))) :=
  (sm_blk X 44 6 (tt_lin 44 (by decide)) rfl rfl _ _ _ _).trans rfl
set_option maxRecDepth 100000 in
theorem bk_44_23 (X : (Nat → Int32) × Nat) (mo : Bool) (G : Nat × Nat) (I : Nat → Nat → Int32) (J : Nat → Nat → Int64) (Q : Option Value → sm_M → Prop) (x1 : Int32) (x2 : Int32) :
    sm_wp X 44 23 [some (.ref 21), some (.int x1), some (.int x2)] [] (sM mo G I J) Q =
    (True ∧ Q (some (.int 0)) (sM mo G I J)) :=
  (sm_blk X 44 23 (tt_lin 44 (by decide)) rfl rfl _ _ _ _).trans rfl
set_option maxRecDepth 100000 in
theorem bk_44_24 (X : (Nat → Int32) × Nat) (mo : Bool) (G : Nat × Nat) (I : Nat → Nat → Int32) (J : Nat → Nat → Int64) (Q : Option Value → sm_M → Prop) (x1 : Int32) (x2 : Int32) (s0 : Int32) :
    sm_wp X 44 24 [some (.ref 21), some (.int x1), some (.int x2)] [.int s0] (sM mo G I J) Q =
    (True ∧ Q (some (.int s0)) (sM mo G I J)) :=
  (sm_blk X 44 24 (tt_lin 44 (by decide)) rfl rfl _ _ _ _).trans rfl
set_option maxRecDepth 100000 in
theorem bk_45_0 (X : (Nat → Int32) × Nat) (mo : Bool) (G : Nat × Nat) (I : Nat → Nat → Int32) (J : Nat → Nat → Int64) (Q : Option Value → sm_M → Prop) (x1 : Int32) (x2 : Int32) :
    sm_wp X 45 0 [some (.ref 21), some (.int x1), some (.int x2)] [] (sM mo G I J) Q =
    (if (x1 : Int32) < 0 then sm_wp X 45 20 [some (.ref 21), some (.int x1), some (.int x2)] [] (sM mo G I J) Q else (if (6 : Int32) ≤ (x1 : Int32) then sm_wp X 45 20 [some (.ref 21), some (.int x1), some (.int x2)] [] (sM mo G I J) Q else (if (x2 : Int32) < 0 then sm_wp X 45 20 [some (.ref 21), some (.int x1), some (.int x2)] [] (sM mo G I J) Q else (if (x2 : Int32) < (64 : Int32) then sm_wp X 45 23 [some (.ref 21), some (.int x1), some (.int x2)] [] (sM mo G I J) Q else (True ∧ Q (some (.int 100)) (sM mo G I J)))))) :=
  (sm_blk X 45 0 (tt_lin 45 (by decide)) rfl rfl _ _ _ _).trans rfl
set_option maxRecDepth 100000 in
theorem bk_45_20 (X : (Nat → Int32) × Nat) (mo : Bool) (G : Nat × Nat) (I : Nat → Nat → Int32) (J : Nat → Nat → Int64) (Q : Option Value → sm_M → Prop) (x1 : Int32) (x2 : Int32) :
    sm_wp X 45 20 [some (.ref 21), some (.int x1), some (.int x2)] [] (sM mo G I J) Q =
    (True ∧ Q (some (.int 100)) (sM mo G I J)) :=
  (sm_blk X 45 20 (tt_lin 45 (by decide)) rfl rfl _ _ _ _).trans rfl
set_option maxRecDepth 100000 in
theorem bk_45_23 (X : (Nat → Int32) × Nat) (mo : Bool) (G : Nat × Nat) (I : Nat → Nat → Int32) (J : Nat → Nat → Int64) (Q : Option Value → sm_M → Prop) (x1 : Int32) (x2 : Int32) :
    sm_wp X 45 23 [some (.ref 21), some (.int x1), some (.int x2)] [] (sM mo G I J) Q =
    (vp_in ((x1 * 64) + x2) 384 ∧ (True ∧ Q (some (.int (I 23 (((x1 * 64) + x2).toNatClampNeg)))) (sM mo G I J))) :=
  (sm_blk X 45 23 (tt_lin 45 (by decide)) rfl rfl _ _ _ _).trans rfl
