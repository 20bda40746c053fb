set_option maxRecDepth 100000 in
theorem bk_88_0 (X : (Nat → Int32) × Nat) (mo : Bool) (G : Nat × Nat) (I : Nat → Nat → Int32) (J : Nat → Nat → Int64) (Q : Option Value → sm_M → Prop) (x1 : Int32) :
    sm_wp X 88 0 [some (.ref 1), some (.int x1)] [] (sM mo G I J) Q =
    (if (x1 : Int32) < 0 then sm_wp X 88 22 [some (.ref 1), some (.int x1)] [] (sM mo G I J) Q else (if (I 1 1 : Int32) ≤ (x1 : Int32) then sm_wp X 88 22 [some (.ref 1), some (.int x1)] [] (sM mo G I J) Q else (if (6 : Int32) ≤ (x1 : Int32) then sm_wp X 88 22 [some (.ref 1), some (.int x1)] [] (sM mo G I J) Q else (sm_wp X 88 23 [some (.ref 1), some (.int x1)] [.int 1] (sM mo G I J) Q)))) :=
  (sm_blk X 88 0 (tt_lin 88 (by decide)) rfl rfl _ _ _ _).trans rfl
set_option maxRecDepth 100000 in
theorem bk_88_22 (X : (Nat → Int32) × Nat) (mo : Bool) (G : Nat × Nat) (I : Nat → Nat → Int32) (J : Nat → Nat → Int64) (Q : Option Value → sm_M → Prop) (x1 : Int32) :
    sm_wp X 88 22 [some (.ref 1), some (.int x1)] [] (sM mo G I J) Q =
    (sm_zb 0 ∧ Q (some (.int 0)) (sM mo G I J)) :=
  (sm_blk X 88 22 (tt_lin 88 (by decide)) rfl rfl _ _ _ _).trans rfl
set_option maxRecDepth 100000 in
theorem bk_88_23 (X : (Nat → Int32) × Nat) (mo : Bool) (G : Nat × Nat) (I : Nat → Nat → Int32) (J : Nat → Nat → Int64) (Q : Option Value → sm_M → Prop) (x1 : Int32) (s0 : Int32) :
    sm_wp X 88 23 [some (.ref 1), some (.int x1)] [.int s0] (sM mo G I J) Q =
    (sm_zb s0 ∧ Q (some (.int s0)) (sM mo G I J)) :=
  (sm_blk X 88 23 (tt_lin 88 (by decide)) rfl rfl _ _ _ _).trans rfl
set_option maxRecDepth 100000 in
theorem bk_89_0 (X : (Nat → Int32) × Nat) (mo : Bool) (G : Nat × Nat) (I : Nat → Nat → Int32) (J : Nat → Nat → Int64) (Q : Option Value → sm_M → Prop) (x1 : Int32) :
    sm_wp X 89 0 [some (.ref 1), some (.int x1)] [] (sM mo G I J) Q =
    (if (I 1 0 : Int32) < (12 : Int32) then sm_wp X 89 11 [some (.ref 1), some (.int x1)] [] (sM mo G I J) Q else (True ∧ Q (some (.int (-1))) (sM mo G I J))) :=
  (sm_blk X 89 0 (tt_lin 89 (by decide)) rfl rfl _ _ _ _).trans rfl
set_option maxRecDepth 100000 in
theorem bk_89_11 (X : (Nat → Int32) × Nat) (mo : Bool) (G : Nat × Nat) (I : Nat → Nat → Int32) (J : Nat → Nat → Int64) (Q : Option Value → sm_M → Prop) (x1 : Int32) :
    sm_wp X 89 11 [some (.ref 1), some (.int x1)] [] (sM mo G I J) Q =
    (vp_in (I 1 0) 12 ∧ (vp_in ((up2 I 2 (I 1 0).toNatClampNeg x1) 1 0) 12 ∧ (True ∧ Q (some (.int (((up2 (up2 (up2 (up2 I 2 (I 1 0).toNatClampNeg x1) 4 ((up2 I 2 (I 1 0).toNatClampNeg x1) 1 0).toNatClampNeg (-1)) 1 0 (((up2 (up2 I 2 (I 1 0).toNatClampNeg x1) 4 ((up2 I 2 (I 1 0).toNatClampNeg x1) 1 0).toNatClampNeg (-1)) 1 0) + 1)) 1 4 (((up2 (up2 (up2 I 2 (I 1 0).toNatClampNeg x1) 4 ((up2 I 2 (I 1 0).toNatClampNeg x1) 1 0).toNatClampNeg (-1)) 1 0 (((up2 (up2 I 2 (I 1 0).toNatClampNeg x1) 4 ((up2 I 2 (I 1 0).toNatClampNeg x1) 1 0).toNatClampNeg (-1)) 1 0) + 1)) 1 4) + 1)) 1 0) - 1))) (sM mo G (up2 (up2 (up2 (up2 I 2 (I 1 0).toNatClampNeg x1) 4 ((up2 I 2 (I 1 0).toNatClampNeg x1) 1 0).toNatClampNeg (-1)) 1 0 (((up2 (up2 I 2 (I 1 0).toNatClampNeg x1) 4 ((up2 I 2 (I 1 0).toNatClampNeg x1) 1 0).toNatClampNeg (-1)) 1 0) + 1)) 1 4 (((up2 (up2 (up2 I 2 (I 1 0).toNatClampNeg x1) 4 ((up2 I 2 (I 1 0).toNatClampNeg x1) 1 0).toNatClampNeg (-1)) 1 0 (((up2 (up2 I 2 (I 1 0).toNatClampNeg x1) 4 ((up2 I 2 (I 1 0).toNatClampNeg x1) 1 0).toNatClampNeg (-1)) 1 0) + 1)) 1 4) + 1)) J)))) :=
  (sm_blk X 89 11 (tt_lin 89 (by decide)) rfl rfl _ _ _ _).trans rfl
set_option maxRecDepth 100000 in
theorem bk_90_0 (X : (Nat → Int32) × Nat) (mo : Bool) (G : Nat × Nat) (I : Nat → Nat → Int32) (J : Nat → Nat → Int64) (Q : Option Value → sm_M → Prop) (x1 : Int32) :
    sm_wp X 90 0 [some (.ref 1), some (.int x1)] [] (sM mo G I J) Q =
    (if (x1 : Int32) < 0 then sm_wp X 90 22 [some (.ref 1), some (.int x1)] [] (sM mo G I J) Q else (if (I 1 0 : Int32) ≤ (x1 : Int32) then sm_wp X 90 22 [some (.ref 1), some (.int x1)] [] (sM mo G I J) Q else (if (12 : Int32) ≤ (x1 : Int32) then sm_wp X 90 22 [some (.ref 1), some (.int x1)] [] (sM mo G I J) Q else (sm_wp X 90 23 [some (.ref 1), some (.int x1)] [.int 1] (sM mo G I J) Q)))) :=
  (sm_blk X 90 0 (tt_lin 90 (by decide)) rfl rfl _ _ _ _).trans rfl
set_option maxRecDepth 100000 in
theorem bk_90_22 (X : (Nat → Int32) × Nat) (mo : Bool) (G : Nat × Nat) (I : Nat → Nat → Int32) (J : Nat → Nat → Int64) (Q : Option Value → sm_M → Prop) (x1 : Int32) :
    sm_wp X 90 22 [some (.ref 1), some (.int x1)] [] (sM mo G I J) Q =
    (sm_zb 0 ∧ Q (some (.int 0)) (sM mo G I J)) :=
  (sm_blk X 90 22 (tt_lin 90 (by decide)) rfl rfl _ _ _ _).trans rfl
set_option maxRecDepth 100000 in
theorem bk_90_23 (X : (Nat → Int32) × Nat) (mo : Bool) (G : Nat × Nat) (I : Nat → Nat → Int32) (J : Nat → Nat → Int64) (Q : Option Value → sm_M → Prop) (x1 : Int32) (s0 : Int32) :
    sm_wp X 90 23 [some (.ref 1), some (.int x1)] [.int s0] (sM mo G I J) Q =
    (sm_zb s0 ∧ Q (some (.int s0)) (sM mo G I J)) :=
  (sm_blk X 90 23 (tt_lin 90 (by decide)) rfl rfl _ _ _ _).trans rfl
set_option maxRecDepth 100000 in
theorem bk_91_0 (X : (Nat → Int32) × Nat) (mo : Bool) (G : Nat × Nat) (I : Nat → Nat → Int32) (J : Nat → Nat → Int64) (Q : Option Value → sm_M → Prop) (x1 : Int32) (x2 : Int32) :
    sm_wp X 91 0 [some (.ref 1), some (.int x1), some (.int x2)] [] (sM mo G I J) Q =
    (sm_wp X 90 0 [some (.ref 1), some (.int x1)] [] (sM mo G I J) (fun v M => sm_wp X 91 5 [some (.ref 1), some (.int x1), some (.int x2)] (v.toList ++ []) M Q)) :=
  (sm_blk X 91 0 (tt_lin 91 (by decide)) rfl rfl _ _ _ _).trans rfl
set_option maxRecDepth 100000 in
theorem bk_91_5 (X : (Nat → Int32) × Nat) (mo : Bool) (G : Nat × Nat) (I : Nat → Nat → Int32) (J : Nat → Nat → Int64) (Q : Option Value → sm_M → Prop) (x1 : Int32) (x2 : Int32) (s0 : Int32) :
    sm_wp X 91 5 [some (.ref 1), some (.int x1), some (.int x2)] [.int s0] (sM mo G I J) Q =
    (if (s0 : Int32) = 0 then sm_wp X 91 25 [some (.ref 1), some (.int x1), some (.int x2)] [] (sM mo G I J) Q else (vp_in x1 12 ∧ (sm_wp X 169 0 [some (.int (I 3 (x1.toNatClampNeg))), some (.int x2)] [] (sM mo G I J) (fun v M => sm_wp X 91 18 [some (.ref 1), some (.int x1), some (.int x2)] (v.toList ++ []) M Q)))) :=
  (sm_blk X 91 5 (tt_lin 91 (by decide)) rfl rfl _ _ _ _).trans rfl
set_option maxRecDepth 100000 in
theorem bk_91_18 (X : (Nat → Int32) × Nat) (mo : Bool) (G : Nat × Nat) (I : Nat → Nat → Int32) (J : Nat → Nat → Int64) (Q : Option Value → sm_M → Prop) (x1 : Int32) (x2 : Int32) (s0 : Int32) :
    sm_wp X 91 18 [some (.ref 1), some (.int x1), some (.int x2)] [.int s0] (sM mo G I J) Q =
    (if (s0 : Int32) = 0 then sm_wp X 91 25 [some (.ref 1), some (.int x1), some (.int x2)] [] (sM mo G I J) Q else (sm_wp X 91 26 [some (.ref 1), some (.int x1), some (.int x2)] [.int 1] (sM mo G I J) Q)) :=
  (sm_blk X 91 18 (tt_lin 91 (by decide)) rfl rfl _ _ _ _).trans rfl
set_option maxRecDepth 100000 in
theorem bk_91_25 (X : (Nat → Int32) × Nat) (mo : Bool) (G : Nat × Nat) (I : Nat → Nat → Int32) (J : Nat → Nat → Int64) (Q : Option Value → sm_M → Prop) (x1 : Int32) (x2 : Int32) :
    sm_wp X 91 25 [some (.ref 1), some (.int x1), some (.int x2)] [] (sM mo G I J) Q =
    (sm_zb 0 ∧ Q (some (.int 0)) (sM mo G I J)) :=
  (sm_blk X 91 25 (tt_lin 91 (by decide)) rfl rfl _ _ _ _).trans rfl
set_option maxRecDepth 100000 in
theorem bk_91_26 (X : (Nat → Int32) × Nat) (mo : Bool) (G : Nat × Nat) (I : Nat → Nat → Int32) (J : Nat → Nat → Int64) (Q : Option Value → sm_M → Prop) (x1 : Int32) (x2 : Int32) (s0 : Int32) :
    sm_wp X 91 26 [some (.ref 1), some (.int x1), some (.int x2)] [.int s0] (sM mo G I J) Q =
    (sm_zb s0 ∧ Q (some (.int s0)) (sM mo G I J)) :=
  (sm_blk X 91 26 (tt_lin 91 (by decide)) rfl rfl _ _ _ _).trans rfl
set_option maxRecDepth 100000 in
theorem bk_92_0 (X : (Nat → Int32) × Nat) (mo : Bool) (G : Nat × Nat) (I : Nat → Nat → Int32) (J : Nat → Nat → Int64) (Q : Option Value → sm_M → Prop) (x1 : Int32) (x2 : Int32) :
    sm_wp X 92 0 [some (.ref 1), some (.int x1), some (.int x2)] [] (sM mo G I J) Q =
    (sm_wp X 90 0 [some (.ref 1), some (.int x1)] [] (sM mo G I J) (fun v M => sm_wp X 92 5 [some (.ref 1), some (.int x1), some (.int x2)] (v.toList ++ []) M Q)) :=
  (sm_blk X 92 0 (tt_lin 92 (by decide)) rfl rfl _ _ _ _).trans rfl
set_option maxRecDepth 100000 in
theorem bk_92_5 (X : (Nat → Int32) × Nat) (mo : Bool) (G : Nat × Nat) (I : Nat → Nat → Int32) (J : Nat → Nat → Int64) (Q : Option Value → sm_M → Prop) (x1 : Int32) (x2 : Int32) (s0 : Int32) :
    sm_wp X 92 5 [some (.ref 1), some (.int x1), some (.int x2)] [.int s0] (sM mo G I J) Q =
    (if (s0 : Int32) = 0 then sm_wp X 92 40 [some (.ref 1), some (.int x1), some (.int x2)] [] (sM mo G I J) Q else (sm_wp X 90 0 [some (.ref 1), some (.int x2)] [] (sM mo G I J) (fun v M => sm_wp X 92 13 [some (.ref 1), some (.int x1), some (.int x2)] (v.toList ++ []) M Q))) :=
  (sm_blk X 92 5 (tt_lin 92 (by decide)) rfl rfl _ _ _ _).trans rfl
set_option maxRecDepth 100000 in
theorem bk_92_13 (X : (Nat → Int32) × Nat) (mo : Bool) (G : Nat × Nat) (I : Nat → Nat → Int32) (J : Nat → Nat → Int64) (Q : Option Value → sm_M → Prop) (x1 : Int32) (x2 : Int32) (s0 : Int32) :
    sm_wp X 92 13 [some (.ref 1), some (.int x1), some (.int x2)] [.int s0] (sM mo G I J) Q =
    (if (s0 : Int32) = 0 then sm_wp X 92 40 [some (.ref 1), some (.int x1), some (.int x2)] [] (sM mo G I J) Q else (vp_in x1 12 ∧ (vp_in x1 12 ∧ (vp_in x2 12 ∧ (vp_in x2 12 ∧ (True ∧ Q none (sM mo G (up2 (up2 I 3 x1.toNatClampNeg ((I 3 (x1.toNatClampNeg)) ||| (1 <<< (x2 &&& 31)))) 3 x2.toNatClampNeg (((up2 I 3 x1.toNatClampNeg ((I 3 (x1.toNatClampNeg)) ||| (1 <<< (x2 &&& 31)))) 3 (x2.toNatClampNeg)) ||| (1 <<< (x1 &&& 31)))) J))))))) :=
  (sm_blk X 92 13 (tt_lin 92 (by decide)) rfl rfl _ _ _ _).trans rfl
set_option maxRecDepth 100000 in
theorem bk_92_40 (X : (Nat → Int32) × Nat) (mo : Bool) (G : Nat × Nat) (I : Nat → Nat → Int32) (J : Nat → Nat → Int64) (Q : Option Value → sm_M → Prop) (x1 : Int32) (x2 : Int32) :
    sm_wp X 92 40 [some (.ref 1), some (.int x1), some (.int x2)] [] (sM mo G I J) Q =
    (True ∧ Q none (sM mo G I J)) :=
  (sm_blk X 92 40 (tt_lin 92 (by decide)) rfl rfl _ _ _ _).trans rfl
set_option maxRecDepth 100000 in
theorem bk_93_0 (X : (Nat → Int32) × Nat) (mo : Bool) (G : Nat × Nat) (I : Nat → Nat → Int32) (J : Nat → Nat → Int64) (Q : Option Value → sm_M → Prop) (x1 : Int32) (x2 : Int32) :
    sm_wp X 93 0 [some (.ref 1), some (.int x1), some (.int x2)] [] (sM mo G I J) Q =
    (if (I 1 1 : Int32) < (6 : Int32) then sm_wp X 93 11 [some (.ref 1), some (.int x1), some (.int x2)] [] (sM mo G I J) Q else (True ∧ Q (some (.int (-1))) (sM mo G I J))) :=
  (sm_blk X 93 0 (tt_lin 93 (by decide)) rfl rfl _ _ _ _).trans rfl
set_option maxRecDepth 100000 in
theorem bk_93_11 (X : (Nat → Int32) × Nat) (mo : Bool) (G : Nat × Nat) (I : Nat → Nat → Int32) (J : Nat → Nat → Int64) (Q : Option Value → sm_M → Prop) (x1 : Int32) (x2 : Int32) :
    sm_wp X 93 11 [some (.ref 1), some (.int x1), some (.int x2)] [] (sM mo G I J) Q =
    (vp_in (I 1 1) 6 ∧ (vp_in ((up2 I 10 (I 1 1).toNatClampNeg x1) 1 1) 6 ∧ (True ∧ Q (some (.int (((up2 (up2 (up2 (up2 (up2 I 10 (I 1 1).toNatClampNeg x1) 11 ((up2 I 10 (I 1 1).toNatClampNeg x1) 1 1).toNatClampNeg x2) 1 2 (((up2 (up2 I 10 (I 1 1).toNatClampNeg x1) 11 ((up2 I 10 (I 1 1).toNatClampNeg x1) 1 1).toNatClampNeg x2) 1 2) ||| (1 <<< (((up2 (up2 I 10 (I 1 1).toNatClampNeg x1) 11 ((up2 I 10 (I 1 1).toNatClampNeg x1) 1 1).toNatClampNeg x2) 1 1) &&& 31)))) 1 1 (((up2 (up2 (up2 I 10 (I 1 1).toNatClampNeg x1) 11 ((up2 I 10 (I 1 1).toNatClampNeg x1) 1 1).toNatClampNeg x2) 1 2 (((up2 (up2 I 10 (I 1 1).toNatClampNeg x1) 11 ((up2 I 10 (I 1 1).toNatClampNeg x1) 1 1).toNatClampNeg x2) 1 2) ||| (1 <<< (((up2 (up2 I 10 (I 1 1).toNatClampNeg x1) 11 ((up2 I 10 (I 1 1).toNatClampNeg x1) 1 1).toNatClampNeg x2) 1 1) &&& 31)))) 1 1) + 1)) 1 4 (((up2 (up2 (up2 (up2 I 10 (I 1 1).toNatClampNeg x1) 11 ((up2 I 10 (I 1 1).toNatClampNeg x1) 1 1).toNatClampNeg x2) 1 2 (((up2 (up2 I 10 (I 1 1).toNatClampNeg x1) 11 ((up2 I 10 (I 1 1).toNatClampNeg x1) 1 1).toNatClampNeg x2) 1 2) ||| (1 <<< (((up2 (up2 I 10 (I 1 1).toNatClampNeg x1) 11 ((up2 I 10 (I 1 1).toNatClampNeg x1) 1 1).toNatClampNeg x2) 1 1) &&& 31)))) 1 1 (((up2 (up2 (up2 I 10 (I 1 1).toNatClampNeg x1) 11 ((up2 I 10 (I 1 1).toNatClampNeg x1) 1 1).toNatClampNeg x2) 1 2 (((up2 (up2 I 10 (I 1 1).toNatClampNeg x1) 11 ((up2 I 10 (I 1 1).toNatClampNeg x1) 1 1).toNatClampNeg x2) 1 2) ||| (1 <<< (((up2 (up2 I 10 (I 1 1).toNatClampNeg x1) 11 ((up2 I 10 (I 1 1).toNatClampNeg x1) 1 1).toNatClampNeg x2) 1 1) &&& 31)))) 1 1) + 1)) 1 4) + 1)) 1 1) - 1))) (sM mo G (up2 (up2 (up2 (up2 (up2 I 10 (I 1 1).toNatClampNeg x1) 11 ((up2 I 10 (I 1 1).toNatClampNeg x1) 1 1).toNatClampNeg x2) 1 2 (((up2 (up2 I 10 (I 1 1).toNatClampNeg x1) 11 ((up2 I 10 (I 1 1).toNatClampNeg x1) 1 1).toNatClampNeg x2) 1 2) ||| (1 <<< (((up2 (up2 I 10 (I 1 1).toNatClampNeg x1) 11 ((up2 I 10 (I 1 1).toNatClampNeg x1) 1 1).toNatClampNeg x2) 1 1) &&& 31)))) 1 1 (((up2 (up2 (up2 I 10 (I 1 1).toNatClampNeg x1) 11 ((up2 I 10 (I 1 1).toNatClampNeg x1) 1 1).toNatClampNeg x2) 1 2 (((up2 (up2 I 10 (I 1 1).toNatClampNeg x1) 11 ((up2 I 10 (I 1 1).toNatClampNeg x1) 1 1).toNatClampNeg x2) 1 2) ||| (1 <<< (((up2 (up2 I 10 (I 1 1).toNatClampNeg x1) 11 ((up2 I 10 (I 1 1).toNatClampNeg x1) 1 1).toNatClampNeg x2) 1 1) &&& 31)))) 1 1) + 1)) 1 4 (((up2 (up2 (up2 (up2 I 10 (I 1 1).toNatClampNeg x1) 11 ((up2 I 10 (I 1 1).toNatClampNeg x1) 1 1).toNatClampNeg x2) 1 2 (((up2 (up2 I 10 (I 1 1).toNatClampNeg x1) 11 ((up2 I 10 (I 1 1).toNatClampNeg x1) 1 1).toNatClampNeg x2) 1 2) ||| (1 <<< (((up2 (up2 I 10 (I 1 1).toNatClampNeg x1) 11 ((up2 I 10 (I 1 1).toNatClampNeg x1) 1 1).toNatClampNeg x2) 1 1) &&& 31)))) 1 1 (((up2 (up2 (up2 I 10 (I 1 1).toNatClampNeg x1) 11 ((up2 I 10 (I 1 1).toNatClampNeg x1) 1 1).toNatClampNeg x2) 1 2 (((up2 (up2 I 10 (I 1 1).toNatClampNeg x1) 11 ((up2 I 10 (I 1 1).toNatClampNeg x1) 1 1).toNatClampNeg x2) 1 2) ||| (1 <<< (((up2 (up2 I 10 (I 1 1).toNatClampNeg x1) 11 ((up2 I 10 (I 1 1).toNatClampNeg x1) 1 1).toNatClampNeg x2) 1 1) &&& 31)))) 1 1) + 1)) 1 4) + 1)) J)))) :=
  (sm_blk X 93 11 (tt_lin 93 (by decide)) rfl rfl _ _ _ _).trans rfl
set_option maxRecDepth 100000 in
theorem bk_94_0 (X : (Nat → Int32) × Nat) (mo : Bool) (G : Nat × Nat) (I : Nat → Nat → Int32) (J : Nat → Nat → Int64) (Q : Option Value → sm_M → Prop) (x1 : Int32) :
    sm_wp X 94 0 [some (.ref 1), some (.int x1)] [] (sM mo G I J) Q =
    (sm_wp X 88 0 [some (.ref 1), some (.int x1)] [] (sM mo G I J) (fun v M => sm_wp X 94 5 [some (.ref 1), some (.int x1)] (v.toList ++ []) M Q)) :=
  (sm_blk X 94 0 (tt_lin 94 (by decide)) rfl rfl _ _ _ _).trans rfl
set_option maxRecDepth 100000 in
theorem bk_94_5 (X : (Nat → Int32) × Nat) (mo : Bool) (G : Nat × Nat) (I : Nat → Nat → Int32) (J : Nat → Nat → Int64) (Q : Option Value → sm_M → Prop) (x1 : Int32) (s0 : Int32) :
    sm_wp X 94 5 [some (.ref 1), some (.int x1)] [.int s0] (sM mo G I J) Q =
    (if (s0 : Int32) = 0 then sm_wp X 94 23 [some (.ref 1), some (.int x1)] [] (sM mo G I J) Q else (sm_wp X 169 0 [some (.int (I 1 2)), some (.int x1)] [] (sM mo G I J) (fun v M => sm_wp X 94 16 [some (.ref 1), some (.int x1)] (v.toList ++ []) M Q))) :=
  (sm_blk X 94 5 (tt_lin 94 (by decide)) rfl rfl _ _ _ _).trans rfl
set_option maxRecDepth 100000 in
theorem bk_94_16 (X : (Nat → Int32) × Nat) (mo : Bool) (G : Nat × Nat) (I : Nat → Nat → Int32) (J : Nat → Nat → Int64) (Q : Option Value → sm_M → Prop) (x1 : Int32) (s0 : Int32) :
    sm_wp X 94 16 [some (.ref 1), some (.int x1)] [.int s0] (sM mo G I J) Q =
    (if (s0 : Int32) = 0 then sm_wp X 94 23 [some (.ref 1), some (.int x1)] [] (sM mo G I J) Q else (sm_wp X 94 24 [some (.ref 1), some (.int x1)] [.int 1] (sM mo G I J) Q)) :=
  (sm_blk X 94 16 (tt_lin 94 (by decide)) rfl rfl _ _ _ _).trans rfl
set_option maxRecDepth 100000 in
theorem bk_94_23 (X : (Nat → Int32) × Nat) (mo : Bool) (G : Nat × Nat) (I : Nat → Nat → Int32) (J : Nat → Nat → Int64) (Q : Option Value → sm_M → Prop) (x1 : Int32) :
    sm_wp X 94 23 [some (.ref 1), some (.int x1)] [] (sM mo G I J) Q =
    (sm_zb 0 ∧ Q (some (.int 0)) (sM mo G I J)) :=
  (sm_blk X 94 23 (tt_lin 94 (by decide)) rfl rfl _ _ _ _).trans rfl
set_option maxRecDepth 100000 in
theorem bk_94_24 (X : (Nat → Int32) × Nat) (mo : Bool) (G : Nat × Nat) (I : Nat → Nat → Int32) (J : Nat → Nat → Int64) (Q : Option Value → sm_M → Prop) (x1 : Int32) (s0 : Int32) :
    sm_wp X 94 24 [some (.ref 1), some (.int x1)] [.int s0] (sM mo G I J) Q =
    (sm_zb s0 ∧ Q (some (.int s0)) (sM mo G I J)) :=
  (sm_blk X 94 24 (tt_lin 94 (by decide)) rfl rfl _ _ _ _).trans rfl
set_option maxRecDepth 100000 in
theorem bk_95_0 (X : (Nat → Int32) × Nat) (mo : Bool) (G : Nat × Nat) (I : Nat → Nat → Int32) (J : Nat → Nat → Int64) (Q : Option Value → sm_M → Prop) (x1 : Int32) :
    sm_wp X 95 0 [some (.ref 1), some (.int x1)] [] (sM mo G I J) Q =
    (sm_wp X 90 0 [some (.ref 1), some (.int x1)] [] (sM mo G I J) (fun v M => sm_wp X 95 5 [some (.ref 1), some (.int x1)] (v.toList ++ []) M Q)) :=
  (sm_blk X 95 0 (tt_lin 95 (by decide)) rfl rfl _ _ _ _).trans rfl
set_option maxRecDepth 100000 in
theorem bk_95_5 (X : (Nat → Int32) × Nat) (mo : Bool) (G : Nat × Nat) (I : Nat → Nat → Int32) (J : Nat → Nat → Int64) (Q : Option Value → sm_M → Prop) (x1 : Int32) (s0 : Int32) :
    sm_wp X 95 5 [some (.ref 1), some (.int x1)] [.int s0] (sM mo G I J) Q =
    (if (s0 : Int32) = 0 then sm_wp X 95 17 [some (.ref 1), some (.int x1)] [] (sM mo G I J) Q else (vp_in x1 12 ∧ (sm_wp X 95 18 [some (.ref 1), some (.int x1)] [.int (I 4 (x1.toNatClampNeg))] (sM mo G I J) Q))) :=
  (sm_blk X 95 5 (tt_lin 95 (by decide)) rfl rfl _ _ _ _).trans rfl
set_option maxRecDepth 100000 in
theorem bk_95_17 (X : (Nat → Int32) × Nat) (mo : Bool) (G : Nat × Nat) (I : Nat → Nat → Int32) (J : Nat → Nat → Int64) (Q : Option Value → sm_M → Prop) (x1 : Int32) :
    sm_wp X 95 17 [some (.ref 1), some (.int x1)] [] (sM mo G I J) Q =
    (True ∧ Q (some (.int (-1))) (sM mo G I J)) :=
  (sm_blk X 95 17 (tt_lin 95 (by decide)) rfl rfl _ _ _ _).trans rfl
set_option maxRecDepth 100000 in
theorem bk_95_18 (X : (Nat → Int32) × Nat) (mo : Bool) (G : Nat × Nat) (I : Nat → Nat → Int32) (J : Nat → Nat → Int64) (Q : Option Value → sm_M → Prop) (x1 : Int32) (s0 : Int32) :
    sm_wp X 95 18 [some (.ref 1), some (.int x1)] [.int s0] (sM mo G I J) Q =
    (True ∧ Q (some (.int s0)) (sM mo G I J)) :=
  (sm_blk X 95 18 (tt_lin 95 (by decide)) rfl rfl _ _ _ _).trans rfl
set_option maxRecDepth 100000 in
theorem bk_96_0 (X : (Nat → Int32) × Nat) (mo : Bool) (G : Nat × Nat) (I : Nat → Nat → Int32) (J : Nat → Nat → Int64) (Q : Option Value → sm_M → Prop) (x1 : Int32) :
    sm_wp X 96 0 [some (.ref 1), some (.int x1)] [] (sM mo G I J) Q =
    (sm_wp X 90 0 [some (.ref 1), some (.int x1)] [] (sM mo G I J) (fun v M => sm_wp X 96 5 [some (.ref 1), some (.int x1)] (v.toList ++ []) M Q)) :=
  (sm_blk X 96 0 (tt_lin 96 (by decide)) rfl rfl _ _ _ _).trans rfl
set_option maxRecDepth 100000 in
theorem bk_96_5 (X : (Nat → Int32) × Nat) (mo : Bool) (G : Nat × Nat) (I : Nat → Nat → Int32) (J : Nat → Nat → Int64) (Q : Option Value → sm_M → Prop) (x1 : Int32) (s0 : Int32) :
    sm_wp X 96 5 [some (.ref 1), some (.int x1)] [.int s0] (sM mo G I J) Q =
    (if (s0 : Int32) = 0 then sm_wp X 96 17 [some (.ref 1), some (.int x1)] [] (sM mo G I J) Q else (vp_in x1 12 ∧ (sm_wp X 96 18 [some (.ref 1), some (.int x1)] [.int (I 6 (x1.toNatClampNeg))] (sM mo G I J) Q))) :=
  (sm_blk X 96 5 (tt_lin 96 (by decide)) rfl rfl _ _ _ _).trans rfl
set_option maxRecDepth 100000 in
theorem bk_96_17 (X : (Nat → Int32) × Nat) (mo : Bool) (G : Nat × Nat) (I : Nat → Nat → Int32) (J : Nat → Nat → Int64) (Q : Option Value → sm_M → Prop) (x1 : Int32) :
    sm_wp X 96 17 [some (.ref 1), some (.int x1)] [] (sM mo G I J) Q =
    (True ∧ Q (some (.int 0)) (sM mo G I J)) :=
  (sm_blk X 96 17 (tt_lin 96 (by decide)) rfl rfl _ _ _ _).trans rfl
set_option maxRecDepth 100000 in
theorem bk_96_18 (X : (Nat → Int32) × Nat) (mo : Bool) (G : Nat × Nat) (I : Nat → Nat → Int32) (J : Nat → Nat → Int64) (Q : Option Value → sm_M → Prop) (x1 : Int32) (s0 : Int32) :
    sm_wp X 96 18 [some (.ref 1), some (.int x1)] [.int s0] (sM mo G I J) Q =
    (True ∧ Q (some (.int s0)) (sM mo G I J)) :=
  (sm_blk X 96 18 (tt_lin 96 (by decide)) rfl rfl _ _ _ _).trans rfl
set_option maxRecDepth 100000 in
theorem bk_97_0 (X : (Nat → Int32) × Nat) (mo : Bool) (G : Nat × Nat) (I : Nat → Nat → Int32) (J : Nat → Nat → Int64) (Q : Option Value → sm_M → Prop) (x1 : Int32) (x2 : Int32) (x3 : Int32) :
    sm_wp X 97 0 [some (.ref 1), some (.int x1), some (.int x2), some (.int x3), none, none] [] (sM mo G I J) Q =
    (sm_wp X 90 0 [some (.ref 1), some (.int x1)] [] (sM mo G I J) (fun v M => sm_wp X 97 5 [some (.ref 1), some (.int x1), some (.int x2), some (.int x3), none, none] (v.toList ++ []) M Q)) :=
  (sm_blk X 97 0 (tt_lin 97 (by decide)) rfl rfl _ _ _ _).trans rfl
set_option maxRecDepth 100000 in
theorem bk_97_5 (X : (Nat → Int32) × Nat) (mo : Bool) (G : Nat × Nat) (I : Nat → Nat → Int32) (J : Nat → Nat → Int64) (Q : Option Value → sm_M → Prop) (x1 : Int32) (x2 : Int32) (x3 : Int32) (s0 : Int32) :
    sm_wp X 97 5 [some (.ref 1), some (.int x1), some (.int x2), some (.int x3), none, none] [.int s0] (sM mo G I J) Q =
    (if ¬ (s0 : Int32) = 0 then sm_wp X 97 9 [some (.ref 1), some (.int x1), some (.int x2), some (.int x3), none, none] [] (sM mo G I J) Q else (True ∧ Q none (sM mo G I J))) :=
  (sm_blk X 97 5 (tt_lin 97 (by decide)) rfl rfl _ _ _ _).trans rfl
set_option maxRecDepth 100000 in
theorem bk_97_9 (X : (Nat → Int32) × Nat) (mo : Bool) (G : Nat × Nat) (I : Nat → Nat → Int32) (J : Nat → Nat → Int64) (Q : Option Value → sm_M → Prop) (x1 : Int32) (x2 : Int32) (x3 : Int32) :
    sm_wp X 97 9 [some (.ref 1), some (.int x1), some (.int x2), some (.int x3), none, none] [] (sM mo G I J) Q =
    (vp_in x1 12 ∧ (if (I 6 (x1.toNatClampNeg) : Int32) < 0 then sm_wp X 97 75 [some (.ref 1), some (.int x1), some (.int x2), some (.int x3), some (.int (I 6 (x1.toNatClampNeg))), none] [] (sM mo G I J) Q else (if (80 : Int32) ≤ (I 6 (x1.toNatClampNeg) : Int32) then sm_wp X 97 75 [some (.ref 1), some (.int x1), some (.int x2), some (.int x3), some (.int (I 6 (x1.toNatClampNeg))), none] [] (sM mo G I J) Q else (vp_in ((x1 * 80) + (I 6 (x1.toNatClampNeg))) 960 ∧ (vp_in ((x1 * 80) + (I 6 (x1.toNatClampNeg))) 960 ∧ (vp_in ((x1 * 80) + (I 6 (x1.toNatClampNeg))) 960 ∧ (vp_in x1 12 ∧ (vp_in x1 12 ∧ (True ∧ Q none (sM mo G (up2 (up2 (up2 (up2 (up2 (up2 I 7 ((x1 * 80) + (I 6 (x1.toNatClampNeg))).toNatClampNeg x2) 8 ((x1 * 80) + (I 6 (x1.toNatClampNeg))).toNatClampNeg ((up2 I 7 ((x1 * 80) + (I 6 (x1.toNatClampNeg))).toNatClampNeg x2) 1 3)) 9 ((x1 * 80) + (I 6 (x1.toNatClampNeg))).toNatClampNeg x3) 6 x1.toNatClampNeg ((I 6 (x1.toNatClampNeg)) + 1)) 4 x1.toNatClampNeg x2) 1 4 (((up2 (up2 (up2 (up2 (up2 I 7 ((x1 * 80) + (I 6 (x1.toNatClampNeg))).toNatClampNeg x2) 8 ((x1 * 80) + (I 6 (x1.toNatClampNeg))).toNatClampNeg ((up2 I 7 ((x1 * 80) + (I 6 (x1.toNatClampNeg))).toNatClampNeg x2) 1 3)) 9 ((x1 * 80) + (I 6 (x1.toNatClampNeg))).toNatClampNeg x3) 6 x1.toNatClampNeg ((I 6 (x1.toNatClampNeg)) + 1)) 4 x1.toNatClampNeg x2) 1 4) + 1)) J)))))))))) :=
  (sm_blk X 97 9 (tt_lin 97 (by decide)) rfl rfl _ _ _ _).trans rfl
set_option maxRecDepth 100000 in
theorem bk_97_75 (X : (Nat → Int32) × Nat) (mo : Bool) (G : Nat × Nat) (I : Nat → Nat → Int32) (J : Nat → Nat → Int64) (Q : Option Value → sm_M → Prop) (x1 : Int32) (x2 : Int32) (x3 : Int32) (x4 : Int32) :
    sm_wp X 97 75 [some (.ref 1), some (.int x1), some (.int x2), some (.int x3), some (.int x4), none] [] (sM mo G I J) Q =
    (vp_in x1 12 ∧ (True ∧ Q none (sM mo G (up2 (up2 I 4 x1.toNatClampNeg x2) 1 4 (((up2 I 4 x1.toNatClampNeg x2) 1 4) + 1)) J))) :=
  (sm_blk X 97 75 (tt_lin 97 (by decide)) rfl rfl _ _ _ _).trans rfl
set_option maxRecDepth 100000 in
theorem bk_98_0 (X : (Nat → Int32) × Nat) (mo : Bool) (G : Nat × Nat) (I : Nat → Nat → Int32) (J : Nat → Nat → Int64) (Q : Option Value → sm_M → Prop) (x1 : Int32) :
    sm_wp X 98 0 [some (.ref 1), some (.int x1)] [] (sM mo G I J) Q =
    (sm_wp X 90 0 [some (.ref 1), some (.int x1)] [] (sM mo G I J) (fun v M => sm_wp X 98 5 [some (.ref 1), some (.int x1)] (v.toList ++ []) M Q)) :=
  (sm_blk X 98 0 (tt_lin 98 (by decide)) rfl rfl _ _ _ _).trans rfl
set_option maxRecDepth 100000 in
theorem bk_98_5 (X : (Nat → Int32) × Nat) (mo : Bool) (G : Nat × Nat) (I : Nat → Nat → Int32) (J : Nat → Nat → Int64) (Q : Option Value → sm_M → Prop) (x1 : Int32) (s0 : Int32) :
    sm_wp X 98 5 [some (.ref 1), some (.int x1)] [.int s0] (sM mo G I J) Q =
    (if (s0 : Int32) = 0 then sm_wp X 98 17 [some (.ref 1), some (.int x1)] [] (sM mo G I J) Q else (vp_in x1 12 ∧ (sm_wp X 98 18 [some (.ref 1), some (.int x1)] [.int (I 5 (x1.toNatClampNeg))] (sM mo G I J) Q))) :=
  (sm_blk X 98 5 (tt_lin 98 (by decide)) rfl rfl _ _ _ _).trans rfl
set_option maxRecDepth 100000 in
theorem bk_98_17 (X : (Nat → Int32) × Nat) (mo : Bool) (G : Nat × Nat) (I : Nat → Nat → Int32) (J : Nat → Nat → Int64) (Q : Option Value → sm_M → Prop) (x1 : Int32) :
    sm_wp X 98 17 [some (.ref 1), some (.int x1)] [] (sM mo G I J) Q =
    (True ∧ Q (some (.int 0)) (sM mo G I J)) :=
  (sm_blk X 98 17 (tt_lin 98 (by decide)) rfl rfl _ _ _ _).trans rfl
set_option maxRecDepth 100000 in
theorem bk_98_18 (X : (Nat → Int32) × Nat) (mo : Bool) (G : Nat × Nat) (I : Nat → Nat → Int32) (J : Nat → Nat → Int64) (Q : Option Value → sm_M → Prop) (x1 : Int32) (s0 : Int32) :
    sm_wp X 98 18 [some (.ref 1), some (.int x1)] [.int s0] (sM mo G I J) Q =
    (True ∧ Q (some (.int s0)) (sM mo G I J)) :=
  (sm_blk X 98 18 (tt_lin 98 (by decide)) rfl rfl _ _ _ _).trans rfl
set_option maxRecDepth 100000 in
theorem bk_99_0 (X : (Nat → Int32) × Nat) (mo : Bool) (G : Nat × Nat) (I : Nat → Nat → Int32) (J : Nat → Nat → Int64) (Q : Option Value → sm_M → Prop) (x1 : Int32) (x2 : Int32) :
    sm_wp X 99 0 [some (.ref 1), some (.int x1), some (.int x2)] [] (sM mo G I J) Q =
    (sm_wp X 90 0 [some (.ref 1), some (.int x1)] [] (sM mo G I J) (fun v M => sm_wp X 99 5 [some (.ref 1), some (.int x1), some (.int x2)] (v.toList ++ []) M Q)) :=
  (sm_blk X 99 0 (tt_lin 99 (by decide)) rfl rfl _ _ _ _).trans rfl
set_option maxRecDepth 100000 in
theorem bk_99_5 (X : (Nat → Int32) × Nat) (mo : Bool) (G : Nat × Nat) (I : Nat → Nat → Int32) (J : Nat → Nat → Int64) (Q : Option Value → sm_M → Prop) (x1 : Int32) (x2 : Int32) (s0 : Int32) :
    sm_wp X 99 5 [some (.ref 1), some (.int x1), some (.int x2)] [.int s0] (sM mo G I J) Q =
    (if (s0 : Int32) = 0 then sm_wp X 99 25 [some (.ref 1), some (.int x1), some (.int x2)] [] (sM mo G I J) Q else (vp_in x1 12 ∧ (True ∧ Q none (sM mo G (up2 (up2 I 5 x1.toNatClampNeg x2) 1 4 (((up2 I 5 x1.toNatClampNeg x2) 1 4) + 1)) J)))) :=
  (sm_blk X 99 5 (tt_lin 99 (by decide)) rfl rfl _ _ _ _).trans rfl
set_option maxRecDepth 100000 in
theorem bk_99_25 (X : (Nat → Int32) × Nat) (mo : Bool) (G : Nat × Nat) (I : Nat → Nat → Int32) (J : Nat → Nat → Int64) (Q : Option Value → sm_M → Prop) (x1 : Int32) (x2 : Int32) :
    sm_wp X 99 25 [some (.ref 1), some (.int x1), some (.int x2)] [] (sM mo G I J) Q =
    (True ∧ Q none (sM mo G I J)) :=
  (sm_blk X 99 25 (tt_lin 99 (by decide)) rfl rfl _ _ _ _).trans rfl
set_option maxRecDepth 100000 in
theorem bk_100_0 (X : (Nat → Int32) × Nat) (mo : Bool) (G : Nat × Nat) (I : Nat → Nat → Int32) (J : Nat → Nat → Int64) (Q : Option Value → sm_M → Prop) (x1 : Int32) (x2 : Int32) (x3 : Int32) :
    sm_wp X 100 0 [some (.ref 1), some (.int x1), some (.int x2), some (.int x3)] [] (sM mo G I J) Q =
    (sm_wp X 88 0 [some (.ref 1), some (.int x1)] [] (sM mo G I J) (fun v M => sm_wp X 100 5 [some (.ref 1), some (.int x1), some (.int x2), some (.int x3)] (v.toList ++ []) M Q)) :=
  (sm_blk X 100 0 (tt_lin 100 (by decide)) rfl rfl _ _ _ _).trans rfl
set_option maxRecDepth 100000 in
theorem bk_100_5 (X : (Nat → Int32) × Nat) (mo : Bool) (G : Nat × Nat) (I : Nat → Nat → Int32) (J : Nat → Nat → Int64) (Q : Option Value → sm_M → Prop) (x1 : Int32) (x2 : Int32) (x3 : Int32) (s0 : Int32) :
    sm_wp X 100 5 [some (.ref 1), some (.int x1), some (.int x2), some (.int x3)] [.int s0] (sM mo G I J) Q =
    (if (s0 : Int32) = 0 then sm_wp X 100 38 [some (.ref 1), some (.int x1), some (.int x2), some (.int x3)] [] (sM mo G I J) Q else (sm_wp X 90 0 [some (.ref 1), some (.int x2)] [] (sM mo G I J) (fun v M => sm_wp X 100 13 [some (.ref 1), some (.int x1), some (.int x2), some (.int x3)] (v.toList ++ []) M Q))) :=
  (sm_blk X 100 5 (tt_lin 100 (by decide)) rfl rfl _ _ _ _).trans rfl
set_option maxRecDepth 100000 in
theorem bk_100_13 (X : (Nat → Int32) × Nat) (mo : Bool) (G : Nat × Nat) (I : Nat → Nat → Int32) (J : Nat → Nat → Int64) (Q : Option Value → sm_M → Prop) (x1 : Int32) (x2 : Int32) (x3 : Int32) (s0 : Int32) :
    sm_wp X 100 13 [some (.ref 1), some (.int x1), some (.int x2), some (.int x3)] [.int s0] (sM mo G I J) Q =
    (if (s0 : Int32) = 0 then sm_wp X 100 38 [some (.ref 1), some (.int x1), some (.int x2), some (.int x3)] [] (sM mo G I J) Q else (vp_in ((x1 * 12) + x2) 72 ∧ (True ∧ Q none (sM mo G (up2 (up2 I 13 ((x1 * 12) + x2).toNatClampNeg x3) 1 4 (((up2 I 13 ((x1 * 12) + x2).toNatClampNeg x3) 1 4) + 1)) J)))) :=
  (sm_blk X 100 13 (tt_lin 100 (by decide)) rfl rfl _ _ _ _).trans rfl
set_option maxRecDepth 100000 in
theorem bk_100_38 (X : (Nat → Int32) × Nat) (mo : Bool) (G : Nat × Nat) (I : Nat → Nat → Int32) (J : Nat → Nat → Int64) (Q : Option Value → sm_M → Prop) (x1 : Int32) (x2 : Int32) (x3 : Int32) :
    sm_wp X 100 38 [some (.ref 1), some (.int x1), some (.int x2), some (.int x3)] [] (sM mo G I J) Q =
    (True ∧ Q none (sM mo G I J)) :=
  (sm_blk X 100 38 (tt_lin 100 (by decide)) rfl rfl _ _ _ _).trans rfl
set_option maxRecDepth 100000 in
theorem bk_101_0 (X : (Nat → Int32) × Nat) (mo : Bool) (G : Nat × Nat) (I : Nat → Nat → Int32) (J : Nat → Nat → Int64) (Q : Option Value → sm_M → Prop) (x1 : Int32) (x2 : Int32) :
    sm_wp X 101 0 [some (.ref 1), some (.int x1), some (.int x2)] [] (sM mo G I J) Q =
    (sm_wp X 88 0 [some (.ref 1), some (.int x1)] [] (sM mo G I J) (fun v M => sm_wp X 101 5 [some (.ref 1), some (.int x1), some (.int x2)] (v.toList ++ []) M Q)) :=
  (sm_blk X 101 0 (tt_lin 101 (by decide)) rfl rfl _ _ _ _).trans rfl
set_option maxRecDepth 100000 in
theorem bk_101_5 (X : (Nat → Int32) × Nat) (mo : Bool) (G : Nat × Nat) (I : Nat → Nat → Int32) (J : Nat → Nat → Int64) (Q : Option Value → sm_M → Prop) (x1 : Int32) (x2 : Int32) (s0 : Int32) :
    sm_wp X 101 5 [some (.ref 1), some (.int x1), some (.int x2)] [.int s0] (sM mo G I J) Q =
    (if (s0 : Int32) = 0 then sm_wp X 101 25 [some (.ref 1), some (.int x1), some (.int x2)] [] (sM mo G I J) Q else (vp_in x1 6 ∧ (True ∧ Q none (sM mo G (up2 (up2 I 12 x1.toNatClampNeg x2) 1 4 (((up2 I 12 x1.toNatClampNeg x2) 1 4) + 1)) J)))) :=
  (sm_blk X 101 5 (tt_lin 101 (by decide)) rfl rfl _ _ _ _).trans rfl
set_option maxRecDepth 100000 in
theorem bk_101_25 (X : (Nat → Int32) × Nat) (mo : Bool) (G : Nat × Nat) (I : Nat → Nat → Int32) (J : Nat → Nat → Int64) (Q : Option Value → sm_M → Prop) (x1 : Int32) (x2 : Int32) :
    sm_wp X 101 25 [some (.ref 1), some (.int x1), some (.int x2)] [] (sM mo G I J) Q =
    (True ∧ Q none (sM mo G I J)) :=
  (sm_blk X 101 25 (tt_lin 101 (by decide)) rfl rfl _ _ _ _).trans rfl
set_option maxRecDepth 100000 in
theorem bk_102_0 (X : (Nat → Int32) × Nat) (mo : Bool) (G : Nat × Nat) (I : Nat → Nat → Int32) (J : Nat → Nat → Int64) (Q : Option Value → sm_M → Prop)  :
    sm_wp X 102 0 [some (.ref 1)] [] (sM mo G I J) Q =
    (True ∧ Q (some (.int ((1 <<< ((I 1 0) &&& 31)) - 1))) (sM mo G I J)) :=
  (sm_blk X 102 0 (tt_lin 102 (by decide)) rfl rfl _ _ _ _).trans rfl
set_option maxRecDepth 100000 in
theorem bk_103_0 (X : (Nat → Int32) × Nat) (mo : Bool) (G : Nat × Nat) (I : Nat → Nat → Int32) (J : Nat → Nat → Int64) (Q : Option Value → sm_M → Prop) (x1 : Int32) (x2 : Int32) :
    sm_wp X 103 0 [some (.ref 1), some (.int x1), some (.int x2), none, none] [] (sM mo G I J) Q =
    (sm_wp X 103 5 [some (.ref 1), some (.int x1), some (.int x2), some (.int 0), some (.int 0)] [] (sM mo G I J) Q) :=
  (sm_blk X 103 0 (tt_lin 103 (by decide)) rfl rfl _ _ _ _).trans rfl
set_option maxRecDepth 100000 in
theorem bk_103_5 (X : (Nat → Int32) × Nat) (mo : Bool) (G : Nat × Nat) (I : Nat → Nat → Int32) (J : Nat → Nat → Int64) (Q : Option Value → sm_M → Prop) (x1 : Int32) (x2 : Int32) (x3 : Int32) (x4 : Int32) :
    sm_wp X 103 5 [some (.ref 1), some (.int x1), some (.int x2), some (.int x3), some (.int x4)] [] (sM mo G I J) Q =
    (if (I 1 0 : Int32) ≤ (x4 : Int32) then sm_wp X 103 39 [some (.ref 1), some (.int x1), some (.int x2), some (.int x3), some (.int x4)] [] (sM mo G I J) Q else (sm_wp X 169 0 [some (.int x2), some (.int x4)] [] (sM mo G I J) (fun v M => sm_wp X 103 20 [some (.ref 1), some (.int x1), some (.int x2), some (.int x3), some (.int x4)] (v.toList ++ []) M Q))) :=
  (sm_blk X 103 5 (tt_lin 103 (by decide)) rfl rfl _ _ _ _).trans rfl
set_option maxRecDepth 100000 in
theorem bk_103_20 (X : (Nat → Int32) × Nat) (mo : Bool) (G : Nat × Nat) (I : Nat → Nat → Int32) (J : Nat → Nat → Int64) (Q : Option Value → sm_M → Prop) (x1 : Int32) (x2 : Int32) (x3 : Int32) (x4 : Int32) (s0 : Int32) :
    sm_wp X 103 20 [some (.ref 1), some (.int x1), some (.int x2), some (.int x3), some (.int x4)] [.int s0] (sM mo G I J) Q =
    (if (s0 : Int32) = 0 then sm_wp X 103 33 [some (.ref 1), some (.int x1), some (.int x2), some (.int x3), some (.int x4)] [] (sM mo G I J) Q else (sm_wp X 104 0 [some (.ref 1), some (.int x1), some (.int x4)] [] (sM mo G I J) (fun v M => sm_wp X 103 31 [some (.ref 1), some (.int x1), some (.int x2), some (.int x3), some (.int x4)] (v.toList ++ [.int x3]) M Q))) :=
  (sm_blk X 103 20 (tt_lin 103 (by decide)) rfl rfl _ _ _ _).trans rfl
set_option maxRecDepth 100000 in
theorem bk_103_31 (X : (Nat → Int32) × Nat) (mo : Bool) (G : Nat × Nat) (I : Nat → Nat → Int32) (J : Nat → Nat → Int64) (Q : Option Value → sm_M → Prop) (x1 : Int32) (x2 : Int32) (x3 : Int32) (x4 : Int32) (s0 : Int32) (s1 : Int32) :
    sm_wp X 103 31 [some (.ref 1), some (.int x1), some (.int x2), some (.int x3), some (.int x4)] [.int s1, .int s0] (sM mo G I J) Q =
    (sm_wp X 103 5 [some (.ref 1), some (.int x1), some (.int x2), some (.int (s0 + s1)), some (.int (x4 + 1))] [] (sM mo G I J) Q) :=
  (sm_blk X 103 31 (tt_lin 103 (by decide)) rfl rfl _ _ _ _).trans rfl
set_option maxRecDepth 100000 in
theorem bk_103_33 (X : (Nat → Int32) × Nat) (mo : Bool) (G : Nat × Nat) (I : Nat → Nat → Int32) (J : Nat → Nat → Int64) (Q : Option Value → sm_M → Prop) (x1 : Int32) (x2 : Int32) (x3 : Int32) (x4 : Int32) :
    sm_wp X 103 33 [some (.ref 1), some (.int x1), some (.int x2), some (.int x3), some (.int x4)] [] (sM mo G I J) Q =
    (sm_wp X 103 5 [some (.ref 1), some (.int x1), some (.int x2), some (.int x3), some (.int (x4 + 1))] [] (sM mo G I J) Q) :=
  (sm_blk X 103 33 (tt_lin 103 (by decide)) rfl rfl _ _ _ _).trans rfl
set_option maxRecDepth 100000 in
theorem bk_103_39 (X : (Nat → Int32) × Nat) (mo : Bool) (G : Nat × Nat) (I : Nat → Nat → Int32) (J : Nat → Nat → Int64) (Q : Option Value → sm_M → Prop) (x1 : Int32) (x2 : Int32) (x3 : Int32) (x4 : Int32) :
    sm_wp X 103 39 [some (.ref 1), some (.int x1), some (.int x2), some (.int x3), some (.int x4)] [] (sM mo G I J) Q =
    (True ∧ Q (some (.int x3)) (sM mo G I J)) :=
  (sm_blk X 103 39 (tt_lin 103 (by decide)) rfl rfl _ _ _ _).trans rfl
set_option maxRecDepth 100000 in
theorem bk_104_0 (X : (Nat → Int32) × Nat) (mo : Bool) (G : Nat × Nat) (I : Nat → Nat → Int32) (J : Nat → Nat → Int64) (Q : Option Value → sm_M → Prop) (x1 : Int32) (x2 : Int32) :
    sm_wp X 104 0 [some (.ref 1), some (.int x1), some (.int x2)] [] (sM mo G I J) Q =
    (if (x1 : Int32) < 0 then sm_wp X 104 20 [some (.ref 1), some (.int x1), some (.int x2)] [] (sM mo G I J) Q else (if (6 : Int32) ≤ (x1 : Int32) then sm_wp X 104 20 [some (.ref 1), some (.int x1), some (.int x2)] [] (sM mo G I J) Q else (if (x2 : Int32) < 0 then sm_wp X 104 20 [some (.ref 1), some (.int x1), some (.int x2)] [] (sM mo G I J) Q else (if (x2 : Int32) < (12 : Int32) then sm_wp X 104 22 [some (.ref 1), some (.int x1), some (.int x2)] [] (sM mo G I J) Q else (True ∧ Q (some (.int 0)) (sM mo G I J)))))) :=
  (sm_blk X 104 0 (tt_lin 104 (by decide)) rfl rfl _ _ _ _).trans rfl
set_option maxRecDepth 100000 in
theorem bk_104_20 (X : (Nat → Int32) × Nat) (mo : Bool) (G : Nat × Nat) (I : Nat → Nat → Int32) (J : Nat → Nat → Int64) (Q : Option Value → sm_M → Prop) (x1 : Int32) (x2 : Int32) :
    sm_wp X 104 20 [some (.ref 1), some (.int x1), some (.int x2)] [] (sM mo G I J) Q =
    (True ∧ Q (some (.int 0)) (sM mo G I J)) :=
  (sm_blk X 104 20 (tt_lin 104 (by decide)) rfl rfl _ _ _ _).trans rfl
set_option maxRecDepth 100000 in
theorem bk_104_22 (X : (Nat → Int32) × Nat) (mo : Bool) (G : Nat × Nat) (I : Nat → Nat → Int32) (J : Nat → Nat → Int64) (Q : Option Value → sm_M → Prop) (x1 : Int32) (x2 : Int32) :
    sm_wp X 104 22 [some (.ref 1), some (.int x1), some (.int x2)] [] (sM mo G I J) Q =
    (vp_in ((x1 * 12) + x2) 72 ∧ (True ∧ Q (some (.int (I 13 (((x1 * 12) + x2).toNatClampNeg)))) (sM mo G I J))) :=
  (sm_blk X 104 22 (tt_lin 104 (by decide)) rfl rfl _ _ _ _).trans rfl
set_option maxRecDepth 100000 in
theorem bk_105_0 (X : (Nat → Int32) × Nat) (mo : Bool) (G : Nat × Nat) (I : Nat → Nat → Int32) (J : Nat → Nat → Int64) (Q : Option Value → sm_M → Prop) (x1 : Int32) :
    sm_wp X 105 0 [some (.ref 1), some (.int x1), none, none] [] (sM mo G I J) Q =
    (sm_wp X 105 4 [some (.ref 1), some (.int x1), some (.int 0), some (.int 0)] [] (sM mo G I J) Q) :=
  (sm_blk X 105 0 (tt_lin 105 (by decide)) rfl rfl _ _ _ _).trans rfl
set_option maxRecDepth 100000 in
theorem bk_105_4 (X : (Nat → Int32) × Nat) (mo : Bool) (G : Nat × Nat) (I : Nat → Nat → Int32) (J : Nat → Nat → Int64) (Q : Option Value → sm_M → Prop) (x1 : Int32) (x2 : Int32) (x3 : Int32) :
    sm_wp X 105 4 [some (.ref 1), some (.int x1), some (.int x2), some (.int x3)] [] (sM mo G I J) Q =
    (if (I 1 0 : Int32) ≤ (x3 : Int32) then sm_wp X 105 40 [some (.ref 1), some (.int x1), some (.int x2), some (.int x3)] [] (sM mo G I J) Q else (if (12 : Int32) ≤ (x3 : Int32) then sm_wp X 105 40 [some (.ref 1), some (.int x1), some (.int x2), some (.int x3)] [] (sM mo G I J) Q else (vp_in x3 12 ∧ (if ¬ (I 4 (x3.toNatClampNeg) : Int32) = (x1 : Int32) then sm_wp X 105 34 [some (.ref 1), some (.int x1), some (.int x2), some (.int x3)] [] (sM mo G I J) Q else (sm_wp X 105 4 [some (.ref 1), some (.int x1), some (.int (x2 ||| (1 <<< (x3 &&& 31)))), some (.int (x3 + 1))] [] (sM mo G I J) Q))))) :=
  (sm_blk X 105 4 (tt_lin 105 (by decide)) rfl rfl _ _ _ _).trans rfl
set_option maxRecDepth 100000 in
theorem bk_105_34 (X : (Nat → Int32) × Nat) (mo : Bool) (G : Nat × Nat) (I : Nat → Nat → Int32) (J : Nat → Nat → Int64) (Q : Option Value → sm_M → Prop) (x1 : Int32) (x2 : Int32) (x3 : Int32) :
    sm_wp X 105 34 [some (.ref 1), some (.int x1), some (.int x2), some (.int x3)] [] (sM mo G I J) Q =
    (sm_wp X 105 4 [some (.ref 1), some (.int x1), some (.int x2), some (.int (x3 + 1))] [] (sM mo G I J) Q) :=
  (sm_blk X 105 34 (tt_lin 105 (by decide)) rfl rfl _ _ _ _).trans rfl
set_option maxRecDepth 100000 in
theorem bk_105_40 (X : (Nat → Int32) × Nat) (mo : Bool) (G : Nat × Nat) (I : Nat → Nat → Int32) (J : Nat → Nat → Int64) (Q : Option Value → sm_M → Prop) (x1 : Int32) (x2 : Int32) (x3 : Int32) :
    sm_wp X 105 40 [some (.ref 1), some (.int x1), some (.int x2), some (.int x3)] [] (sM mo G I J) Q =
    (True ∧ Q (some (.int x2)) (sM mo G I J)) :=
  (sm_blk X 105 40 (tt_lin 105 (by decide)) rfl rfl _ _ _ _).trans rfl
set_option maxRecDepth 100000 in
theorem bk_106_0 (X : (Nat → Int32) × Nat) (mo : Bool) (G : Nat × Nat) (I : Nat → Nat → Int32) (J : Nat → Nat → Int64) (Q : Option Value → sm_M → Prop) (x1 : Int32) :
    sm_wp X 106 0 [some (.ref 1), some (.int x1), none, none] [] (sM mo G I J) Q =
    (sm_wp X 106 4 [some (.ref 1), some (.int x1), some (.int 0), some (.int 0)] [] (sM mo G I J) Q) :=
  (sm_blk X 106 0 (tt_lin 106 (by decide)) rfl rfl _ _ _ _).trans rfl
set_option maxRecDepth 100000 in
theorem bk_106_4 (X : (Nat → Int32) × Nat) (mo : Bool) (G : Nat × Nat) (I : Nat → Nat → Int32) (J : Nat → Nat → Int64) (Q : Option Value → sm_M → Prop) (x1 : Int32) (x2 : Int32) (x3 : Int32) :
    sm_wp X 106 4 [some (.ref 1), some (.int x1), some (.int x2), some (.int x3)] [] (sM mo G I J) Q =
    (if (I 1 0 : Int32) ≤ (x3 : Int32) then sm_wp X 106 41 [some (.ref 1), some (.int x1), some (.int x2), some (.int x3)] [] (sM mo G I J) Q else (if (12 : Int32) ≤ (x3 : Int32) then sm_wp X 106 41 [some (.ref 1), some (.int x1), some (.int x2), some (.int x3)] [] (sM mo G I J) Q else (sm_wp X 169 0 [some (.int x1), some (.int x3)] [] (sM mo G I J) (fun v M => sm_wp X 106 23 [some (.ref 1), some (.int x1), some (.int x2), some (.int x3)] (v.toList ++ []) M Q)))) :=
  (sm_blk X 106 4 (tt_lin 106 (by decide)) rfl rfl _ _ _ _).trans rfl
set_option maxRecDepth 100000 in
theorem bk_106_23 (X : (Nat → Int32) × Nat) (mo : Bool) (G : Nat × Nat) (I : Nat → Nat → Int32) (J : Nat → Nat → Int64) (Q : Option Value → sm_M → Prop) (x1 : Int32) (x2 : Int32) (x3 : Int32) (s0 : Int32) :
    sm_wp X 106 23 [some (.ref 1), some (.int x1), some (.int x2), some (.int x3)] [.int s0] (sM mo G I J) Q =
    (if (s0 : Int32) = 0 then sm_wp X 106 35 [some (.ref 1), some (.int x1), some (.int x2), some (.int x3)] [] (sM mo G I J) Q else (vp_in x3 12 ∧ (sm_wp X 106 4 [some (.ref 1), some (.int x1), some (.int (x2 + (I 2 (x3.toNatClampNeg)))), some (.int (x3 + 1))] [] (sM mo G I J) Q))) :=
  (sm_blk X 106 23 (tt_lin 106 (by decide)) rfl rfl _ _ _ _).trans rfl
set_option maxRecDepth 100000 in
theorem bk_106_35 (X : (Nat → Int32) × Nat) (mo : Bool) (G : Nat × Nat) (I : Nat → Nat → Int32) (J : Nat → Nat → Int64) (Q : Option Value → sm_M → Prop) (x1 : Int32) (x2 : Int32) (x3 : Int32) :
    sm_wp X 106 35 [some (.ref 1), some (.int x1), some (.int x2), some (.int x3)] [] (sM mo G I J) Q =
    (sm_wp X 106 4 [some (.ref 1), some (.int x1), some (.int x2), some (.int (x3 + 1))] [] (sM mo G I J) Q) :=
  (sm_blk X 106 35 (tt_lin 106 (by decide)) rfl rfl _ _ _ _).trans rfl
set_option maxRecDepth 100000 in
theorem bk_106_41 (X : (Nat → Int32) × Nat) (mo : Bool) (G : Nat × Nat) (I : Nat → Nat → Int32) (J : Nat → Nat → Int64) (Q : Option Value → sm_M → Prop) (x1 : Int32) (x2 : Int32) (x3 : Int32) :
    sm_wp X 106 41 [some (.ref 1), some (.int x1), some (.int x2), some (.int x3)] [] (sM mo G I J) Q =
    (True ∧ Q (some (.int x2)) (sM mo G I J)) :=
  (sm_blk X 106 41 (tt_lin 106 (by decide)) rfl rfl _ _ _ _).trans rfl
set_option maxRecDepth 100000 in
theorem bk_107_0 (X : (Nat → Int32) × Nat) (mo : Bool) (G : Nat × Nat) (I : Nat → Nat → Int32) (J : Nat → Nat → Int64) (Q : Option Value → sm_M → Prop) (x1 : Int32) (x2 : Int32) :
    sm_wp X 107 0 [some (.ref 1), some (.int x1), some (.int x2), none, none] [] (sM mo G I J) Q =
    (sm_wp X 107 5 [some (.ref 1), some (.int x1), some (.int x2), some (.int 0), some (.int 0)] [] (sM mo G I J) Q) :=
  (sm_blk X 107 0 (tt_lin 107 (by decide)) rfl rfl _ _ _ _).trans rfl
set_option maxRecDepth 100000 in
theorem bk_107_5 (X : (Nat → Int32) × Nat) (mo : Bool) (G : Nat × Nat) (I : Nat → Nat → Int32) (J : Nat → Nat → Int64) (Q : Option Value → sm_M → Prop) (x1 : Int32) (x2 : Int32) (x3 : Int32) (x4 : Int32) :
    sm_wp X 107 5 [some (.ref 1), some (.int x1), some (.int x2), some (.int x3), some (.int x4)] [] (sM mo G I J) Q =
    (if (I 1 0 : Int32) ≤ (x4 : Int32) then sm_wp X 107 51 [some (.ref 1), some (.int x1), some (.int x2), some (.int x3), some (.int x4)] [] (sM mo G I J) Q else (if (12 : Int32) ≤ (x4 : Int32) then sm_wp X 107 51 [some (.ref 1), some (.int x1), some (.int x2), some (.int x3), some (.int x4)] [] (sM mo G I J) Q else (sm_wp X 169 0 [some (.int x1), some (.int x4)] [] (sM mo G I J) (fun v M => sm_wp X 107 27 [some (.ref 1), some (.int x1), some (.int x2), some (.int x3), some (.int x4)] (v.toList ++ []) M Q)))) :=
  (sm_blk X 107 5 (tt_lin 107 (by decide)) rfl rfl _ _ _ _).trans rfl
set_option maxRecDepth 100000 in
theorem bk_107_27 (X : (Nat → Int32) × Nat) (mo : Bool) (G : Nat × Nat) (I : Nat → Nat → Int32) (J : Nat → Nat → Int64) (Q : Option Value → sm_M → Prop) (x1 : Int32) (x2 : Int32) (x3 : Int32) (x4 : Int32) (s0 : Int32) :
    sm_wp X 107 27 [some (.ref 1), some (.int x1), some (.int x2), some (.int x3), some (.int x4)] [.int s0] (sM mo G I J) Q =
    (if (s0 : Int32) = 0 then sm_wp X 107 45 [some (.ref 1), some (.int x1), some (.int x2), some (.int x3), some (.int x4)] [] (sM mo G I J) Q else (vp_in x4 12 ∧ (if ((I 3 (x4.toNatClampNeg)) &&& x2 : Int32) = 0 then sm_wp X 107 45 [some (.ref 1), some (.int x1), some (.int x2), some (.int x3), some (.int x4)] [] (sM mo G I J) Q else (sm_wp X 107 5 [some (.ref 1), some (.int x1), some (.int x2), some (.int (x3 + 1)), some (.int (x4 + 1))] [] (sM mo G I J) Q)))) :=
  (sm_blk X 107 27 (tt_lin 107 (by decide)) rfl rfl _ _ _ _).trans rfl
set_option maxRecDepth 100000 in
theorem bk_107_45 (X : (Nat → Int32) × Nat) (mo : Bool) (G : Nat × Nat) (I : Nat → Nat → Int32) (J : Nat → Nat → Int64) (Q : Option Value → sm_M → Prop) (x1 : Int32) (x2 : Int32) (x3 : Int32) (x4 : Int32) :
    sm_wp X 107 45 [some (.ref 1), some (.int x1), some (.int x2), some (.int x3), some (.int x4)] [] (sM mo G I J) Q =
    (sm_wp X 107 5 [some (.ref 1), some (.int x1), some (.int x2), some (.int x3), some (.int (x4 + 1))] [] (sM mo G I J) Q) :=
  (sm_blk X 107 45 (tt_lin 107 (by decide)) rfl rfl _ _ _ _).trans rfl
set_option maxRecDepth 100000 in
theorem bk_107_51 (X : (Nat → Int32) × Nat) (mo : Bool) (G : Nat × Nat) (I : Nat → Nat → Int32) (J : Nat → Nat → Int64) (Q : Option Value → sm_M → Prop) (x1 : Int32) (x2 : Int32) (x3 : Int32) (x4 : Int32) :
    sm_wp X 107 51 [some (.ref 1), some (.int x1), some (.int x2), some (.int x3), some (.int x4)] [] (sM mo G I J) Q =
    (True ∧ Q (some (.int x3)) (sM mo G I J)) :=
  (sm_blk X 107 51 (tt_lin 107 (by decide)) rfl rfl _ _ _ _).trans rfl
set_option maxRecDepth 100000 in
theorem bk_108_0 (X : (Nat → Int32) × Nat) (mo : Bool) (G : Nat × Nat) (I : Nat → Nat → Int32) (J : Nat → Nat → Int64) (Q : Option Value → sm_M → Prop) (x1 : Int32) :
    sm_wp X 108 0 [some (.ref 1), some (.int x1)] [] (sM mo G I J) Q =
    (sm_wp X 88 0 [some (.ref 1), some (.int x1)] [] (sM mo G I J) (fun v M => sm_wp X 108 5 [some (.ref 1), some (.int x1)] (v.toList ++ []) M Q)) :=
  (sm_blk X 108 0 (tt_lin 108 (by decide)) rfl rfl _ _ _ _).trans rfl
set_option maxRecDepth 100000 in
theorem bk_108_5 (X : (Nat → Int32) × Nat) (mo : Bool) (G : Nat × Nat) (I : Nat → Nat → Int32) (J : Nat → Nat → Int64) (Q : Option Value → sm_M → Prop) (x1 : Int32) (s0 : Int32) :
    sm_wp X 108 5 [some (.ref 1), some (.int x1)] [.int s0] (sM mo G I J) Q =
    (if (s0 : Int32) = 0 then sm_wp X 108 17 [some (.ref 1), some (.int x1)] [] (sM mo G I J) Q else (vp_in x1 6 ∧ (sm_wp X 108 18 [some (.ref 1), some (.int x1)] [.int (I 12 (x1.toNatClampNeg))] (sM mo G I J) Q))) :=
  (sm_blk X 108 5 (tt_lin 108 (by decide)) rfl rfl _ _ _ _).trans rfl
set_option maxRecDepth 100000 in
theorem bk_108_17 (X : (Nat → Int32) × Nat) (mo : Bool) (G : Nat × Nat) (I : Nat → Nat → Int32) (J : Nat → Nat → Int64) (Q : Option Value → sm_M → Prop) (x1 : Int32) :
    sm_wp X 108 17 [some (.ref 1), some (.int x1)] [] (sM mo G I J) Q =
    (True ∧ Q (some (.int 0)) (sM mo G I J)) :=
  (sm_blk X 108 17 (tt_lin 108 (by decide)) rfl rfl _ _ _ _).trans rfl
set_option maxRecDepth 100000 in
theorem bk_108_18 (X : (Nat → Int32) × Nat) (mo : Bool) (G : Nat × Nat) (I : Nat → Nat → Int32) (J : Nat → Nat → Int64) (Q : Option Value → sm_M → Prop) (x1 : Int32) (s0 : Int32) :
    sm_wp X 108 18 [some (.ref 1), some (.int x1)] [.int s0] (sM mo G I J) Q =
    (True ∧ Q (some (.int s0)) (sM mo G I J)) :=
  (sm_blk X 108 18 (tt_lin 108 (by decide)) rfl rfl _ _ _ _).trans rfl
set_option maxRecDepth 100000 in
theorem bk_109_0 (X : (Nat → Int32) × Nat) (mo : Bool) (G : Nat × Nat) (I : Nat → Nat → Int32) (J : Nat → Nat → Int64) (Q : Option Value → sm_M → Prop) (x1 : Int32) :
    sm_wp X 109 0 [some (.ref 1), some (.int x1)] [] (sM mo G I J) Q =
    (sm_wp X 88 0 [some (.ref 1), some (.int x1)] [] (sM mo G I J) (fun v M => sm_wp X 109 5 [some (.ref 1), some (.int x1)] (v.toList ++ []) M Q)) :=
  (sm_blk X 109 0 (tt_lin 109 (by decide)) rfl rfl _ _ _ _).trans rfl
set_option maxRecDepth 100000 in
theorem bk_109_5 (X : (Nat → Int32) × Nat) (mo : Bool) (G : Nat × Nat) (I : Nat → Nat → Int32) (J : Nat → Nat → Int64) (Q : Option Value → sm_M → Prop) (x1 : Int32) (s0 : Int32) :
    sm_wp X 109 5 [some (.ref 1), some (.int x1)] [.int s0] (sM mo G I J) Q =
    (if (s0 : Int32) = 0 then sm_wp X 109 17 [some (.ref 1), some (.int x1)] [] (sM mo G I J) Q else (vp_in x1 6 ∧ (sm_wp X 109 18 [some (.ref 1), some (.int x1)] [.int (I 10 (x1.toNatClampNeg))] (sM mo G I J) Q))) :=
  (sm_blk X 109 5 (tt_lin 109 (by decide)) rfl rfl _ _ _ _).trans rfl
set_option maxRecDepth 100000 in
theorem bk_109_17 (X : (Nat → Int32) × Nat) (mo : Bool) (G : Nat × Nat) (I : Nat → Nat → Int32) (J : Nat → Nat → Int64) (Q : Option Value → sm_M → Prop) (x1 : Int32) :
    sm_wp X 109 17 [some (.ref 1), some (.int x1)] [] (sM mo G I J) Q =
    (True ∧ Q (some (.int 0)) (sM mo G I J)) :=
  (sm_blk X 109 17 (tt_lin 109 (by decide)) rfl rfl _ _ _ _).trans rfl
set_option maxRecDepth 100000 in
theorem bk_109_18 (X : (Nat → Int32) × Nat) (mo : Bool) (G : Nat × Nat) (I : Nat → Nat → Int32) (J : Nat → Nat → Int64) (Q : Option Value → sm_M → Prop) (x1 : Int32) (s0 : Int32) :
    sm_wp X 109 18 [some (.ref 1), some (.int x1)] [.int s0] (sM mo G I J) Q =
    (True ∧ Q (some (.int s0)) (sM mo G I J)) :=
  (sm_blk X 109 18 (tt_lin 109 (by decide)) rfl rfl _ _ _ _).trans rfl
set_option maxRecDepth 100000 in
theorem bk_110_0 (X : (Nat → Int32) × Nat) (mo : Bool) (G : Nat × Nat) (I : Nat → Nat → Int32) (J : Nat → Nat → Int64) (Q : Option Value → sm_M → Prop) (x1 : Int32) :
    sm_wp X 110 0 [some (.ref 1), some (.int x1)] [] (sM mo G I J) Q =
    (sm_wp X 88 0 [some (.ref 1), some (.int x1)] [] (sM mo G I J) (fun v M => sm_wp X 110 5 [some (.ref 1), some (.int x1)] (v.toList ++ []) M Q)) :=
  (sm_blk X 110 0 (tt_lin 110 (by decide)) rfl rfl _ _ _ _).trans rfl
set_option maxRecDepth 100000 in
theorem bk_110_5 (X : (Nat → Int32) × Nat) (mo : Bool) (G : Nat × Nat) (I : Nat → Nat → Int32) (J : Nat → Nat → Int64) (Q : Option Value → sm_M → Prop) (x1 : Int32) (s0 : Int32) :
    sm_wp X 110 5 [some (.ref 1), some (.int x1)] [.int s0] (sM mo G I J) Q =
    (if (s0 : Int32) = 0 then sm_wp X 110 17 [some (.ref 1), some (.int x1)] [] (sM mo G I J) Q else (vp_in x1 6 ∧ (sm_wp X 110 18 [some (.ref 1), some (.int x1)] [.int (I 11 (x1.toNatClampNeg))] (sM mo G I J) Q))) :=
  (sm_blk X 110 5 (tt_lin 110 (by decide)) rfl rfl _ _ _ _).trans rfl
set_option maxRecDepth 100000 in
theorem bk_110_17 (X : (Nat → Int32) × Nat) (mo : Bool) (G : Nat × Nat) (I : Nat → Nat → Int32) (J : Nat → Nat → Int64) (Q : Option Value → sm_M → Prop) (x1 : Int32) :
    sm_wp X 110 17 [some (.ref 1), some (.int x1)] [] (sM mo G I J) Q =
    (True ∧ Q (some (.int 0)) (sM mo G I J)) :=
  (sm_blk X 110 17 (tt_lin 110 (by decide)) rfl rfl _ _ _ _).trans rfl
set_option maxRecDepth 100000 in
theorem bk_110_18 (X : (Nat → Int32) × Nat) (mo : Bool) (G : Nat × Nat) (I : Nat → Nat → Int32) (J : Nat → Nat → Int64) (Q : Option Value → sm_M → Prop) (x1 : Int32) (s0 : Int32) :
    sm_wp X 110 18 [some (.ref 1), some (.int x1)] [.int s0] (sM mo G I J) Q =
    (True ∧ Q (some (.int s0)) (sM mo G I J)) :=
  (sm_blk X 110 18 (tt_lin 110 (by decide)) rfl rfl _ _ _ _).trans rfl
set_option maxRecDepth 100000 in
theorem bk_111_0 (X : (Nat → Int32) × Nat) (mo : Bool) (G : Nat × Nat) (I : Nat → Nat → Int32) (J : Nat → Nat → Int64) (Q : Option Value → sm_M → Prop) (x1 : Int32) :
    sm_wp X 111 0 [some (.ref 1), some (.int x1)] [] (sM mo G I J) Q =
    (sm_wp X 105 0 [some (.ref 1), some (.int x1), none, none] [] (sM mo G I J) (fun v M => sm_wp X 111 7 [some (.ref 1), some (.int x1)] (v.toList ++ [.int x1, .ref 1]) M Q)) :=
  (sm_blk X 111 0 (tt_lin 111 (by decide)) rfl rfl _ _ _ _).trans rfl
set_option maxRecDepth 100000 in
theorem bk_111_7 (X : (Nat → Int32) × Nat) (mo : Bool) (G : Nat × Nat) (I : Nat → Nat → Int32) (J : Nat → Nat → Int64) (Q : Option Value → sm_M → Prop) (x1 : Int32) (s1 : Int32) (s2 : Int32) :
    sm_wp X 111 7 [some (.ref 1), some (.int x1)] [.int s2, .int s1, .ref 1] (sM mo G I J) Q =
    (sm_wp X 103 0 [some (.ref 1), some (.int s1), some (.int s2), none, none] [] (sM mo G I J) (fun v M => sm_wp X 111 10 [some (.ref 1), some (.int x1)] (v.toList ++ []) M Q)) :=
  (sm_blk X 111 7 (tt_lin 111 (by decide)) rfl rfl _ _ _ _).trans rfl
set_option maxRecDepth 100000 in
theorem bk_111_10 (X : (Nat → Int32) × Nat) (mo : Bool) (G : Nat × Nat) (I : Nat → Nat → Int32) (J : Nat → Nat → Int64) (Q : Option Value → sm_M → Prop) (x1 : Int32) (s0 : Int32) :
    sm_wp X 111 10 [some (.ref 1), some (.int x1)] [.int s0] (sM mo G I J) Q =
    (True ∧ Q (some (.int s0)) (sM mo G I J)) :=
  (sm_blk X 111 10 (tt_lin 111 (by decide)) rfl rfl _ _ _ _).trans rfl
set_option maxRecDepth 100000 in
theorem bk_112_0 (X : (Nat → Int32) × Nat) (mo : Bool) (G : Nat × Nat) (I : Nat → Nat → Int32) (J : Nat → Nat → Int64) (Q : Option Value → sm_M → Prop) (x1 : Int32) :
    sm_wp X 112 0 [some (.ref 1), some (.int x1), none, none] [] (sM mo G I J) Q =
    (sm_wp X 112 4 [some (.ref 1), some (.int x1), some (.int 0), some (.int 0)] [] (sM mo G I J) Q) :=
  (sm_blk X 112 0 (tt_lin 112 (by decide)) rfl rfl _ _ _ _).trans rfl
set_option maxRecDepth 100000 in
theorem bk_112_4 (X : (Nat → Int32) × Nat) (mo : Bool) (G : Nat × Nat) (I : Nat → Nat → Int32) (J : Nat → Nat → Int64) (Q : Option Value → sm_M → Prop) (x1 : Int32) (x2 : Int32) (x3 : Int32) :
    sm_wp X 112 4 [some (.ref 1), some (.int x1), some (.int x2), some (.int x3)] [] (sM mo G I J) Q =
    (if (I 1 0 : Int32) ≤ (x3 : Int32) then sm_wp X 112 30 [some (.ref 1), some (.int x1), some (.int x2), some (.int x3)] [] (sM mo G I J) Q else (sm_wp X 113 0 [some (.ref 1), some (.int x3), some (.int x1)] [] (sM mo G I J) (fun v M => sm_wp X 112 18 [some (.ref 1), some (.int x1), some (.int x2), some (.int x3)] (v.toList ++ []) M Q))) :=
  (sm_blk X 112 4 (tt_lin 112 (by decide)) rfl rfl _ _ _ _).trans rfl
set_option maxRecDepth 100000 in
theorem bk_112_18 (X : (Nat → Int32) × Nat) (mo : Bool) (G : Nat × Nat) (I : Nat → Nat → Int32) (J : Nat → Nat → Int64) (Q : Option Value → sm_M → Prop) (x1 : Int32) (x2 : Int32) (x3 : Int32) (s0 : Int32) :
    sm_wp X 112 18 [some (.ref 1), some (.int x1), some (.int x2), some (.int x3)] [.int s0] (sM mo G I J) Q =
    (if (s0 : Int32) = 0 then sm_wp X 112 24 [some (.ref 1), some (.int x1), some (.int x2), some (.int x3)] [] (sM mo G I J) Q else (sm_wp X 112 4 [some (.ref 1), some (.int x1), some (.int (x2 + 1)), some (.int (x3 + 1))] [] (sM mo G I J) Q)) :=
  (sm_blk X 112 18 (tt_lin 112 (by decide)) rfl rfl _ _ _ _).trans rfl
set_option maxRecDepth 100000 in
theorem bk_112_24 (X : (Nat → Int32) × Nat) (mo : Bool) (G : Nat × Nat) (I : Nat → Nat → Int32) (J : Nat → Nat → Int64) (Q : Option Value → sm_M → Prop) (x1 : Int32) (x2 : Int32) (x3 : Int32) :
    sm_wp X 112 24 [some (.ref 1), some (.int x1), some (.int x2), some (.int x3)] [] (sM mo G I J) Q =
    (sm_wp X 112 4 [some (.ref 1), some (.int x1), some (.int x2), some (.int (x3 + 1))] [] (sM mo G I J) Q) :=
  (sm_blk X 112 24 (tt_lin 112 (by decide)) rfl rfl _ _ _ _).trans rfl
set_option maxRecDepth 100000 in
theorem bk_112_30 (X : (Nat → Int32) × Nat) (mo : Bool) (G : Nat × Nat) (I : Nat → Nat → Int32) (J : Nat → Nat → Int64) (Q : Option Value → sm_M → Prop) (x1 : Int32) (x2 : Int32) (x3 : Int32) :
    sm_wp X 112 30 [some (.ref 1), some (.int x1), some (.int x2), some (.int x3)] [] (sM mo G I J) Q =
    (True ∧ Q (some (.int x2)) (sM mo G I J)) :=
  (sm_blk X 112 30 (tt_lin 112 (by decide)) rfl rfl _ _ _ _).trans rfl
set_option maxRecDepth 100000 in
theorem bk_113_0 (X : (Nat → Int32) × Nat) (mo : Bool) (G : Nat × Nat) (I : Nat → Nat → Int32) (J : Nat → Nat → Int64) (Q : Option Value → sm_M → Prop) (x1 : Int32) (x2 : Int32) :
    sm_wp X 113 0 [some (.ref 1), some (.int x1), some (.int x2)] [] (sM mo G I J) Q =
    (sm_wp X 98 0 [some (.ref 1), some (.int x1)] [] (sM mo G I J) (fun v M => sm_wp X 113 5 [some (.ref 1), some (.int x1), some (.int x2)] (v.toList ++ []) M Q)) :=
  (sm_blk X 113 0 (tt_lin 113 (by decide)) rfl rfl _ _ _ _).trans rfl
set_option maxRecDepth 100000 in
theorem bk_113_5 (X : (Nat → Int32) × Nat) (mo : Bool) (G : Nat × Nat) (I : Nat → Nat → Int32) (J : Nat → Nat → Int64) (Q : Option Value → sm_M → Prop) (x1 : Int32) (x2 : Int32) (s0 : Int32) :
    sm_wp X 113 5 [some (.ref 1), some (.int x1), some (.int x2)] [.int s0] (sM mo G I J) Q =
    (sm_wp X 314 0 [some (.int (s0 &&& x2))] [] (sM mo G I J) (fun v M => sm_wp X 113 10 [some (.ref 1), some (.int x1), some (.int x2)] (v.toList ++ []) M Q)) :=
  (sm_blk X 113 5 (tt_lin 113 (by decide)) rfl rfl _ _ _ _).trans rfl
set_option maxRecDepth 100000 in
theorem bk_113_10 (X : (Nat → Int32) × Nat) (mo : Bool) (G : Nat × Nat) (I : Nat → Nat → Int32) (J : Nat → Nat → Int64) (Q : Option Value → sm_M → Prop) (x1 : Int32) (x2 : Int32) (s0 : Int32) :
    sm_wp X 113 10 [some (.ref 1), some (.int x1), some (.int x2)] [.int s0] (sM mo G I J) Q =
    (if (s0 : Int32) < (2 : Int32) then sm_wp X 113 18 [some (.ref 1), some (.int x1), some (.int x2)] [] (sM mo G I J) Q else (sm_wp X 113 19 [some (.ref 1), some (.int x1), some (.int x2)] [.int 1] (sM mo G I J) Q)) :=
  (sm_blk X 113 10 (tt_lin 113 (by decide)) rfl rfl _ _ _ _).trans rfl
set_option maxRecDepth 100000 in
theorem bk_113_18 (X : (Nat → Int32) × Nat) (mo : Bool) (G : Nat × Nat) (I : Nat → Nat → Int32) (J : Nat → Nat → Int64) (Q : Option Value → sm_M → Prop) (x1 : Int32) (x2 : Int32) :
    sm_wp X 113 18 [some (.ref 1), some (.int x1), some (.int x2)] [] (sM mo G I J) Q =
    (sm_zb 0 ∧ Q (some (.int 0)) (sM mo G I J)) :=
  (sm_blk X 113 18 (tt_lin 113 (by decide)) rfl rfl _ _ _ _).trans rfl
set_option maxRecDepth 100000 in
theorem bk_113_19 (X : (Nat → Int32) × Nat) (mo : Bool) (G : Nat × Nat) (I : Nat → Nat → Int32) (J : Nat → Nat → Int64) (Q : Option Value → sm_M → Prop) (x1 : Int32) (x2 : Int32) (s0 : Int32) :
    sm_wp X 113 19 [some (.ref 1), some (.int x1), some (.int x2)] [.int s0] (sM mo G I J) Q =
    (sm_zb s0 ∧ Q (some (.int s0)) (sM mo G I J)) :=
  (sm_blk X 113 19 (tt_lin 113 (by decide)) rfl rfl _ _ _ _).trans rfl
set_option maxRecDepth 100000 in
theorem bk_114_0 (X : (Nat → Int32) × Nat) (mo : Bool) (G : Nat × Nat) (I : Nat → Nat → Int32) (J : Nat → Nat → Int64) (Q : Option Value → sm_M → Prop) (x1 : Int32) :
    sm_wp X 114 0 [some (.ref 1), some (.int x1)] [] (sM mo G I J) Q =
    (sm_wp X 88 0 [some (.ref 1), some (.int x1)] [] (sM mo G I J) (fun v M => sm_wp X 114 5 [some (.ref 1), some (.int x1)] (v.toList ++ []) M Q)) :=
  (sm_blk X 114 0 (tt_lin 114 (by decide)) rfl rfl _ _ _ _).trans rfl
set_option maxRecDepth 100000 in
theorem bk_114_5 (X : (Nat → Int32) × Nat) (mo : Bool) (G : Nat × Nat) (I : Nat → Nat → Int32) (J : Nat → Nat → Int64) (Q : Option Value → sm_M → Prop) (x1 : Int32) (s0 : Int32) :
    sm_wp X 114 5 [some (.ref 1), some (.int x1)] [.int s0] (sM mo G I J) Q =
    (if (s0 : Int32) = 0 then sm_wp X 114 32 [some (.ref 1), some (.int x1)] [] (sM mo G I J) Q else (True ∧ Q none (sM mo G (up2 (up2 I 1 2 ((I 1 2) &&& ((1 <<< (x1 &&& 31)) ^^^ (-1)))) 1 4 (((up2 I 1 2 ((I 1 2) &&& ((1 <<< (x1 &&& 31)) ^^^ (-1)))) 1 4) + 1)) J))) :=
  (sm_blk X 114 5 (tt_lin 114 (by decide)) rfl rfl _ _ _ _).trans rfl
set_option maxRecDepth 100000 in
theorem bk_114_32 (X : (Nat → Int32) × Nat) (mo : Bool) (G : Nat × Nat) (I : Nat → Nat → Int32) (J : Nat → Nat → Int64) (Q : Option Value → sm_M → Prop) (x1 : Int32) :
    sm_wp X 114 32 [some (.ref 1), some (.int x1)] [] (sM mo G I J) Q =
    (True ∧ Q none (sM mo G I J)) :=
  (sm_blk X 114 32 (tt_lin 114 (by decide)) rfl rfl _ _ _ _).trans rfl
set_option maxRecDepth 100000 in
theorem bk_115_0 (X : (Nat → Int32) × Nat) (mo : Bool) (G : Nat × Nat) (I : Nat → Nat → Int32) (J : Nat → Nat → Int64) (Q : Option Value → sm_M → Prop) (x1 : Int32) (x2 : Int32) (x3 : Int32) :
    sm_wp X 115 0 [some (.ref 1), some (.int x1), some (.int x2), some (.int x3), none] [] (sM mo G I J) Q =
    (sm_wp X 90 0 [some (.ref 1), some (.int x1)] [] (sM mo G I J) (fun v M => sm_wp X 115 5 [some (.ref 1), some (.int x1), some (.int x2), some (.int x3), none] (v.toList ++ []) M Q)) :=
  (sm_blk X 115 0 (tt_lin 115 (by decide)) rfl rfl _ _ _ _).trans rfl
set_option maxRecDepth 100000 in
theorem bk_115_5 (X : (Nat → Int32) × Nat) (mo : Bool) (G : Nat × Nat) (I : Nat → Nat → Int32) (J : Nat → Nat → Int64) (Q : Option Value → sm_M → Prop) (x1 : Int32) (x2 : Int32) (x3 : Int32) (s0 : Int32) :
    sm_wp X 115 5 [some (.ref 1), some (.int x1), some (.int x2), some (.int x3), none] [.int s0] (sM mo G I J) Q =
    (if (s0 : Int32) = 0 then sm_wp X 115 28 [some (.ref 1), some (.int x1), some (.int x2), some (.int x3), none] [] (sM mo G I J) Q else (if (x2 : Int32) < 0 then sm_wp X 115 28 [some (.ref 1), some (.int x1), some (.int x2), some (.int x3), none] [] (sM mo G I J) Q else (vp_in x1 12 ∧ (if (I 6 (x1.toNatClampNeg) : Int32) ≤ (x2 : Int32) then sm_wp X 115 28 [some (.ref 1), some (.int x1), some (.int x2), some (.int x3), none] [] (sM mo G I J) Q else (if (x2 : Int32) < (80 : Int32) then sm_wp X 115 31 [some (.ref 1), some (.int x1), some (.int x2), some (.int x3), none] [] (sM mo G I J) Q else (True ∧ Q (some (.int (-2))) (sM mo G I J))))))) :=
  (sm_blk X 115 5 (tt_lin 115 (by decide)) rfl rfl _ _ _ _).trans rfl
set_option maxRecDepth 100000 in
theorem bk_115_28 (X : (Nat → Int32) × Nat) (mo : Bool) (G : Nat × Nat) (I : Nat → Nat → Int32) (J : Nat → Nat → Int64) (Q : Option Value → sm_M → Prop) (x1 : Int32) (x2 : Int32) (x3 : Int32) :
    sm_wp X 115 28 [some (.ref 1), some (.int x1), some (.int x2), some (.int x3), none] [] (sM mo G I J) Q =
    (True ∧ Q (some (.int (-2))) (sM mo G I J)) :=
  (sm_blk X 115 28 (tt_lin 115 (by decide)) rfl rfl _ _ _ _).trans rfl
set_option maxRecDepth 100000 in
theorem bk_115_31 (X : (Nat → Int32) × Nat) (mo : Bool) (G : Nat × Nat) (I : Nat → Nat → Int32) (J : Nat → Nat → Int64) (Q : Option Value → sm_M → Prop) (x1 : Int32) (x2 : Int32) (x3 : Int32) :
    sm_wp X 115 31 [some (.ref 1), some (.int x1), some (.int x2), some (.int x3), none] [] (sM mo G I J) Q =
    (if (x3 : Int32) = 0 then sm_wp X 115 68 [some (.ref 1), some (.int x1), some (.int x2), some (.int x3), some (.int ((x1 * 80) + x2))] [] (sM mo G I J) Q else if (x3 : Int32) = 1 then sm_wp X 115 76 [some (.ref 1), some (.int x1), some (.int x2), some (.int x3), some (.int ((x1 * 80) + x2))] [] (sM mo G I J) Q else if (x3 : Int32) = 2 then sm_wp X 115 84 [some (.ref 1), some (.int x1), some (.int x2), some (.int x3), some (.int ((x1 * 80) + x2))] [] (sM mo G I J) Q else sm_wp X 115 92 [some (.ref 1), some (.int x1), some (.int x2), some (.int x3), some (.int ((x1 * 80) + x2))] [] (sM mo G I J) Q) :=
  (sm_blk X 115 31 (tt_lin 115 (by decide)) rfl rfl _ _ _ _).trans rfl
set_option maxRecDepth 100000 in
theorem bk_115_68 (X : (Nat → Int32) × Nat) (mo : Bool) (G : Nat × Nat) (I : Nat → Nat → Int32) (J : Nat → Nat → Int64) (Q : Option Value → sm_M → Prop) (x1 : Int32) (x2 : Int32) (x3 : Int32) (x4 : Int32) :
    sm_wp X 115 68 [some (.ref 1), some (.int x1), some (.int x2), some (.int x3), some (.int x4)] [] (sM mo G I J) Q =
    (vp_in x4 960 ∧ (True ∧ Q (some (.int (I 7 (x4.toNatClampNeg)))) (sM mo G I J))) :=
  (sm_blk X 115 68 (tt_lin 115 (by decide)) rfl rfl _ _ _ _).trans rfl
set_option maxRecDepth 100000 in
theorem bk_115_76 (X : (Nat → Int32) × Nat) (mo : Bool) (G : Nat × Nat) (I : Nat → Nat → Int32) (J : Nat → Nat → Int64) (Q : Option Value → sm_M → Prop) (x1 : Int32) (x2 : Int32) (x3 : Int32) (x4 : Int32) :
    sm_wp X 115 76 [some (.ref 1), some (.int x1), some (.int x2), some (.int x3), some (.int x4)] [] (sM mo G I J) Q =
    (vp_in x4 960 ∧ (True ∧ Q (some (.int (I 8 (x4.toNatClampNeg)))) (sM mo G I J))) :=
  (sm_blk X 115 76 (tt_lin 115 (by decide)) rfl rfl _ _ _ _).trans rfl
set_option maxRecDepth 100000 in
theorem bk_115_84 (X : (Nat → Int32) × Nat) (mo : Bool) (G : Nat × Nat) (I : Nat → Nat → Int32) (J : Nat → Nat → Int64) (Q : Option Value → sm_M → Prop) (x1 : Int32) (x2 : Int32) (x3 : Int32) (x4 : Int32) :
    sm_wp X 115 84 [some (.ref 1), some (.int x1), some (.int x2), some (.int x3), some (.int x4)] [] (sM mo G I J) Q =
    (vp_in x4 960 ∧ (True ∧ Q (some (.int (I 9 (x4.toNatClampNeg)))) (sM mo G I J))) :=
  (sm_blk X 115 84 (tt_lin 115 (by decide)) rfl rfl _ _ _ _).trans rfl
set_option maxRecDepth 100000 in
theorem bk_115_92 (X : (Nat → Int32) × Nat) (mo : Bool) (G : Nat × Nat) (I : Nat → Nat → Int32) (J : Nat → Nat → Int64) (Q : Option Value → sm_M → Prop) (x1 : Int32) (x2 : Int32) (x3 : Int32) (x4 : Int32) :
    sm_wp X 115 92 [some (.ref 1), some (.int x1), some (.int x2), some (.int x3), some (.int x4)] [] (sM mo G I J) Q =
    (True ∧ Q (some (.int (-2))) (sM mo G I J)) :=
  (sm_blk X 115 92 (tt_lin 115 (by decide)) rfl rfl _ _ _ _).trans rfl
set_option maxRecDepth 100000 in
theorem bk_116_0 (X : (Nat → Int32) × Nat) (mo : Bool) (G : Nat × Nat) (I : Nat → Nat → Int32) (J : Nat → Nat → Int64) (Q : Option Value → sm_M → Prop)  :
    sm_wp X 116 0 [some (.ref 1)] [] (sM mo G I J) Q =
    (sm_wp X 102 0 [some (.ref 1)] [] (sM mo G I J) (fun v M => sm_wp X 116 5 [some (.ref 1)] (v.toList ++ [.ref 1]) M Q)) :=
  (sm_blk X 116 0 (tt_lin 116 (by decide)) rfl rfl _ _ _ _).trans rfl
set_option maxRecDepth 100000 in
theorem bk_116_5 (X : (Nat → Int32) × Nat) (mo : Bool) (G : Nat × Nat) (I : Nat → Nat → Int32) (J : Nat → Nat → Int64) (Q : Option Value → sm_M → Prop) (s1 : Int32) :
    sm_wp X 116 5 [some (.ref 1)] [.int s1, .ref 1] (sM mo G I J) Q =
    (sm_wp X 105 0 [some (.ref 1), some (.int (-1)), none, none] [] (sM mo G I J) (fun v M => sm_wp X 116 10 [some (.ref 1)] (v.toList ++ [.int s1, .ref 1]) M Q)) :=
  (sm_blk X 116 5 (tt_lin 116 (by decide)) rfl rfl _ _ _ _).trans rfl
set_option maxRecDepth 100000 in
theorem bk_116_10 (X : (Nat → Int32) × Nat) (mo : Bool) (G : Nat × Nat) (I : Nat → Nat → Int32) (J : Nat → Nat → Int64) (Q : Option Value → sm_M → Prop) (s1 : Int32) (s2 : Int32) :
    sm_wp X 116 10 [some (.ref 1)] [.int s2, .int s1, .ref 1] (sM mo G I J) Q =
    (sm_wp X 106 0 [some (.ref 1), some (.int (s1 &&& (s2 ^^^ (-1)))), none, none] [] (sM mo G I J) (fun v M => sm_wp X 116 16 [some (.ref 1)] (v.toList ++ []) M Q)) :=
  (sm_blk X 116 10 (tt_lin 116 (by decide)) rfl rfl _ _ _ _).trans rfl
set_option maxRecDepth 100000 in
theorem bk_116_16 (X : (Nat → Int32) × Nat) (mo : Bool) (G : Nat × Nat) (I : Nat → Nat → Int32) (J : Nat → Nat → Int64) (Q : Option Value → sm_M → Prop) (s0 : Int32) :
    sm_wp X 116 16 [some (.ref 1)] [.int s0] (sM mo G I J) Q =
    (True ∧ Q (some (.int s0)) (sM mo G I J)) :=
  (sm_blk X 116 16 (tt_lin 116 (by decide)) rfl rfl _ _ _ _).trans rfl
set_option maxRecDepth 100000 in
theorem bk_117_0 (X : (Nat → Int32) × Nat) (mo : Bool) (G : Nat × Nat) (I : Nat → Nat → Int32) (J : Nat → Nat → Int64) (Q : Option Value → sm_M → Prop) (x1 : Int32) :
    sm_wp X 117 0 [some (.ref 1), some (.int x1)] [] (sM mo G I J) Q =
    (sm_wp X 90 0 [some (.ref 1), some (.int x1)] [] (sM mo G I J) (fun v M => sm_wp X 117 5 [some (.ref 1), some (.int x1)] (v.toList ++ []) M Q)) :=
  (sm_blk X 117 0 (tt_lin 117 (by decide)) rfl rfl _ _ _ _).trans rfl
set_option maxRecDepth 100000 in
theorem bk_117_5 (X : (Nat → Int32) × Nat) (mo : Bool) (G : Nat × Nat) (I : Nat → Nat → Int32) (J : Nat → Nat → Int64) (Q : Option Value → sm_M → Prop) (x1 : Int32) (s0 : Int32) :
    sm_wp X 117 5 [some (.ref 1), some (.int x1)] [.int s0] (sM mo G I J) Q =
    (if (s0 : Int32) = 0 then sm_wp X 117 17 [some (.ref 1), some (.int x1)] [] (sM mo G I J) Q else (vp_in x1 12 ∧ (sm_wp X 117 18 [some (.ref 1), some (.int x1)] [.int (I 2 (x1.toNatClampNeg))] (sM mo G I J) Q))) :=
  (sm_blk X 117 5 (tt_lin 117 (by decide)) rfl rfl _ _ _ _).trans rfl
set_option maxRecDepth 100000 in
theorem bk_117_17 (X : (Nat → Int32) × Nat) (mo : Bool) (G : Nat × Nat) (I : Nat → Nat → Int32) (J : Nat → Nat → Int64) (Q : Option Value → sm_M → Prop) (x1 : Int32) :
    sm_wp X 117 17 [some (.ref 1), some (.int x1)] [] (sM mo G I J) Q =
    (True ∧ Q (some (.int 0)) (sM mo G I J)) :=
  (sm_blk X 117 17 (tt_lin 117 (by decide)) rfl rfl _ _ _ _).trans rfl
set_option maxRecDepth 100000 in
theorem bk_117_18 (X : (Nat → Int32) × Nat) (mo : Bool) (G : Nat × Nat) (I : Nat → Nat → Int32) (J : Nat → Nat → Int64) (Q : Option Value → sm_M → Prop) (x1 : Int32) (s0 : Int32) :
    sm_wp X 117 18 [some (.ref 1), some (.int x1)] [.int s0] (sM mo G I J) Q =
    (True ∧ Q (some (.int s0)) (sM mo G I J)) :=
  (sm_blk X 117 18 (tt_lin 117 (by decide)) rfl rfl _ _ _ _).trans rfl
