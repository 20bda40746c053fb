set_option maxRecDepth 100000 in
theorem bk_64_0 (X : (Nat → Int32) × Nat) (mo : Bool) (G : Nat × Nat) (I : Nat → Nat → Int32) (J : Nat → Nat → Int64) (Q : Option Value → sm_M → Prop)  :
    sm_wp X 64 0 [some (.ref 31)] [] (sM mo G I J) Q =
    (if (I 31 0 : Int32) < (60 : Int32) then sm_wp X 64 13 [some (.ref 31)] [] (sM mo G I J) Q else (sm_wp X 64 14 [some (.ref 31)] [.int 1] (sM mo G I J) Q)) :=
  (sm_blk X 64 0 (tt_lin 64 (by decide)) rfl rfl _ _ _ _).trans rfl
set_option maxRecDepth 100000 in
theorem bk_64_13 (X : (Nat → Int32) × Nat) (mo : Bool) (G : Nat × Nat) (I : Nat → Nat → Int32) (J : Nat → Nat → Int64) (Q : Option Value → sm_M → Prop)  :
    sm_wp X 64 13 [some (.ref 31)] [] (sM mo G I J) Q =
    (sm_zb 0 ∧ Q (some (.int 0)) (sM mo G I J)) :=
  (sm_blk X 64 13 (tt_lin 64 (by decide)) rfl rfl _ _ _ _).trans rfl
set_option maxRecDepth 100000 in
theorem bk_64_14 (X : (Nat → Int32) × Nat) (mo : Bool) (G : Nat × Nat) (I : Nat → Nat → Int32) (J : Nat → Nat → Int64) (Q : Option Value → sm_M → Prop) (s0 : Int32) :
    sm_wp X 64 14 [some (.ref 31)] [.int s0] (sM mo G I J) Q =
    (sm_zb s0 ∧ Q (some (.int s0)) (sM mo G I J)) :=
  (sm_blk X 64 14 (tt_lin 64 (by decide)) rfl rfl _ _ _ _).trans rfl
set_option maxRecDepth 100000 in
theorem bk_65_0 (X : (Nat → Int32) × Nat) (mo : Bool) (G : Nat × Nat) (I : Nat → Nat → Int32) (J : Nat → Nat → Int64) (Q : Option Value → sm_M → Prop) (x1 : Int32) :
    sm_wp X 65 0 [some (.ref 31), some (.int x1)] [] (sM mo G I J) Q =
    (sm_wp X 66 0 [some (.ref 31), some (.int x1)] [] (sM mo G I J) (fun v M => sm_wp X 65 5 [some (.ref 31), some (.int x1)] (v.toList ++ []) M Q)) :=
  (sm_blk X 65 0 (tt_lin 65 (by decide)) rfl rfl _ _ _ _).trans rfl
set_option maxRecDepth 100000 in
theorem bk_65_5 (X : (Nat → Int32) × Nat) (mo : Bool) (G : Nat × Nat) (I : Nat → Nat → Int32) (J : Nat → Nat → Int64) (Q : Option Value → sm_M → Prop) (x1 : Int32) (s0 : Int32) :
    sm_wp X 65 5 [some (.ref 31), some (.int x1)] [.int s0] (sM mo G I J) Q =
    (if (s0 : Int32) = 0 then sm_wp X 65 22 [some (.ref 31), some (.int x1)] [] (sM mo G I J) Q else (vp_in x1 60 ∧ (if (I 42 (x1.toNatClampNeg) : Int32) = ((-1) : Int32) then sm_wp X 65 22 [some (.ref 31), some (.int x1)] [] (sM mo G I J) Q else (sm_wp X 65 23 [some (.ref 31), some (.int x1)] [.int 1] (sM mo G I J) Q)))) :=
  (sm_blk X 65 5 (tt_lin 65 (by decide)) rfl rfl _ _ _ _).trans rfl
set_option maxRecDepth 100000 in
theorem bk_65_22 (X : (Nat → Int32) × Nat) (mo : Bool) (G : Nat × Nat) (I : Nat → Nat → Int32) (J : Nat → Nat → Int64) (Q : Option Value → sm_M → Prop) (x1 : Int32) :
    sm_wp X 65 22 [some (.ref 31), some (.int x1)] [] (sM mo G I J) Q =
    (sm_zb 0 ∧ Q (some (.int 0)) (sM mo G I J)) :=
  (sm_blk X 65 22 (tt_lin 65 (by decide)) rfl rfl _ _ _ _).trans rfl
set_option maxRecDepth 100000 in
theorem bk_65_23 (X : (Nat → Int32) × Nat) (mo : Bool) (G : Nat × Nat) (I : Nat → Nat → Int32) (J : Nat → Nat → Int64) (Q : Option Value → sm_M → Prop) (x1 : Int32) (s0 : Int32) :
    sm_wp X 65 23 [some (.ref 31), some (.int x1)] [.int s0] (sM mo G I J) Q =
    (sm_zb s0 ∧ Q (some (.int s0)) (sM mo G I J)) :=
  (sm_blk X 65 23 (tt_lin 65 (by decide)) rfl rfl _ _ _ _).trans rfl
set_option maxRecDepth 100000 in
theorem bk_66_0 (X : (Nat → Int32) × Nat) (mo : Bool) (G : Nat × Nat) (I : Nat → Nat → Int32) (J : Nat → Nat → Int64) (Q : Option Value → sm_M → Prop) (x1 : Int32) :
    sm_wp X 66 0 [some (.ref 31), some (.int x1)] [] (sM mo G I J) Q =
    (if (x1 : Int32) < 0 then sm_wp X 66 22 [some (.ref 31), some (.int x1)] [] (sM mo G I J) Q else (if (I 31 0 : Int32) ≤ (x1 : Int32) then sm_wp X 66 22 [some (.ref 31), some (.int x1)] [] (sM mo G I J) Q else (if (60 : Int32) ≤ (x1 : Int32) then sm_wp X 66 22 [some (.ref 31), some (.int x1)] [] (sM mo G I J) Q else (sm_wp X 66 23 [some (.ref 31), some (.int x1)] [.int 1] (sM mo G I J) Q)))) :=
  (sm_blk X 66 0 (tt_lin 66 (by decide)) rfl rfl _ _ _ _).trans rfl
set_option maxRecDepth 100000 in
theorem bk_66_22 (X : (Nat → Int32) × Nat) (mo : Bool) (G : Nat × Nat) (I : Nat → Nat → Int32) (J : Nat → Nat → Int64) (Q : Option Value → sm_M → Prop) (x1 : Int32) :
    sm_wp X 66 22 [some (.ref 31), some (.int x1)] [] (sM mo G I J) Q =
    (sm_zb 0 ∧ Q (some (.int 0)) (sM mo G I J)) :=
  (sm_blk X 66 22 (tt_lin 66 (by decide)) rfl rfl _ _ _ _).trans rfl
set_option maxRecDepth 100000 in
theorem bk_66_23 (X : (Nat → Int32) × Nat) (mo : Bool) (G : Nat × Nat) (I : Nat → Nat → Int32) (J : Nat → Nat → Int64) (Q : Option Value → sm_M → Prop) (x1 : Int32) (s0 : Int32) :
    sm_wp X 66 23 [some (.ref 31), some (.int x1)] [.int s0] (sM mo G I J) Q =
    (sm_zb s0 ∧ Q (some (.int s0)) (sM mo G I J)) :=
  (sm_blk X 66 23 (tt_lin 66 (by decide)) rfl rfl _ _ _ _).trans rfl
set_option maxRecDepth 100000 in
theorem bk_67_0 (X : (Nat → Int32) × Nat) (mo : Bool) (G : Nat × Nat) (I : Nat → Nat → Int32) (J : Nat → Nat → Int64) (Q : Option Value → sm_M → Prop) (x1 : Int32) (x2 : Int32) (x3 : Int32) :
    sm_wp X 67 0 [some (.ref 31), some (.int x1), some (.int x2), some (.int x3)] [] (sM mo G I J) Q =
    (sm_wp X 64 0 [some (.ref 31)] [] (sM mo G I J) (fun v M => sm_wp X 67 4 [some (.ref 31), some (.int x1), some (.int x2), some (.int x3)] (v.toList ++ []) M Q)) :=
  (sm_blk X 67 0 (tt_lin 67 (by decide)) rfl rfl _ _ _ _).trans rfl
set_option maxRecDepth 100000 in
theorem bk_67_4 (X : (Nat → Int32) × Nat) (mo : Bool) (G : Nat × Nat) (I : Nat → Nat → Int32) (J : Nat → Nat → Int64) (Q : Option Value → sm_M → Prop) (x1 : Int32) (x2 : Int32) (x3 : Int32) (s0 : Int32) :
    sm_wp X 67 4 [some (.ref 31), some (.int x1), some (.int x2), some (.int x3)] [.int s0] (sM mo G I J) Q =
    (if (s0 : Int32) = 0 then sm_wp X 67 9 [some (.ref 31), some (.int x1), some (.int x2), some (.int x3)] [] (sM mo G I J) Q else (True ∧ Q (some (.int (-1))) (sM mo G I J))) :=
  (sm_blk X 67 4 (tt_lin 67 (by decide)) rfl rfl _ _ _ _).trans rfl
set_option maxRecDepth 100000 in
theorem bk_67_9 (X : (Nat → Int32) × Nat) (mo : Bool) (G : Nat × Nat) (I : Nat → Nat → Int32) (J : Nat → Nat → Int64) (Q : Option Value → sm_M → Prop) (x1 : Int32) (x2 : Int32) (x3 : Int32) :
    sm_wp X 67 9 [some (.ref 31), some (.int x1), some (.int x2), some (.int x3)] [] (sM mo G I J) Q =
    (vp_in (I 31 0) 60 ∧ (vp_in ((up2 I 32 (I 31 0).toNatClampNeg x1) 31 0) 60 ∧ (vp_in ((up2 (up2 I 32 (I 31 0).toNatClampNeg x1) 33 ((up2 I 32 (I 31 0).toNatClampNeg x1) 31 0).toNatClampNeg x2) 31 0) 60 ∧ (vp_in ((up2 (up2 (up2 I 32 (I 31 0).toNatClampNeg x1) 33 ((up2 I 32 (I 31 0).toNatClampNeg x1) 31 0).toNatClampNeg x2) 34 ((up2 (up2 I 32 (I 31 0).toNatClampNeg x1) 33 ((up2 I 32 (I 31 0).toNatClampNeg x1) 31 0).toNatClampNeg x2) 31 0).toNatClampNeg x3) 31 0) 60 ∧ (vp_in ((up2 (up2 (up2 (up2 I 32 (I 31 0).toNatClampNeg x1) 33 ((up2 I 32 (I 31 0).toNatClampNeg x1) 31 0).toNatClampNeg x2) 34 ((up2 (up2 I 32 (I 31 0).toNatClampNeg x1) 33 ((up2 I 32 (I 31 0).toNatClampNeg x1) 31 0).toNatClampNeg x2) 31 0).toNatClampNeg x3) 40 ((up2 (up2 (up2 I 32 (I 31 0).toNatClampNeg x1) 33 ((up2 I 32 (I 31 0).toNatClampNeg x1) 31 0).toNatClampNeg x2) 34 ((up2 (up2 I 32 (I 31 0).toNatClampNeg x1) 33 ((up2 I 32 (I 31 0).toNatClampNeg x1) 31 0).toNatClampNeg x2) 31 0).toNatClampNeg x3) 31 0).toNatClampNeg (-1)) 31 0) 60 ∧ (vp_in ((up2 (up2 (up2 (up2 (up2 I 32 (I 31 0).toNatClampNeg x1) 33 ((up2 I 32 (I 31 0).toNatClampNeg x1) 31 0).toNatClampNeg x2) 34 ((up2 (up2 I 32 (I 31 0).toNatClampNeg x1) 33 ((up2 I 32 (I 31 0).toNatClampNeg x1) 31 0).toNatClampNeg x2) 31 0).toNatClampNeg x3) 40 ((up2 (up2 (up2 I 32 (I 31 0).toNatClampNeg x1) 33 ((up2 I 32 (I 31 0).toNatClampNeg x1) 31 0).toNatClampNeg x2) 34 ((up2 (up2 I 32 (I 31 0).toNatClampNeg x1) 33 ((up2 I 32 (I 31 0).toNatClampNeg x1) 31 0).toNatClampNeg x2) 31 0).toNatClampNeg x3) 31 0).toNatClampNeg (-1)) 41 ((up2 (up2 (up2 (up2 I 32 (I 31 0).toNatClampNeg x1) 33 ((up2 I 32 (I 31 0).toNatClampNeg x1) 31 0).toNatClampNeg x2) 34 ((up2 (up2 I 32 (I 31 0).toNatClampNeg x1) 33 ((up2 I 32 (I 31 0).toNatClampNeg x1) 31 0).toNatClampNeg x2) 31 0).toNatClampNeg x3) 40 ((up2 (up2 (up2 I 32 (I 31 0).toNatClampNeg x1) 33 ((up2 I 32 (I 31 0).toNatClampNeg x1) 31 0).toNatClampNeg x2) 34 ((up2 (up2 I 32 (I 31 0).toNatClampNeg x1) 33 ((up2 I 32 (I 31 0).toNatClampNeg x1) 31 0).toNatClampNeg x2) 31 0).toNatClampNeg x3) 31 0).toNatClampNeg (-1)) 31 0).toNatClampNeg (-1)) 31 0) 60 ∧ (vp_in ((up2 (up2 (up2 (up2 (up2 (up2 I 32 (I 31 0).toNatClampNeg x1) 33 ((up2 I 32 (I 31 0).toNatClampNeg x1) 31 0).toNatClampNeg x2) 34 ((up2 (up2 I 32 (I 31 0).toNatClampNeg x1) 33 ((up2 I 32 (I 31 0).toNatClampNeg x1) 31 0).toNatClampNeg x2) 31 0).toNatClampNeg x3) 40 ((up2 (up2 (up2 I 32 (I 31 0).toNatClampNeg x1) 33 ((up2 I 32 (I 31 0).toNatClampNeg x1) 31 0).toNatClampNeg x2) 34 ((up2 (up2 I 32 (I 31 0).toNatClampNeg x1) 33 ((up2 I 32 (I 31 0).toNatClampNeg x1) 31 0).toNatClampNeg x2) 31 0).toNatClampNeg x3) 31 0).toNatClampNeg (-1)) 41 ((up2 (up2 (up2 (up2 I 32 (I 31 0).toNatClampNeg x1) 33 ((up2 I 32 (I 31 0).toNatClampNeg x1) 31 0).toNatClampNeg x2) 34 ((up2 (up2 I 32 (I 31 0).toNatClampNeg x1) 33 ((up2 I 32 (I 31 0).toNatClampNeg x1) 31 0).toNatClampNeg x2) 31 0).toNatClampNeg x3) 40 ((up2 (up2 (up2 I 32 (I 31 0).toNatClampNeg x1) 33 ((up2 I 32 (I 31 0).toNatClampNeg x1) 31 0).toNatClampNeg x2) 34 ((up2 (up2 I 32 (I 31 0).toNatClampNeg x1) 33 ((up2 I 32 (I 31 0).toNatClampNeg x1) 31 0).toNatClampNeg x2) 31 0).toNatClampNeg x3) 31 0).toNatClampNeg (-1)) 31 0).toNatClampNeg (-1)) 42 ((up2 (up2 (up2 (up2 (up2 I 32 (I 31 0).toNatClampNeg x1) 33 ((up2 I 32 (I 31 0).toNatClampNeg x1) 31 0).toNatClampNeg x2) 34 ((up2 (up2 I 32 (I 31 0).toNatClampNeg x1) 33 ((up2 I 32 (I 31 0).toNatClampNeg x1) 31 0).toNatClampNeg x2) 31 0).toNatClampNeg x3) 40 ((up2 (up2 (up2 I 32 (I 31 0).toNatClampNeg x1) 33 ((up2 I 32 (I 31 0).toNatClampNeg x1) 31 0).toNatClampNeg x2) 34 ((up2 (up2 I 32 (I 31 0).toNatClampNeg x1) 33 ((up2 I 32 (I 31 0).toNatClampNeg x1) 31 0).toNatClampNeg x2) 31 0).toNatClampNeg x3) 31 0).toNatClampNeg (-1)) 41 ((up2 (up2 (up2 (up2 I 32 (I 31 0).toNatClampNeg x1) 33 ((up2 I 32 (I 31 0).toNatClampNeg x1) 31 0).toNatClampNeg x2) 34 ((up2 (up2 I 32 (I 31 0).toNatClampNeg x1) 33 ((up2 I 32 (I 31 0).toNatClampNeg x1) 31 0).toNatClampNeg x2) 31 0).toNatClampNeg x3) 40 ((up2 (up2 (up2 I 32 (I 31 0).toNatClampNeg x1) 33 ((up2 I 32 (I 31 0).toNatClampNeg x1) 31 0).toNatClampNeg x2) 34 ((up2 (up2 I 32 (I 31 0).toNatClampNeg x1) 33 ((up2 I 32 (I 31 0).toNatClampNeg x1) 31 0).toNatClampNeg x2) 31 0).toNatClampNeg x3) 31 0).toNatClampNeg (-1)) 31 0).toNatClampNeg (-1)) 31 0).toNatClampNeg (-1)) 31 0) 60 ∧ (vp_in ((up2 (up2 (up2 (up2 (up2 (up2 (up2 I 32 (I 31 0).toNatClampNeg x1) 33 ((up2 I 32 (I 31 0).toNatClampNeg x1) 31 0).toNatClampNeg x2) 34 ((up2 (up2 I 32 (I 31 0).toNatClampNeg x1) 33 ((up2 I 32 (I 31 0).toNatClampNeg x1) 31 0).toNatClampNeg x2) 31 0).toNatClampNeg x3) 40 ((up2 (up2 (up2 I 32 (I 31 0).toNatClampNeg x1) 33 ((up2 I 32 (I 31 0).toNatClampNeg x1) 31 0).toNatClampNeg x2) 34 ((up2 (up2 I 32 (I 31 0).toNatClampNeg x1) 33 ((up2 I 32 (I 31 0).toNatClampNeg x1) 31 0).toNatClampNeg x2) 31 0).toNatClampNeg x3) 31 0).toNatClampNeg (-1)) 41 ((up2 (up2 (up2 (up2 I 32 (I 31 0).toNatClampNeg x1) 33 ((up2 I 32 (I 31 0).toNatClampNeg x1) 31 0).toNatClampNeg x2) 34 ((up2 (up2 I 32 (I 31 0).toNatClampNeg x1) 33 ((up2 I 32 (I 31 0).toNatClampNeg x1) 31 0).toNatClampNeg x2) 31 0).toNatClampNeg x3) 40 ((up2 (up2 (up2 I 32 (I 31 0).toNatClampNeg x1) 33 ((up2 I 32 (I 31 0).toNatClampNeg x1) 31 0).toNatClampNeg x2) 34 ((up2 (up2 I 32 (I 31 0).toNatClampNeg x1) 33 ((up2 I 32 (I 31 0).toNatClampNeg x1) 31 0).toNatClampNeg x2) 31 0).toNatClampNeg x3) 31 0).toNatClampNeg (-1)) 31 0).toNatClampNeg (-1)) 42 ((up2 (up2 (up2 (up2 (up2 I 32 (I 31 0).toNatClampNeg x1) 33 ((up2 I 32 (I 31 0).toNatClampNeg x1) 31 0).toNatClampNeg x2) 34 ((up2 (up2 I 32 (I 31 0).toNatClampNeg x1) 33 ((up2 I 32 (I 31 0).toNatClampNeg x1) 31 0).toNatClampNeg x2) 31 0).toNatClampNeg x3) 40 ((up2 (up2 (up2 I 32 (I 31 0).toNatClampNeg x1) 33 ((up2 I 32 (I 31 0).toNatClampNeg x1) 31 0).toNatClampNeg x2) 34 ((up2 (up2 I 32 (I 31 0).toNatClampNeg x1) 33 ((up2 I 32 (I 31 0).toNatClampNeg x1) 31 0).toNatClampNeg x2) 31 0).toNatClampNeg x3) 31 0).toNatClampNeg (-1)) 41 ((up2 (up2 (up2 (up2 I 32 (I 31 0).toNatClampNeg x1) 33 ((up2 I 32 (I 31 0).toNatClampNeg x1) 31 0).toNatClampNeg x2) 34 ((up2 (up2 I 32 (I 31 0).toNatClampNeg x1) 33 ((up2 I 32 (I 31 0).toNatClampNeg x1) 31 0).toNatClampNeg x2) 31 0).toNatClampNeg x3) 40 ((up2 (up2 (up2 I 32 (I 31 0).toNatClampNeg x1) 33 ((up2 I 32 (I 31 0).toNatClampNeg x1) 31 0).toNatClampNeg x2) 34 ((up2 (up2 I 32 (I 31 0).toNatClampNeg x1) 33 ((up2 I 32 (I 31 0).toNatClampNeg x1) 31 0).toNatClampNeg x2) 31 0).toNatClampNeg x3) 31 0).toNatClampNeg (-1)) 31 0).toNatClampNeg (-1)) 31 0).toNatClampNeg (-1)) 43 ((up2 (up2 (up2 (up2 (up2 (up2 I 32 (I 31 0).toNatClampNeg x1) 33 ((up2 I 32 (I 31 0).toNatClampNeg x1) 31 0).toNatClampNeg x2) 34 ((up2 (up2 I 32 (I 31 0).toNatClampNeg x1) 33 ((up2 I 32 (I 31 0).toNatClampNeg x1) 31 0).toNatClampNeg x2) 31 0).toNatClampNeg x3) 40 ((up2 (up2 (up2 I 32 (I 31 0).toNatClampNeg x1) 33 ((up2 I 32 (I 31 0).toNatClampNeg x1) 31 0).toNatClampNeg x2) 34 ((up2 (up2 I 32 (I 31 0).toNatClampNeg x1) 33 ((up2 I 32 (I 31 0).toNatClampNeg x1) 31 0).toNatClampNeg x2) 31 0).toNatClampNeg x3) 31 0).toNatClampNeg (-1)) 41 ((up2 (up2 (up2 (up2 I 32 (I 31 0).toNatClampNeg x1) 33 ((up2 I 32 (I 31 0).toNatClampNeg x1) 31 0).toNatClampNeg x2) 34 ((up2 (up2 I 32 (I 31 0).toNatClampNeg x1) 33 ((up2 I 32 (I 31 0).toNatClampNeg x1) 31 0).toNatClampNeg x2) 31 0).toNatClampNeg x3) 40 ((up2 (up2 (up2 I 32 (I 31 0).toNatClampNeg x1) 33 ((up2 I 32 (I 31 0).toNatClampNeg x1) 31 0).toNatClampNeg x2) 34 ((up2 (up2 I 32 (I 31 0).toNatClampNeg x1) 33 ((up2 I 32 (I 31 0).toNatClampNeg x1) 31 0).toNatClampNeg x2) 31 0).toNatClampNeg x3) 31 0).toNatClampNeg (-1)) 31 0).toNatClampNeg (-1)) 42 ((up2 (up2 (up2 (up2 (up2 I 32 (I 31 0).toNatClampNeg x1) 33 ((up2 I 32 (I 31 0).toNatClampNeg x1) 31 0).toNatClampNeg x2) 34 ((up2 (up2 I 32 (I 31 0).toNatClampNeg x1) 33 ((up2 I 32 (I 31 0).toNatClampNeg x1) 31 0).toNatClampNeg x2) 31 0).toNatClampNeg x3) 40 ((up2 (up2 (up2 I 32 (I 31 0).toNatClampNeg x1) 33 ((up2 I 32 (I 31 0).toNatClampNeg x1) 31 0).toNatClampNeg x2) 34 ((up2 (up2 I 32 (I 31 0).toNatClampNeg x1) 33 ((up2 I 32 (I 31 0).toNatClampNeg x1) 31 0).toNatClampNeg x2) 31 0).toNatClampNeg x3) 31 0).toNatClampNeg (-1)) 41 ((up2 (up2 (up2 (up2 I 32 (I 31 0).toNatClampNeg x1) 33 ((up2 I 32 (I 31 0).toNatClampNeg x1) 31 0).toNatClampNeg x2) 34 ((up2 (up2 I 32 (I 31 0).toNatClampNeg x1) 33 ((up2 I 32 (I 31 0).toNatClampNeg x1) 31 0).toNatClampNeg x2) 31 0).toNatClampNeg x3) 40 ((up2 (up2 (up2 I 32 (I 31 0).toNatClampNeg x1) 33 ((up2 I 32 (I 31 0).toNatClampNeg x1) 31 0).toNatClampNeg x2) 34 ((up2 (up2 I 32 (I 31 0).toNatClampNeg x1) 33 ((up2 I 32 (I 31 0).toNatClampNeg x1) 31 0).toNatClampNeg x2) 31 0).toNatClampNeg x3) 31 0).toNatClampNeg (-1)) 31 0).toNatClampNeg (-1)) 31 0).toNatClampNeg (-1)) 31 0).toNatClampNeg (-1)) 31 0) 60 ∧ (True ∧ Q (some (.int (((up2 (up2 (up2 (up2 (up2 (up2 (up2 (up2 (up2 I 32 (I 31 0).toNatClampNeg x1) 33 ((up2 I 32 (I 31 0).toNatClampNeg x1) 31 0).toNatClampNeg x2) 34 ((up2 (up2 I 32 (I 31 0).toNatClampNeg x1) 33 ((up2 I 32 (I 31 0).toNatClampNeg x1) 31 0).toNatClampNeg x2) 31 0).toNatClampNeg x3) 40 ((up2 (up2 (up2 I 32 (I 31 0).toNatClampNeg x1) 33 ((up2 I 32 (I 31 0).toNatClampNeg x1) 31 0).toNatClampNeg x2) 34 ((up2 (up2 I 32 (I 31 0).toNatClampNeg x1) 33 ((up2 I 32 (I 31 0).toNatClampNeg x1) 31 0).toNatClampNeg x2) 31 0).toNatClampNeg x3) 31 0).toNatClampNeg (-1)) 41 ((up2 (up2 (up2 (up2 I 32 (I 31 0).toNatClampNeg x1) 33 ((up2 I 32 (I 31 0).toNatClampNeg x1) 31 0).toNatClampNeg x2) 34 ((up2 (up2 I 32 (I 31 0).toNatClampNeg x1) 33 ((up2 I 32 (I 31 0).toNatClampNeg x1) 31 0).toNatClampNeg x2) 31 0).toNatClampNeg x3) 40 ((up2 (up2 (up2 I 32 (I 31 0).toNatClampNeg x1) 33 ((up2 I 32 (I 31 0).toNatClampNeg x1) 31 0).toNatClampNeg x2) 34 ((up2 (up2 I 32 (I 31 0).toNatClampNeg x1) 33 ((up2 I 32 (I 31 0).toNatClampNeg x1) 31 0).toNatClampNeg x2) 31 0).toNatClampNeg x3) 31 0).toNatClampNeg (-1)) 31 0).toNatClampNeg (-1)) 42 ((up2 (up2 (up2 (up2 (up2 I 32 (I 31 0).toNatClampNeg x1) 33 ((up2 I 32 (I 31 0).toNatClampNeg x1) 31 0).toNatClampNeg x2) 34 ((up2 (up2 I 32 (I 31 0).toNatClampNeg x1) 33 ((up2 I 32 (I 31 0).toNatClampNeg x1) 31 0).toNatClampNeg x2) 31 0).toNatClampNeg x3) 40 ((up2 (up2 (up2 I 32 (I 31 0).toNatClampNeg x1) 33 ((up2 I 32 (I 31 0).toNatClampNeg x1) 31 0).toNatClampNeg x2) 34 ((up2 (up2 I 32 (I 31 0).toNatClampNeg x1) 33 ((up2 I 32 (I 31 0).toNatClampNeg x1) 31 0).toNatClampNeg x2) 31 0).toNatClampNeg x3) 31 0).toNatClampNeg (-1)) 41 ((up2 (up2 (up2 (up2 I 32 (I 31 0).toNatClampNeg x1) 33 ((up2 I 32 (I 31 0).toNatClampNeg x1) 31 0).toNatClampNeg x2) 34 ((up2 (up2 I 32 (I 31 0).toNatClampNeg x1) 33 ((up2 I 32 (I 31 0).toNatClampNeg x1) 31 0).toNatClampNeg x2) 31 0).toNatClampNeg x3) 40 ((up2 (up2 (up2 I 32 (I 31 0).toNatClampNeg x1) 33 ((up2 I 32 (I 31 0).toNatClampNeg x1) 31 0).toNatClampNeg x2) 34 ((up2 (up2 I 32 (I 31 0).toNatClampNeg x1) 33 ((up2 I 32 (I 31 0).toNatClampNeg x1) 31 0).toNatClampNeg x2) 31 0).toNatClampNeg x3) 31 0).toNatClampNeg (-1)) 31 0).toNatClampNeg (-1)) 31 0).toNatClampNeg (-1)) 43 ((up2 (up2 (up2 (up2 (up2 (up2 I 32 (I 31 0).toNatClampNeg x1) 33 ((up2 I 32 (I 31 0).toNatClampNeg x1) 31 0).toNatClampNeg x2) 34 ((up2 (up2 I 32 (I 31 0).toNatClampNeg x1) 33 ((up2 I 32 (I 31 0).toNatClampNeg x1) 31 0).toNatClampNeg x2) 31 0).toNatClampNeg x3) 40 ((up2 (up2 (up2 I 32 (I 31 0).toNatClampNeg x1) 33 ((up2 I 32 (I 31 0).toNatClampNeg x1) 31 0).toNatClampNeg x2) 34 ((up2 (up2 I 32 (I 31 0).toNatClampNeg x1) 33 ((up2 I 32 (I 31 0).toNatClampNeg x1) 31 0).toNatClampNeg x2) 31 0).toNatClampNeg x3) 31 0).toNatClampNeg (-1)) 41 ((up2 (up2 (up2 (up2 I 32 (I 31 0).toNatClampNeg x1) 33 ((up2 I 32 (I 31 0).toNatClampNeg x1) 31 0).toNatClampNeg x2) 34 ((up2 (up2 I 32 (I 31 0).toNatClampNeg x1) 33 ((up2 I 32 (I 31 0).toNatClampNeg x1) 31 0).toNatClampNeg x2) 31 0).toNatClampNeg x3) 40 ((up2 (up2 (up2 I 32 (I 31 0).toNatClampNeg x1) 33 ((up2 I 32 (I 31 0).toNatClampNeg x1) 31 0).toNatClampNeg x2) 34 ((up2 (up2 I 32 (I 31 0).toNatClampNeg x1) 33 ((up2 I 32 (I 31 0).toNatClampNeg x1) 31 0).toNatClampNeg x2) 31 0).toNatClampNeg x3) 31 0).toNatClampNeg (-1)) 31 0).toNatClampNeg (-1)) 42 ((up2 (up2 (up2 (up2 (up2 I 32 (I 31 0).toNatClampNeg x1) 33 ((up2 I 32 (I 31 0).toNatClampNeg x1) 31 0).toNatClampNeg x2) 34 ((up2 (up2 I 32 (I 31 0).toNatClampNeg x1) 33 ((up2 I 32 (I 31 0).toNatClampNeg x1) 31 0).toNatClampNeg x2) 31 0).toNatClampNeg x3) 40 ((up2 (up2 (up2 I 32 (I 31 0).toNatClampNeg x1) 33 ((up2 I 32 (I 31 0).toNatClampNeg x1) 31 0).toNatClampNeg x2) 34 ((up2 (up2 I 32 (I 31 0).toNatClampNeg x1) 33 ((up2 I 32 (I 31 0).toNatClampNeg x1) 31 0).toNatClampNeg x2) 31 0).toNatClampNeg x3) 31 0).toNatClampNeg (-1)) 41 ((up2 (up2 (up2 (up2 I 32 (I 31 0).toNatClampNeg x1) 33 ((up2 I 32 (I 31 0).toNatClampNeg x1) 31 0).toNatClampNeg x2) 34 ((up2 (up2 I 32 (I 31 0).toNatClampNeg x1) 33 ((up2 I 32 (I 31 0).toNatClampNeg x1) 31 0).toNatClampNeg x2) 31 0).toNatClampNeg x3) 40 ((up2 (up2 (up2 I 32 (I 31 0).toNatClampNeg x1) 33 ((up2 I 32 (I 31 0).toNatClampNeg x1) 31 0).toNatClampNeg x2) 34 ((up2 (up2 I 32 (I 31 0).toNatClampNeg x1) 33 ((up2 I 32 (I 31 0).toNatClampNeg x1) 31 0).toNatClampNeg x2) 31 0).toNatClampNeg x3) 31 0).toNatClampNeg (-1)) 31 0).toNatClampNeg (-1)) 31 0).toNatClampNeg (-1)) 31 0).toNatClampNeg (-1)) 44 ((up2 (up2 (up2 (up2 (up2 (up2 (up2 I 32 (I 31 0).toNatClampNeg x1) 33 ((up2 I 32 (I 31 0).toNatClampNeg x1) 31 0).toNatClampNeg x2) 34 ((up2 (up2 I 32 (I 31 0).toNatClampNeg x1) 33 ((up2 I 32 (I 31 0).toNatClampNeg x1) 31 0).toNatClampNeg x2) 31 0).toNatClampNeg x3) 40 ((up2 (up2 (up2 I 32 (I 31 0).toNatClampNeg x1) 33 ((up2 I 32 (I 31 0).toNatClampNeg x1) 31 0).toNatClampNeg x2) 34 ((up2 (up2 I 32 (I 31 0).toNatClampNeg x1) 33 ((up2 I 32 (I 31 0).toNatClampNeg x1) 31 0).toNatClampNeg x2) 31 0).toNatClampNeg x3) 31 0).toNatClampNeg (-1)) 41 ((up2 (up2 (up2 (up2 I 32 (I 31 0).toNatClampNeg x1) 33 ((up2 I 32 (I 31 0).toNatClampNeg x1) 31 0).toNatClampNeg x2) 34 ((up2 (up2 I 32 (I 31 0).toNatClampNeg x1) 33 ((up2 I 32 (I 31 0).toNatClampNeg x1) 31 0).toNatClampNeg x2) 31 0).toNatClampNeg x3) 40 ((up2 (up2 (up2 I 32 (I 31 0).toNatClampNeg x1) 33 ((up2 I 32 (I 31 0).toNatClampNeg x1) 31 0).toNatClampNeg x2) 34 ((up2 (up2 I 32 (I 31 0).toNatClampNeg x1) 33 ((up2 I 32 (I 31 0).toNatClampNeg x1) 31 0).toNatClampNeg x2) 31 0).toNatClampNeg x3) 31 0).toNatClampNeg (-1)) 31 0).toNatClampNeg (-1)) 42 ((up2 (up2 (up2 (up2 (up2 I 32 (I 31 0).toNatClampNeg x1) 33 ((up2 I 32 (I 31 0).toNatClampNeg x1) 31 0).toNatClampNeg x2) 34 ((up2 (up2 I 32 (I 31 0).toNatClampNeg x1) 33 ((up2 I 32 (I 31 0).toNatClampNeg x1) 31 0).toNatClampNeg x2) 31 0).toNatClampNeg x3) 40 ((up2 (up2 (up2 I 32 (I 31 0).toNatClampNeg x1) 33 ((up2 I 32 (I 31 0).toNatClampNeg x1) 31 0).toNatClampNeg x2) 34 ((up2 (up2 I 32 (I 31 0).toNatClampNeg x1) 33 ((up2 I 32 (I 31 0).toNatClampNeg x1) 31 0).toNatClampNeg x2) 31 0).toNatClampNeg x3) 31 0).toNatClampNeg (-1)) 41 ((up2 (up2 (up2 (up2 I 32 (I 31 0).toNatClampNeg x1) 33 ((up2 I 32 (I 31 0).toNatClampNeg x1) 31 0).toNatClampNeg x2) 34 ((up2 (up2 I 32 (I 31 0).toNatClampNeg x1) 33 ((up2 I 32 (I 31 0).toNatClampNeg x1) 31 0).toNatClampNeg x2) 31 0).toNatClampNeg x3) 40 ((up2 (up2 (up2 I 32 (I 31 0).toNatClampNeg x1) 33 ((up2 I 32 (I 31 0).toNatClampNeg x1) 31 0).toNatClampNeg x2) 34 ((up2 (up2 I 32 (I 31 0).toNatClampNeg x1) 33 ((up2 I 32 (I 31 0).toNatClampNeg x1) 31 0).toNatClampNeg x2) 31 0).toNatClampNeg x3) 31 0).toNatClampNeg (-1)) 31 0).toNatClampNeg (-1)) 31 0).toNatClampNeg (-1)) 43 ((up2 (up2 (up2 (up2 (up2 (up2 I 32 (I 31 0).toNatClampNeg x1) 33 ((up2 I 32 (I 31 0).toNatClampNeg x1) 31 0).toNatClampNeg x2) 34 ((up2 (up2 I 32 (I 31 0).toNatClampNeg x1) 33 ((up2 I 32 (I 31 0).toNatClampNeg x1) 31 0).toNatClampNeg x2) 31 0).toNatClampNeg x3) 40 ((up2 (up2 (up2 I 32 (I 31 0).toNatClampNeg x1) 33 ((up2 I 32 (I 31 0).toNatClampNeg x1) 31 0).toNatClampNeg x2) 34 ((up2 (up2 I 32 (I 31 0).toNatClampNeg x1) 33 ((up2 I 32 (I 31 0).toNatClampNeg x1) 31 0).toNatClampNeg x2) 31 0).toNatClampNeg x3) 31 0).toNatClampNeg (-1)) 41 ((up2 (up2 (up2 (up2 I 32 (I 31 0).toNatClampNeg x1) 33 ((up2 I 32 (I 31 0).toNatClampNeg x1) 31 0).toNatClampNeg x2) 34 ((up2 (up2 I 32 (I 31 0).toNatClampNeg x1) 33 ((up2 I 32 (I 31 0).toNatClampNeg x1) 31 0).toNatClampNeg x2) 31 0).toNatClampNeg x3) 40 ((up2 (up2 (up2 I 32 (I 31 0).toNatClampNeg x1) 33 ((up2 I 32 (I 31 0).toNatClampNeg x1) 31 0).toNatClampNeg x2) 34 ((up2 (up2 I 32 (I 31 0).toNatClampNeg x1) 33 ((up2 I 32 (I 31 0).toNatClampNeg x1) 31 0).toNatClampNeg x2) 31 0).toNatClampNeg x3) 31 0).toNatClampNeg (-1)) 31 0).toNatClampNeg (-1)) 42 ((up2 (up2 (up2 (up2 (up2 I 32 (I 31 0).toNatClampNeg x1) 33 ((up2 I 32 (I 31 0).toNatClampNeg x1) 31 0).toNatClampNeg x2) 34 ((up2 (up2 I 32 (I 31 0).toNatClampNeg x1) 33 ((up2 I 32 (I 31 0).toNatClampNeg x1) 31 0).toNatClampNeg x2) 31 0).toNatClampNeg x3) 40 ((up2 (up2 (up2 I 32 (I 31 0).toNatClampNeg x1) 33 ((up2 I 32 (I 31 0).toNatClampNeg x1) 31 0).toNatClampNeg x2) 34 ((up2 (up2 I 32 (I 31 0).toNatClampNeg x1) 33 ((up2 I 32 (I 31 0).toNatClampNeg x1) 31 0).toNatClampNeg x2) 31 0).toNatClampNeg x3) 31 0).toNatClampNeg (-1)) 41 ((up2 (up2 (up2 (up2 I 32 (I 31 0).toNatClampNeg x1) 33 ((up2 I 32 (I 31 0).toNatClampNeg x1) 31 0).toNatClampNeg x2) 34 ((up2 (up2 I 32 (I 31 0).toNatClampNeg x1) 33 ((up2 I 32 (I 31 0).toNatClampNeg x1) 31 0).toNatClampNeg x2) 31 0).toNatClampNeg x3) 40 ((up2 (up2 (up2 I 32 (I 31 0).toNatClampNeg x1) 33 ((up2 I 32 (I 31 0).toNatClampNeg x1) 31 0).toNatClampNeg x2) 34 ((up2 (up2 I 32 (I 31 0).toNatClampNeg x1) 33 ((up2 I 32 (I 31 0).toNatClampNeg x1) 31 0).toNatClampNeg x2) 31 0).toNatClampNeg x3) 31 0).toNatClampNeg (-1)) 31 0).toNatClampNeg (-1)) 31 0).toNatClampNeg (-1)) 31 0).toNatClampNeg (-1)) 31 0).toNatClampNeg (-1)) 31 0 (((up2 (up2 (up2 (up2 (up2 (up2 (up2 (up2 I 32 (I 31 0).toNatClampNeg x1) 33 ((up2 I 32 (I 31 0).toNatClampNeg x1) 31 0).toNatClampNeg x2) 34 ((up2 (up2 I 32 (I 31 0).toNatClampNeg x1) 33 ((up2 I 32 (I 31 0).toNatClampNeg x1) 31 0).toNatClampNeg x2) 31 0).toNatClampNeg x3) 40 ((up2 (up2 (up2 I 32 (I 31 0).toNatClampNeg x1) 33 ((up2 I 32 (I 31 0).toNatClampNeg x1) 31 0).toNatClampNeg x2) 34 ((up2 (up2 I 32 (I 31 0).toNatClampNeg x1) 33 ((up2 I 32 (I 31 0).toNatClampNeg x1) 31 0).toNatClampNeg x2) 31 0).toNatClampNeg x3) 31 0).toNatClampNeg (-1)) 41 ((up2 (up2 (up2 (up2 I 32 (I 31 0).toNatClampNeg x1) 33 ((up2 I 32 (I 31 0).toNatClampNeg x1) 31 0).toNatClampNeg x2) 34 ((up2 (up2 I 32 (I 31 0).toNatClampNeg x1) 33 ((up2 I 32 (I 31 0).toNatClampNeg x1) 31 0).toNatClampNeg x2) 31 0).toNatClampNeg x3) 40 ((up2 (up2 (up2 I 32 (I 31 0).toNatClampNeg x1) 33 ((up2 I 32 (I 31 0).toNatClampNeg x1) 31 0).toNatClampNeg x2) 34 ((up2 (up2 I 32 (I 31 0).toNatClampNeg x1) 33 ((up2 I 32 (I 31 0).toNatClampNeg x1) 31 0).toNatClampNeg x2) 31 0).toNatClampNeg x3) 31 0).toNatClampNeg (-1)) 31 0).toNatClampNeg (-1)) 42 ((up2 (up2 (up2 (up2 (up2 I 32 (I 31 0).toNatClampNeg x1) 33 ((up2 I 32 (I 31 0).toNatClampNeg x1) 31 0).toNatClampNeg x2) 34 ((up2 (up2 I 32 (I 31 0).toNatClampNeg x1) 33 ((up2 I 32 (I 31 0).toNatClampNeg x1) 31 0).toNatClampNeg x2) 31 0).toNatClampNeg x3) 40 ((up2 (up2 (up2 I 32 (I 31 0).toNatClampNeg x1) 33 ((up2 I 32 (I 31 0).toNatClampNeg x1) 31 0).toNatClampNeg x2) 34 ((up2 (up2 I 32 (I 31 0).toNatClampNeg x1) 33 ((up2 I 32 (I 31 0).toNatClampNeg x1) 31 0).toNatClampNeg x2) 31 0).toNatClampNeg x3) 31 0).toNatClampNeg (-1)) 41 ((up2 (up2 (up2 (up2 I 32 (I 31 0).toNatClampNeg x1) 33 ((up2 I 32 (I 31 0).toNatClampNeg x1) 31 0).toNatClampNeg x2) 34 ((up2 (up2 I 32 (I 31 0).toNatClampNeg x1) 33 ((up2 I 32 (I 31 0).toNatClampNeg x1) 31 0).toNatClampNeg x2) 31 0).toNatClampNeg x3) 40 ((up2 (up2 (up2 I 32 (I 31 0).toNatClampNeg x1) 33 ((up2 I 32 (I 31 0).toNatClampNeg x1) 31 0).toNatClampNeg x2) 34 ((up2 (up2 I 32 (I 31 0).toNatClampNeg x1) 33 ((up2 I 32 (I 31 0).toNatClampNeg x1) 31 0).toNatClampNeg x2) 31 0).toNatClampNeg x3) 31 0).toNatClampNeg (-1)) 31 0).toNatClampNeg (-1)) 31 0).toNatClampNeg (-1)) 43 ((up2 (up2 (up2 (up2 (up2 (up2 I 32 (I 31 0).toNatClampNeg x1) 33 ((up2 I 32 (I 31 0).toNatClampNeg x1) 31 0).toNatClampNeg x2) 34 ((up2 (up2 I 32 (I 31 0).toNatClampNeg x1) 33 ((up2 I 32 (I 31 0).toNatClampNeg x1) 31 0).toNatClampNeg x2) 31 0).toNatClampNeg x3) 40 ((up2 (up2 (up2 I 32 (I 31 0).toNatClampNeg x1) 33 ((up2 I 32 (I 31 0).toNatClampNeg x1) 31 0).toNatClampNeg x2) 34 ((up2 (up2 I 32 (I 31 0).toNatClampNeg x1) 33 ((up2 I 32 (I 31 0).toNatClampNeg x1) 31 0).toNatClampNeg x2) 31 0).toNatClampNeg x3) 31 0).toNatClampNeg (-1)) 41 ((up2 (up2 (up2 (up2 I 32 (I 31 0).toNatClampNeg x1) 33 ((up2 I 32 (I 31 0).toNatClampNeg x1) 31 0).toNatClampNeg x2) 34 ((up2 (up2 I 32 (I 31 0).toNatClampNeg x1) 33 ((up2 I 32 (I 31 0).toNatClampNeg x1) 31 0).toNatClampNeg x2) 31 0).toNatClampNeg x3) 40 ((up2 (up2 (up2 I 32 (I 31 0).toNatClampNeg x1) 33 ((up2 I 32 (I 31 0).toNatClampNeg x1) 31 0).toNatClampNeg x2) 34 ((up2 (up2 I 32 (I 31 0).toNatClampNeg x1) 33 ((up2 I 32 (I 31 0).toNatClampNeg x1) 31 0).toNatClampNeg x2) 31 0).toNatClampNeg x3) 31 0).toNatClampNeg (-1)) 31 0).toNatClampNeg (-1)) 42 ((up2 (up2 (up2 (up2 (up2 I 32 (I 31 0).toNatClampNeg x1) 33 ((up2 I 32 (I 31 0).toNatClampNeg x1) 31 0).toNatClampNeg x2) 34 ((up2 (up2 I 32 (I 31 0).toNatClampNeg x1) 33 ((up2 I 32 (I 31 0).toNatClampNeg x1) 31 0).toNatClampNeg x2) 31 0).toNatClampNeg x3) 40 ((up2 (up2 (up2 I 32 (I 31 0).toNatClampNeg x1) 33 ((up2 I 32 (I 31 0).toNatClampNeg x1) 31 0).toNatClampNeg x2) 34 ((up2 (up2 I 32 (I 31 0).toNatClampNeg x1) 33 ((up2 I 32 (I 31 0).toNatClampNeg x1) 31 0).toNatClampNeg x2) 31 0).toNatClampNeg x3) 31 0).toNatClampNeg (-1)) 41 ((up2 (up2 (up2 (up2 I 32 (I 31 0).toNatClampNeg x1) 33 ((up2 I 32 (I 31 0).toNatClampNeg x1) 31 0).toNatClampNeg x2) 34 ((up2 (up2 I 32 (I 31 0).toNatClampNeg x1) 33 ((up2 I 32 (I 31 0).toNatClampNeg x1) 31 0).toNatClampNeg x2) 31 0).toNatClampNeg x3) 40 ((up2 (up2 (up2 I 32 (I 31 0).toNatClampNeg x1) 33 ((up2 I 32 (I 31 0).toNatClampNeg x1) 31 0).toNatClampNeg x2) 34 ((up2 (up2 I 32 (I 31 0).toNatClampNeg x1) 33 ((up2 I 32 (I 31 0).toNatClampNeg x1) 31 0).toNatClampNeg x2) 31 0).toNatClampNeg x3) 31 0).toNatClampNeg (-1)) 31 0).toNatClampNeg (-1)) 31 0).toNatClampNeg (-1)) 31 0).toNatClampNeg (-1)) 44 ((up2 (up2 (up2 (up2 (up2 (up2 (up2 I 32 (I 31 0).toNatClampNeg x1) 33 ((up2 I 32 (I 31 0).toNatClampNeg x1) 31 0).toNatClampNeg x2) 34 ((up2 (up2 I 32 (I 31 0).toNatClampNeg x1) 33 ((up2 I 32 (I 31 0).toNatClampNeg x1) 31 0).toNatClampNeg x2) 31 0).toNatClampNeg x3) 40 ((up2 (up2 (up2 I 32 (I 31 0).toNatClampNeg x1) 33 ((up2 I 32 (I 31 0).toNatClampNeg x1) 31 0).toNatClampNeg x2) 34 ((up2 (up2 I 32 (I 31 0).toNatClampNeg x1) 33 ((up2 I 32 (I 31 0).toNatClampNeg x1) 31 0).toNatClampNeg x2) 31 0).toNatClampNeg x3) 31 0).toNatClampNeg (-1)) 41 ((up2 (up2 (up2 (up2 I 32 (I 31 0).toNatClampNeg x1) 33 ((up2 I 32 (I 31 0).toNatClampNeg x1) 31 0).toNatClampNeg x2) 34 ((up2 (up2 I 32 (I 31 0).toNatClampNeg x1) 33 ((up2 I 32 (I 31 0).toNatClampNeg x1) 31 0).toNatClampNeg x2) 31 0).toNatClampNeg x3) 40 ((up2 (up2 (up2 I 32 (I 31 0).toNatClampNeg x1) 33 ((up2 I 32 (I 31 0).toNatClampNeg x1) 31 0).toNatClampNeg x2) 34 ((up2 (up2 I 32 (I 31 0).toNatClampNeg x1) 33 ((up2 I 32 (I 31 0).toNatClampNeg x1) 31 0).toNatClampNeg x2) 31 0).toNatClampNeg x3) 31 0).toNatClampNeg (-1)) 31 0).toNatClampNeg (-1)) 42 ((up2 (up2 (up2 (up2 (up2 I 32 (I 31 0).toNatClampNeg x1) 33 ((up2 I 32 (I 31 0).toNatClampNeg x1) 31 0).toNatClampNeg x2) 34 ((up2 (up2 I 32 (I 31 0).toNatClampNeg x1) 33 ((up2 I 32 (I 31 0).toNatClampNeg x1) 31 0).toNatClampNeg x2) 31 0).toNatClampNeg x3) 40 ((up2 (up2 (up2 I 32 (I 31 0).toNatClampNeg x1) 33 ((up2 I 32 (I 31 0).toNatClampNeg x1) 31 0).toNatClampNeg x2) 34 ((up2 (up2 I 32 (I 31 0).toNatClampNeg x1) 33 ((up2 I 32 (I 31 0).toNatClampNeg x1) 31 0).toNatClampNeg x2) 31 0).toNatClampNeg x3) 31 0).toNatClampNeg (-1)) 41 ((up2 (up2 (up2 (up2 I 32 (I 31 0).toNatClampNeg x1) 33 ((up2 I 32 (I 31 0).toNatClampNeg x1) 31 0).toNatClampNeg x2) 34 ((up2 (up2 I 32 (I 31 0).toNatClampNeg x1) 33 ((up2 I 32 (I 31 0).toNatClampNeg x1) 31 0).toNatClampNeg x2) 31 0).toNatClampNeg x3) 40 ((up2 (up2 (up2 I 32 (I 31 0).toNatClampNeg x1) 33 ((up2 I 32 (I 31 0).toNatClampNeg x1) 31 0).toNatClampNeg x2) 34 ((up2 (up2 I 32 (I 31 0).toNatClampNeg x1) 33 ((up2 I 32 (I 31 0).toNatClampNeg x1) 31 0).toNatClampNeg x2) 31 0).toNatClampNeg x3) 31 0).toNatClampNeg (-1)) 31 0).toNatClampNeg (-1)) 31 0).toNatClampNeg (-1)) 43 ((up2 (up2 (up2 (up2 (up2 (up2 I 32 (I 31 0).toNatClampNeg x1) 33 ((up2 I 32 (I 31 0).toNatClampNeg x1) 31 0).toNatClampNeg x2) 34 ((up2 (up2 I 32 (I 31 0).toNatClampNeg x1) 33 ((up2 I 32 (I 31 0).toNatClampNeg x1) 31 0).toNatClampNeg x2) 31 0).toNatClampNeg x3) 40 ((up2 (up2 (up2 I 32 (I 31 0).toNatClampNeg x1) 33 ((up2 I 32 (I 31 0).toNatClampNeg x1) 31 0).toNatClampNeg x2) 34 ((up2 (up2 I 32 (I 31 0).toNatClampNeg x1) 33 ((up2 I 32 (I 31 0).toNatClampNeg x1) 31 0).toNatClampNeg x2) 31 0).toNatClampNeg x3) 31 0).toNatClampNeg (-1)) 41 ((up2 (up2 (up2 (up2 I 32 (I 31 0).toNatClampNeg x1) 33 ((up2 I 32 (I 31 0).toNatClampNeg x1) 31 0).toNatClampNeg x2) 34 ((up2 (up2 I 32 (I 31 0).toNatClampNeg x1) 33 ((up2 I 32 (I 31 0).toNatClampNeg x1) 31 0).toNatClampNeg x2) 31 0).toNatClampNeg x3) 40 ((up2 (up2 (up2 I 32 (I 31 0).toNatClampNeg x1) 33 ((up2 I 32 (I 31 0).toNatClampNeg x1) 31 0).toNatClampNeg x2) 34 ((up2 (up2 I 32 (I 31 0).toNatClampNeg x1) 33 ((up2 I 32 (I 31 0).toNatClampNeg x1) 31 0).toNatClampNeg x2) 31 0).toNatClampNeg x3) 31 0).toNatClampNeg (-1)) 31 0).toNatClampNeg (-1)) 42 ((up2 (up2 (up2 (up2 (up2 I 32 (I 31 0).toNatClampNeg x1) 33 ((up2 I 32 (I 31 0).toNatClampNeg x1) 31 0).toNatClampNeg x2) 34 ((up2 (up2 I 32 (I 31 0).toNatClampNeg x1) 33 ((up2 I 32 (I 31 0).toNatClampNeg x1) 31 0).toNatClampNeg x2) 31 0).toNatClampNeg x3) 40 ((up2 (up2 (up2 I 32 (I 31 0).toNatClampNeg x1) 33 ((up2 I 32 (I 31 0).toNatClampNeg x1) 31 0).toNatClampNeg x2) 34 ((up2 (up2 I 32 (I 31 0).toNatClampNeg x1) 33 ((up2 I 32 (I 31 0).toNatClampNeg x1) 31 0).toNatClampNeg x2) 31 0).toNatClampNeg x3) 31 0).toNatClampNeg (-1)) 41 ((up2 (up2 (up2 (up2 I 32 (I 31 0).toNatClampNeg x1) 33 ((up2 I 32 (I 31 0).toNatClampNeg x1) 31 0).toNatClampNeg x2) 34 ((up2 (up2 I 32 (I 31 0).toNatClampNeg x1) 33 ((up2 I 32 (I 31 0).toNatClampNeg x1) 31 0).toNatClampNeg x2) 31 0).toNatClampNeg x3) 40 ((up2 (up2 (up2 I 32 (I 31 0).toNatClampNeg x1) 33 ((up2 I 32 (I 31 0).toNatClampNeg x1) 31 0).toNatClampNeg x2) 34 ((up2 (up2 I 32 (I 31 0).toNatClampNeg x1) 33 ((up2 I 32 (I 31 0).toNatClampNeg x1) 31 0).toNatClampNeg x2) 31 0).toNatClampNeg x3) 31 0).toNatClampNeg (-1)) 31 0).toNatClampNeg (-1)) 31 0).toNatClampNeg (-1)) 31 0).toNatClampNeg (-1)) 31 0).toNatClampNeg (-1)) 31 0) + 1)) 31 0) - 1))) (sM mo G (up2 (up2 (up2 (up2 (up2 (up2 (up2 (up2 (up2 I 32 (I 31 0).toNatClampNeg x1) 33 ((up2 I 32 (I 31 0).toNatClampNeg x1) 31 0).toNatClampNeg x2) 34 ((up2 (up2 I 32 (I 31 0).toNatClampNeg x1) 33 ((up2 I 32 (I 31 0).toNatClampNeg x1) 31 0).toNatClampNeg x2) 31 0).toNatClampNeg x3) 40 ((up2 (up2 (up2 I 32 (I 31 0).toNatClampNeg x1) 33 ((up2 I 32 (I 31 0).toNatClampNeg x1) 31 0).toNatClampNeg x2) 34 ((up2 (up2 I 32 (I 31 0).toNatClampNeg x1) 33 ((up2 I 32 (I 31 0).toNatClampNeg x1) 31 0).toNatClampNeg x2) 31 0).toNatClampNeg x3) 31 0).toNatClampNeg (-1)) 41 ((up2 (up2 (up2 (up2 I 32 (I 31 0).toNatClampNeg x1) 33 ((up2 I 32 (I 31 0).toNatClampNeg x1) 31 0).toNatClampNeg x2) 34 ((up2 (up2 I 32 (I 31 0).toNatClampNeg x1) 33 ((up2 I 32 (I 31 0).toNatClampNeg x1) 31 0).toNatClampNeg x2) 31 0).toNatClampNeg x3) 40 ((up2 (up2 (up2 I 32 (I 31 0).toNatClampNeg x1) 33 ((up2 I 32 (I 31 0).toNatClampNeg x1) 31 0).toNatClampNeg x2) 34 ((up2 (up2 I 32 (I 31 0).toNatClampNeg x1) 33 ((up2 I 32 (I 31 0).toNatClampNeg x1) 31 0).toNatClampNeg x2) 31 0).toNatClampNeg x3) 31 0).toNatClampNeg (-1)) 31 0).toNatClampNeg (-1)) 42 ((up2 (up2 (up2 (up2 (up2 I 32 (I 31 0).toNatClampNeg x1) 33 ((up2 I 32 (I 31 0).toNatClampNeg x1) 31 0).toNatClampNeg x2) 34 ((up2 (up2 I 32 (I 31 0).toNatClampNeg x1) 33 ((up2 I 32 (I 31 0).toNatClampNeg x1) 31 0).toNatClampNeg x2) 31 0).toNatClampNeg x3) 40 ((up2 (up2 (up2 I 32 (I 31 0).toNatClampNeg x1) 33 ((up2 I 32 (I 31 0).toNatClampNeg x1) 31 0).toNatClampNeg x2) 34 ((up2 (up2 I 32 (I 31 0).toNatClampNeg x1) 33 ((up2 I 32 (I 31 0).toNatClampNeg x1) 31 0).toNatClampNeg x2) 31 0).toNatClampNeg x3) 31 0).toNatClampNeg (-1)) 41 ((up2 (up2 (up2 (up2 I 32 (I 31 0).toNatClampNeg x1) 33 ((up2 I 32 (I 31 0).toNatClampNeg x1) 31 0).toNatClampNeg x2) 34 ((up2 (up2 I 32 (I 31 0).toNatClampNeg x1) 33 ((up2 I 32 (I 31 0).toNatClampNeg x1) 31 0).toNatClampNeg x2) 31 0).toNatClampNeg x3) 40 ((up2 (up2 (up2 I 32 (I 31 0).toNatClampNeg x1) 33 ((up2 I 32 (I 31 0).toNatClampNeg x1) 31 0).toNatClampNeg x2) 34 ((up2 (up2 I 32 (I 31 0).toNatClampNeg x1) 33 ((up2 I 32 (I 31 0).toNatClampNeg x1) 31 0).toNatClampNeg x2) 31 0).toNatClampNeg x3) 31 0).toNatClampNeg (-1)) 31 0).toNatClampNeg (-1)) 31 0).toNatClampNeg (-1)) 43 ((up2 (up2 (up2 (up2 (up2 (up2 I 32 (I 31 0).toNatClampNeg x1) 33 ((up2 I 32 (I 31 0).toNatClampNeg x1) 31 0).toNatClampNeg x2) 34 ((up2 (up2 I 32 (I 31 0).toNatClampNeg x1) 33 ((up2 I 32 (I 31 0).toNatClampNeg x1) 31 0).toNatClampNeg x2) 31 0).toNatClampNeg x3) 40 ((up2 (up2 (up2 I 32 (I 31 0).toNatClampNeg x1) 33 ((up2 I 32 (I 31 0).toNatClampNeg x1) 31 0).toNatClampNeg x2) 34 ((up2 (up2 I 32 (I 31 0).toNatClampNeg x1) 33 ((up2 I 32 (I 31 0).toNatClampNeg x1) 31 0).toNatClampNeg x2) 31 0).toNatClampNeg x3) 31 0).toNatClampNeg (-1)) 41 ((up2 (up2 (up2 (up2 I 32 (I 31 0).toNatClampNeg x1) 33 ((up2 I 32 (I 31 0).toNatClampNeg x1) 31 0).toNatClampNeg x2) 34 ((up2 (up2 I 32 (I 31 0).toNatClampNeg x1) 33 ((up2 I 32 (I 31 0).toNatClampNeg x1) 31 0).toNatClampNeg x2) 31 0).toNatClampNeg x3) 40 ((up2 (up2 (up2 I 32 (I 31 0).toNatClampNeg x1) 33 ((up2 I 32 (I 31 0).toNatClampNeg x1) 31 0).toNatClampNeg x2) 34 ((up2 (up2 I 32 (I 31 0).toNatClampNeg x1) 33 ((up2 I 32 (I 31 0).toNatClampNeg x1) 31 0).toNatClampNeg x2) 31 0).toNatClampNeg x3) 31 0).toNatClampNeg (-1)) 31 0).toNatClampNeg (-1)) 42 ((up2 (up2 (up2 (up2 (up2 I 32 (I 31 0).toNatClampNeg x1) 33 ((up2 I 32 (I 31 0).toNatClampNeg x1) 31 0).toNatClampNeg x2) 34 ((up2 (up2 I 32 (I 31 0).toNatClampNeg x1) 33 ((up2 I 32 (I 31 0).toNatClampNeg x1) 31 0).toNatClampNeg x2) 31 0).toNatClampNeg x3) 40 ((up2 (up2 (up2 I 32 (I 31 0).toNatClampNeg x1) 33 ((up2 I 32 (I 31 0).toNatClampNeg x1) 31 0).toNatClampNeg x2) 34 ((up2 (up2 I 32 (I 31 0).toNatClampNeg x1) 33 ((up2 I 32 (I 31 0).toNatClampNeg x1) 31 0).toNatClampNeg x2) 31 0).toNatClampNeg x3) 31 0).toNatClampNeg (-1)) 41 ((up2 (up2 (up2 (up2 I 32 (I 31 0).toNatClampNeg x1) 33 ((up2 I 32 (I 31 0).toNatClampNeg x1) 31 0).toNatClampNeg x2) 34 ((up2 (up2 I 32 (I 31 0).toNatClampNeg x1) 33 ((up2 I 32 (I 31 0).toNatClampNeg x1) 31 0).toNatClampNeg x2) 31 0).toNatClampNeg x3) 40 ((up2 (up2 (up2 I 32 (I 31 0).toNatClampNeg x1) 33 ((up2 I 32 (I 31 0).toNatClampNeg x1) 31 0).toNatClampNeg x2) 34 ((up2 (up2 I 32 (I 31 0).toNatClampNeg x1) 33 ((up2 I 32 (I 31 0).toNatClampNeg x1) 31 0).toNatClampNeg x2) 31 0).toNatClampNeg x3) 31 0).toNatClampNeg (-1)) 31 0).toNatClampNeg (-1)) 31 0).toNatClampNeg (-1)) 31 0).toNatClampNeg (-1)) 44 ((up2 (up2 (up2 (up2 (up2 (up2 (up2 I 32 (I 31 0).toNatClampNeg x1) 33 ((up2 I 32 (I 31 0).toNatClampNeg x1) 31 0).toNatClampNeg x2) 34 ((up2 (up2 I 32 (I 31 0).toNatClampNeg x1) 33 ((up2 I 32 (I 31 0).toNatClampNeg x1) 31 0).toNatClampNeg x2) 31 0).toNatClampNeg x3) 40 ((up2 (up2 (up2 I 32 (I 31 0).toNatClampNeg x1) 33 ((up2 I 32 (I 31 0).toNatClampNeg x1) 31 0).toNatClampNeg x2) 34 ((up2 (up2 I 32 (I 31 0).toNatClampNeg x1) 33 ((up2 I 32 (I 31 0).toNatClampNeg x1) 31 0).toNatClampNeg x2) 31 0).toNatClampNeg x3) 31 0).toNatClampNeg (-1)) 41 ((up2 (up2 (up2 (up2 I 32 (I 31 0).toNatClampNeg x1) 33 ((up2 I 32 (I 31 0).toNatClampNeg x1) 31 0).toNatClampNeg x2) 34 ((up2 (up2 I 32 (I 31 0).toNatClampNeg x1) 33 ((up2 I 32 (I 31 0).toNatClampNeg x1) 31 0).toNatClampNeg x2) 31 0).toNatClampNeg x3) 40 ((up2 (up2 (up2 I 32 (I 31 0).toNatClampNeg x1) 33 ((up2 I 32 (I 31 0).toNatClampNeg x1) 31 0).toNatClampNeg x2) 34 ((up2 (up2 I 32 (I 31 0).toNatClampNeg x1) 33 ((up2 I 32 (I 31 0).toNatClampNeg x1) 31 0).toNatClampNeg x2) 31 0).toNatClampNeg x3) 31 0).toNatClampNeg (-1)) 31 0).toNatClampNeg (-1)) 42 ((up2 (up2 (up2 (up2 (up2 I 32 (I 31 0).toNatClampNeg x1) 33 ((up2 I 32 (I 31 0).toNatClampNeg x1) 31 0).toNatClampNeg x2) 34 ((up2 (up2 I 32 (I 31 0).toNatClampNeg x1) 33 ((up2 I 32 (I 31 0).toNatClampNeg x1) 31 0).toNatClampNeg x2) 31 0).toNatClampNeg x3) 40 ((up2 (up2 (up2 I 32 (I 31 0).toNatClampNeg x1) 33 ((up2 I 32 (I 31 0).toNatClampNeg x1) 31 0).toNatClampNeg x2) 34 ((up2 (up2 I 32 (I 31 0).toNatClampNeg x1) 33 ((up2 I 32 (I 31 0).toNatClampNeg x1) 31 0).toNatClampNeg x2) 31 0).toNatClampNeg x3) 31 0).toNatClampNeg (-1)) 41 ((up2 (up2 (up2 (up2 I 32 (I 31 0).toNatClampNeg x1) 33 ((up2 I 32 (I 31 0).toNatClampNeg x1) 31 0).toNatClampNeg x2) 34 ((up2 (up2 I 32 (I 31 0).toNatClampNeg x1) 33 ((up2 I 32 (I 31 0).toNatClampNeg x1) 31 0).toNatClampNeg x2) 31 0).toNatClampNeg x3) 40 ((up2 (up2 (up2 I 32 (I 31 0).toNatClampNeg x1) 33 ((up2 I 32 (I 31 0).toNatClampNeg x1) 31 0).toNatClampNeg x2) 34 ((up2 (up2 I 32 (I 31 0).toNatClampNeg x1) 33 ((up2 I 32 (I 31 0).toNatClampNeg x1) 31 0).toNatClampNeg x2) 31 0).toNatClampNeg x3) 31 0).toNatClampNeg (-1)) 31 0).toNatClampNeg (-1)) 31 0).toNatClampNeg (-1)) 43 ((up2 (up2 (up2 (up2 (up2 (up2 I 32 (I 31 0).toNatClampNeg x1) 33 ((up2 I 32 (I 31 0).toNatClampNeg x1) 31 0).toNatClampNeg x2) 34 ((up2 (up2 I 32 (I 31 0).toNatClampNeg x1) 33 ((up2 I 32 (I 31 0).toNatClampNeg x1) 31 0).toNatClampNeg x2) 31 0).toNatClampNeg x3) 40 ((up2 (up2 (up2 I 32 (I 31 0).toNatClampNeg x1) 33 ((up2 I 32 (I 31 0).toNatClampNeg x1) 31 0).toNatClampNeg x2) 34 ((up2 (up2 I 32 (I 31 0).toNatClampNeg x1) 33 ((up2 I 32 (I 31 0).toNatClampNeg x1) 31 0).toNatClampNeg x2) 31 0).toNatClampNeg x3) 31 0).toNatClampNeg (-1)) 41 ((up2 (up2 (up2 (up2 I 32 (I 31 0).toNatClampNeg x1) 33 ((up2 I 32 (I 31 0).toNatClampNeg x1) 31 0).toNatClampNeg x2) 34 ((up2 (up2 I 32 (I 31 0).toNatClampNeg x1) 33 ((up2 I 32 (I 31 0).toNatClampNeg x1) 31 0).toNatClampNeg x2) 31 0).toNatClampNeg x3) 40 ((up2 (up2 (up2 I 32 (I 31 0).toNatClampNeg x1) 33 ((up2 I 32 (I 31 0).toNatClampNeg x1) 31 0).toNatClampNeg x2) 34 ((up2 (up2 I 32 (I 31 0).toNatClampNeg x1) 33 ((up2 I 32 (I 31 0).toNatClampNeg x1) 31 0).toNatClampNeg x2) 31 0).toNatClampNeg x3) 31 0).toNatClampNeg (-1)) 31 0).toNatClampNeg (-1)) 42 ((up2 (up2 (up2 (up2 (up2 I 32 (I 31 0).toNatClampNeg x1) 33 ((up2 I 32 (I 31 0).toNatClampNeg x1) 31 0).toNatClampNeg x2) 34 ((up2 (up2 I 32 (I 31 0).toNatClampNeg x1) 33 ((up2 I 32 (I 31 0).toNatClampNeg x1) 31 0).toNatClampNeg x2) 31 0).toNatClampNeg x3) 40 ((up2 (up2 (up2 I 32 (I 31 0).toNatClampNeg x1) 33 ((up2 I 32 (I 31 0).toNatClampNeg x1) 31 0).toNatClampNeg x2) 34 ((up2 (up2 I 32 (I 31 0).toNatClampNeg x1) 33 ((up2 I 32 (I 31 0).toNatClampNeg x1) 31 0).toNatClampNeg x2) 31 0).toNatClampNeg x3) 31 0).toNatClampNeg (-1)) 41 ((up2 (up2 (up2 (up2 I 32 (I 31 0).toNatClampNeg x1) 33 ((up2 I 32 (I 31 0).toNatClampNeg x1) 31 0).toNatClampNeg x2) 34 ((up2 (up2 I 32 (I 31 0).toNatClampNeg x1) 33 ((up2 I 32 (I 31 0).toNatClampNeg x1) 31 0).toNatClampNeg x2) 31 0).toNatClampNeg x3) 40 ((up2 (up2 (up2 I 32 (I 31 0).toNatClampNeg x1) 33 ((up2 I 32 (I 31 0).toNatClampNeg x1) 31 0).toNatClampNeg x2) 34 ((up2 (up2 I 32 (I 31 0).toNatClampNeg x1) 33 ((up2 I 32 (I 31 0).toNatClampNeg x1) 31 0).toNatClampNeg x2) 31 0).toNatClampNeg x3) 31 0).toNatClampNeg (-1)) 31 0).toNatClampNeg (-1)) 31 0).toNatClampNeg (-1)) 31 0).toNatClampNeg (-1)) 31 0).toNatClampNeg (-1)) 31 0 (((up2 (up2 (up2 (up2 (up2 (up2 (up2 (up2 I 32 (I 31 0).toNatClampNeg x1) 33 ((up2 I 32 (I 31 0).toNatClampNeg x1) 31 0).toNatClampNeg x2) 34 ((up2 (up2 I 32 (I 31 0).toNatClampNeg x1) 33 ((up2 I 32 (I 31 0).toNatClampNeg x1) 31 0).toNatClampNeg x2) 31 0).toNatClampNeg x3) 40 ((up2 (up2 (up2 I 32 (I 31 0).toNatClampNeg x1) 33 ((up2 I 32 (I 31 0).toNatClampNeg x1) 31 0).toNatClampNeg x2) 34 ((up2 (up2 I 32 (I 31 0).toNatClampNeg x1) 33 ((up2 I 32 (I 31 0).toNatClampNeg x1) 31 0).toNatClampNeg x2) 31 0).toNatClampNeg x3) 31 0).toNatClampNeg (-1)) 41 ((up2 (up2 (up2 (up2 I 32 (I 31 0).toNatClampNeg x1) 33 ((up2 I 32 (I 31 0).toNatClampNeg x1) 31 0).toNatClampNeg x2) 34 ((up2 (up2 I 32 (I 31 0).toNatClampNeg x1) 33 ((up2 I 32 (I 31 0).toNatClampNeg x1) 31 0).toNatClampNeg x2) 31 0).toNatClampNeg x3) 40 ((up2 (up2 (up2 I 32 (I 31 0).toNatClampNeg x1) 33 ((up2 I 32 (I 31 0).toNatClampNeg x1) 31 0).toNatClampNeg x2) 34 ((up2 (up2 I 32 (I 31 0).toNatClampNeg x1) 33 ((up2 I 32 (I 31 0).toNatClampNeg x1) 31 0).toNatClampNeg x2) 31 0).toNatClampNeg x3) 31 0).toNatClampNeg (-1)) 31 0).toNatClampNeg (-1)) 42 ((up2 (up2 (up2 (up2 (up2 I 32 (I 31 0).toNatClampNeg x1) 33 ((up2 I 32 (I 31 0).toNatClampNeg x1) 31 0).toNatClampNeg x2) 34 ((up2 (up2 I 32 (I 31 0).toNatClampNeg x1) 33 ((up2 I 32 (I 31 0).toNatClampNeg x1) 31 0).toNatClampNeg x2) 31 0).toNatClampNeg x3) 40 ((up2 (up2 (up2 I 32 (I 31 0).toNatClampNeg x1) 33 ((up2 I 32 (I 31 0).toNatClampNeg x1) 31 0).toNatClampNeg x2) 34 ((up2 (up2 I 32 (I 31 0).toNatClampNeg x1) 33 ((up2 I 32 (I 31 0).toNatClampNeg x1) 31 0).toNatClampNeg x2) 31 0).toNatClampNeg x3) 31 0).toNatClampNeg (-1)) 41 ((up2 (up2 (up2 (up2 I 32 (I 31 0).toNatClampNeg x1) 33 ((up2 I 32 (I 31 0).toNatClampNeg x1) 31 0).toNatClampNeg x2) 34 ((up2 (up2 I 32 (I 31 0).toNatClampNeg x1) 33 ((up2 I 32 (I 31 0).toNatClampNeg x1) 31 0).toNatClampNeg x2) 31 0).toNatClampNeg x3) 40 ((up2 (up2 (up2 I 32 (I 31 0).toNatClampNeg x1) 33 ((up2 I 32 (I 31 0).toNatClampNeg x1) 31 0).toNatClampNeg x2) 34 ((up2 (up2 I 32 (I 31 0).toNatClampNeg x1) 33 ((up2 I 32 (I 31 0).toNatClampNeg x1) 31 0).toNatClampNeg x2) 31 0).toNatClampNeg x3) 31 0).toNatClampNeg (-1)) 31 0).toNatClampNeg (-1)) 31 0).toNatClampNeg (-1)) 43 ((up2 (up2 (up2 (up2 (up2 (up2 I 32 (I 31 0).toNatClampNeg x1) 33 ((up2 I 32 (I 31 0).toNatClampNeg x1) 31 0).toNatClampNeg x2) 34 ((up2 (up2 I 32 (I 31 0).toNatClampNeg x1) 33 ((up2 I 32 (I 31 0).toNatClampNeg x1) 31 0).toNatClampNeg x2) 31 0).toNatClampNeg x3) 40 ((up2 (up2 (up2 I 32 (I 31 0).toNatClampNeg x1) 33 ((up2 I 32 (I 31 0).toNatClampNeg x1) 31 0).toNatClampNeg x2) 34 ((up2 (up2 I 32 (I 31 0).toNatClampNeg x1) 33 ((up2 I 32 (I 31 0).toNatClampNeg x1) 31 0).toNatClampNeg x2) 31 0).toNatClampNeg x3) 31 0).toNatClampNeg (-1)) 41 ((up2 (up2 (up2 (up2 I 32 (I 31 0).toNatClampNeg x1) 33 ((up2 I 32 (I 31 0).toNatClampNeg x1) 31 0).toNatClampNeg x2) 34 ((up2 (up2 I 32 (I 31 0).toNatClampNeg x1) 33 ((up2 I 32 (I 31 0).toNatClampNeg x1) 31 0).toNatClampNeg x2) 31 0).toNatClampNeg x3) 40 ((up2 (up2 (up2 I 32 (I 31 0).toNatClampNeg x1) 33 ((up2 I 32 (I 31 0).toNatClampNeg x1) 31 0).toNatClampNeg x2) 34 ((up2 (up2 I 32 (I 31 0).toNatClampNeg x1) 33 ((up2 I 32 (I 31 0).toNatClampNeg x1) 31 0).toNatClampNeg x2) 31 0).toNatClampNeg x3) 31 0).toNatClampNeg (-1)) 31 0).toNatClampNeg (-1)) 42 ((up2 (up2 (up2 (up2 (up2 I 32 (I 31 0).toNatClampNeg x1) 33 ((up2 I 32 (I 31 0).toNatClampNeg x1) 31 0).toNatClampNeg x2) 34 ((up2 (up2 I 32 (I 31 0).toNatClampNeg x1) 33 ((up2 I 32 (I 31 0).toNatClampNeg x1) 31 0).toNatClampNeg x2) 31 0).toNatClampNeg x3) 40 ((up2 (up2 (up2 I 32 (I 31 0).toNatClampNeg x1) 33 ((up2 I 32 (I 31 0).toNatClampNeg x1) 31 0).toNatClampNeg x2) 34 ((up2 (up2 I 32 (I 31 0).toNatClampNeg x1) 33 ((up2 I 32 (I 31 0).toNatClampNeg x1) 31 0).toNatClampNeg x2) 31 0).toNatClampNeg x3) 31 0).toNatClampNeg (-1)) 41 ((up2 (up2 (up2 (up2 I 32 (I 31 0).toNatClampNeg x1) 33 ((up2 I 32 (I 31 0).toNatClampNeg x1) 31 0).toNatClampNeg x2) 34 ((up2 (up2 I 32 (I 31 0).toNatClampNeg x1) 33 ((up2 I 32 (I 31 0).toNatClampNeg x1) 31 0).toNatClampNeg x2) 31 0).toNatClampNeg x3) 40 ((up2 (up2 (up2 I 32 (I 31 0).toNatClampNeg x1) 33 ((up2 I 32 (I 31 0).toNatClampNeg x1) 31 0).toNatClampNeg x2) 34 ((up2 (up2 I 32 (I 31 0).toNatClampNeg x1) 33 ((up2 I 32 (I 31 0).toNatClampNeg x1) 31 0).toNatClampNeg x2) 31 0).toNatClampNeg x3) 31 0).toNatClampNeg (-1)) 31 0).toNatClampNeg (-1)) 31 0).toNatClampNeg (-1)) 31 0).toNatClampNeg (-1)) 44 ((up2 (up2 (up2 (up2 (up2 (up2 (up2 I 32 (I 31 0).toNatClampNeg x1) 33 ((up2 I 32 (I 31 0).toNatClampNeg x1) 31 0).toNatClampNeg x2) 34 ((up2 (up2 I 32 (I 31 0).toNatClampNeg x1) 33 ((up2 I 32 (I 31 0).toNatClampNeg x1) 31 0).toNatClampNeg x2) 31 0).toNatClampNeg x3) 40 ((up2 (up2 (up2 I 32 (I 31 0).toNatClampNeg x1) 33 ((up2 I 32 (I 31 0).toNatClampNeg x1) 31 0).toNatClampNeg x2) 34 ((up2 (up2 I 32 (I 31 0).toNatClampNeg x1) 33 ((up2 I 32 (I 31 0).toNatClampNeg x1) 31 0).toNatClampNeg x2) 31 0).toNatClampNeg x3) 31 0).toNatClampNeg (-1)) 41 ((up2 (up2 (up2 (up2 I 32 (I 31 0).toNatClampNeg x1) 33 ((up2 I 32 (I 31 0).toNatClampNeg x1) 31 0).toNatClampNeg x2) 34 ((up2 (up2 I 32 (I 31 0).toNatClampNeg x1) 33 ((up2 I 32 (I 31 0).toNatClampNeg x1) 31 0).toNatClampNeg x2) 31 0).toNatClampNeg x3) 40 ((up2 (up2 (up2 I 32 (I 31 0).toNatClampNeg x1) 33 ((up2 I 32 (I 31 0).toNatClampNeg x1) 31 0).toNatClampNeg x2) 34 ((up2 (up2 I 32 (I 31 0).toNatClampNeg x1) 33 ((up2 I 32 (I 31 0).toNatClampNeg x1) 31 0).toNatClampNeg x2) 31 0).toNatClampNeg x3) 31 0).toNatClampNeg (-1)) 31 0).toNatClampNeg (-1)) 42 ((up2 (up2 (up2 (up2 (up2 I 32 (I 31 0).toNatClampNeg x1) 33 ((up2 I 32 (I 31 0).toNatClampNeg x1) 31 0).toNatClampNeg x2) 34 ((up2 (up2 I 32 (I 31 0).toNatClampNeg x1) 33 ((up2 I 32 (I 31 0).toNatClampNeg x1) 31 0).toNatClampNeg x2) 31 0).toNatClampNeg x3) 40 ((up2 (up2 (up2 I 32 (I 31 0).toNatClampNeg x1) 33 ((up2 I 32 (I 31 0).toNatClampNeg x1) 31 0).toNatClampNeg x2) 34 ((up2 (up2 I 32 (I 31 0).toNatClampNeg x1) 33 ((up2 I 32 (I 31 0).toNatClampNeg x1) 31 0).toNatClampNeg x2) 31 0).toNatClampNeg x3) 31 0).toNatClampNeg (-1)) 41 ((up2 (up2 (up2 (up2 I 32 (I 31 0).toNatClampNeg x1) 33 ((up2 I 32 (I 31 0).toNatClampNeg x1) 31 0).toNatClampNeg x2) 34 ((up2 (up2 I 32 (I 31 0).toNatClampNeg x1) 33 ((up2 I 32 (I 31 0).toNatClampNeg x1) 31 0).toNatClampNeg x2) 31 0).toNatClampNeg x3) 40 ((up2 (up2 (up2 I 32 (I 31 0).toNatClampNeg x1) 33 ((up2 I 32 (I 31 0).toNatClampNeg x1) 31 0).toNatClampNeg x2) 34 ((up2 (up2 I 32 (I 31 0).toNatClampNeg x1) 33 ((up2 I 32 (I 31 0).toNatClampNeg x1) 31 0).toNatClampNeg x2) 31 0).toNatClampNeg x3) 31 0).toNatClampNeg (-1)) 31 0).toNatClampNeg (-1)) 31 0).toNatClampNeg (-1)) 43 ((up2 (up2 (up2 (up2 (up2 (up2 I 32 (I 31 0).toNatClampNeg x1) 33 ((up2 I 32 (I 31 0).toNatClampNeg x1) 31 0).toNatClampNeg x2) 34 ((up2 (up2 I 32 (I 31 0).toNatClampNeg x1) 33 ((up2 I 32 (I 31 0).toNatClampNeg x1) 31 0).toNatClampNeg x2) 31 0).toNatClampNeg x3) 40 ((up2 (up2 (up2 I 32 (I 31 0).toNatClampNeg x1) 33 ((up2 I 32 (I 31 0).toNatClampNeg x1) 31 0).toNatClampNeg x2) 34 ((up2 (up2 I 32 (I 31 0).toNatClampNeg x1) 33 ((up2 I 32 (I 31 0).toNatClampNeg x1) 31 0).toNatClampNeg x2) 31 0).toNatClampNeg x3) 31 0).toNatClampNeg (-1)) 41 ((up2 (up2 (up2 (up2 I 32 (I 31 0).toNatClampNeg x1) 33 ((up2 I 32 (I 31 0).toNatClampNeg x1) 31 0).toNatClampNeg x2) 34 ((up2 (up2 I 32 (I 31 0).toNatClampNeg x1) 33 ((up2 I 32 (I 31 0).toNatClampNeg x1) 31 0).toNatClampNeg x2) 31 0).toNatClampNeg x3) 40 ((up2 (up2 (up2 I 32 (I 31 0).toNatClampNeg x1) 33 ((up2 I 32 (I 31 0).toNatClampNeg x1) 31 0).toNatClampNeg x2) 34 ((up2 (up2 I 32 (I 31 0).toNatClampNeg x1) 33 ((up2 I 32 (I 31 0).toNatClampNeg x1) 31 0).toNatClampNeg x2) 31 0).toNatClampNeg x3) 31 0).toNatClampNeg (-1)) 31 0).toNatClampNeg (-1)) 42 ((up2 (up2 (up2 (up2 (up2 I 32 (I 31 0).toNatClampNeg x1) 33 ((up2 I 32 (I 31 0).toNatClampNeg x1) 31 0).toNatClampNeg x2) 34 ((up2 (up2 I 32 (I 31 0).toNatClampNeg x1) 33 ((up2 I 32 (I 31 0).toNatClampNeg x1) 31 0).toNatClampNeg x2) 31 0).toNatClampNeg x3) 40 ((up2 (up2 (up2 I 32 (I 31 0).toNatClampNeg x1) 33 ((up2 I 32 (I 31 0).toNatClampNeg x1) 31 0).toNatClampNeg x2) 34 ((up2 (up2 I 32 (I 31 0).toNatClampNeg x1) 33 ((up2 I 32 (I 31 0).toNatClampNeg x1) 31 0).toNatClampNeg x2) 31 0).toNatClampNeg x3) 31 0).toNatClampNeg (-1)) 41 ((up2 (up2 (up2 (up2 I 32 (I 31 0).toNatClampNeg x1) 33 ((up2 I 32 (I 31 0).toNatClampNeg x1) 31 0).toNatClampNeg x2) 34 ((up2 (up2 I 32 (I 31 0).toNatClampNeg x1) 33 ((up2 I 32 (I 31 0).toNatClampNeg x1) 31 0).toNatClampNeg x2) 31 0).toNatClampNeg x3) 40 ((up2 (up2 (up2 I 32 (I 31 0).toNatClampNeg x1) 33 ((up2 I 32 (I 31 0).toNatClampNeg x1) 31 0).toNatClampNeg x2) 34 ((up2 (up2 I 32 (I 31 0).toNatClampNeg x1) 33 ((up2 I 32 (I 31 0).toNatClampNeg x1) 31 0).toNatClampNeg x2) 31 0).toNatClampNeg x3) 31 0).toNatClampNeg (-1)) 31 0).toNatClampNeg (-1)) 31 0).toNatClampNeg (-1)) 31 0).toNatClampNeg (-1)) 31 0).toNatClampNeg (-1)) 31 0) + 1)) J)))))))))) :=
  (sm_blk X 67 9 (tt_lin 67 (by decide)) rfl rfl _ _ _ _).trans rfl
set_option maxRecDepth 100000 in
theorem bk_68_0 (X : (Nat → Int32) × Nat) (mo : Bool) (G : Nat × Nat) (I : Nat → Nat → Int32) (J : Nat → Nat → Int64) (Q : Option Value → sm_M → Prop) (x1 : Int32) (x2 : Int32) (x3 : Int32) (x4 : Int32) (x5 : Int32) :
    sm_wp X 68 0 [some (.ref 31), some (.int x1), some (.int x2), some (.int x3), some (.int x4), some (.int x5)] [] (sM mo G I J) Q =
    (sm_wp X 66 0 [some (.ref 31), some (.int x1)] [] (sM mo G I J) (fun v M => sm_wp X 68 5 [some (.ref 31), some (.int x1), some (.int x2), some (.int x3), some (.int x4), some (.int x5)] (v.toList ++ []) M Q)) :=
  (sm_blk X 68 0 (tt_lin 68 (by decide)) rfl rfl _ _ _ _).trans rfl
set_option maxRecDepth 100000 in
theorem bk_68_5 (X : (Nat → Int32) × Nat) (mo : Bool) (G : Nat × Nat) (I : Nat → Nat → Int32) (J : Nat → Nat → Int64) (Q : Option Value → sm_M → Prop) (x1 : Int32) (x2 : Int32) (x3 : Int32) (x4 : Int32) (x5 : Int32) (s0 : Int32) :
    sm_wp X 68 5 [some (.ref 31), some (.int x1), some (.int x2), some (.int x3), some (.int x4), some (.int x5)] [.int s0] (sM mo G I J) Q =
    (if (s0 : Int32) = 0 then sm_wp X 68 71 [some (.ref 31), some (.int x1), some (.int x2), some (.int x3), some (.int x4), some (.int x5)] [] (sM mo G I J) Q else (vp_in x1 60 ∧ (vp_in x1 60 ∧ (vp_in x1 60 ∧ (vp_in x1 60 ∧ (sm_wp X 66 0 [some (.ref 31), some (.int x5)] [] (sM mo G (up2 (up2 (up2 (up2 I 37 x1.toNatClampNeg x2) 38 x1.toNatClampNeg x3) 39 x1.toNatClampNeg x4) 40 x1.toNatClampNeg x5) J) (fun v M => sm_wp X 68 49 [some (.ref 31), some (.int x1), some (.int x2), some (.int x3), some (.int x4), some (.int x5)] (v.toList ++ [.int x1, .ref 41]) M Q))))))) :=
  (sm_blk X 68 5 (tt_lin 68 (by decide)) rfl rfl _ _ _ _).trans rfl
set_option maxRecDepth 100000 in
theorem bk_68_49 (X : (Nat → Int32) × Nat) (mo : Bool) (G : Nat × Nat) (I : Nat → Nat → Int32) (J : Nat → Nat → Int64) (Q : Option Value → sm_M → Prop) (x1 : Int32) (x2 : Int32) (x3 : Int32) (x4 : Int32) (x5 : Int32) (s1 : Int32) (s2 : Int32) :
    sm_wp X 68 49 [some (.ref 31), some (.int x1), some (.int x2), some (.int x3), some (.int x4), some (.int x5)] [.int s2, .int s1, .ref 41] (sM mo G I J) Q =
    (if (s2 : Int32) = 0 then sm_wp X 68 62 [some (.ref 31), some (.int x1), some (.int x2), some (.int x3), some (.int x4), some (.int x5)] [.int s1, .ref 41] (sM mo G I J) Q else (vp_in x5 60 ∧ (sm_wp X 68 63 [some (.ref 31), some (.int x1), some (.int x2), some (.int x3), some (.int x4), some (.int x5)] [.int (I 41 (x5.toNatClampNeg)), .int s1, .ref 41] (sM mo G I J) Q))) :=
  (sm_blk X 68 49 (tt_lin 68 (by decide)) rfl rfl _ _ _ _).trans rfl
set_option maxRecDepth 100000 in
theorem bk_68_62 (X : (Nat → Int32) × Nat) (mo : Bool) (G : Nat × Nat) (I : Nat → Nat → Int32) (J : Nat → Nat → Int64) (Q : Option Value → sm_M → Prop) (x1 : Int32) (x2 : Int32) (x3 : Int32) (x4 : Int32) (x5 : Int32) (s1 : Int32) :
    sm_wp X 68 62 [some (.ref 31), some (.int x1), some (.int x2), some (.int x3), some (.int x4), some (.int x5)] [.int s1, .ref 41] (sM mo G I J) Q =
    (vp_in s1 60 ∧ (vp_in x1 60 ∧ (True ∧ Q none (sM mo G (up2 (up2 I 41 s1.toNatClampNeg x1) 42 x1.toNatClampNeg 0) J)))) :=
  (sm_blk X 68 62 (tt_lin 68 (by decide)) rfl rfl _ _ _ _).trans rfl
set_option maxRecDepth 100000 in
theorem bk_68_63 (X : (Nat → Int32) × Nat) (mo : Bool) (G : Nat × Nat) (I : Nat → Nat → Int32) (J : Nat → Nat → Int64) (Q : Option Value → sm_M → Prop) (x1 : Int32) (x2 : Int32) (x3 : Int32) (x4 : Int32) (x5 : Int32) (s1 : Int32) (s2 : Int32) :
    sm_wp X 68 63 [some (.ref 31), some (.int x1), some (.int x2), some (.int x3), some (.int x4), some (.int x5)] [.int s2, .int s1, .ref 41] (sM mo G I J) Q =
    (vp_in s1 60 ∧ (vp_in x1 60 ∧ (True ∧ Q none (sM mo G (up2 (up2 I 41 s1.toNatClampNeg s2) 42 x1.toNatClampNeg 0) J)))) :=
  (sm_blk X 68 63 (tt_lin 68 (by decide)) rfl rfl _ _ _ _).trans rfl
set_option maxRecDepth 100000 in
theorem bk_68_71 (X : (Nat → Int32) × Nat) (mo : Bool) (G : Nat × Nat) (I : Nat → Nat → Int32) (J : Nat → Nat → Int64) (Q : Option Value → sm_M → Prop) (x1 : Int32) (x2 : Int32) (x3 : Int32) (x4 : Int32) (x5 : Int32) :
    sm_wp X 68 71 [some (.ref 31), some (.int x1), some (.int x2), some (.int x3), some (.int x4), some (.int x5)] [] (sM mo G I J) Q =
    (True ∧ Q none (sM mo G I J)) :=
  (sm_blk X 68 71 (tt_lin 68 (by decide)) rfl rfl _ _ _ _).trans rfl
set_option maxRecDepth 100000 in
theorem bk_69_0 (X : (Nat → Int32) × Nat) (mo : Bool) (G : Nat × Nat) (I : Nat → Nat → Int32) (J : Nat → Nat → Int64) (Q : Option Value → sm_M → Prop) (x1 : Int32) (x2 : Int32) (x3 : Int32) :
    sm_wp X 69 0 [some (.ref 31), some (.int x1), some (.int x2), some (.int x3)] [] (sM mo G I J) Q =
    (sm_wp X 66 0 [some (.ref 31), some (.int x1)] [] (sM mo G I J) (fun v M => sm_wp X 69 5 [some (.ref 31), some (.int x1), some (.int x2), some (.int x3)] (v.toList ++ []) M Q)) :=
  (sm_blk X 69 0 (tt_lin 69 (by decide)) rfl rfl _ _ _ _).trans rfl
set_option maxRecDepth 100000 in
theorem bk_69_5 (X : (Nat → Int32) × Nat) (mo : Bool) (G : Nat × Nat) (I : Nat → Nat → Int32) (J : Nat → Nat → Int64) (Q : Option Value → sm_M → Prop) (x1 : Int32) (x2 : Int32) (x3 : Int32) (s0 : Int32) :
    sm_wp X 69 5 [some (.ref 31), some (.int x1), some (.int x2), some (.int x3)] [.int s0] (sM mo G I J) Q =
    (if (s0 : Int32) = 0 then sm_wp X 69 22 [some (.ref 31), some (.int x1), some (.int x2), some (.int x3)] [] (sM mo G I J) Q else (vp_in x1 60 ∧ (vp_in x1 60 ∧ (True ∧ Q none (sM mo G (up2 (up2 I 35 x1.toNatClampNeg x2) 36 x1.toNatClampNeg x3) J))))) :=
  (sm_blk X 69 5 (tt_lin 69 (by decide)) rfl rfl _ _ _ _).trans rfl
set_option maxRecDepth 100000 in
theorem bk_69_22 (X : (Nat → Int32) × Nat) (mo : Bool) (G : Nat × Nat) (I : Nat → Nat → Int32) (J : Nat → Nat → Int64) (Q : Option Value → sm_M → Prop) (x1 : Int32) (x2 : Int32) (x3 : Int32) :
    sm_wp X 69 22 [some (.ref 31), some (.int x1), some (.int x2), some (.int x3)] [] (sM mo G I J) Q =
    (True ∧ Q none (sM mo G I J)) :=
  (sm_blk X 69 22 (tt_lin 69 (by decide)) rfl rfl _ _ _ _).trans rfl
set_option maxRecDepth 100000 in
theorem bk_70_0 (X : (Nat → Int32) × Nat) (mo : Bool) (G : Nat × Nat) (I : Nat → Nat → Int32) (J : Nat → Nat → Int64) (Q : Option Value → sm_M → Prop) (x1 : Int32) :
    sm_wp X 70 0 [some (.ref 31), some (.int x1)] [] (sM mo G I J) Q =
    (sm_wp X 66 0 [some (.ref 31), some (.int x1)] [] (sM mo G I J) (fun v M => sm_wp X 70 5 [some (.ref 31), some (.int x1)] (v.toList ++ []) M Q)) :=
  (sm_blk X 70 0 (tt_lin 70 (by decide)) rfl rfl _ _ _ _).trans rfl
set_option maxRecDepth 100000 in
theorem bk_70_5 (X : (Nat → Int32) × Nat) (mo : Bool) (G : Nat × Nat) (I : Nat → Nat → Int32) (J : Nat → Nat → Int64) (Q : Option Value → sm_M → Prop) (x1 : Int32) (s0 : Int32) :
    sm_wp X 70 5 [some (.ref 31), some (.int x1)] [.int s0] (sM mo G I J) Q =
    (if (s0 : Int32) = 0 then sm_wp X 70 17 [some (.ref 31), some (.int x1)] [] (sM mo G I J) Q else (vp_in x1 60 ∧ (sm_wp X 70 18 [some (.ref 31), some (.int x1)] [.int (I 42 (x1.toNatClampNeg))] (sM mo G I J) Q))) :=
  (sm_blk X 70 5 (tt_lin 70 (by decide)) rfl rfl _ _ _ _).trans rfl
set_option maxRecDepth 100000 in
theorem bk_70_17 (X : (Nat → Int32) × Nat) (mo : Bool) (G : Nat × Nat) (I : Nat → Nat → Int32) (J : Nat → Nat → Int64) (Q : Option Value → sm_M → Prop) (x1 : Int32) :
    sm_wp X 70 17 [some (.ref 31), some (.int x1)] [] (sM mo G I J) Q =
    (True ∧ Q (some (.int (-1))) (sM mo G I J)) :=
  (sm_blk X 70 17 (tt_lin 70 (by decide)) rfl rfl _ _ _ _).trans rfl
set_option maxRecDepth 100000 in
theorem bk_70_18 (X : (Nat → Int32) × Nat) (mo : Bool) (G : Nat × Nat) (I : Nat → Nat → Int32) (J : Nat → Nat → Int64) (Q : Option Value → sm_M → Prop) (x1 : Int32) (s0 : Int32) :
    sm_wp X 70 18 [some (.ref 31), some (.int x1)] [.int s0] (sM mo G I J) Q =
    (True ∧ Q (some (.int s0)) (sM mo G I J)) :=
  (sm_blk X 70 18 (tt_lin 70 (by decide)) rfl rfl _ _ _ _).trans rfl
set_option maxRecDepth 100000 in
theorem bk_71_0 (X : (Nat → Int32) × Nat) (mo : Bool) (G : Nat × Nat) (I : Nat → Nat → Int32) (J : Nat → Nat → Int64) (Q : Option Value → sm_M → Prop) (x1 : Int32) :
    sm_wp X 71 0 [some (.ref 31), some (.int x1)] [] (sM mo G I J) Q =
    (sm_wp X 66 0 [some (.ref 31), some (.int x1)] [] (sM mo G I J) (fun v M => sm_wp X 71 5 [some (.ref 31), some (.int x1)] (v.toList ++ []) M Q)) :=
  (sm_blk X 71 0 (tt_lin 71 (by decide)) rfl rfl _ _ _ _).trans rfl
set_option maxRecDepth 100000 in
theorem bk_71_5 (X : (Nat → Int32) × Nat) (mo : Bool) (G : Nat × Nat) (I : Nat → Nat → Int32) (J : Nat → Nat → Int64) (Q : Option Value → sm_M → Prop) (x1 : Int32) (s0 : Int32) :
    sm_wp X 71 5 [some (.ref 31), some (.int x1)] [.int s0] (sM mo G I J) Q =
    (if (s0 : Int32) = 0 then sm_wp X 71 17 [some (.ref 31), some (.int x1)] [] (sM mo G I J) Q else (vp_in x1 60 ∧ (sm_wp X 71 18 [some (.ref 31), some (.int x1)] [.int (I 39 (x1.toNatClampNeg))] (sM mo G I J) Q))) :=
  (sm_blk X 71 5 (tt_lin 71 (by decide)) rfl rfl _ _ _ _).trans rfl
set_option maxRecDepth 100000 in
theorem bk_71_17 (X : (Nat → Int32) × Nat) (mo : Bool) (G : Nat × Nat) (I : Nat → Nat → Int32) (J : Nat → Nat → Int64) (Q : Option Value → sm_M → Prop) (x1 : Int32) :
    sm_wp X 71 17 [some (.ref 31), some (.int x1)] [] (sM mo G I J) Q =
    (True ∧ Q (some (.int (-1))) (sM mo G I J)) :=
  (sm_blk X 71 17 (tt_lin 71 (by decide)) rfl rfl _ _ _ _).trans rfl
set_option maxRecDepth 100000 in
theorem bk_71_18 (X : (Nat → Int32) × Nat) (mo : Bool) (G : Nat × Nat) (I : Nat → Nat → Int32) (J : Nat → Nat → Int64) (Q : Option Value → sm_M → Prop) (x1 : Int32) (s0 : Int32) :
    sm_wp X 71 18 [some (.ref 31), some (.int x1)] [.int s0] (sM mo G I J) Q =
    (True ∧ Q (some (.int s0)) (sM mo G I J)) :=
  (sm_blk X 71 18 (tt_lin 71 (by decide)) rfl rfl _ _ _ _).trans rfl
set_option maxRecDepth 100000 in
theorem bk_72_0 (X : (Nat → Int32) × Nat) (mo : Bool) (G : Nat × Nat) (I : Nat → Nat → Int32) (J : Nat → Nat → Int64) (Q : Option Value → sm_M → Prop) (x1 : Int32) :
    sm_wp X 72 0 [some (.ref 31), some (.int x1)] [] (sM mo G I J) Q =
    (sm_wp X 66 0 [some (.ref 31), some (.int x1)] [] (sM mo G I J) (fun v M => sm_wp X 72 5 [some (.ref 31), some (.int x1)] (v.toList ++ []) M Q)) :=
  (sm_blk X 72 0 (tt_lin 72 (by decide)) rfl rfl _ _ _ _).trans rfl
set_option maxRecDepth 100000 in
theorem bk_72_5 (X : (Nat → Int32) × Nat) (mo : Bool) (G : Nat × Nat) (I : Nat → Nat → Int32) (J : Nat → Nat → Int64) (Q : Option Value → sm_M → Prop) (x1 : Int32) (s0 : Int32) :
    sm_wp X 72 5 [some (.ref 31), some (.int x1)] [.int s0] (sM mo G I J) Q =
    (if (s0 : Int32) = 0 then sm_wp X 72 17 [some (.ref 31), some (.int x1)] [] (sM mo G I J) Q else (vp_in x1 60 ∧ (sm_wp X 72 18 [some (.ref 31), some (.int x1)] [.int (I 32 (x1.toNatClampNeg))] (sM mo G I J) Q))) :=
  (sm_blk X 72 5 (tt_lin 72 (by decide)) rfl rfl _ _ _ _).trans rfl
set_option maxRecDepth 100000 in
theorem bk_72_17 (X : (Nat → Int32) × Nat) (mo : Bool) (G : Nat × Nat) (I : Nat → Nat → Int32) (J : Nat → Nat → Int64) (Q : Option Value → sm_M → Prop) (x1 : Int32) :
    sm_wp X 72 17 [some (.ref 31), some (.int x1)] [] (sM mo G I J) Q =
    (True ∧ Q (some (.int (-1))) (sM mo G I J)) :=
  (sm_blk X 72 17 (tt_lin 72 (by decide)) rfl rfl _ _ _ _).trans rfl
set_option maxRecDepth 100000 in
theorem bk_72_18 (X : (Nat → Int32) × Nat) (mo : Bool) (G : Nat × Nat) (I : Nat → Nat → Int32) (J : Nat → Nat → Int64) (Q : Option Value → sm_M → Prop) (x1 : Int32) (s0 : Int32) :
    sm_wp X 72 18 [some (.ref 31), some (.int x1)] [.int s0] (sM mo G I J) Q =
    (True ∧ Q (some (.int s0)) (sM mo G I J)) :=
  (sm_blk X 72 18 (tt_lin 72 (by decide)) rfl rfl _ _ _ _).trans rfl
set_option maxRecDepth 100000 in
theorem bk_73_0 (X : (Nat → Int32) × Nat) (mo : Bool) (G : Nat × Nat) (I : Nat → Nat → Int32) (J : Nat → Nat → Int64) (Q : Option Value → sm_M → Prop) (x1 : Int32) :
    sm_wp X 73 0 [some (.ref 31), some (.int x1)] [] (sM mo G I J) Q =
    (sm_wp X 66 0 [some (.ref 31), some (.int x1)] [] (sM mo G I J) (fun v M => sm_wp X 73 5 [some (.ref 31), some (.int x1)] (v.toList ++ []) M Q)) :=
  (sm_blk X 73 0 (tt_lin 73 (by decide)) rfl rfl _ _ _ _).trans rfl
set_option maxRecDepth 100000 in
theorem bk_73_5 (X : (Nat → Int32) × Nat) (mo : Bool) (G : Nat × Nat) (I : Nat → Nat → Int32) (J : Nat → Nat → Int64) (Q : Option Value → sm_M → Prop) (x1 : Int32) (s0 : Int32) :
    sm_wp X 73 5 [some (.ref 31), some (.int x1)] [.int s0] (sM mo G I J) Q =
    (if (s0 : Int32) = 0 then sm_wp X 73 17 [some (.ref 31), some (.int x1)] [] (sM mo G I J) Q else (vp_in x1 60 ∧ (sm_wp X 73 18 [some (.ref 31), some (.int x1)] [.int (I 33 (x1.toNatClampNeg))] (sM mo G I J) Q))) :=
  (sm_blk X 73 5 (tt_lin 73 (by decide)) rfl rfl _ _ _ _).trans rfl
set_option maxRecDepth 100000 in
theorem bk_73_17 (X : (Nat → Int32) × Nat) (mo : Bool) (G : Nat × Nat) (I : Nat → Nat → Int32) (J : Nat → Nat → Int64) (Q : Option Value → sm_M → Prop) (x1 : Int32) :
    sm_wp X 73 17 [some (.ref 31), some (.int x1)] [] (sM mo G I J) Q =
    (True ∧ Q (some (.int (-1))) (sM mo G I J)) :=
  (sm_blk X 73 17 (tt_lin 73 (by decide)) rfl rfl _ _ _ _).trans rfl
set_option maxRecDepth 100000 in
theorem bk_73_18 (X : (Nat → Int32) × Nat) (mo : Bool) (G : Nat × Nat) (I : Nat → Nat → Int32) (J : Nat → Nat → Int64) (Q : Option Value → sm_M → Prop) (x1 : Int32) (s0 : Int32) :
    sm_wp X 73 18 [some (.ref 31), some (.int x1)] [.int s0] (sM mo G I J) Q =
    (True ∧ Q (some (.int s0)) (sM mo G I J)) :=
  (sm_blk X 73 18 (tt_lin 73 (by decide)) rfl rfl _ _ _ _).trans rfl
set_option maxRecDepth 100000 in
theorem bk_74_0 (X : (Nat → Int32) × Nat) (mo : Bool) (G : Nat × Nat) (I : Nat → Nat → Int32) (J : Nat → Nat → Int64) (Q : Option Value → sm_M → Prop) (x1 : Int32) (x2 : Int32) :
    sm_wp X 74 0 [some (.ref 31), some (.int x1), some (.int x2)] [] (sM mo G I J) Q =
    (sm_wp X 66 0 [some (.ref 31), some (.int x1)] [] (sM mo G I J) (fun v M => sm_wp X 74 5 [some (.ref 31), some (.int x1), some (.int x2)] (v.toList ++ []) M Q)) :=
  (sm_blk X 74 0 (tt_lin 74 (by decide)) rfl rfl _ _ _ _).trans rfl
set_option maxRecDepth 100000 in
theorem bk_74_5 (X : (Nat → Int32) × Nat) (mo : Bool) (G : Nat × Nat) (I : Nat → Nat → Int32) (J : Nat → Nat → Int64) (Q : Option Value → sm_M → Prop) (x1 : Int32) (x2 : Int32) (s0 : Int32) :
    sm_wp X 74 5 [some (.ref 31), some (.int x1), some (.int x2)] [.int s0] (sM mo G I J) Q =
    (if (s0 : Int32) = 0 then sm_wp X 74 15 [some (.ref 31), some (.int x1), some (.int x2)] [] (sM mo G I J) Q else (vp_in x1 60 ∧ (True ∧ Q none (sM mo G (up2 I 42 x1.toNatClampNeg x2) J)))) :=
  (sm_blk X 74 5 (tt_lin 74 (by decide)) rfl rfl _ _ _ _).trans rfl
set_option maxRecDepth 100000 in
theorem bk_74_15 (X : (Nat → Int32) × Nat) (mo : Bool) (G : Nat × Nat) (I : Nat → Nat → Int32) (J : Nat → Nat → Int64) (Q : Option Value → sm_M → Prop) (x1 : Int32) (x2 : Int32) :
    sm_wp X 74 15 [some (.ref 31), some (.int x1), some (.int x2)] [] (sM mo G I J) Q =
    (True ∧ Q none (sM mo G I J)) :=
  (sm_blk X 74 15 (tt_lin 74 (by decide)) rfl rfl _ _ _ _).trans rfl
set_option maxRecDepth 100000 in
theorem bk_75_0 (X : (Nat → Int32) × Nat) (mo : Bool) (G : Nat × Nat) (I : Nat → Nat → Int32) (J : Nat → Nat → Int64) (Q : Option Value → sm_M → Prop) (x1 : Int32) :
    sm_wp X 75 0 [some (.ref 31), some (.int x1)] [] (sM mo G I J) Q =
    (sm_wp X 66 0 [some (.ref 31), some (.int x1)] [] (sM mo G I J) (fun v M => sm_wp X 75 5 [some (.ref 31), some (.int x1)] (v.toList ++ []) M Q)) :=
  (sm_blk X 75 0 (tt_lin 75 (by decide)) rfl rfl _ _ _ _).trans rfl
set_option maxRecDepth 100000 in
theorem bk_75_5 (X : (Nat → Int32) × Nat) (mo : Bool) (G : Nat × Nat) (I : Nat → Nat → Int32) (J : Nat → Nat → Int64) (Q : Option Value → sm_M → Prop) (x1 : Int32) (s0 : Int32) :
    sm_wp X 75 5 [some (.ref 31), some (.int x1)] [.int s0] (sM mo G I J) Q =
    (if (s0 : Int32) = 0 then sm_wp X 75 17 [some (.ref 31), some (.int x1)] [] (sM mo G I J) Q else (vp_in x1 60 ∧ (sm_wp X 75 18 [some (.ref 31), some (.int x1)] [.int (I 37 (x1.toNatClampNeg))] (sM mo G I J) Q))) :=
  (sm_blk X 75 5 (tt_lin 75 (by decide)) rfl rfl _ _ _ _).trans rfl
set_option maxRecDepth 100000 in
theorem bk_75_17 (X : (Nat → Int32) × Nat) (mo : Bool) (G : Nat × Nat) (I : Nat → Nat → Int32) (J : Nat → Nat → Int64) (Q : Option Value → sm_M → Prop) (x1 : Int32) :
    sm_wp X 75 17 [some (.ref 31), some (.int x1)] [] (sM mo G I J) Q =
    (True ∧ Q (some (.int 0)) (sM mo G I J)) :=
  (sm_blk X 75 17 (tt_lin 75 (by decide)) rfl rfl _ _ _ _).trans rfl
set_option maxRecDepth 100000 in
theorem bk_75_18 (X : (Nat → Int32) × Nat) (mo : Bool) (G : Nat × Nat) (I : Nat → Nat → Int32) (J : Nat → Nat → Int64) (Q : Option Value → sm_M → Prop) (x1 : Int32) (s0 : Int32) :
    sm_wp X 75 18 [some (.ref 31), some (.int x1)] [.int s0] (sM mo G I J) Q =
    (True ∧ Q (some (.int s0)) (sM mo G I J)) :=
  (sm_blk X 75 18 (tt_lin 75 (by decide)) rfl rfl _ _ _ _).trans rfl
set_option maxRecDepth 100000 in
theorem bk_76_0 (X : (Nat → Int32) × Nat) (mo : Bool) (G : Nat × Nat) (I : Nat → Nat → Int32) (J : Nat → Nat → Int64) (Q : Option Value → sm_M → Prop) (x1 : Int32) :
    sm_wp X 76 0 [some (.ref 31), some (.int x1)] [] (sM mo G I J) Q =
    (sm_wp X 66 0 [some (.ref 31), some (.int x1)] [] (sM mo G I J) (fun v M => sm_wp X 76 5 [some (.ref 31), some (.int x1)] (v.toList ++ []) M Q)) :=
  (sm_blk X 76 0 (tt_lin 76 (by decide)) rfl rfl _ _ _ _).trans rfl
set_option maxRecDepth 100000 in
theorem bk_76_5 (X : (Nat → Int32) × Nat) (mo : Bool) (G : Nat × Nat) (I : Nat → Nat → Int32) (J : Nat → Nat → Int64) (Q : Option Value → sm_M → Prop) (x1 : Int32) (s0 : Int32) :
    sm_wp X 76 5 [some (.ref 31), some (.int x1)] [.int s0] (sM mo G I J) Q =
    (if (s0 : Int32) = 0 then sm_wp X 76 17 [some (.ref 31), some (.int x1)] [] (sM mo G I J) Q else (vp_in x1 60 ∧ (sm_wp X 76 18 [some (.ref 31), some (.int x1)] [.int (I 38 (x1.toNatClampNeg))] (sM mo G I J) Q))) :=
  (sm_blk X 76 5 (tt_lin 76 (by decide)) rfl rfl _ _ _ _).trans rfl
set_option maxRecDepth 100000 in
theorem bk_76_17 (X : (Nat → Int32) × Nat) (mo : Bool) (G : Nat × Nat) (I : Nat → Nat → Int32) (J : Nat → Nat → Int64) (Q : Option Value → sm_M → Prop) (x1 : Int32) :
    sm_wp X 76 17 [some (.ref 31), some (.int x1)] [] (sM mo G I J) Q =
    (True ∧ Q (some (.int 0)) (sM mo G I J)) :=
  (sm_blk X 76 17 (tt_lin 76 (by decide)) rfl rfl _ _ _ _).trans rfl
set_option maxRecDepth 100000 in
theorem bk_76_18 (X : (Nat → Int32) × Nat) (mo : Bool) (G : Nat × Nat) (I : Nat → Nat → Int32) (J : Nat → Nat → Int64) (Q : Option Value → sm_M → Prop) (x1 : Int32) (s0 : Int32) :
    sm_wp X 76 18 [some (.ref 31), some (.int x1)] [.int s0] (sM mo G I J) Q =
    (True ∧ Q (some (.int s0)) (sM mo G I J)) :=
  (sm_blk X 76 18 (tt_lin 76 (by decide)) rfl rfl _ _ _ _).trans rfl
set_option maxRecDepth 100000 in
theorem bk_77_0 (X : (Nat → Int32) × Nat) (mo : Bool) (G : Nat × Nat) (I : Nat → Nat → Int32) (J : Nat → Nat → Int64) (Q : Option Value → sm_M → Prop) (x1 : Int32) :
    sm_wp X 77 0 [some (.ref 31), some (.int x1)] [] (sM mo G I J) Q =
    (sm_wp X 66 0 [some (.ref 31), some (.int x1)] [] (sM mo G I J) (fun v M => sm_wp X 77 5 [some (.ref 31), some (.int x1)] (v.toList ++ []) M Q)) :=
  (sm_blk X 77 0 (tt_lin 77 (by decide)) rfl rfl _ _ _ _).trans rfl
set_option maxRecDepth 100000 in
theorem bk_77_5 (X : (Nat → Int32) × Nat) (mo : Bool) (G : Nat × Nat) (I : Nat → Nat → Int32) (J : Nat → Nat → Int64) (Q : Option Value → sm_M → Prop) (x1 : Int32) (s0 : Int32) :
    sm_wp X 77 5 [some (.ref 31), some (.int x1)] [.int s0] (sM mo G I J) Q =
    (if (s0 : Int32) = 0 then sm_wp X 77 22 [some (.ref 31), some (.int x1)] [] (sM mo G I J) Q else (vp_in x1 60 ∧ (if (I 40 (x1.toNatClampNeg) : Int32) = ((-1) : Int32) then sm_wp X 77 22 [some (.ref 31), some (.int x1)] [] (sM mo G I J) Q else (sm_wp X 77 23 [some (.ref 31), some (.int x1)] [.int 1] (sM mo G I J) Q)))) :=
  (sm_blk X 77 5 (tt_lin 77 (by decide)) rfl rfl _ _ _ _).trans rfl
set_option maxRecDepth 100000 in
theorem bk_77_22 (X : (Nat → Int32) × Nat) (mo : Bool) (G : Nat × Nat) (I : Nat → Nat → Int32) (J : Nat → Nat → Int64) (Q : Option Value → sm_M → Prop) (x1 : Int32) :
    sm_wp X 77 22 [some (.ref 31), some (.int x1)] [] (sM mo G I J) Q =
    (sm_zb 0 ∧ Q (some (.int 0)) (sM mo G I J)) :=
  (sm_blk X 77 22 (tt_lin 77 (by decide)) rfl rfl _ _ _ _).trans rfl
set_option maxRecDepth 100000 in
theorem bk_77_23 (X : (Nat → Int32) × Nat) (mo : Bool) (G : Nat × Nat) (I : Nat → Nat → Int32) (J : Nat → Nat → Int64) (Q : Option Value → sm_M → Prop) (x1 : Int32) (s0 : Int32) :
    sm_wp X 77 23 [some (.ref 31), some (.int x1)] [.int s0] (sM mo G I J) Q =
    (sm_zb s0 ∧ Q (some (.int s0)) (sM mo G I J)) :=
  (sm_blk X 77 23 (tt_lin 77 (by decide)) rfl rfl _ _ _ _).trans rfl
set_option maxRecDepth 100000 in
theorem bk_78_0 (X : (Nat → Int32) × Nat) (mo : Bool) (G : Nat × Nat) (I : Nat → Nat → Int32) (J : Nat → Nat → Int64) (Q : Option Value → sm_M → Prop) (x1 : Int32) (x2 : Int32) :
    sm_wp X 78 0 [some (.ref 31), some (.int x1), some (.int x2)] [] (sM mo G I J) Q =
    (sm_wp X 66 0 [some (.ref 31), some (.int x1)] [] (sM mo G I J) (fun v M => sm_wp X 78 5 [some (.ref 31), some (.int x1), some (.int x2)] (v.toList ++ []) M Q)) :=
  (sm_blk X 78 0 (tt_lin 78 (by decide)) rfl rfl _ _ _ _).trans rfl
set_option maxRecDepth 100000 in
theorem bk_78_5 (X : (Nat → Int32) × Nat) (mo : Bool) (G : Nat × Nat) (I : Nat → Nat → Int32) (J : Nat → Nat → Int64) (Q : Option Value → sm_M → Prop) (x1 : Int32) (x2 : Int32) (s0 : Int32) :
    sm_wp X 78 5 [some (.ref 31), some (.int x1), some (.int x2)] [.int s0] (sM mo G I J) Q =
    (if (s0 : Int32) = 0 then sm_wp X 78 15 [some (.ref 31), some (.int x1), some (.int x2)] [] (sM mo G I J) Q else (vp_in x1 60 ∧ (True ∧ Q none (sM mo G (up2 I 43 x1.toNatClampNeg x2) J)))) :=
  (sm_blk X 78 5 (tt_lin 78 (by decide)) rfl rfl _ _ _ _).trans rfl
set_option maxRecDepth 100000 in
theorem bk_78_15 (X : (Nat → Int32) × Nat) (mo : Bool) (G : Nat × Nat) (I : Nat → Nat → Int32) (J : Nat → Nat → Int64) (Q : Option Value → sm_M → Prop) (x1 : Int32) (x2 : Int32) :
    sm_wp X 78 15 [some (.ref 31), some (.int x1), some (.int x2)] [] (sM mo G I J) Q =
    (True ∧ Q none (sM mo G I J)) :=
  (sm_blk X 78 15 (tt_lin 78 (by decide)) rfl rfl _ _ _ _).trans rfl
set_option maxRecDepth 100000 in
theorem bk_79_0 (X : (Nat → Int32) × Nat) (mo : Bool) (G : Nat × Nat) (I : Nat → Nat → Int32) (J : Nat → Nat → Int64) (Q : Option Value → sm_M → Prop) (x1 : Int32) (x2 : Int32) :
    sm_wp X 79 0 [some (.ref 31), some (.int x1), some (.int x2)] [] (sM mo G I J) Q =
    (sm_wp X 66 0 [some (.ref 31), some (.int x1)] [] (sM mo G I J) (fun v M => sm_wp X 79 5 [some (.ref 31), some (.int x1), some (.int x2)] (v.toList ++ []) M Q)) :=
  (sm_blk X 79 0 (tt_lin 79 (by decide)) rfl rfl _ _ _ _).trans rfl
set_option maxRecDepth 100000 in
theorem bk_79_5 (X : (Nat → Int32) × Nat) (mo : Bool) (G : Nat × Nat) (I : Nat → Nat → Int32) (J : Nat → Nat → Int64) (Q : Option Value → sm_M → Prop) (x1 : Int32) (x2 : Int32) (s0 : Int32) :
    sm_wp X 79 5 [some (.ref 31), some (.int x1), some (.int x2)] [.int s0] (sM mo G I J) Q =
    (if (s0 : Int32) = 0 then sm_wp X 79 15 [some (.ref 31), some (.int x1), some (.int x2)] [] (sM mo G I J) Q else (vp_in x1 60 ∧ (True ∧ Q none (sM mo G (up2 I 44 x1.toNatClampNeg x2) J)))) :=
  (sm_blk X 79 5 (tt_lin 79 (by decide)) rfl rfl _ _ _ _).trans rfl
set_option maxRecDepth 100000 in
theorem bk_79_15 (X : (Nat → Int32) × Nat) (mo : Bool) (G : Nat × Nat) (I : Nat → Nat → Int32) (J : Nat → Nat → Int64) (Q : Option Value → sm_M → Prop) (x1 : Int32) (x2 : Int32) :
    sm_wp X 79 15 [some (.ref 31), some (.int x1), some (.int x2)] [] (sM mo G I J) Q =
    (True ∧ Q none (sM mo G I J)) :=
  (sm_blk X 79 15 (tt_lin 79 (by decide)) rfl rfl _ _ _ _).trans rfl
set_option maxRecDepth 100000 in
theorem bk_80_0 (X : (Nat → Int32) × Nat) (mo : Bool) (G : Nat × Nat) (I : Nat → Nat → Int32) (J : Nat → Nat → Int64) (Q : Option Value → sm_M → Prop) (x1 : Int32) :
    sm_wp X 80 0 [some (.ref 31), some (.int x1)] [] (sM mo G I J) Q =
    (sm_wp X 66 0 [some (.ref 31), some (.int x1)] [] (sM mo G I J) (fun v M => sm_wp X 80 5 [some (.ref 31), some (.int x1)] (v.toList ++ []) M Q)) :=
  (sm_blk X 80 0 (tt_lin 80 (by decide)) rfl rfl _ _ _ _).trans rfl
set_option maxRecDepth 100000 in
theorem bk_80_5 (X : (Nat → Int32) × Nat) (mo : Bool) (G : Nat × Nat) (I : Nat → Nat → Int32) (J : Nat → Nat → Int64) (Q : Option Value → sm_M → Prop) (x1 : Int32) (s0 : Int32) :
    sm_wp X 80 5 [some (.ref 31), some (.int x1)] [.int s0] (sM mo G I J) Q =
    (if (s0 : Int32) = 0 then sm_wp X 80 17 [some (.ref 31), some (.int x1)] [] (sM mo G I J) Q else (vp_in x1 60 ∧ (sm_wp X 80 18 [some (.ref 31), some (.int x1)] [.int (I 44 (x1.toNatClampNeg))] (sM mo G I J) Q))) :=
  (sm_blk X 80 5 (tt_lin 80 (by decide)) rfl rfl _ _ _ _).trans rfl
set_option maxRecDepth 100000 in
theorem bk_80_17 (X : (Nat → Int32) × Nat) (mo : Bool) (G : Nat × Nat) (I : Nat → Nat → Int32) (J : Nat → Nat → Int64) (Q : Option Value → sm_M → Prop) (x1 : Int32) :
    sm_wp X 80 17 [some (.ref 31), some (.int x1)] [] (sM mo G I J) Q =
    (True ∧ Q (some (.int (-1))) (sM mo G I J)) :=
  (sm_blk X 80 17 (tt_lin 80 (by decide)) rfl rfl _ _ _ _).trans rfl
set_option maxRecDepth 100000 in
theorem bk_80_18 (X : (Nat → Int32) × Nat) (mo : Bool) (G : Nat × Nat) (I : Nat → Nat → Int32) (J : Nat → Nat → Int64) (Q : Option Value → sm_M → Prop) (x1 : Int32) (s0 : Int32) :
    sm_wp X 80 18 [some (.ref 31), some (.int x1)] [.int s0] (sM mo G I J) Q =
    (True ∧ Q (some (.int s0)) (sM mo G I J)) :=
  (sm_blk X 80 18 (tt_lin 80 (by decide)) rfl rfl _ _ _ _).trans rfl
set_option maxRecDepth 100000 in
theorem bk_81_0 (X : (Nat → Int32) × Nat) (mo : Bool) (G : Nat × Nat) (I : Nat → Nat → Int32) (J : Nat → Nat → Int64) (Q : Option Value → sm_M → Prop) (x1 : Int32) (x2 : Int32) :
    sm_wp X 81 0 [some (.ref 31), some (.int x1), some (.int x2)] [] (sM mo G I J) Q =
    (sm_wp X 66 0 [some (.ref 31), some (.int x1)] [] (sM mo G I J) (fun v M => sm_wp X 81 5 [some (.ref 31), some (.int x1), some (.int x2)] (v.toList ++ []) M Q)) :=
  (sm_blk X 81 0 (tt_lin 81 (by decide)) rfl rfl _ _ _ _).trans rfl
set_option maxRecDepth 100000 in
theorem bk_81_5 (X : (Nat → Int32) × Nat) (mo : Bool) (G : Nat × Nat) (I : Nat → Nat → Int32) (J : Nat → Nat → Int64) (Q : Option Value → sm_M → Prop) (x1 : Int32) (x2 : Int32) (s0 : Int32) :
    sm_wp X 81 5 [some (.ref 31), some (.int x1), some (.int x2)] [.int s0] (sM mo G I J) Q =
    (if (s0 : Int32) = 0 then sm_wp X 81 45 [some (.ref 31), some (.int x1), some (.int x2)] [] (sM mo G I J) Q else (sm_wp X 66 0 [some (.ref 31), some (.int x2)] [] (sM mo G I J) (fun v M => sm_wp X 81 13 [some (.ref 31), some (.int x1), some (.int x2)] (v.toList ++ []) M Q))) :=
  (sm_blk X 81 5 (tt_lin 81 (by decide)) rfl rfl _ _ _ _).trans rfl
set_option maxRecDepth 100000 in
theorem bk_81_13 (X : (Nat → Int32) × Nat) (mo : Bool) (G : Nat × Nat) (I : Nat → Nat → Int32) (J : Nat → Nat → Int64) (Q : Option Value → sm_M → Prop) (x1 : Int32) (x2 : Int32) (s0 : Int32) :
    sm_wp X 81 13 [some (.ref 31), some (.int x1), some (.int x2)] [.int s0] (sM mo G I J) Q =
    (if (s0 : Int32) = 0 then sm_wp X 81 45 [some (.ref 31), some (.int x1), some (.int x2)] [] (sM mo G I J) Q else (vp_in x1 60 ∧ (vp_in x2 60 ∧ (if ¬ (I 41 (x1.toNatClampNeg) : Int32) = (I 41 (x2.toNatClampNeg) : Int32) then sm_wp X 81 45 [some (.ref 31), some (.int x1), some (.int x2)] [] (sM mo G I J) Q else (vp_in x1 60 ∧ (if (I 41 (x1.toNatClampNeg) : Int32) = ((-1) : Int32) then sm_wp X 81 45 [some (.ref 31), some (.int x1), some (.int x2)] [] (sM mo G I J) Q else (sm_wp X 81 46 [some (.ref 31), some (.int x1), some (.int x2)] [.int 1] (sM mo G I J) Q))))))) :=
  (sm_blk X 81 13 (tt_lin 81 (by decide)) rfl rfl _ _ _ _).trans rfl
set_option maxRecDepth 100000 in
theorem bk_81_45 (X : (Nat → Int32) × Nat) (mo : Bool) (G : Nat × Nat) (I : Nat → Nat → Int32) (J : Nat → Nat → Int64) (Q : Option Value → sm_M → Prop) (x1 : Int32) (x2 : Int32) :
    sm_wp X 81 45 [some (.ref 31), some (.int x1), some (.int x2)] [] (sM mo G I J) Q =
    (sm_zb 0 ∧ Q (some (.int 0)) (sM mo G I J)) :=
  (sm_blk X 81 45 (tt_lin 81 (by decide)) rfl rfl _ _ _ _).trans rfl
set_option maxRecDepth 100000 in
theorem bk_81_46 (X : (Nat → Int32) × Nat) (mo : Bool) (G : Nat × Nat) (I : Nat → Nat → Int32) (J : Nat → Nat → Int64) (Q : Option Value → sm_M → Prop) (x1 : Int32) (x2 : Int32) (s0 : Int32) :
    sm_wp X 81 46 [some (.ref 31), some (.int x1), some (.int x2)] [.int s0] (sM mo G I J) Q =
    (sm_zb s0 ∧ Q (some (.int s0)) (sM mo G I J)) :=
  (sm_blk X 81 46 (tt_lin 81 (by decide)) rfl rfl _ _ _ _).trans rfl
set_option maxRecDepth 100000 in
theorem bk_82_0 (X : (Nat → Int32) × Nat) (mo : Bool) (G : Nat × Nat) (I : Nat → Nat → Int32) (J : Nat → Nat → Int64) (Q : Option Value → sm_M → Prop) (x1 : Int32) :
    sm_wp X 82 0 [some (.ref 31), some (.int x1), none] [] (sM mo G I J) Q =
    (sm_wp X 70 0 [some (.ref 31), some (.int x1)] [] (sM mo G I J) (fun v M => sm_wp X 82 5 [some (.ref 31), some (.int x1), none] (v.toList ++ []) M Q)) :=
  (sm_blk X 82 0 (tt_lin 82 (by decide)) rfl rfl _ _ _ _).trans rfl
set_option maxRecDepth 100000 in
theorem bk_82_5 (X : (Nat → Int32) × Nat) (mo : Bool) (G : Nat × Nat) (I : Nat → Nat → Int32) (J : Nat → Nat → Int64) (Q : Option Value → sm_M → Prop) (x1 : Int32) (s0 : Int32) :
    sm_wp X 82 5 [some (.ref 31), some (.int x1), none] [.int s0] (sM mo G I J) Q =
    (if (s0 : Int32) = 0 then sm_wp X 82 20 [some (.ref 31), some (.int x1), some (.int s0)] [] (sM mo G I J) Q else (if (s0 : Int32) = (1 : Int32) then sm_wp X 82 20 [some (.ref 31), some (.int x1), some (.int s0)] [] (sM mo G I J) Q else (if ¬ (s0 : Int32) = (2 : Int32) then sm_wp X 82 24 [some (.ref 31), some (.int x1), some (.int s0)] [] (sM mo G I J) Q else (sm_wp X 82 25 [some (.ref 31), some (.int x1), some (.int s0)] [.int 1] (sM mo G I J) Q)))) :=
  (sm_blk X 82 5 (tt_lin 82 (by decide)) rfl rfl _ _ _ _).trans rfl
set_option maxRecDepth 100000 in
theorem bk_82_20 (X : (Nat → Int32) × Nat) (mo : Bool) (G : Nat × Nat) (I : Nat → Nat → Int32) (J : Nat → Nat → Int64) (Q : Option Value → sm_M → Prop) (x1 : Int32) (x2 : Int32) :
    sm_wp X 82 20 [some (.ref 31), some (.int x1), some (.int x2)] [] (sM mo G I J) Q =
    (sm_wp X 82 25 [some (.ref 31), some (.int x1), some (.int x2)] [.int 1] (sM mo G I J) Q) :=
  (sm_blk X 82 20 (tt_lin 82 (by decide)) rfl rfl _ _ _ _).trans rfl
set_option maxRecDepth 100000 in
theorem bk_82_24 (X : (Nat → Int32) × Nat) (mo : Bool) (G : Nat × Nat) (I : Nat → Nat → Int32) (J : Nat → Nat → Int64) (Q : Option Value → sm_M → Prop) (x1 : Int32) (x2 : Int32) :
    sm_wp X 82 24 [some (.ref 31), some (.int x1), some (.int x2)] [] (sM mo G I J) Q =
    (sm_zb 0 ∧ Q (some (.int 0)) (sM mo G I J)) :=
  (sm_blk X 82 24 (tt_lin 82 (by decide)) rfl rfl _ _ _ _).trans rfl
set_option maxRecDepth 100000 in
theorem bk_82_25 (X : (Nat → Int32) × Nat) (mo : Bool) (G : Nat × Nat) (I : Nat → Nat → Int32) (J : Nat → Nat → Int64) (Q : Option Value → sm_M → Prop) (x1 : Int32) (x2 : Int32) (s0 : Int32) :
    sm_wp X 82 25 [some (.ref 31), some (.int x1), some (.int x2)] [.int s0] (sM mo G I J) Q =
    (sm_zb s0 ∧ Q (some (.int s0)) (sM mo G I J)) :=
  (sm_blk X 82 25 (tt_lin 82 (by decide)) rfl rfl _ _ _ _).trans rfl
set_option maxRecDepth 100000 in
theorem bk_83_0 (X : (Nat → Int32) × Nat) (mo : Bool) (G : Nat × Nat) (I : Nat → Nat → Int32) (J : Nat → Nat → Int64) (Q : Option Value → sm_M → Prop) (x1 : Int32) (x2 : Int32) :
    sm_wp X 83 0 [some (.ref 31), some (.int x1), some (.int x2)] [] (sM mo G I J) Q =
    (sm_wp X 66 0 [some (.ref 31), some (.int x1)] [] (sM mo G I J) (fun v M => sm_wp X 83 5 [some (.ref 31), some (.int x1), some (.int x2)] (v.toList ++ []) M Q)) :=
  (sm_blk X 83 0 (tt_lin 83 (by decide)) rfl rfl _ _ _ _).trans rfl
set_option maxRecDepth 100000 in
theorem bk_83_5 (X : (Nat → Int32) × Nat) (mo : Bool) (G : Nat × Nat) (I : Nat → Nat → Int32) (J : Nat → Nat → Int64) (Q : Option Value → sm_M → Prop) (x1 : Int32) (x2 : Int32) (s0 : Int32) :
    sm_wp X 83 5 [some (.ref 31), some (.int x1), some (.int x2)] [.int s0] (sM mo G I J) Q =
    (if ¬ (s0 : Int32) = 0 then sm_wp X 83 11 [some (.ref 31), some (.int x1), some (.int x2)] [] (sM mo G I J) Q else (True ∧ Q (some (.int (-2))) (sM mo G I J))) :=
  (sm_blk X 83 5 (tt_lin 83 (by decide)) rfl rfl _ _ _ _).trans rfl
set_option maxRecDepth 100000 in
theorem bk_83_11 (X : (Nat → Int32) × Nat) (mo : Bool) (G : Nat × Nat) (I : Nat → Nat → Int32) (J : Nat → Nat → Int64) (Q : Option Value → sm_M → Prop) (x1 : Int32) (x2 : Int32) :
    sm_wp X 83 11 [some (.ref 31), some (.int x1), some (.int x2)] [] (sM mo G I J) Q =
    (if (x2 : Int32) = 0 then sm_wp X 83 56 [some (.ref 31), some (.int x1), some (.int x2)] [] (sM mo G I J) Q else if (x2 : Int32) = 1 then sm_wp X 83 70 [some (.ref 31), some (.int x1), some (.int x2)] [] (sM mo G I J) Q else if (x2 : Int32) = 2 then sm_wp X 83 77 [some (.ref 31), some (.int x1), some (.int x2)] [] (sM mo G I J) Q else if (x2 : Int32) = 3 then sm_wp X 83 84 [some (.ref 31), some (.int x1), some (.int x2)] [] (sM mo G I J) Q else if (x2 : Int32) = 4 then sm_wp X 83 91 [some (.ref 31), some (.int x1), some (.int x2)] [] (sM mo G I J) Q else if (x2 : Int32) = 5 then sm_wp X 83 98 [some (.ref 31), some (.int x1), some (.int x2)] [] (sM mo G I J) Q else if (x2 : Int32) = 6 then sm_wp X 83 105 [some (.ref 31), some (.int x1), some (.int x2)] [] (sM mo G I J) Q else sm_wp X 83 112 [some (.ref 31), some (.int x1), some (.int x2)] [] (sM mo G I J) Q) :=
  (sm_blk X 83 11 (tt_lin 83 (by decide)) rfl rfl _ _ _ _).trans rfl
set_option maxRecDepth 100000 in
theorem bk_83_56 (X : (Nat → Int32) × Nat) (mo : Bool) (G : Nat × Nat) (I : Nat → Nat → Int32) (J : Nat → Nat → Int64) (Q : Option Value → sm_M → Prop) (x1 : Int32) (x2 : Int32) :
    sm_wp X 83 56 [some (.ref 31), some (.int x1), some (.int x2)] [] (sM mo G I J) Q =
    (sm_wp X 65 0 [some (.ref 31), some (.int x1)] [] (sM mo G I J) (fun v M => sm_wp X 83 61 [some (.ref 31), some (.int x1), some (.int x2)] (v.toList ++ []) M Q)) :=
  (sm_blk X 83 56 (tt_lin 83 (by decide)) rfl rfl _ _ _ _).trans rfl
set_option maxRecDepth 100000 in
theorem bk_83_61 (X : (Nat → Int32) × Nat) (mo : Bool) (G : Nat × Nat) (I : Nat → Nat → Int32) (J : Nat → Nat → Int64) (Q : Option Value → sm_M → Prop) (x1 : Int32) (x2 : Int32) (s0 : Int32) :
    sm_wp X 83 61 [some (.ref 31), some (.int x1), some (.int x2)] [.int s0] (sM mo G I J) Q =
    (if (s0 : Int32) = 0 then sm_wp X 83 68 [some (.ref 31), some (.int x1), some (.int x2)] [] (sM mo G I J) Q else (sm_wp X 83 69 [some (.ref 31), some (.int x1), some (.int x2)] [.int 0] (sM mo G I J) Q)) :=
  (sm_blk X 83 61 (tt_lin 83 (by decide)) rfl rfl _ _ _ _).trans rfl
set_option maxRecDepth 100000 in
theorem bk_83_68 (X : (Nat → Int32) × Nat) (mo : Bool) (G : Nat × Nat) (I : Nat → Nat → Int32) (J : Nat → Nat → Int64) (Q : Option Value → sm_M → Prop) (x1 : Int32) (x2 : Int32) :
    sm_wp X 83 68 [some (.ref 31), some (.int x1), some (.int x2)] [] (sM mo G I J) Q =
    (True ∧ Q (some (.int 1)) (sM mo G I J)) :=
  (sm_blk X 83 68 (tt_lin 83 (by decide)) rfl rfl _ _ _ _).trans rfl
set_option maxRecDepth 100000 in
theorem bk_83_69 (X : (Nat → Int32) × Nat) (mo : Bool) (G : Nat × Nat) (I : Nat → Nat → Int32) (J : Nat → Nat → Int64) (Q : Option Value → sm_M → Prop) (x1 : Int32) (x2 : Int32) (s0 : Int32) :
    sm_wp X 83 69 [some (.ref 31), some (.int x1), some (.int x2)] [.int s0] (sM mo G I J) Q =
    (True ∧ Q (some (.int s0)) (sM mo G I J)) :=
  (sm_blk X 83 69 (tt_lin 83 (by decide)) rfl rfl _ _ _ _).trans rfl
set_option maxRecDepth 100000 in
theorem bk_83_70 (X : (Nat → Int32) × Nat) (mo : Bool) (G : Nat × Nat) (I : Nat → Nat → Int32) (J : Nat → Nat → Int64) (Q : Option Value → sm_M → Prop) (x1 : Int32) (x2 : Int32) :
    sm_wp X 83 70 [some (.ref 31), some (.int x1), some (.int x2)] [] (sM mo G I J) Q =
    (vp_in x1 60 ∧ (True ∧ Q (some (.int (I 34 (x1.toNatClampNeg)))) (sM mo G I J))) :=
  (sm_blk X 83 70 (tt_lin 83 (by decide)) rfl rfl _ _ _ _).trans rfl
set_option maxRecDepth 100000 in
theorem bk_83_77 (X : (Nat → Int32) × Nat) (mo : Bool) (G : Nat × Nat) (I : Nat → Nat → Int32) (J : Nat → Nat → Int64) (Q : Option Value → sm_M → Prop) (x1 : Int32) (x2 : Int32) :
    sm_wp X 83 77 [some (.ref 31), some (.int x1), some (.int x2)] [] (sM mo G I J) Q =
    (vp_in x1 60 ∧ (True ∧ Q (some (.int (I 42 (x1.toNatClampNeg)))) (sM mo G I J))) :=
  (sm_blk X 83 77 (tt_lin 83 (by decide)) rfl rfl _ _ _ _).trans rfl
set_option maxRecDepth 100000 in
theorem bk_83_84 (X : (Nat → Int32) × Nat) (mo : Bool) (G : Nat × Nat) (I : Nat → Nat → Int32) (J : Nat → Nat → Int64) (Q : Option Value → sm_M → Prop) (x1 : Int32) (x2 : Int32) :
    sm_wp X 83 84 [some (.ref 31), some (.int x1), some (.int x2)] [] (sM mo G I J) Q =
    (vp_in x1 60 ∧ (True ∧ Q (some (.int (I 43 (x1.toNatClampNeg)))) (sM mo G I J))) :=
  (sm_blk X 83 84 (tt_lin 83 (by decide)) rfl rfl _ _ _ _).trans rfl
set_option maxRecDepth 100000 in
theorem bk_83_91 (X : (Nat → Int32) × Nat) (mo : Bool) (G : Nat × Nat) (I : Nat → Nat → Int32) (J : Nat → Nat → Int64) (Q : Option Value → sm_M → Prop) (x1 : Int32) (x2 : Int32) :
    sm_wp X 83 91 [some (.ref 31), some (.int x1), some (.int x2)] [] (sM mo G I J) Q =
    (vp_in x1 60 ∧ (True ∧ Q (some (.int (I 32 (x1.toNatClampNeg)))) (sM mo G I J))) :=
  (sm_blk X 83 91 (tt_lin 83 (by decide)) rfl rfl _ _ _ _).trans rfl
set_option maxRecDepth 100000 in
theorem bk_83_98 (X : (Nat → Int32) × Nat) (mo : Bool) (G : Nat × Nat) (I : Nat → Nat → Int32) (J : Nat → Nat → Int64) (Q : Option Value → sm_M → Prop) (x1 : Int32) (x2 : Int32) :
    sm_wp X 83 98 [some (.ref 31), some (.int x1), some (.int x2)] [] (sM mo G I J) Q =
    (vp_in x1 60 ∧ (True ∧ Q (some (.int (I 33 (x1.toNatClampNeg)))) (sM mo G I J))) :=
  (sm_blk X 83 98 (tt_lin 83 (by decide)) rfl rfl _ _ _ _).trans rfl
set_option maxRecDepth 100000 in
theorem bk_83_105 (X : (Nat → Int32) × Nat) (mo : Bool) (G : Nat × Nat) (I : Nat → Nat → Int32) (J : Nat → Nat → Int64) (Q : Option Value → sm_M → Prop) (x1 : Int32) (x2 : Int32) :
    sm_wp X 83 105 [some (.ref 31), some (.int x1), some (.int x2)] [] (sM mo G I J) Q =
    (vp_in x1 60 ∧ (True ∧ Q (some (.int (I 44 (x1.toNatClampNeg)))) (sM mo G I J))) :=
  (sm_blk X 83 105 (tt_lin 83 (by decide)) rfl rfl _ _ _ _).trans rfl
set_option maxRecDepth 100000 in
theorem bk_83_112 (X : (Nat → Int32) × Nat) (mo : Bool) (G : Nat × Nat) (I : Nat → Nat → Int32) (J : Nat → Nat → Int64) (Q : Option Value → sm_M → Prop) (x1 : Int32) (x2 : Int32) :
    sm_wp X 83 112 [some (.ref 31), some (.int x1), some (.int x2)] [] (sM mo G I J) Q =
    (True ∧ Q (some (.int (-2))) (sM mo G I J)) :=
  (sm_blk X 83 112 (tt_lin 83 (by decide)) rfl rfl _ _ _ _).trans rfl
set_option maxRecDepth 100000 in
theorem bk_84_0 (X : (Nat → Int32) × Nat) (mo : Bool) (G : Nat × Nat) (I : Nat → Nat → Int32) (J : Nat → Nat → Int64) (Q : Option Value → sm_M → Prop) (x1 : Int32) (x2 : Int32) :
    sm_wp X 84 0 [some (.ref 31), some (.int x1), some (.int x2)] [] (sM mo G I J) Q =
    (sm_wp X 66 0 [some (.ref 31), some (.int x1)] [] (sM mo G I J) (fun v M => sm_wp X 84 5 [some (.ref 31), some (.int x1), some (.int x2)] (v.toList ++ []) M Q)) :=
  (sm_blk X 84 0 (tt_lin 84 (by decide)) rfl rfl _ _ _ _).trans rfl
set_option maxRecDepth 100000 in
theorem bk_84_5 (X : (Nat → Int32) × Nat) (mo : Bool) (G : Nat × Nat) (I : Nat → Nat → Int32) (J : Nat → Nat → Int64) (Q : Option Value → sm_M → Prop) (x1 : Int32) (x2 : Int32) (s0 : Int32) :
    sm_wp X 84 5 [some (.ref 31), some (.int x1), some (.int x2)] [.int s0] (sM mo G I J) Q =
    (if ¬ (s0 : Int32) = 0 then sm_wp X 84 10 [some (.ref 31), some (.int x1), some (.int x2)] [] (sM mo G I J) Q else (True ∧ Q (some (.int (-1))) (sM mo G I J))) :=
  (sm_blk X 84 5 (tt_lin 84 (by decide)) rfl rfl _ _ _ _).trans rfl
set_option maxRecDepth 100000 in
theorem bk_84_10 (X : (Nat → Int32) × Nat) (mo : Bool) (G : Nat × Nat) (I : Nat → Nat → Int32) (J : Nat → Nat → Int64) (Q : Option Value → sm_M → Prop) (x1 : Int32) (x2 : Int32) :
    sm_wp X 84 10 [some (.ref 31), some (.int x1), some (.int x2)] [] (sM mo G I J) Q =
    (vp_in x1 60 ∧ (if (I 32 (x1.toNatClampNeg) : Int32) = (x2 : Int32) then sm_wp X 84 30 [some (.ref 31), some (.int x1), some (.int x2)] [] (sM mo G I J) Q else (vp_in x1 60 ∧ (if ¬ (I 33 (x1.toNatClampNeg) : Int32) = (x2 : Int32) then sm_wp X 84 37 [some (.ref 31), some (.int x1), some (.int x2)] [] (sM mo G I J) Q else (vp_in x1 60 ∧ (True ∧ Q (some (.int (I 34 (x1.toNatClampNeg)))) (sM mo G I J))))))) :=
  (sm_blk X 84 10 (tt_lin 84 (by decide)) rfl rfl _ _ _ _).trans rfl
set_option maxRecDepth 100000 in
theorem bk_84_30 (X : (Nat → Int32) × Nat) (mo : Bool) (G : Nat × Nat) (I : Nat → Nat → Int32) (J : Nat → Nat → Int64) (Q : Option Value → sm_M → Prop) (x1 : Int32) (x2 : Int32) :
    sm_wp X 84 30 [some (.ref 31), some (.int x1), some (.int x2)] [] (sM mo G I J) Q =
    (vp_in x1 60 ∧ (True ∧ Q (some (.int (I 34 (x1.toNatClampNeg)))) (sM mo G I J))) :=
  (sm_blk X 84 30 (tt_lin 84 (by decide)) rfl rfl _ _ _ _).trans rfl
set_option maxRecDepth 100000 in
theorem bk_84_37 (X : (Nat → Int32) × Nat) (mo : Bool) (G : Nat × Nat) (I : Nat → Nat → Int32) (J : Nat → Nat → Int64) (Q : Option Value → sm_M → Prop) (x1 : Int32) (x2 : Int32) :
    sm_wp X 84 37 [some (.ref 31), some (.int x1), some (.int x2)] [] (sM mo G I J) Q =
    (vp_in x1 60 ∧ (sm_wp X 169 0 [some (.int (I 36 (x1.toNatClampNeg))), some (.int x2)] [] (sM mo G I J) (fun v M => sm_wp X 84 47 [some (.ref 31), some (.int x1), some (.int x2)] (v.toList ++ []) M Q))) :=
  (sm_blk X 84 37 (tt_lin 84 (by decide)) rfl rfl _ _ _ _).trans rfl
set_option maxRecDepth 100000 in
theorem bk_84_47 (X : (Nat → Int32) × Nat) (mo : Bool) (G : Nat × Nat) (I : Nat → Nat → Int32) (J : Nat → Nat → Int64) (Q : Option Value → sm_M → Prop) (x1 : Int32) (x2 : Int32) (s0 : Int32) :
    sm_wp X 84 47 [some (.ref 31), some (.int x1), some (.int x2)] [.int s0] (sM mo G I J) Q =
    (if (s0 : Int32) = 0 then sm_wp X 84 61 [some (.ref 31), some (.int x1), some (.int x2)] [] (sM mo G I J) Q else (vp_in x1 60 ∧ (sm_wp X 84 62 [some (.ref 31), some (.int x1), some (.int x2)] [.int ((I 34 (x1.toNatClampNeg)) + 1)] (sM mo G I J) Q))) :=
  (sm_blk X 84 47 (tt_lin 84 (by decide)) rfl rfl _ _ _ _).trans rfl
set_option maxRecDepth 100000 in
theorem bk_84_61 (X : (Nat → Int32) × Nat) (mo : Bool) (G : Nat × Nat) (I : Nat → Nat → Int32) (J : Nat → Nat → Int64) (Q : Option Value → sm_M → Prop) (x1 : Int32) (x2 : Int32) :
    sm_wp X 84 61 [some (.ref 31), some (.int x1), some (.int x2)] [] (sM mo G I J) Q =
    (True ∧ Q (some (.int (-1))) (sM mo G I J)) :=
  (sm_blk X 84 61 (tt_lin 84 (by decide)) rfl rfl _ _ _ _).trans rfl
set_option maxRecDepth 100000 in
theorem bk_84_62 (X : (Nat → Int32) × Nat) (mo : Bool) (G : Nat × Nat) (I : Nat → Nat → Int32) (J : Nat → Nat → Int64) (Q : Option Value → sm_M → Prop) (x1 : Int32) (x2 : Int32) (s0 : Int32) :
    sm_wp X 84 62 [some (.ref 31), some (.int x1), some (.int x2)] [.int s0] (sM mo G I J) Q =
    (True ∧ Q (some (.int s0)) (sM mo G I J)) :=
  (sm_blk X 84 62 (tt_lin 84 (by decide)) rfl rfl _ _ _ _).trans rfl
set_option maxRecDepth 100000 in
theorem bk_85_0 (X : (Nat → Int32) × Nat) (mo : Bool) (G : Nat × Nat) (I : Nat → Nat → Int32) (J : Nat → Nat → Int64) (Q : Option Value → sm_M → Prop) (x1 : Int32) (x2 : Int32) (x3 : Int32) :
    sm_wp X 85 0 [some (.ref 31), some (.int x1), some (.int x2), some (.int x3), none, none, none] [] (sM mo G I J) Q =
    (sm_wp X 85 6 [some (.ref 31), some (.int x1), some (.int x2), some (.int x3), some (.int 0), some (.int 0), none] [] (sM mo G I J) Q) :=
  (sm_blk X 85 0 (tt_lin 85 (by decide)) rfl rfl _ _ _ _).trans rfl
set_option maxRecDepth 100000 in
theorem bk_85_6 (X : (Nat → Int32) × Nat) (mo : Bool) (G : Nat × Nat) (I : Nat → Nat → Int32) (J : Nat → Nat → Int64) (Q : Option Value → sm_M → Prop) (x1 : Int32) (x2 : Int32) (x3 : Int32) (x4 : Int32) (x5 : Int32) :
    sm_wp X 85 6 [some (.ref 31), some (.int x1), some (.int x2), some (.int x3), some (.int x4), some (.int x5), none] [] (sM mo G I J) Q =
    (if (I 31 0 : Int32) ≤ (x5 : Int32) then sm_wp X 85 72 [some (.ref 31), some (.int x1), some (.int x2), some (.int x3), some (.int x4), some (.int x5), none] [] (sM mo G I J) Q else (if (60 : Int32) ≤ (x5 : Int32) then sm_wp X 85 72 [some (.ref 31), some (.int x1), some (.int x2), some (.int x3), some (.int x4), some (.int x5), none] [] (sM mo G I J) Q else (sm_wp X 84 0 [some (.ref 31), some (.int x5), some (.int x1)] [] (sM mo G I J) (fun v M => sm_wp X 85 29 [some (.ref 31), some (.int x1), some (.int x2), some (.int x3), some (.int x4), some (.int x5), none] (v.toList ++ []) M Q)))) :=
  (sm_blk X 85 6 (tt_lin 85 (by decide)) rfl rfl _ _ _ _).trans rfl
set_option maxRecDepth 100000 in
theorem bk_85_29 (X : (Nat → Int32) × Nat) (mo : Bool) (G : Nat × Nat) (I : Nat → Nat → Int32) (J : Nat → Nat → Int64) (Q : Option Value → sm_M → Prop) (x1 : Int32) (x2 : Int32) (x3 : Int32) (x4 : Int32) (x5 : Int32) (s0 : Int32) :
    sm_wp X 85 29 [some (.ref 31), some (.int x1), some (.int x2), some (.int x3), some (.int x4), some (.int x5), none] [.int s0] (sM mo G I J) Q =
    (sm_wp X 65 0 [some (.ref 31), some (.int x5)] [] (sM mo G I J) (fun v M => sm_wp X 85 37 [some (.ref 31), some (.int x1), some (.int x2), some (.int x3), some (.int x4), some (.int x5), some (.int s0)] (v.toList ++ []) M Q)) :=
  (sm_blk X 85 29 (tt_lin 85 (by decide)) rfl rfl _ _ _ _).trans rfl
set_option maxRecDepth 100000 in
theorem bk_85_37 (X : (Nat → Int32) × Nat) (mo : Bool) (G : Nat × Nat) (I : Nat → Nat → Int32) (J : Nat → Nat → Int64) (Q : Option Value → sm_M → Prop) (x1 : Int32) (x2 : Int32) (x3 : Int32) (x4 : Int32) (x5 : Int32) (x6 : Int32) (s0 : Int32) :
    sm_wp X 85 37 [some (.ref 31), some (.int x1), some (.int x2), some (.int x3), some (.int x4), some (.int x5), some (.int x6)] [.int s0] (sM mo G I J) Q =
    (if ¬ (s0 : Int32) = 0 then sm_wp X 85 66 [some (.ref 31), some (.int x1), some (.int x2), some (.int x3), some (.int x4), some (.int x5), some (.int x6)] [] (sM mo G I J) Q else (vp_in x5 60 ∧ (if ¬ (I 35 (x5.toNatClampNeg) : Int32) = (x3 : Int32) then sm_wp X 85 66 [some (.ref 31), some (.int x1), some (.int x2), some (.int x3), some (.int x4), some (.int x5), some (.int x6)] [] (sM mo G I J) Q else (if (x6 : Int32) = ((-1) : Int32) then sm_wp X 85 66 [some (.ref 31), some (.int x1), some (.int x2), some (.int x3), some (.int x4), some (.int x5), some (.int x6)] [] (sM mo G I J) Q else (if (x2 : Int32) < (x6 : Int32) then sm_wp X 85 66 [some (.ref 31), some (.int x1), some (.int x2), some (.int x3), some (.int x4), some (.int x5), some (.int x6)] [] (sM mo G I J) Q else (sm_wp X 85 6 [some (.ref 31), some (.int x1), some (.int x2), some (.int x3), some (.int (x4 + 1)), some (.int (x5 + 1)), none] [] (sM mo G I J) Q)))))) :=
  (sm_blk X 85 37 (tt_lin 85 (by decide)) rfl rfl _ _ _ _).trans rfl
set_option maxRecDepth 100000 in
theorem bk_85_66 (X : (Nat → Int32) × Nat) (mo : Bool) (G : Nat × Nat) (I : Nat → Nat → Int32) (J : Nat → Nat → Int64) (Q : Option Value → sm_M → Prop) (x1 : Int32) (x2 : Int32) (x3 : Int32) (x4 : Int32) (x5 : Int32) (x6 : Int32) :
    sm_wp X 85 66 [some (.ref 31), some (.int x1), some (.int x2), some (.int x3), some (.int x4), some (.int x5), some (.int x6)] [] (sM mo G I J) Q =
    (sm_wp X 85 6 [some (.ref 31), some (.int x1), some (.int x2), some (.int x3), some (.int x4), some (.int (x5 + 1)), none] [] (sM mo G I J) Q) :=
  (sm_blk X 85 66 (tt_lin 85 (by decide)) rfl rfl _ _ _ _).trans rfl
set_option maxRecDepth 100000 in
theorem bk_85_72 (X : (Nat → Int32) × Nat) (mo : Bool) (G : Nat × Nat) (I : Nat → Nat → Int32) (J : Nat → Nat → Int64) (Q : Option Value → sm_M → Prop) (x1 : Int32) (x2 : Int32) (x3 : Int32) (x4 : Int32) (x5 : Int32) :
    sm_wp X 85 72 [some (.ref 31), some (.int x1), some (.int x2), some (.int x3), some (.int x4), some (.int x5), none] [] (sM mo G I J) Q =
    (True ∧ Q (some (.int x4)) (sM mo G I J)) :=
  (sm_blk X 85 72 (tt_lin 85 (by decide)) rfl rfl _ _ _ _).trans rfl
set_option maxRecDepth 100000 in
theorem bk_86_0 (X : (Nat → Int32) × Nat) (mo : Bool) (G : Nat × Nat) (I : Nat → Nat → Int32) (J : Nat → Nat → Int64) (Q : Option Value → sm_M → Prop) (x1 : Int32) :
    sm_wp X 86 0 [some (.ref 31), some (.int x1), none, none] [] (sM mo G I J) Q =
    (sm_wp X 86 4 [some (.ref 31), some (.int x1), some (.int 0), some (.int 0)] [] (sM mo G I J) Q) :=
  (sm_blk X 86 0 (tt_lin 86 (by decide)) rfl rfl _ _ _ _).trans rfl
set_option maxRecDepth 100000 in
theorem bk_86_4 (X : (Nat → Int32) × Nat) (mo : Bool) (G : Nat × Nat) (I : Nat → Nat → Int32) (J : Nat → Nat → Int64) (Q : Option Value → sm_M → Prop) (x1 : Int32) (x2 : Int32) (x3 : Int32) :
    sm_wp X 86 4 [some (.ref 31), some (.int x1), some (.int x2), some (.int x3)] [] (sM mo G I J) Q =
    (if (I 31 0 : Int32) ≤ (x3 : Int32) then sm_wp X 86 53 [some (.ref 31), some (.int x1), some (.int x2), some (.int x3)] [] (sM mo G I J) Q else (sm_wp X 82 0 [some (.ref 31), some (.int x3), none] [] (sM mo G I J) (fun v M => sm_wp X 86 17 [some (.ref 31), some (.int x1), some (.int x2), some (.int x3)] (v.toList ++ []) M Q))) :=
  (sm_blk X 86 4 (tt_lin 86 (by decide)) rfl rfl _ _ _ _).trans rfl
set_option maxRecDepth 100000 in
theorem bk_86_17 (X : (Nat → Int32) × Nat) (mo : Bool) (G : Nat × Nat) (I : Nat → Nat → Int32) (J : Nat → Nat → Int64) (Q : Option Value → sm_M → Prop) (x1 : Int32) (x2 : Int32) (x3 : Int32) (s0 : Int32) :
    sm_wp X 86 17 [some (.ref 31), some (.int x1), some (.int x2), some (.int x3)] [.int s0] (sM mo G I J) Q =
    (if (s0 : Int32) = 0 then sm_wp X 86 47 [some (.ref 31), some (.int x1), some (.int x2), some (.int x3)] [] (sM mo G I J) Q else (sm_wp X 72 0 [some (.ref 31), some (.int x3)] [] (sM mo G I J) (fun v M => sm_wp X 86 25 [some (.ref 31), some (.int x1), some (.int x2), some (.int x3)] (v.toList ++ []) M Q))) :=
  (sm_blk X 86 17 (tt_lin 86 (by decide)) rfl rfl _ _ _ _).trans rfl
set_option maxRecDepth 100000 in
theorem bk_86_25 (X : (Nat → Int32) × Nat) (mo : Bool) (G : Nat × Nat) (I : Nat → Nat → Int32) (J : Nat → Nat → Int64) (Q : Option Value → sm_M → Prop) (x1 : Int32) (x2 : Int32) (x3 : Int32) (s0 : Int32) :
    sm_wp X 86 25 [some (.ref 31), some (.int x1), some (.int x2), some (.int x3)] [.int s0] (sM mo G I J) Q =
    (if (s0 : Int32) = (x1 : Int32) then sm_wp X 86 38 [some (.ref 31), some (.int x1), some (.int x2), some (.int x3)] [] (sM mo G I J) Q else (sm_wp X 73 0 [some (.ref 31), some (.int x3)] [] (sM mo G I J) (fun v M => sm_wp X 86 34 [some (.ref 31), some (.int x1), some (.int x2), some (.int x3)] (v.toList ++ []) M Q))) :=
  (sm_blk X 86 25 (tt_lin 86 (by decide)) rfl rfl _ _ _ _).trans rfl
set_option maxRecDepth 100000 in
theorem bk_86_34 (X : (Nat → Int32) × Nat) (mo : Bool) (G : Nat × Nat) (I : Nat → Nat → Int32) (J : Nat → Nat → Int64) (Q : Option Value → sm_M → Prop) (x1 : Int32) (x2 : Int32) (x3 : Int32) (s0 : Int32) :
    sm_wp X 86 34 [some (.ref 31), some (.int x1), some (.int x2), some (.int x3)] [.int s0] (sM mo G I J) Q =
    (if ¬ (s0 : Int32) = (x1 : Int32) then sm_wp X 86 47 [some (.ref 31), some (.int x1), some (.int x2), some (.int x3)] [] (sM mo G I J) Q else (sm_wp X 74 0 [some (.ref 31), some (.int x3), some (.int 4)] [] (sM mo G I J) (fun v M => sm_wp X 86 44 [some (.ref 31), some (.int x1), some (.int x2), some (.int x3)] (v.toList ++ []) M Q))) :=
  (sm_blk X 86 34 (tt_lin 86 (by decide)) rfl rfl _ _ _ _).trans rfl
set_option maxRecDepth 100000 in
theorem bk_86_38 (X : (Nat → Int32) × Nat) (mo : Bool) (G : Nat × Nat) (I : Nat → Nat → Int32) (J : Nat → Nat → Int64) (Q : Option Value → sm_M → Prop) (x1 : Int32) (x2 : Int32) (x3 : Int32) :
    sm_wp X 86 38 [some (.ref 31), some (.int x1), some (.int x2), some (.int x3)] [] (sM mo G I J) Q =
    (sm_wp X 74 0 [some (.ref 31), some (.int x3), some (.int 4)] [] (sM mo G I J) (fun v M => sm_wp X 86 44 [some (.ref 31), some (.int x1), some (.int x2), some (.int x3)] (v.toList ++ []) M Q)) :=
  (sm_blk X 86 38 (tt_lin 86 (by decide)) rfl rfl _ _ _ _).trans rfl
set_option maxRecDepth 100000 in
theorem bk_86_44 (X : (Nat → Int32) × Nat) (mo : Bool) (G : Nat × Nat) (I : Nat → Nat → Int32) (J : Nat → Nat → Int64) (Q : Option Value → sm_M → Prop) (x1 : Int32) (x2 : Int32) (x3 : Int32) :
    sm_wp X 86 44 [some (.ref 31), some (.int x1), some (.int x2), some (.int x3)] [] (sM mo G I J) Q =
    (sm_wp X 86 4 [some (.ref 31), some (.int x1), some (.int (x2 + 1)), some (.int (x3 + 1))] [] (sM mo G I J) Q) :=
  (sm_blk X 86 44 (tt_lin 86 (by decide)) rfl rfl _ _ _ _).trans rfl
set_option maxRecDepth 100000 in
theorem bk_86_47 (X : (Nat → Int32) × Nat) (mo : Bool) (G : Nat × Nat) (I : Nat → Nat → Int32) (J : Nat → Nat → Int64) (Q : Option Value → sm_M → Prop) (x1 : Int32) (x2 : Int32) (x3 : Int32) :
    sm_wp X 86 47 [some (.ref 31), some (.int x1), some (.int x2), some (.int x3)] [] (sM mo G I J) Q =
    (sm_wp X 86 4 [some (.ref 31), some (.int x1), some (.int x2), some (.int (x3 + 1))] [] (sM mo G I J) Q) :=
  (sm_blk X 86 47 (tt_lin 86 (by decide)) rfl rfl _ _ _ _).trans rfl
set_option maxRecDepth 100000 in
theorem bk_86_53 (X : (Nat → Int32) × Nat) (mo : Bool) (G : Nat × Nat) (I : Nat → Nat → Int32) (J : Nat → Nat → Int64) (Q : Option Value → sm_M → Prop) (x1 : Int32) (x2 : Int32) (x3 : Int32) :
    sm_wp X 86 53 [some (.ref 31), some (.int x1), some (.int x2), some (.int x3)] [] (sM mo G I J) Q =
    (True ∧ Q (some (.int x2)) (sM mo G I J)) :=
  (sm_blk X 86 53 (tt_lin 86 (by decide)) rfl rfl _ _ _ _).trans rfl
