set_option maxRecDepth 100000 in
theorem bk_151_0 (X : (Nat → Int32) × Nat) (mo : Bool) (G : Nat × Nat) (I : Nat → Nat → Int32) (J : Nat → Nat → Int64) (Q : Option Value → sm_M → Prop) (x1 : Int32) (x2 : Int32) :
    sm_wp X 151 0 [some (.ref 26), some (.int x1), some (.int x2), none, none] [] (sM mo G I J) Q =
    (sm_wp X 151 5 [some (.ref 26), some (.int x1), some (.int x2), some (.int 0), some (.int 0)] [] (sM mo G I J) Q) :=
  (sm_blk X 151 0 (tt_lin 151 (by decide)) rfl rfl _ _ _ _).trans rfl
set_option maxRecDepth 100000 in
theorem bk_151_5 (X : (Nat → Int32) × Nat) (mo : Bool) (G : Nat × Nat) (I : Nat → Nat → Int32) (J : Nat → Nat → Int64) (Q : Option Value → sm_M → Prop) (x1 : Int32) (x2 : Int32) (x3 : Int32) (x4 : Int32) :
    sm_wp X 151 5 [some (.ref 26), some (.int x1), some (.int x2), some (.int x3), some (.int x4)] [] (sM mo G I J) Q =
    (if (I 26 0 : Int32) ≤ (x4 : Int32) then sm_wp X 151 72 [some (.ref 26), some (.int x1), some (.int x2), some (.int x3), some (.int x4)] [] (sM mo G I J) Q else (if (20 : Int32) ≤ (x4 : Int32) then sm_wp X 151 72 [some (.ref 26), some (.int x1), some (.int x2), some (.int x3), some (.int x4)] [] (sM mo G I J) Q else (vp_in x4 20 ∧ (if ¬ (I 28 (x4.toNatClampNeg) : Int32) = (x1 : Int32) then sm_wp X 151 66 [some (.ref 26), some (.int x1), some (.int x2), some (.int x3), some (.int x4)] [] (sM mo G I J) Q else (vp_in x4 20 ∧ (if (x2 : Int32) < (I 29 (x4.toNatClampNeg) : Int32) then sm_wp X 151 66 [some (.ref 26), some (.int x1), some (.int x2), some (.int x3), some (.int x4)] [] (sM mo G I J) Q else (vp_in x4 20 ∧ (if (I 30 (x4.toNatClampNeg) : Int32) < (x2 : Int32) then sm_wp X 151 66 [some (.ref 26), some (.int x1), some (.int x2), some (.int x3), some (.int x4)] [] (sM mo G I J) Q else (vp_in x4 20 ∧ (sm_wp X 151 5 [some (.ref 26), some (.int x1), some (.int x2), some (.int (x3 ||| (1 <<< ((I 27 (x4.toNatClampNeg)) &&& 31)))), some (.int (x4 + 1))] [] (sM mo G I J) Q)))))))))) :=
  (sm_blk X 151 5 (tt_lin 151 (by decide)) rfl rfl _ _ _ _).trans rfl
set_option maxRecDepth 100000 in
theorem bk_151_66 (X : (Nat → Int32) × Nat) (mo : Bool) (G : Nat × Nat) (I : Nat → Nat → Int32) (J : Nat → Nat → Int64) (Q : Option Value → sm_M → Prop) (x1 : Int32) (x2 : Int32) (x3 : Int32) (x4 : Int32) :
    sm_wp X 151 66 [some (.ref 26), some (.int x1), some (.int x2), some (.int x3), some (.int x4)] [] (sM mo G I J) Q =
    (sm_wp X 151 5 [some (.ref 26), some (.int x1), some (.int x2), some (.int x3), some (.int (x4 + 1))] [] (sM mo G I J) Q) :=
  (sm_blk X 151 66 (tt_lin 151 (by decide)) rfl rfl _ _ _ _).trans rfl
set_option maxRecDepth 100000 in
theorem bk_151_72 (X : (Nat → Int32) × Nat) (mo : Bool) (G : Nat × Nat) (I : Nat → Nat → Int32) (J : Nat → Nat → Int64) (Q : Option Value → sm_M → Prop) (x1 : Int32) (x2 : Int32) (x3 : Int32) (x4 : Int32) :
    sm_wp X 151 72 [some (.ref 26), some (.int x1), some (.int x2), some (.int x3), some (.int x4)] [] (sM mo G I J) Q =
    (True ∧ Q (some (.int x3)) (sM mo G I J)) :=
  (sm_blk X 151 72 (tt_lin 151 (by decide)) rfl rfl _ _ _ _).trans rfl
set_option maxRecDepth 100000 in
theorem bk_152_0 (X : (Nat → Int32) × Nat) (mo : Bool) (G : Nat × Nat) (I : Nat → Nat → Int32) (J : Nat → Nat → Int64) (Q : Option Value → sm_M → Prop) (x1 : Int32) (x2 : Int32) (x3 : Int32) (x4 : Int32) :
    sm_wp X 152 0 [some (.ref 26), some (.int x1), some (.int x2), some (.int x3), some (.int x4)] [] (sM mo G I J) Q =
    (if (I 26 0 : Int32) < (20 : Int32) then sm_wp X 152 11 [some (.ref 26), some (.int x1), some (.int x2), some (.int x3), some (.int x4)] [] (sM mo G I J) Q else (sm_zb 0 ∧ Q (some (.int 0)) (sM mo G I J))) :=
  (sm_blk X 152 0 (tt_lin 152 (by decide)) rfl rfl _ _ _ _).trans rfl
set_option maxRecDepth 100000 in
theorem bk_152_11 (X : (Nat → Int32) × Nat) (mo : Bool) (G : Nat × Nat) (I : Nat → Nat → Int32) (J : Nat → Nat → Int64) (Q : Option Value → sm_M → Prop) (x1 : Int32) (x2 : Int32) (x3 : Int32) (x4 : Int32) :
    sm_wp X 152 11 [some (.ref 26), some (.int x1), some (.int x2), some (.int x3), some (.int x4)] [] (sM mo G I J) Q =
    (vp_in (I 26 0) 20 ∧ (vp_in ((up2 I 27 (I 26 0).toNatClampNeg x1) 26 0) 20 ∧ (vp_in ((up2 (up2 I 27 (I 26 0).toNatClampNeg x1) 28 ((up2 I 27 (I 26 0).toNatClampNeg x1) 26 0).toNatClampNeg x2) 26 0) 20 ∧ (vp_in ((up2 (up2 (up2 I 27 (I 26 0).toNatClampNeg x1) 28 ((up2 I 27 (I 26 0).toNatClampNeg x1) 26 0).toNatClampNeg x2) 29 ((up2 (up2 I 27 (I 26 0).toNatClampNeg x1) 28 ((up2 I 27 (I 26 0).toNatClampNeg x1) 26 0).toNatClampNeg x2) 26 0).toNatClampNeg x3) 26 0) 20 ∧ (sm_zb 1 ∧ Q (some (.int 1)) (sM mo G (up2 (up2 (up2 (up2 (up2 I 27 (I 26 0).toNatClampNeg x1) 28 ((up2 I 27 (I 26 0).toNatClampNeg x1) 26 0).toNatClampNeg x2) 29 ((up2 (up2 I 27 (I 26 0).toNatClampNeg x1) 28 ((up2 I 27 (I 26 0).toNatClampNeg x1) 26 0).toNatClampNeg x2) 26 0).toNatClampNeg x3) 30 ((up2 (up2 (up2 I 27 (I 26 0).toNatClampNeg x1) 28 ((up2 I 27 (I 26 0).toNatClampNeg x1) 26 0).toNatClampNeg x2) 29 ((up2 (up2 I 27 (I 26 0).toNatClampNeg x1) 28 ((up2 I 27 (I 26 0).toNatClampNeg x1) 26 0).toNatClampNeg x2) 26 0).toNatClampNeg x3) 26 0).toNatClampNeg x4) 26 0 (((up2 (up2 (up2 (up2 I 27 (I 26 0).toNatClampNeg x1) 28 ((up2 I 27 (I 26 0).toNatClampNeg x1) 26 0).toNatClampNeg x2) 29 ((up2 (up2 I 27 (I 26 0).toNatClampNeg x1) 28 ((up2 I 27 (I 26 0).toNatClampNeg x1) 26 0).toNatClampNeg x2) 26 0).toNatClampNeg x3) 30 ((up2 (up2 (up2 I 27 (I 26 0).toNatClampNeg x1) 28 ((up2 I 27 (I 26 0).toNatClampNeg x1) 26 0).toNatClampNeg x2) 29 ((up2 (up2 I 27 (I 26 0).toNatClampNeg x1) 28 ((up2 I 27 (I 26 0).toNatClampNeg x1) 26 0).toNatClampNeg x2) 26 0).toNatClampNeg x3) 26 0).toNatClampNeg x4) 26 0) + 1)) J)))))) :=
  (sm_blk X 152 11 (tt_lin 152 (by decide)) rfl rfl _ _ _ _).trans rfl
