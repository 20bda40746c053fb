set_option maxRecDepth 100000 in
theorem bk_248_0 (X : (Nat → Int32) × Nat) (mo : Bool) (G : Nat × Nat) (I : Nat → Nat → Int32) (J : Nat → Nat → Int64) (Q : Option Value → sm_M → Prop) (x1 : Int32) :
    sm_wp X 248 0 [some (.ref 81), some (.int x1)] [] (sM mo G I J) Q =
    (if (x1 : Int32) < 0 then sm_wp X 248 25 [some (.ref 81), some (.int x1)] [] (sM mo G I J) Q else (if (I 81 46 : Int32) ≤ (x1 : Int32) then sm_wp X 248 25 [some (.ref 81), some (.int x1)] [] (sM mo G I J) Q else (vp_in x1 60 ∧ (if ¬ (I 107 (x1.toNatClampNeg) : Int32) = 0 then sm_wp X 248 25 [some (.ref 81), some (.int x1)] [] (sM mo G I J) Q else (sm_wp X 248 26 [some (.ref 81), some (.int x1)] [.int 1] (sM mo G I J) Q))))) :=
  (sm_blk X 248 0 (tt_lin 248 (by decide)) rfl rfl _ _ _ _).trans rfl
set_option maxRecDepth 100000 in
theorem bk_248_25 (X : (Nat → Int32) × Nat) (mo : Bool) (G : Nat × Nat) (I : Nat → Nat → Int32) (J : Nat → Nat → Int64) (Q : Option Value → sm_M → Prop) (x1 : Int32) :
    sm_wp X 248 25 [some (.ref 81), some (.int x1)] [] (sM mo G I J) Q =
    (sm_zb 0 ∧ Q (some (.int 0)) (sM mo G I J)) :=
  (sm_blk X 248 25 (tt_lin 248 (by decide)) rfl rfl _ _ _ _).trans rfl
set_option maxRecDepth 100000 in
theorem bk_248_26 (X : (Nat → Int32) × Nat) (mo : Bool) (G : Nat × Nat) (I : Nat → Nat → Int32) (J : Nat → Nat → Int64) (Q : Option Value → sm_M → Prop) (x1 : Int32) (s0 : Int32) :
    sm_wp X 248 26 [some (.ref 81), some (.int x1)] [.int s0] (sM mo G I J) Q =
    (sm_zb s0 ∧ Q (some (.int s0)) (sM mo G I J)) :=
  (sm_blk X 248 26 (tt_lin 248 (by decide)) rfl rfl _ _ _ _).trans rfl
set_option maxRecDepth 100000 in
theorem bk_249_0 (X : (Nat → Int32) × Nat) (mo : Bool) (G : Nat × Nat) (I : Nat → Nat → Int32) (J : Nat → Nat → Int64) (Q : Option Value → sm_M → Prop) (x1 : Int32) (x2 : Int32) (x3 : Int32) :
    sm_wp X 249 0 [some (.ref 81), some (.int x1), some (.int x2), some (.int x3), none, none] [] (sM mo G I J) Q =
    (if ((up2 I 81 2 0) 81 46 : Int32) = (60 : Int32) then sm_wp X 249 40 [some (.ref 81), some (.int x1), some (.int x2), some (.int x3), none, none] [] (sM mo G (up2 I 81 2 0) J) Q else (sm_wp X 215 0 [some (.ref 81), some (.int x1)] [] (sM mo G (up2 I 81 2 0) J) (fun v M => sm_wp X 249 19 [some (.ref 81), some (.int x1), some (.int x2), some (.int x3), none, none] (v.toList ++ []) M Q))) :=
  (sm_blk X 249 0 (tt_lin 249 (by decide)) rfl rfl _ _ _ _).trans rfl
set_option maxRecDepth 100000 in
theorem bk_249_19 (X : (Nat → Int32) × Nat) (mo : Bool) (G : Nat × Nat) (I : Nat → Nat → Int32) (J : Nat → Nat → Int64) (Q : Option Value → sm_M → Prop) (x1 : Int32) (x2 : Int32) (x3 : Int32) (s0 : Int32) :
    sm_wp X 249 19 [some (.ref 81), some (.int x1), some (.int x2), some (.int x3), none, none] [.int s0] (sM mo G I J) Q =
    (if (s0 : Int32) = 0 then sm_wp X 249 40 [some (.ref 81), some (.int x1), some (.int x2), some (.int x3), none, none] [] (sM mo G I J) Q else (sm_wp X 215 0 [some (.ref 81), some (.int x2)] [] (sM mo G I J) (fun v M => sm_wp X 249 27 [some (.ref 81), some (.int x1), some (.int x2), some (.int x3), none, none] (v.toList ++ []) M Q))) :=
  (sm_blk X 249 19 (tt_lin 249 (by decide)) rfl rfl _ _ _ _).trans rfl
set_option maxRecDepth 100000 in
theorem bk_249_27 (X : (Nat → Int32) × Nat) (mo : Bool) (G : Nat × Nat) (I : Nat → Nat → Int32) (J : Nat → Nat → Int64) (Q : Option Value → sm_M → Prop) (x1 : Int32) (x2 : Int32) (x3 : Int32) (s0 : Int32) :
    sm_wp X 249 27 [some (.ref 81), some (.int x1), some (.int x2), some (.int x3), none, none] [.int s0] (sM mo G I J) Q =
    (if (s0 : Int32) = 0 then sm_wp X 249 40 [some (.ref 81), some (.int x1), some (.int x2), some (.int x3), none, none] [] (sM mo G I J) Q else (sm_wp X 210 0 [some (.int x3), some (.int 1), some (.int 99)] [] (sM mo G I J) (fun v M => sm_wp X 249 37 [some (.ref 81), some (.int x1), some (.int x2), some (.int x3), none, none] (v.toList ++ []) M Q))) :=
  (sm_blk X 249 27 (tt_lin 249 (by decide)) rfl rfl _ _ _ _).trans rfl
set_option maxRecDepth 100000 in
theorem bk_249_37 (X : (Nat → Int32) × Nat) (mo : Bool) (G : Nat × Nat) (I : Nat → Nat → Int32) (J : Nat → Nat → Int64) (Q : Option Value → sm_M → Prop) (x1 : Int32) (x2 : Int32) (x3 : Int32) (s0 : Int32) :
    sm_wp X 249 37 [some (.ref 81), some (.int x1), some (.int x2), some (.int x3), none, none] [.int s0] (sM mo G I J) Q =
    (if ¬ (s0 : Int32) = 0 then sm_wp X 249 42 [some (.ref 81), some (.int x1), some (.int x2), some (.int x3), none, none] [] (sM mo G I J) Q else (True ∧ Q (some (.int (-1))) (sM mo G I J))) :=
  (sm_blk X 249 37 (tt_lin 249 (by decide)) rfl rfl _ _ _ _).trans rfl
set_option maxRecDepth 100000 in
theorem bk_249_40 (X : (Nat → Int32) × Nat) (mo : Bool) (G : Nat × Nat) (I : Nat → Nat → Int32) (J : Nat → Nat → Int64) (Q : Option Value → sm_M → Prop) (x1 : Int32) (x2 : Int32) (x3 : Int32) :
    sm_wp X 249 40 [some (.ref 81), some (.int x1), some (.int x2), some (.int x3), none, none] [] (sM mo G I J) Q =
    (True ∧ Q (some (.int (-1))) (sM mo G I J)) :=
  (sm_blk X 249 40 (tt_lin 249 (by decide)) rfl rfl _ _ _ _).trans rfl
set_option maxRecDepth 100000 in
theorem bk_249_42 (X : (Nat → Int32) × Nat) (mo : Bool) (G : Nat × Nat) (I : Nat → Nat → Int32) (J : Nat → Nat → Int64) (Q : Option Value → sm_M → Prop) (x1 : Int32) (x2 : Int32) (x3 : Int32) :
    sm_wp X 249 42 [some (.ref 81), some (.int x1), some (.int x2), some (.int x3), none, none] [] (sM mo G I J) Q =
    (vp_in (I 81 46) 60 ∧ (vp_in ((up2 I 107 (I 81 46).toNatClampNeg (vp_nar .boolean 1)) 81 46) 60 ∧ (vp_in ((up2 (up2 I 107 (I 81 46).toNatClampNeg (vp_nar .boolean 1)) 108 ((up2 I 107 (I 81 46).toNatClampNeg (vp_nar .boolean 1)) 81 46).toNatClampNeg x1) 81 46) 60 ∧ (vp_in ((up2 (up2 (up2 I 107 (I 81 46).toNatClampNeg (vp_nar .boolean 1)) 108 ((up2 I 107 (I 81 46).toNatClampNeg (vp_nar .boolean 1)) 81 46).toNatClampNeg x1) 109 ((up2 (up2 I 107 (I 81 46).toNatClampNeg (vp_nar .boolean 1)) 108 ((up2 I 107 (I 81 46).toNatClampNeg (vp_nar .boolean 1)) 81 46).toNatClampNeg x1) 81 46).toNatClampNeg x2) 81 46) 60 ∧ (vp_in ((up2 (up2 (up2 (up2 I 107 (I 81 46).toNatClampNeg (vp_nar .boolean 1)) 108 ((up2 I 107 (I 81 46).toNatClampNeg (vp_nar .boolean 1)) 81 46).toNatClampNeg x1) 109 ((up2 (up2 I 107 (I 81 46).toNatClampNeg (vp_nar .boolean 1)) 108 ((up2 I 107 (I 81 46).toNatClampNeg (vp_nar .boolean 1)) 81 46).toNatClampNeg x1) 81 46).toNatClampNeg x2) 110 ((up2 (up2 (up2 I 107 (I 81 46).toNatClampNeg (vp_nar .boolean 1)) 108 ((up2 I 107 (I 81 46).toNatClampNeg (vp_nar .boolean 1)) 81 46).toNatClampNeg x1) 109 ((up2 (up2 I 107 (I 81 46).toNatClampNeg (vp_nar .boolean 1)) 108 ((up2 I 107 (I 81 46).toNatClampNeg (vp_nar .boolean 1)) 81 46).toNatClampNeg x1) 81 46).toNatClampNeg x2) 81 46).toNatClampNeg ((up2 (up2 (up2 I 107 (I 81 46).toNatClampNeg (vp_nar .boolean 1)) 108 ((up2 I 107 (I 81 46).toNatClampNeg (vp_nar .boolean 1)) 81 46).toNatClampNeg x1) 109 ((up2 (up2 I 107 (I 81 46).toNatClampNeg (vp_nar .boolean 1)) 108 ((up2 I 107 (I 81 46).toNatClampNeg (vp_nar .boolean 1)) 81 46).toNatClampNeg x1) 81 46).toNatClampNeg x2) 81 16)) 81 46) 60 ∧ (vp_in ((up2 (up2 (up2 (up2 (up2 I 107 (I 81 46).toNatClampNeg (vp_nar .boolean 1)) 108 ((up2 I 107 (I 81 46).toNatClampNeg (vp_nar .boolean 1)) 81 46).toNatClampNeg x1) 109 ((up2 (up2 I 107 (I 81 46).toNatClampNeg (vp_nar .boolean 1)) 108 ((up2 I 107 (I 81 46).toNatClampNeg (vp_nar .boolean 1)) 81 46).toNatClampNeg x1) 81 46).toNatClampNeg x2) 110 ((up2 (up2 (up2 I 107 (I 81 46).toNatClampNeg (vp_nar .boolean 1)) 108 ((up2 I 107 (I 81 46).toNatClampNeg (vp_nar .boolean 1)) 81 46).toNatClampNeg x1) 109 ((up2 (up2 I 107 (I 81 46).toNatClampNeg (vp_nar .boolean 1)) 108 ((up2 I 107 (I 81 46).toNatClampNeg (vp_nar .boolean 1)) 81 46).toNatClampNeg x1) 81 46).toNatClampNeg x2) 81 46).toNatClampNeg ((up2 (up2 (up2 I 107 (I 81 46).toNatClampNeg (vp_nar .boolean 1)) 108 ((up2 I 107 (I 81 46).toNatClampNeg (vp_nar .boolean 1)) 81 46).toNatClampNeg x1) 109 ((up2 (up2 I 107 (I 81 46).toNatClampNeg (vp_nar .boolean 1)) 108 ((up2 I 107 (I 81 46).toNatClampNeg (vp_nar .boolean 1)) 81 46).toNatClampNeg x1) 81 46).toNatClampNeg x2) 81 16)) 115 ((up2 (up2 (up2 (up2 I 107 (I 81 46).toNatClampNeg (vp_nar .boolean 1)) 108 ((up2 I 107 (I 81 46).toNatClampNeg (vp_nar .boolean 1)) 81 46).toNatClampNeg x1) 109 ((up2 (up2 I 107 (I 81 46).toNatClampNeg (vp_nar .boolean 1)) 108 ((up2 I 107 (I 81 46).toNatClampNeg (vp_nar .boolean 1)) 81 46).toNatClampNeg x1) 81 46).toNatClampNeg x2) 110 ((up2 (up2 (up2 I 107 (I 81 46).toNatClampNeg (vp_nar .boolean 1)) 108 ((up2 I 107 (I 81 46).toNatClampNeg (vp_nar .boolean 1)) 81 46).toNatClampNeg x1) 109 ((up2 (up2 I 107 (I 81 46).toNatClampNeg (vp_nar .boolean 1)) 108 ((up2 I 107 (I 81 46).toNatClampNeg (vp_nar .boolean 1)) 81 46).toNatClampNeg x1) 81 46).toNatClampNeg x2) 81 46).toNatClampNeg ((up2 (up2 (up2 I 107 (I 81 46).toNatClampNeg (vp_nar .boolean 1)) 108 ((up2 I 107 (I 81 46).toNatClampNeg (vp_nar .boolean 1)) 81 46).toNatClampNeg x1) 109 ((up2 (up2 I 107 (I 81 46).toNatClampNeg (vp_nar .boolean 1)) 108 ((up2 I 107 (I 81 46).toNatClampNeg (vp_nar .boolean 1)) 81 46).toNatClampNeg x1) 81 46).toNatClampNeg x2) 81 16)) 81 46).toNatClampNeg x3) 81 46) 60 ∧ (sm_wp X 249 108 [some (.ref 81), some (.int x1), some (.int x2), none, some (.int 0), none] [] (sM mo G (up2 (up2 (up2 (up2 (up2 (up2 I 107 (I 81 46).toNatClampNeg (vp_nar .boolean 1)) 108 ((up2 I 107 (I 81 46).toNatClampNeg (vp_nar .boolean 1)) 81 46).toNatClampNeg x1) 109 ((up2 (up2 I 107 (I 81 46).toNatClampNeg (vp_nar .boolean 1)) 108 ((up2 I 107 (I 81 46).toNatClampNeg (vp_nar .boolean 1)) 81 46).toNatClampNeg x1) 81 46).toNatClampNeg x2) 110 ((up2 (up2 (up2 I 107 (I 81 46).toNatClampNeg (vp_nar .boolean 1)) 108 ((up2 I 107 (I 81 46).toNatClampNeg (vp_nar .boolean 1)) 81 46).toNatClampNeg x1) 109 ((up2 (up2 I 107 (I 81 46).toNatClampNeg (vp_nar .boolean 1)) 108 ((up2 I 107 (I 81 46).toNatClampNeg (vp_nar .boolean 1)) 81 46).toNatClampNeg x1) 81 46).toNatClampNeg x2) 81 46).toNatClampNeg ((up2 (up2 (up2 I 107 (I 81 46).toNatClampNeg (vp_nar .boolean 1)) 108 ((up2 I 107 (I 81 46).toNatClampNeg (vp_nar .boolean 1)) 81 46).toNatClampNeg x1) 109 ((up2 (up2 I 107 (I 81 46).toNatClampNeg (vp_nar .boolean 1)) 108 ((up2 I 107 (I 81 46).toNatClampNeg (vp_nar .boolean 1)) 81 46).toNatClampNeg x1) 81 46).toNatClampNeg x2) 81 16)) 115 ((up2 (up2 (up2 (up2 I 107 (I 81 46).toNatClampNeg (vp_nar .boolean 1)) 108 ((up2 I 107 (I 81 46).toNatClampNeg (vp_nar .boolean 1)) 81 46).toNatClampNeg x1) 109 ((up2 (up2 I 107 (I 81 46).toNatClampNeg (vp_nar .boolean 1)) 108 ((up2 I 107 (I 81 46).toNatClampNeg (vp_nar .boolean 1)) 81 46).toNatClampNeg x1) 81 46).toNatClampNeg x2) 110 ((up2 (up2 (up2 I 107 (I 81 46).toNatClampNeg (vp_nar .boolean 1)) 108 ((up2 I 107 (I 81 46).toNatClampNeg (vp_nar .boolean 1)) 81 46).toNatClampNeg x1) 109 ((up2 (up2 I 107 (I 81 46).toNatClampNeg (vp_nar .boolean 1)) 108 ((up2 I 107 (I 81 46).toNatClampNeg (vp_nar .boolean 1)) 81 46).toNatClampNeg x1) 81 46).toNatClampNeg x2) 81 46).toNatClampNeg ((up2 (up2 (up2 I 107 (I 81 46).toNatClampNeg (vp_nar .boolean 1)) 108 ((up2 I 107 (I 81 46).toNatClampNeg (vp_nar .boolean 1)) 81 46).toNatClampNeg x1) 109 ((up2 (up2 I 107 (I 81 46).toNatClampNeg (vp_nar .boolean 1)) 108 ((up2 I 107 (I 81 46).toNatClampNeg (vp_nar .boolean 1)) 81 46).toNatClampNeg x1) 81 46).toNatClampNeg x2) 81 16)) 81 46).toNatClampNeg x3) 116 ((up2 (up2 (up2 (up2 (up2 I 107 (I 81 46).toNatClampNeg (vp_nar .boolean 1)) 108 ((up2 I 107 (I 81 46).toNatClampNeg (vp_nar .boolean 1)) 81 46).toNatClampNeg x1) 109 ((up2 (up2 I 107 (I 81 46).toNatClampNeg (vp_nar .boolean 1)) 108 ((up2 I 107 (I 81 46).toNatClampNeg (vp_nar .boolean 1)) 81 46).toNatClampNeg x1) 81 46).toNatClampNeg x2) 110 ((up2 (up2 (up2 I 107 (I 81 46).toNatClampNeg (vp_nar .boolean 1)) 108 ((up2 I 107 (I 81 46).toNatClampNeg (vp_nar .boolean 1)) 81 46).toNatClampNeg x1) 109 ((up2 (up2 I 107 (I 81 46).toNatClampNeg (vp_nar .boolean 1)) 108 ((up2 I 107 (I 81 46).toNatClampNeg (vp_nar .boolean 1)) 81 46).toNatClampNeg x1) 81 46).toNatClampNeg x2) 81 46).toNatClampNeg ((up2 (up2 (up2 I 107 (I 81 46).toNatClampNeg (vp_nar .boolean 1)) 108 ((up2 I 107 (I 81 46).toNatClampNeg (vp_nar .boolean 1)) 81 46).toNatClampNeg x1) 109 ((up2 (up2 I 107 (I 81 46).toNatClampNeg (vp_nar .boolean 1)) 108 ((up2 I 107 (I 81 46).toNatClampNeg (vp_nar .boolean 1)) 81 46).toNatClampNeg x1) 81 46).toNatClampNeg x2) 81 16)) 115 ((up2 (up2 (up2 (up2 I 107 (I 81 46).toNatClampNeg (vp_nar .boolean 1)) 108 ((up2 I 107 (I 81 46).toNatClampNeg (vp_nar .boolean 1)) 81 46).toNatClampNeg x1) 109 ((up2 (up2 I 107 (I 81 46).toNatClampNeg (vp_nar .boolean 1)) 108 ((up2 I 107 (I 81 46).toNatClampNeg (vp_nar .boolean 1)) 81 46).toNatClampNeg x1) 81 46).toNatClampNeg x2) 110 ((up2 (up2 (up2 I 107 (I 81 46).toNatClampNeg (vp_nar .boolean 1)) 108 ((up2 I 107 (I 81 46).toNatClampNeg (vp_nar .boolean 1)) 81 46).toNatClampNeg x1) 109 ((up2 (up2 I 107 (I 81 46).toNatClampNeg (vp_nar .boolean 1)) 108 ((up2 I 107 (I 81 46).toNatClampNeg (vp_nar .boolean 1)) 81 46).toNatClampNeg x1) 81 46).toNatClampNeg x2) 81 46).toNatClampNeg ((up2 (up2 (up2 I 107 (I 81 46).toNatClampNeg (vp_nar .boolean 1)) 108 ((up2 I 107 (I 81 46).toNatClampNeg (vp_nar .boolean 1)) 81 46).toNatClampNeg x1) 109 ((up2 (up2 I 107 (I 81 46).toNatClampNeg (vp_nar .boolean 1)) 108 ((up2 I 107 (I 81 46).toNatClampNeg (vp_nar .boolean 1)) 81 46).toNatClampNeg x1) 81 46).toNatClampNeg x2) 81 16)) 81 46).toNatClampNeg x3) 81 46).toNatClampNeg 0) J) Q))))))) :=
  (sm_blk X 249 42 (tt_lin 249 (by decide)) rfl rfl _ _ _ _).trans rfl
set_option maxRecDepth 100000 in
theorem bk_249_108 (X : (Nat → Int32) × Nat) (mo : Bool) (G : Nat × Nat) (I : Nat → Nat → Int32) (J : Nat → Nat → Int64) (Q : Option Value → sm_M → Prop) (x1 : Int32) (x2 : Int32) (x4 : Int32) :
    sm_wp X 249 108 [some (.ref 81), some (.int x1), some (.int x2), none, some (.int x4), none] [] (sM mo G I J) Q =
    (if (I 81 60 : Int32) ≤ (x4 : Int32) then sm_wp X 249 210 [some (.ref 81), some (.int x1), some (.int x2), none, some (.int x4), none] [] (sM mo G I J) Q else (if ¬ (x1 : Int32) = (x2 : Int32) then sm_wp X 249 173 [some (.ref 81), some (.int x1), some (.int x2), none, some (.int x4), none] [] (sM mo G I J) Q else (vp_in ((4 * x4) + 1) 80 ∧ (if ¬ (I 120 (((4 * x4) + 1).toNatClampNeg) : Int32) = (x1 : Int32) then sm_wp X 249 173 [some (.ref 81), some (.int x1), some (.int x2), none, some (.int x4), none] [] (sM mo G I J) Q else (vp_in ((4 * x4) + 2) 80 ∧ (vp_in ((4 * x4) + 3) 80 ∧ (sm_wp X 210 0 [some (.int (I 81 16)), some (.int (I 120 (((4 * x4) + 2).toNatClampNeg))), some (.int (I 120 (((4 * x4) + 3).toNatClampNeg)))] [] (sM mo G I J) (fun v M => sm_wp X 249 166 [some (.ref 81), some (.int x1), some (.int x2), none, some (.int x4), none] (v.toList ++ []) M Q)))))))) :=
  (sm_blk X 249 108 (tt_lin 249 (by decide)) rfl rfl _ _ _ _).trans rfl
set_option maxRecDepth 100000 in
theorem bk_249_166 (X : (Nat → Int32) × Nat) (mo : Bool) (G : Nat × Nat) (I : Nat → Nat → Int32) (J : Nat → Nat → Int64) (Q : Option Value → sm_M → Prop) (x1 : Int32) (x2 : Int32) (x4 : Int32) (s0 : Int32) :
    sm_wp X 249 166 [some (.ref 81), some (.int x1), some (.int x2), none, some (.int x4), none] [.int s0] (sM mo G I J) Q =
    (if (s0 : Int32) = 0 then sm_wp X 249 173 [some (.ref 81), some (.int x1), some (.int x2), none, some (.int x4), none] [] (sM mo G I J) Q else (sm_wp X 249 174 [some (.ref 81), some (.int x1), some (.int x2), none, some (.int x4), none] [.int 1] (sM mo G I J) Q)) :=
  (sm_blk X 249 166 (tt_lin 249 (by decide)) rfl rfl _ _ _ _).trans rfl
set_option maxRecDepth 100000 in
theorem bk_249_173 (X : (Nat → Int32) × Nat) (mo : Bool) (G : Nat × Nat) (I : Nat → Nat → Int32) (J : Nat → Nat → Int64) (Q : Option Value → sm_M → Prop) (x1 : Int32) (x2 : Int32) (x4 : Int32) :
    sm_wp X 249 173 [some (.ref 81), some (.int x1), some (.int x2), none, some (.int x4), none] [] (sM mo G I J) Q =
    (if (0 : Int32) = 0 then sm_wp X 249 204 [some (.ref 81), some (.int x1), some (.int x2), none, some (.int x4), some (.int 0)] [] (sM mo G I J) Q else (vp_in (I 81 46) 60 ∧ (vp_in (4 * x4) 80 ∧ (vp_in (I 81 46) 60 ∧ (sm_wp X 249 108 [some (.ref 81), some (.int x1), some (.int x2), none, some (.int (x4 + 1)), none] [] (sM mo G (up2 I 116 (I 81 46).toNatClampNeg ((I 116 ((I 81 46).toNatClampNeg)) ||| (1 <<< ((I 120 ((4 * x4).toNatClampNeg)) &&& 31)))) J) Q))))) :=
  (sm_blk X 249 173 (tt_lin 249 (by decide)) rfl rfl _ _ _ _).trans rfl
set_option maxRecDepth 100000 in
theorem bk_249_174 (X : (Nat → Int32) × Nat) (mo : Bool) (G : Nat × Nat) (I : Nat → Nat → Int32) (J : Nat → Nat → Int64) (Q : Option Value → sm_M → Prop) (x1 : Int32) (x2 : Int32) (x4 : Int32) (s0 : Int32) :
    sm_wp X 249 174 [some (.ref 81), some (.int x1), some (.int x2), none, some (.int x4), none] [.int s0] (sM mo G I J) Q =
    (if (s0 : Int32) = 0 then sm_wp X 249 204 [some (.ref 81), some (.int x1), some (.int x2), none, some (.int x4), some (.int s0)] [] (sM mo G I J) Q else (vp_in (I 81 46) 60 ∧ (vp_in (4 * x4) 80 ∧ (vp_in (I 81 46) 60 ∧ (sm_wp X 249 108 [some (.ref 81), some (.int x1), some (.int x2), none, some (.int (x4 + 1)), none] [] (sM mo G (up2 I 116 (I 81 46).toNatClampNeg ((I 116 ((I 81 46).toNatClampNeg)) ||| (1 <<< ((I 120 ((4 * x4).toNatClampNeg)) &&& 31)))) J) Q))))) :=
  (sm_blk X 249 174 (tt_lin 249 (by decide)) rfl rfl _ _ _ _).trans rfl
set_option maxRecDepth 100000 in
theorem bk_249_204 (X : (Nat → Int32) × Nat) (mo : Bool) (G : Nat × Nat) (I : Nat → Nat → Int32) (J : Nat → Nat → Int64) (Q : Option Value → sm_M → Prop) (x1 : Int32) (x2 : Int32) (x4 : Int32) (x5 : Int32) :
    sm_wp X 249 204 [some (.ref 81), some (.int x1), some (.int x2), none, some (.int x4), some (.int x5)] [] (sM mo G I J) Q =
    (sm_wp X 249 108 [some (.ref 81), some (.int x1), some (.int x2), none, some (.int (x4 + 1)), none] [] (sM mo G I J) Q) :=
  (sm_blk X 249 204 (tt_lin 249 (by decide)) rfl rfl _ _ _ _).trans rfl
set_option maxRecDepth 100000 in
theorem bk_249_210 (X : (Nat → Int32) × Nat) (mo : Bool) (G : Nat × Nat) (I : Nat → Nat → Int32) (J : Nat → Nat → Int64) (Q : Option Value → sm_M → Prop) (x1 : Int32) (x2 : Int32) (x4 : Int32) :
    sm_wp X 249 210 [some (.ref 81), some (.int x1), some (.int x2), none, some (.int x4), none] [] (sM mo G I J) Q =
    (vp_in (I 81 46) 60 ∧ (vp_in ((up2 I 117 (I 81 46).toNatClampNeg (-1)) 81 46) 60 ∧ (vp_in ((up2 (up2 I 117 (I 81 46).toNatClampNeg (-1)) 118 ((up2 I 117 (I 81 46).toNatClampNeg (-1)) 81 46).toNatClampNeg (-1)) 81 46) 60 ∧ (True ∧ Q (some (.int (((up2 (up2 (up2 (up2 I 117 (I 81 46).toNatClampNeg (-1)) 118 ((up2 I 117 (I 81 46).toNatClampNeg (-1)) 81 46).toNatClampNeg (-1)) 119 ((up2 (up2 I 117 (I 81 46).toNatClampNeg (-1)) 118 ((up2 I 117 (I 81 46).toNatClampNeg (-1)) 81 46).toNatClampNeg (-1)) 81 46).toNatClampNeg (-1)) 81 46 (((up2 (up2 (up2 I 117 (I 81 46).toNatClampNeg (-1)) 118 ((up2 I 117 (I 81 46).toNatClampNeg (-1)) 81 46).toNatClampNeg (-1)) 119 ((up2 (up2 I 117 (I 81 46).toNatClampNeg (-1)) 118 ((up2 I 117 (I 81 46).toNatClampNeg (-1)) 81 46).toNatClampNeg (-1)) 81 46).toNatClampNeg (-1)) 81 46) + 1)) 81 46) - 1))) (sM mo G (up2 (up2 (up2 (up2 I 117 (I 81 46).toNatClampNeg (-1)) 118 ((up2 I 117 (I 81 46).toNatClampNeg (-1)) 81 46).toNatClampNeg (-1)) 119 ((up2 (up2 I 117 (I 81 46).toNatClampNeg (-1)) 118 ((up2 I 117 (I 81 46).toNatClampNeg (-1)) 81 46).toNatClampNeg (-1)) 81 46).toNatClampNeg (-1)) 81 46 (((up2 (up2 (up2 I 117 (I 81 46).toNatClampNeg (-1)) 118 ((up2 I 117 (I 81 46).toNatClampNeg (-1)) 81 46).toNatClampNeg (-1)) 119 ((up2 (up2 I 117 (I 81 46).toNatClampNeg (-1)) 118 ((up2 I 117 (I 81 46).toNatClampNeg (-1)) 81 46).toNatClampNeg (-1)) 81 46).toNatClampNeg (-1)) 81 46) + 1)) J))))) :=
  (sm_blk X 249 210 (tt_lin 249 (by decide)) rfl rfl _ _ _ _).trans rfl
set_option maxRecDepth 100000 in
theorem bk_250_0 (X : (Nat → Int32) × Nat) (mo : Bool) (G : Nat × Nat) (I : Nat → Nat → Int32) (J : Nat → Nat → Int64) (Q : Option Value → sm_M → Prop) (x1 : Int32) (x2 : Int32) (x3 : Int32) (x4 : Int32) :
    sm_wp X 250 0 [some (.ref 81), some (.int x1), some (.int x2), some (.int x3), some (.int x4)] [] (sM mo G I J) Q =
    (if ((up2 I 81 2 0) 81 60 : Int32) = (20 : Int32) then sm_wp X 250 61 [some (.ref 81), some (.int x1), some (.int x2), some (.int x3), some (.int x4)] [] (sM mo G (up2 I 81 2 0) J) Q else (sm_wp X 216 0 [some (.ref 81), some (.int x1)] [] (sM mo G (up2 I 81 2 0) J) (fun v M => sm_wp X 250 19 [some (.ref 81), some (.int x1), some (.int x2), some (.int x3), some (.int x4)] (v.toList ++ []) M Q))) :=
  (sm_blk X 250 0 (tt_lin 250 (by decide)) rfl rfl _ _ _ _).trans rfl
set_option maxRecDepth 100000 in
theorem bk_250_19 (X : (Nat → Int32) × Nat) (mo : Bool) (G : Nat × Nat) (I : Nat → Nat → Int32) (J : Nat → Nat → Int64) (Q : Option Value → sm_M → Prop) (x1 : Int32) (x2 : Int32) (x3 : Int32) (x4 : Int32) (s0 : Int32) :
    sm_wp X 250 19 [some (.ref 81), some (.int x1), some (.int x2), some (.int x3), some (.int x4)] [.int s0] (sM mo G I J) Q =
    (if (s0 : Int32) = 0 then sm_wp X 250 61 [some (.ref 81), some (.int x1), some (.int x2), some (.int x3), some (.int x4)] [] (sM mo G I J) Q else (sm_wp X 216 0 [some (.ref 81), some (.int x2)] [] (sM mo G I J) (fun v M => sm_wp X 250 27 [some (.ref 81), some (.int x1), some (.int x2), some (.int x3), some (.int x4)] (v.toList ++ []) M Q))) :=
  (sm_blk X 250 19 (tt_lin 250 (by decide)) rfl rfl _ _ _ _).trans rfl
set_option maxRecDepth 100000 in
theorem bk_250_27 (X : (Nat → Int32) × Nat) (mo : Bool) (G : Nat × Nat) (I : Nat → Nat → Int32) (J : Nat → Nat → Int64) (Q : Option Value → sm_M → Prop) (x1 : Int32) (x2 : Int32) (x3 : Int32) (x4 : Int32) (s0 : Int32) :
    sm_wp X 250 27 [some (.ref 81), some (.int x1), some (.int x2), some (.int x3), some (.int x4)] [.int s0] (sM mo G I J) Q =
    (if (s0 : Int32) = 0 then sm_wp X 250 61 [some (.ref 81), some (.int x1), some (.int x2), some (.int x3), some (.int x4)] [] (sM mo G I J) Q else (if (x1 : Int32) = (x2 : Int32) then sm_wp X 250 61 [some (.ref 81), some (.int x1), some (.int x2), some (.int x3), some (.int x4)] [] (sM mo G I J) Q else (sm_wp X 210 0 [some (.int x3), some (.int (I 81 16)), some (.int 300)] [] (sM mo G I J) (fun v M => sm_wp X 250 46 [some (.ref 81), some (.int x1), some (.int x2), some (.int x3), some (.int x4)] (v.toList ++ []) M Q)))) :=
  (sm_blk X 250 27 (tt_lin 250 (by decide)) rfl rfl _ _ _ _).trans rfl
set_option maxRecDepth 100000 in
theorem bk_250_46 (X : (Nat → Int32) × Nat) (mo : Bool) (G : Nat × Nat) (I : Nat → Nat → Int32) (J : Nat → Nat → Int64) (Q : Option Value → sm_M → Prop) (x1 : Int32) (x2 : Int32) (x3 : Int32) (x4 : Int32) (s0 : Int32) :
    sm_wp X 250 46 [some (.ref 81), some (.int x1), some (.int x2), some (.int x3), some (.int x4)] [.int s0] (sM mo G I J) Q =
    (if (s0 : Int32) = 0 then sm_wp X 250 61 [some (.ref 81), some (.int x1), some (.int x2), some (.int x3), some (.int x4)] [] (sM mo G I J) Q else (sm_wp X 210 0 [some (.int x4), some (.int x3), some (.int 300)] [] (sM mo G I J) (fun v M => sm_wp X 250 58 [some (.ref 81), some (.int x1), some (.int x2), some (.int x3), some (.int x4)] (v.toList ++ []) M Q))) :=
  (sm_blk X 250 46 (tt_lin 250 (by decide)) rfl rfl _ _ _ _).trans rfl
set_option maxRecDepth 100000 in
theorem bk_250_58 (X : (Nat → Int32) × Nat) (mo : Bool) (G : Nat × Nat) (I : Nat → Nat → Int32) (J : Nat → Nat → Int64) (Q : Option Value → sm_M → Prop) (x1 : Int32) (x2 : Int32) (x3 : Int32) (x4 : Int32) (s0 : Int32) :
    sm_wp X 250 58 [some (.ref 81), some (.int x1), some (.int x2), some (.int x3), some (.int x4)] [.int s0] (sM mo G I J) Q =
    (if ¬ (s0 : Int32) = 0 then sm_wp X 250 63 [some (.ref 81), some (.int x1), some (.int x2), some (.int x3), some (.int x4)] [] (sM mo G I J) Q else (sm_zb 0 ∧ Q (some (.int 0)) (sM mo G I J))) :=
  (sm_blk X 250 58 (tt_lin 250 (by decide)) rfl rfl _ _ _ _).trans rfl
set_option maxRecDepth 100000 in
theorem bk_250_61 (X : (Nat → Int32) × Nat) (mo : Bool) (G : Nat × Nat) (I : Nat → Nat → Int32) (J : Nat → Nat → Int64) (Q : Option Value → sm_M → Prop) (x1 : Int32) (x2 : Int32) (x3 : Int32) (x4 : Int32) :
    sm_wp X 250 61 [some (.ref 81), some (.int x1), some (.int x2), some (.int x3), some (.int x4)] [] (sM mo G I J) Q =
    (sm_zb 0 ∧ Q (some (.int 0)) (sM mo G I J)) :=
  (sm_blk X 250 61 (tt_lin 250 (by decide)) rfl rfl _ _ _ _).trans rfl
set_option maxRecDepth 100000 in
theorem bk_250_63 (X : (Nat → Int32) × Nat) (mo : Bool) (G : Nat × Nat) (I : Nat → Nat → Int32) (J : Nat → Nat → Int64) (Q : Option Value → sm_M → Prop) (x1 : Int32) (x2 : Int32) (x3 : Int32) (x4 : Int32) :
    sm_wp X 250 63 [some (.ref 81), some (.int x1), some (.int x2), some (.int x3), some (.int x4)] [] (sM mo G I J) Q =
    (vp_in (4 * (I 81 60)) 80 ∧ (vp_in ((4 * ((up2 I 120 (4 * (I 81 60)).toNatClampNeg x1) 81 60)) + 1) 80 ∧ (vp_in ((4 * ((up2 (up2 I 120 (4 * (I 81 60)).toNatClampNeg x1) 120 ((4 * ((up2 I 120 (4 * (I 81 60)).toNatClampNeg x1) 81 60)) + 1).toNatClampNeg x2) 81 60)) + 2) 80 ∧ (vp_in ((4 * ((up2 (up2 (up2 I 120 (4 * (I 81 60)).toNatClampNeg x1) 120 ((4 * ((up2 I 120 (4 * (I 81 60)).toNatClampNeg x1) 81 60)) + 1).toNatClampNeg x2) 120 ((4 * ((up2 (up2 I 120 (4 * (I 81 60)).toNatClampNeg x1) 120 ((4 * ((up2 I 120 (4 * (I 81 60)).toNatClampNeg x1) 81 60)) + 1).toNatClampNeg x2) 81 60)) + 2).toNatClampNeg x3) 81 60)) + 3) 80 ∧ (sm_zb 1 ∧ Q (some (.int 1)) (sM mo G (up2 (up2 (up2 (up2 (up2 I 120 (4 * (I 81 60)).toNatClampNeg x1) 120 ((4 * ((up2 I 120 (4 * (I 81 60)).toNatClampNeg x1) 81 60)) + 1).toNatClampNeg x2) 120 ((4 * ((up2 (up2 I 120 (4 * (I 81 60)).toNatClampNeg x1) 120 ((4 * ((up2 I 120 (4 * (I 81 60)).toNatClampNeg x1) 81 60)) + 1).toNatClampNeg x2) 81 60)) + 2).toNatClampNeg x3) 120 ((4 * ((up2 (up2 (up2 I 120 (4 * (I 81 60)).toNatClampNeg x1) 120 ((4 * ((up2 I 120 (4 * (I 81 60)).toNatClampNeg x1) 81 60)) + 1).toNatClampNeg x2) 120 ((4 * ((up2 (up2 I 120 (4 * (I 81 60)).toNatClampNeg x1) 120 ((4 * ((up2 I 120 (4 * (I 81 60)).toNatClampNeg x1) 81 60)) + 1).toNatClampNeg x2) 81 60)) + 2).toNatClampNeg x3) 81 60)) + 3).toNatClampNeg x4) 81 60 (((up2 (up2 (up2 (up2 I 120 (4 * (I 81 60)).toNatClampNeg x1) 120 ((4 * ((up2 I 120 (4 * (I 81 60)).toNatClampNeg x1) 81 60)) + 1).toNatClampNeg x2) 120 ((4 * ((up2 (up2 I 120 (4 * (I 81 60)).toNatClampNeg x1) 120 ((4 * ((up2 I 120 (4 * (I 81 60)).toNatClampNeg x1) 81 60)) + 1).toNatClampNeg x2) 81 60)) + 2).toNatClampNeg x3) 120 ((4 * ((up2 (up2 (up2 I 120 (4 * (I 81 60)).toNatClampNeg x1) 120 ((4 * ((up2 I 120 (4 * (I 81 60)).toNatClampNeg x1) 81 60)) + 1).toNatClampNeg x2) 120 ((4 * ((up2 (up2 I 120 (4 * (I 81 60)).toNatClampNeg x1) 120 ((4 * ((up2 I 120 (4 * (I 81 60)).toNatClampNeg x1) 81 60)) + 1).toNatClampNeg x2) 81 60)) + 2).toNatClampNeg x3) 81 60)) + 3).toNatClampNeg x4) 81 60) + 1)) J)))))) :=
  (sm_blk X 250 63 (tt_lin 250 (by decide)) rfl rfl _ _ _ _).trans rfl
set_option maxRecDepth 100000 in
theorem bk_251_0 (X : (Nat → Int32) × Nat) (mo : Bool) (G : Nat × Nat) (I : Nat → Nat → Int32) (J : Nat → Nat → Int64) (Q : Option Value → sm_M → Prop) (x1 : Int32) :
    sm_wp X 251 0 [some (.ref 81), some (.int x1), none, none] [] (sM mo G I J) Q =
    (sm_wp X 210 0 [some (.int x1), some (.int 1), some (.int 50)] [] (sM mo G (up2 I 81 2 0) J) (fun v M => sm_wp X 251 12 [some (.ref 81), some (.int x1), none, none] (v.toList ++ []) M Q)) :=
  (sm_blk X 251 0 (tt_lin 251 (by decide)) rfl rfl _ _ _ _).trans rfl
set_option maxRecDepth 100000 in
theorem bk_251_12 (X : (Nat → Int32) × Nat) (mo : Bool) (G : Nat × Nat) (I : Nat → Nat → Int32) (J : Nat → Nat → Int64) (Q : Option Value → sm_M → Prop) (x1 : Int32) (s0 : Int32) :
    sm_wp X 251 12 [some (.ref 81), some (.int x1), none, none] [.int s0] (sM mo G I J) Q =
    (if (s0 : Int32) = 0 then sm_wp X 251 27 [some (.ref 81), some (.int x1), none, none] [] (sM mo G I J) Q else (if ((I 81 16) + x1 : Int32) ≤ (300 : Int32) then sm_wp X 251 29 [some (.ref 81), some (.int x1), none, none] [] (sM mo G I J) Q else (True ∧ Q (some (.int (-1))) (sM mo G I J)))) :=
  (sm_blk X 251 12 (tt_lin 251 (by decide)) rfl rfl _ _ _ _).trans rfl
set_option maxRecDepth 100000 in
theorem bk_251_27 (X : (Nat → Int32) × Nat) (mo : Bool) (G : Nat × Nat) (I : Nat → Nat → Int32) (J : Nat → Nat → Int64) (Q : Option Value → sm_M → Prop) (x1 : Int32) :
    sm_wp X 251 27 [some (.ref 81), some (.int x1), none, none] [] (sM mo G I J) Q =
    (True ∧ Q (some (.int (-1))) (sM mo G I J)) :=
  (sm_blk X 251 27 (tt_lin 251 (by decide)) rfl rfl _ _ _ _).trans rfl
set_option maxRecDepth 100000 in
theorem bk_251_29 (X : (Nat → Int32) × Nat) (mo : Bool) (G : Nat × Nat) (I : Nat → Nat → Int32) (J : Nat → Nat → Int64) (Q : Option Value → sm_M → Prop) (x1 : Int32) :
    sm_wp X 251 29 [some (.ref 81), some (.int x1), none, none] [] (sM mo G I J) Q =
    (sm_wp X 251 31 [some (.ref 81), some (.int x1), some (.int 0), none] [] (sM mo G I J) Q) :=
  (sm_blk X 251 29 (tt_lin 251 (by decide)) rfl rfl _ _ _ _).trans rfl
set_option maxRecDepth 100000 in
theorem bk_251_31 (X : (Nat → Int32) × Nat) (mo : Bool) (G : Nat × Nat) (I : Nat → Nat → Int32) (J : Nat → Nat → Int64) (Q : Option Value → sm_M → Prop) (x1 : Int32) (x2 : Int32) :
    sm_wp X 251 31 [some (.ref 81), some (.int x1), some (.int x2), none] [] (sM mo G I J) Q =
    (if (x1 : Int32) ≤ (x2 : Int32) then sm_wp X 251 121 [some (.ref 81), some (.int x1), some (.int x2), none] [] (sM mo G I J) Q else (sm_wp X 251 48 [some (.ref 81), some (.int x1), some (.int x2), some (.int 0)] [] (sM mo G (up2 I 81 16 ((I 81 16) + 1)) J) Q)) :=
  (sm_blk X 251 31 (tt_lin 251 (by decide)) rfl rfl _ _ _ _).trans rfl
set_option maxRecDepth 100000 in
theorem bk_251_48 (X : (Nat → Int32) × Nat) (mo : Bool) (G : Nat × Nat) (I : Nat → Nat → Int32) (J : Nat → Nat → Int64) (Q : Option Value → sm_M → Prop) (x1 : Int32) (x2 : Int32) (x3 : Int32) :
    sm_wp X 251 48 [some (.ref 81), some (.int x1), some (.int x2), some (.int x3)] [] (sM mo G I J) Q =
    (if (I 81 46 : Int32) ≤ (x3 : Int32) then sm_wp X 251 75 [some (.ref 81), some (.int x1), some (.int x2), some (.int x3)] [] (sM mo G I J) Q else (sm_wp X 252 0 [some (.ref 81), some (.int x3)] [] (sM mo G I J) (fun v M => sm_wp X 251 61 [some (.ref 81), some (.int x1), some (.int x2), some (.int x3)] (v.toList ++ []) M Q))) :=
  (sm_blk X 251 48 (tt_lin 251 (by decide)) rfl rfl _ _ _ _).trans rfl
set_option maxRecDepth 100000 in
theorem bk_251_61 (X : (Nat → Int32) × Nat) (mo : Bool) (G : Nat × Nat) (I : Nat → Nat → Int32) (J : Nat → Nat → Int64) (Q : Option Value → sm_M → Prop) (x1 : Int32) (x2 : Int32) (x3 : Int32) (s0 : Int32) :
    sm_wp X 251 61 [some (.ref 81), some (.int x1), some (.int x2), some (.int x3)] [.int s0] (sM mo G I J) Q =
    (if (s0 : Int32) = 0 then sm_wp X 251 69 [some (.ref 81), some (.int x1), some (.int x2), some (.int x3)] [] (sM mo G I J) Q else (sm_wp X 253 0 [some (.ref 81), some (.int x3), none, none] [] (sM mo G I J) (fun v M => sm_wp X 251 69 [some (.ref 81), some (.int x1), some (.int x2), some (.int x3)] (v.toList ++ []) M Q))) :=
  (sm_blk X 251 61 (tt_lin 251 (by decide)) rfl rfl _ _ _ _).trans rfl
set_option maxRecDepth 100000 in
theorem bk_251_69 (X : (Nat → Int32) × Nat) (mo : Bool) (G : Nat × Nat) (I : Nat → Nat → Int32) (J : Nat → Nat → Int64) (Q : Option Value → sm_M → Prop) (x1 : Int32) (x2 : Int32) (x3 : Int32) :
    sm_wp X 251 69 [some (.ref 81), some (.int x1), some (.int x2), some (.int x3)] [] (sM mo G I J) Q =
    (sm_wp X 251 48 [some (.ref 81), some (.int x1), some (.int x2), some (.int (x3 + 1))] [] (sM mo G I J) Q) :=
  (sm_blk X 251 69 (tt_lin 251 (by decide)) rfl rfl _ _ _ _).trans rfl
set_option maxRecDepth 100000 in
theorem bk_251_75 (X : (Nat → Int32) × Nat) (mo : Bool) (G : Nat × Nat) (I : Nat → Nat → Int32) (J : Nat → Nat → Int64) (Q : Option Value → sm_M → Prop) (x1 : Int32) (x2 : Int32) (x3 : Int32) :
    sm_wp X 251 75 [some (.ref 81), some (.int x1), some (.int x2), some (.int x3)] [] (sM mo G I J) Q =
    (sm_wp X 251 77 [some (.ref 81), some (.int x1), some (.int x2), some (.int 0)] [] (sM mo G I J) Q) :=
  (sm_blk X 251 75 (tt_lin 251 (by decide)) rfl rfl _ _ _ _).trans rfl
set_option maxRecDepth 100000 in
theorem bk_251_77 (X : (Nat → Int32) × Nat) (mo : Bool) (G : Nat × Nat) (I : Nat → Nat → Int32) (J : Nat → Nat → Int64) (Q : Option Value → sm_M → Prop) (x1 : Int32) (x2 : Int32) (x3 : Int32) :
    sm_wp X 251 77 [some (.ref 81), some (.int x1), some (.int x2), some (.int x3)] [] (sM mo G I J) Q =
    (if (I 81 46 : Int32) ≤ (x3 : Int32) then sm_wp X 251 115 [some (.ref 81), some (.int x1), some (.int x2), some (.int x3)] [] (sM mo G I J) Q else (vp_in x3 60 ∧ (if ¬ (I 107 (x3.toNatClampNeg) : Int32) = 0 then sm_wp X 251 109 [some (.ref 81), some (.int x1), some (.int x2), some (.int x3)] [] (sM mo G I J) Q else (vp_in x3 60 ∧ (if ¬ (I 117 (x3.toNatClampNeg) : Int32) = (2 : Int32) then sm_wp X 251 109 [some (.ref 81), some (.int x1), some (.int x2), some (.int x3)] [] (sM mo G I J) Q else (sm_wp X 264 0 [some (.ref 81), some (.int x3), none, none, none, none] [] (sM mo G I J) (fun v M => sm_wp X 251 109 [some (.ref 81), some (.int x1), some (.int x2), some (.int x3)] (v.toList ++ []) M Q))))))) :=
  (sm_blk X 251 77 (tt_lin 251 (by decide)) rfl rfl _ _ _ _).trans rfl
set_option maxRecDepth 100000 in
theorem bk_251_109 (X : (Nat → Int32) × Nat) (mo : Bool) (G : Nat × Nat) (I : Nat → Nat → Int32) (J : Nat → Nat → Int64) (Q : Option Value → sm_M → Prop) (x1 : Int32) (x2 : Int32) (x3 : Int32) :
    sm_wp X 251 109 [some (.ref 81), some (.int x1), some (.int x2), some (.int x3)] [] (sM mo G I J) Q =
    (sm_wp X 251 77 [some (.ref 81), some (.int x1), some (.int x2), some (.int (x3 + 1))] [] (sM mo G I J) Q) :=
  (sm_blk X 251 109 (tt_lin 251 (by decide)) rfl rfl _ _ _ _).trans rfl
set_option maxRecDepth 100000 in
theorem bk_251_115 (X : (Nat → Int32) × Nat) (mo : Bool) (G : Nat × Nat) (I : Nat → Nat → Int32) (J : Nat → Nat → Int64) (Q : Option Value → sm_M → Prop) (x1 : Int32) (x2 : Int32) (x3 : Int32) :
    sm_wp X 251 115 [some (.ref 81), some (.int x1), some (.int x2), some (.int x3)] [] (sM mo G I J) Q =
    (sm_wp X 251 31 [some (.ref 81), some (.int x1), some (.int (x2 + 1)), none] [] (sM mo G I J) Q) :=
  (sm_blk X 251 115 (tt_lin 251 (by decide)) rfl rfl _ _ _ _).trans rfl
set_option maxRecDepth 100000 in
theorem bk_251_121 (X : (Nat → Int32) × Nat) (mo : Bool) (G : Nat × Nat) (I : Nat → Nat → Int32) (J : Nat → Nat → Int64) (Q : Option Value → sm_M → Prop) (x1 : Int32) (x2 : Int32) :
    sm_wp X 251 121 [some (.ref 81), some (.int x1), some (.int x2), none] [] (sM mo G I J) Q =
    (True ∧ Q (some (.int (I 81 16))) (sM mo G I J)) :=
  (sm_blk X 251 121 (tt_lin 251 (by decide)) rfl rfl _ _ _ _).trans rfl
set_option maxRecDepth 100000 in
theorem bk_252_0 (X : (Nat → Int32) × Nat) (mo : Bool) (G : Nat × Nat) (I : Nat → Nat → Int32) (J : Nat → Nat → Int64) (Q : Option Value → sm_M → Prop) (x1 : Int32) :
    sm_wp X 252 0 [some (.ref 81), some (.int x1)] [] (sM mo G I J) Q =
    (vp_in x1 60 ∧ (if ¬ (I 107 (x1.toNatClampNeg) : Int32) = 0 then sm_wp X 252 23 [some (.ref 81), some (.int x1)] [] (sM mo G I J) Q else (vp_in x1 60 ∧ (if (2 : Int32) ≤ (I 117 (x1.toNatClampNeg) : Int32) then sm_wp X 252 23 [some (.ref 81), some (.int x1)] [] (sM mo G I J) Q else (sm_wp X 252 24 [some (.ref 81), some (.int x1)] [.int 1] (sM mo G I J) Q))))) :=
  (sm_blk X 252 0 (tt_lin 252 (by decide)) rfl rfl _ _ _ _).trans rfl
set_option maxRecDepth 100000 in
theorem bk_252_23 (X : (Nat → Int32) × Nat) (mo : Bool) (G : Nat × Nat) (I : Nat → Nat → Int32) (J : Nat → Nat → Int64) (Q : Option Value → sm_M → Prop) (x1 : Int32) :
    sm_wp X 252 23 [some (.ref 81), some (.int x1)] [] (sM mo G I J) Q =
    (sm_zb 0 ∧ Q (some (.int 0)) (sM mo G I J)) :=
  (sm_blk X 252 23 (tt_lin 252 (by decide)) rfl rfl _ _ _ _).trans rfl
set_option maxRecDepth 100000 in
theorem bk_252_24 (X : (Nat → Int32) × Nat) (mo : Bool) (G : Nat × Nat) (I : Nat → Nat → Int32) (J : Nat → Nat → Int64) (Q : Option Value → sm_M → Prop) (x1 : Int32) (s0 : Int32) :
    sm_wp X 252 24 [some (.ref 81), some (.int x1)] [.int s0] (sM mo G I J) Q =
    (sm_zb s0 ∧ Q (some (.int s0)) (sM mo G I J)) :=
  (sm_blk X 252 24 (tt_lin 252 (by decide)) rfl rfl _ _ _ _).trans rfl
set_option maxRecDepth 100000 in
theorem bk_253_0 (X : (Nat → Int32) × Nat) (mo : Bool) (G : Nat × Nat) (I : Nat → Nat → Int32) (J : Nat → Nat → Int64) (Q : Option Value → sm_M → Prop) (x1 : Int32) :
    sm_wp X 253 0 [some (.ref 81), some (.int x1), none, none] [] (sM mo G I J) Q =
    (vp_in x1 60 ∧ (if (I 113 (x1.toNatClampNeg) : Int32) < (I 81 16 : Int32) then sm_wp X 253 39 [some (.ref 81), some (.int x1), none, none] [] (sM mo G I J) Q else (vp_in x1 60 ∧ (sm_wp X 215 0 [some (.ref 81), some (.int (I 108 (x1.toNatClampNeg)))] [] (sM mo G I J) (fun v M => sm_wp X 253 23 [some (.ref 81), some (.int x1), none, none] (v.toList ++ []) M Q))))) :=
  (sm_blk X 253 0 (tt_lin 253 (by decide)) rfl rfl _ _ _ _).trans rfl
set_option maxRecDepth 100000 in
theorem bk_253_23 (X : (Nat → Int32) × Nat) (mo : Bool) (G : Nat × Nat) (I : Nat → Nat → Int32) (J : Nat → Nat → Int64) (Q : Option Value → sm_M → Prop) (x1 : Int32) (s0 : Int32) :
    sm_wp X 253 23 [some (.ref 81), some (.int x1), none, none] [.int s0] (sM mo G I J) Q =
    (if (s0 : Int32) = 0 then sm_wp X 253 39 [some (.ref 81), some (.int x1), none, none] [] (sM mo G I J) Q else (vp_in x1 60 ∧ (sm_wp X 215 0 [some (.ref 81), some (.int (I 109 (x1.toNatClampNeg)))] [] (sM mo G I J) (fun v M => sm_wp X 253 36 [some (.ref 81), some (.int x1), none, none] (v.toList ++ []) M Q)))) :=
  (sm_blk X 253 23 (tt_lin 253 (by decide)) rfl rfl _ _ _ _).trans rfl
set_option maxRecDepth 100000 in
theorem bk_253_36 (X : (Nat → Int32) × Nat) (mo : Bool) (G : Nat × Nat) (I : Nat → Nat → Int32) (J : Nat → Nat → Int64) (Q : Option Value → sm_M → Prop) (x1 : Int32) (s0 : Int32) :
    sm_wp X 253 36 [some (.ref 81), some (.int x1), none, none] [.int s0] (sM mo G I J) Q =
    (if ¬ (s0 : Int32) = 0 then sm_wp X 253 47 [some (.ref 81), some (.int x1), none, none] [] (sM mo G I J) Q else (vp_in x1 60 ∧ (True ∧ Q none (sM mo G (up2 I 117 x1.toNatClampNeg 4) J)))) :=
  (sm_blk X 253 36 (tt_lin 253 (by decide)) rfl rfl _ _ _ _).trans rfl
set_option maxRecDepth 100000 in
theorem bk_253_39 (X : (Nat → Int32) × Nat) (mo : Bool) (G : Nat × Nat) (I : Nat → Nat → Int32) (J : Nat → Nat → Int64) (Q : Option Value → sm_M → Prop) (x1 : Int32) :
    sm_wp X 253 39 [some (.ref 81), some (.int x1), none, none] [] (sM mo G I J) Q =
    (vp_in x1 60 ∧ (True ∧ Q none (sM mo G (up2 I 117 x1.toNatClampNeg 4) J))) :=
  (sm_blk X 253 39 (tt_lin 253 (by decide)) rfl rfl _ _ _ _).trans rfl
set_option maxRecDepth 100000 in
theorem bk_253_47 (X : (Nat → Int32) × Nat) (mo : Bool) (G : Nat × Nat) (I : Nat → Nat → Int32) (J : Nat → Nat → Int64) (Q : Option Value → sm_M → Prop) (x1 : Int32) :
    sm_wp X 253 47 [some (.ref 81), some (.int x1), none, none] [] (sM mo G I J) Q =
    (vp_in x1 60 ∧ (if ¬ (I 117 (x1.toNatClampNeg) : Int32) = 0 then sm_wp X 253 145 [some (.ref 81), some (.int x1), none, none] [] (sM mo G I J) Q else (sm_wp X 254 0 [some (.ref 81), some (.int x1), some (.int 0), none, none] [] (sM mo G I J) (fun v M => sm_wp X 253 62 [some (.ref 81), some (.int x1), none, none] (v.toList ++ []) M Q)))) :=
  (sm_blk X 253 47 (tt_lin 253 (by decide)) rfl rfl _ _ _ _).trans rfl
set_option maxRecDepth 100000 in
theorem bk_253_62 (X : (Nat → Int32) × Nat) (mo : Bool) (G : Nat × Nat) (I : Nat → Nat → Int32) (J : Nat → Nat → Int64) (Q : Option Value → sm_M → Prop) (x1 : Int32) (s0 : Int32) :
    sm_wp X 253 62 [some (.ref 81), some (.int x1), none, none] [.int s0] (sM mo G I J) Q =
    (if 0 ≤ (s0 : Int32) then sm_wp X 253 68 [some (.ref 81), some (.int x1), some (.int s0), none] [] (sM mo G I J) Q else (True ∧ Q none (sM mo G I J))) :=
  (sm_blk X 253 62 (tt_lin 253 (by decide)) rfl rfl _ _ _ _).trans rfl
set_option maxRecDepth 100000 in
theorem bk_253_68 (X : (Nat → Int32) × Nat) (mo : Bool) (G : Nat × Nat) (I : Nat → Nat → Int32) (J : Nat → Nat → Int64) (Q : Option Value → sm_M → Prop) (x1 : Int32) (x2 : Int32) :
    sm_wp X 253 68 [some (.ref 81), some (.int x1), some (.int x2), none] [] (sM mo G I J) Q =
    (vp_in x1 60 ∧ (vp_in ((16 * (I 109 (x1.toNatClampNeg))) + x2) 112 ∧ (vp_in x1 60 ∧ (if ¬ (I 99 (((16 * (I 109 (x1.toNatClampNeg))) + x2).toNatClampNeg) : Int32) = 0 then sm_wp X 253 105 [some (.ref 81), some (.int x1), some (.int x2), some (.int (I 99 (((16 * (I 109 (x1.toNatClampNeg))) + x2).toNatClampNeg)))] [.int x1, .ref 117] (sM mo G (up2 I 118 x1.toNatClampNeg x2) J) Q else (sm_wp X 253 115 [some (.ref 81), some (.int x1), some (.int x2), some (.int (I 99 (((16 * (I 109 (x1.toNatClampNeg))) + x2).toNatClampNeg)))] [.int 2, .int x1, .ref 117] (sM mo G (up2 I 118 x1.toNatClampNeg x2) J) Q))))) :=
  (sm_blk X 253 68 (tt_lin 253 (by decide)) rfl rfl _ _ _ _).trans rfl
set_option maxRecDepth 100000 in
theorem bk_253_105 (X : (Nat → Int32) × Nat) (mo : Bool) (G : Nat × Nat) (I : Nat → Nat → Int32) (J : Nat → Nat → Int64) (Q : Option Value → sm_M → Prop) (x1 : Int32) (x2 : Int32) (x3 : Int32) (s1 : Int32) :
    sm_wp X 253 105 [some (.ref 81), some (.int x1), some (.int x2), some (.int x3)] [.int s1, .ref 117] (sM mo G I J) Q =
    (if ¬ (x3 : Int32) = (1 : Int32) then sm_wp X 253 114 [some (.ref 81), some (.int x1), some (.int x2), some (.int x3)] [.int s1, .ref 117] (sM mo G I J) Q else (sm_wp X 253 115 [some (.ref 81), some (.int x1), some (.int x2), some (.int x3)] [.int 3, .int s1, .ref 117] (sM mo G I J) Q)) :=
  (sm_blk X 253 105 (tt_lin 253 (by decide)) rfl rfl _ _ _ _).trans rfl
set_option maxRecDepth 100000 in
theorem bk_253_114 (X : (Nat → Int32) × Nat) (mo : Bool) (G : Nat × Nat) (I : Nat → Nat → Int32) (J : Nat → Nat → Int64) (Q : Option Value → sm_M → Prop) (x1 : Int32) (x2 : Int32) (x3 : Int32) (s1 : Int32) :
    sm_wp X 253 114 [some (.ref 81), some (.int x1), some (.int x2), some (.int x3)] [.int s1, .ref 117] (sM mo G I J) Q =
    (vp_in s1 60 ∧ (if ¬ (x3 : Int32) = (2 : Int32) then sm_wp X 253 145 [some (.ref 81), some (.int x1), some (.int x2), some (.int x3)] [] (sM mo G (up2 I 117 s1.toNatClampNeg 1) J) Q else (vp_in x1 60 ∧ (vp_in ((up2 I 117 s1.toNatClampNeg 1) 109 (x1.toNatClampNeg)) 6 ∧ (vp_in x1 60 ∧ (vp_in x1 60 ∧ (if ¬ ((up2 (up2 I 117 s1.toNatClampNeg 1) 119 x1.toNatClampNeg (((up2 I 117 s1.toNatClampNeg 1) 81 16) + (2 * ((up2 I 117 s1.toNatClampNeg 1) 90 (((up2 I 117 s1.toNatClampNeg 1) 109 (x1.toNatClampNeg)).toNatClampNeg))))) 117 (x1.toNatClampNeg) : Int32) = (1 : Int32) then sm_wp X 253 168 [some (.ref 81), some (.int x1), some (.int x2), some (.int x3)] [] (sM mo G (up2 (up2 I 117 s1.toNatClampNeg 1) 119 x1.toNatClampNeg (((up2 I 117 s1.toNatClampNeg 1) 81 16) + (2 * ((up2 I 117 s1.toNatClampNeg 1) 90 (((up2 I 117 s1.toNatClampNeg 1) 109 (x1.toNatClampNeg)).toNatClampNeg))))) J) Q else (vp_in x1 60 ∧ (if ((up2 (up2 I 117 s1.toNatClampNeg 1) 119 x1.toNatClampNeg (((up2 I 117 s1.toNatClampNeg 1) 81 16) + (2 * ((up2 I 117 s1.toNatClampNeg 1) 90 (((up2 I 117 s1.toNatClampNeg 1) 109 (x1.toNatClampNeg)).toNatClampNeg))))) 119 (x1.toNatClampNeg) : Int32) ≤ ((up2 (up2 I 117 s1.toNatClampNeg 1) 119 x1.toNatClampNeg (((up2 I 117 s1.toNatClampNeg 1) 81 16) + (2 * ((up2 I 117 s1.toNatClampNeg 1) 90 (((up2 I 117 s1.toNatClampNeg 1) 109 (x1.toNatClampNeg)).toNatClampNeg))))) 81 16 : Int32) then sm_wp X 253 169 [some (.ref 81), some (.int x1), some (.int x2), some (.int x3)] [] (sM mo G (up2 (up2 I 117 s1.toNatClampNeg 1) 119 x1.toNatClampNeg (((up2 I 117 s1.toNatClampNeg 1) 81 16) + (2 * ((up2 I 117 s1.toNatClampNeg 1) 90 (((up2 I 117 s1.toNatClampNeg 1) 109 (x1.toNatClampNeg)).toNatClampNeg))))) J) Q else (True ∧ Q none (sM mo G (up2 (up2 I 117 s1.toNatClampNeg 1) 119 x1.toNatClampNeg (((up2 I 117 s1.toNatClampNeg 1) 81 16) + (2 * ((up2 I 117 s1.toNatClampNeg 1) 90 (((up2 I 117 s1.toNatClampNeg 1) 109 (x1.toNatClampNeg)).toNatClampNeg))))) J))))))))))) :=
  (sm_blk X 253 114 (tt_lin 253 (by decide)) rfl rfl _ _ _ _).trans rfl
set_option maxRecDepth 100000 in
theorem bk_253_115 (X : (Nat → Int32) × Nat) (mo : Bool) (G : Nat × Nat) (I : Nat → Nat → Int32) (J : Nat → Nat → Int64) (Q : Option Value → sm_M → Prop) (x1 : Int32) (x2 : Int32) (x3 : Int32) (s1 : Int32) (s2 : Int32) :
    sm_wp X 253 115 [some (.ref 81), some (.int x1), some (.int x2), some (.int x3)] [.int s2, .int s1, .ref 117] (sM mo G I J) Q =
    (vp_in s1 60 ∧ (if ¬ (x3 : Int32) = (2 : Int32) then sm_wp X 253 145 [some (.ref 81), some (.int x1), some (.int x2), some (.int x3)] [] (sM mo G (up2 I 117 s1.toNatClampNeg s2) J) Q else (vp_in x1 60 ∧ (vp_in ((up2 I 117 s1.toNatClampNeg s2) 109 (x1.toNatClampNeg)) 6 ∧ (vp_in x1 60 ∧ (vp_in x1 60 ∧ (if ¬ ((up2 (up2 I 117 s1.toNatClampNeg s2) 119 x1.toNatClampNeg (((up2 I 117 s1.toNatClampNeg s2) 81 16) + (2 * ((up2 I 117 s1.toNatClampNeg s2) 90 (((up2 I 117 s1.toNatClampNeg s2) 109 (x1.toNatClampNeg)).toNatClampNeg))))) 117 (x1.toNatClampNeg) : Int32) = (1 : Int32) then sm_wp X 253 168 [some (.ref 81), some (.int x1), some (.int x2), some (.int x3)] [] (sM mo G (up2 (up2 I 117 s1.toNatClampNeg s2) 119 x1.toNatClampNeg (((up2 I 117 s1.toNatClampNeg s2) 81 16) + (2 * ((up2 I 117 s1.toNatClampNeg s2) 90 (((up2 I 117 s1.toNatClampNeg s2) 109 (x1.toNatClampNeg)).toNatClampNeg))))) J) Q else (vp_in x1 60 ∧ (if ((up2 (up2 I 117 s1.toNatClampNeg s2) 119 x1.toNatClampNeg (((up2 I 117 s1.toNatClampNeg s2) 81 16) + (2 * ((up2 I 117 s1.toNatClampNeg s2) 90 (((up2 I 117 s1.toNatClampNeg s2) 109 (x1.toNatClampNeg)).toNatClampNeg))))) 119 (x1.toNatClampNeg) : Int32) ≤ ((up2 (up2 I 117 s1.toNatClampNeg s2) 119 x1.toNatClampNeg (((up2 I 117 s1.toNatClampNeg s2) 81 16) + (2 * ((up2 I 117 s1.toNatClampNeg s2) 90 (((up2 I 117 s1.toNatClampNeg s2) 109 (x1.toNatClampNeg)).toNatClampNeg))))) 81 16 : Int32) then sm_wp X 253 169 [some (.ref 81), some (.int x1), some (.int x2), some (.int x3)] [] (sM mo G (up2 (up2 I 117 s1.toNatClampNeg s2) 119 x1.toNatClampNeg (((up2 I 117 s1.toNatClampNeg s2) 81 16) + (2 * ((up2 I 117 s1.toNatClampNeg s2) 90 (((up2 I 117 s1.toNatClampNeg s2) 109 (x1.toNatClampNeg)).toNatClampNeg))))) J) Q else (True ∧ Q none (sM mo G (up2 (up2 I 117 s1.toNatClampNeg s2) 119 x1.toNatClampNeg (((up2 I 117 s1.toNatClampNeg s2) 81 16) + (2 * ((up2 I 117 s1.toNatClampNeg s2) 90 (((up2 I 117 s1.toNatClampNeg s2) 109 (x1.toNatClampNeg)).toNatClampNeg))))) J))))))))))) :=
  (sm_blk X 253 115 (tt_lin 253 (by decide)) rfl rfl _ _ _ _).trans rfl
set_option maxRecDepth 100000 in
theorem bk_253_145 (X : (Nat → Int32) × Nat) (mo : Bool) (G : Nat × Nat) (I : Nat → Nat → Int32) (J : Nat → Nat → Int64) (Q : Option Value → sm_M → Prop) (x1 : Int32) :
    sm_wp X 253 145 [some (.ref 81), some (.int x1), none, none] [] (sM mo G I J) Q =
    (vp_in x1 60 ∧ (if ¬ (I 117 (x1.toNatClampNeg) : Int32) = (1 : Int32) then sm_wp X 253 168 [some (.ref 81), some (.int x1), none, none] [] (sM mo G I J) Q else (vp_in x1 60 ∧ (if (I 119 (x1.toNatClampNeg) : Int32) ≤ (I 81 16 : Int32) then sm_wp X 253 169 [some (.ref 81), some (.int x1), none, none] [] (sM mo G I J) Q else (True ∧ Q none (sM mo G I J)))))) :=
  (sm_blk X 253 145 (tt_lin 253 (by decide)) rfl rfl _ _ _ _).trans rfl
set_option maxRecDepth 100000 in
theorem bk_253_168 (X : (Nat → Int32) × Nat) (mo : Bool) (G : Nat × Nat) (I : Nat → Nat → Int32) (J : Nat → Nat → Int64) (Q : Option Value → sm_M → Prop) (x1 : Int32) :
    sm_wp X 253 168 [some (.ref 81), some (.int x1), none, none] [] (sM mo G I J) Q =
    (True ∧ Q none (sM mo G I J)) :=
  (sm_blk X 253 168 (tt_lin 253 (by decide)) rfl rfl _ _ _ _).trans rfl
set_option maxRecDepth 100000 in
theorem bk_253_169 (X : (Nat → Int32) × Nat) (mo : Bool) (G : Nat × Nat) (I : Nat → Nat → Int32) (J : Nat → Nat → Int64) (Q : Option Value → sm_M → Prop) (x1 : Int32) :
    sm_wp X 253 169 [some (.ref 81), some (.int x1), none, none] [] (sM mo G I J) Q =
    (sm_wp X 254 0 [some (.ref 81), some (.int x1), some (.int 1), none, none] [] (sM mo G I J) (fun v M => sm_wp X 253 180 [some (.ref 81), some (.int x1), none, none] (v.toList ++ [.int x1, .ref 118]) M Q)) :=
  (sm_blk X 253 169 (tt_lin 253 (by decide)) rfl rfl _ _ _ _).trans rfl
set_option maxRecDepth 100000 in
theorem bk_253_180 (X : (Nat → Int32) × Nat) (mo : Bool) (G : Nat × Nat) (I : Nat → Nat → Int32) (J : Nat → Nat → Int64) (Q : Option Value → sm_M → Prop) (x1 : Int32) (s1 : Int32) (s2 : Int32) :
    sm_wp X 253 180 [some (.ref 81), some (.int x1), none, none] [.int s2, .int s1, .ref 118] (sM mo G I J) Q =
    (vp_in s1 60 ∧ (vp_in x1 60 ∧ (if ((up2 I 118 s1.toNatClampNeg s2) 118 (x1.toNatClampNeg) : Int32) < 0 then sm_wp X 253 199 [some (.ref 81), some (.int x1), none, none] [.int x1, .ref 117] (sM mo G (up2 I 118 s1.toNatClampNeg s2) J) Q else (sm_wp X 253 200 [some (.ref 81), some (.int x1), none, none] [.int 2, .int x1, .ref 117] (sM mo G (up2 I 118 s1.toNatClampNeg s2) J) Q)))) :=
  (sm_blk X 253 180 (tt_lin 253 (by decide)) rfl rfl _ _ _ _).trans rfl
set_option maxRecDepth 100000 in
theorem bk_253_199 (X : (Nat → Int32) × Nat) (mo : Bool) (G : Nat × Nat) (I : Nat → Nat → Int32) (J : Nat → Nat → Int64) (Q : Option Value → sm_M → Prop) (x1 : Int32) (s1 : Int32) :
    sm_wp X 253 199 [some (.ref 81), some (.int x1), none, none] [.int s1, .ref 117] (sM mo G I J) Q =
    (vp_in s1 60 ∧ (True ∧ Q none (sM mo G (up2 I 117 s1.toNatClampNeg 3) J))) :=
  (sm_blk X 253 199 (tt_lin 253 (by decide)) rfl rfl _ _ _ _).trans rfl
set_option maxRecDepth 100000 in
theorem bk_253_200 (X : (Nat → Int32) × Nat) (mo : Bool) (G : Nat × Nat) (I : Nat → Nat → Int32) (J : Nat → Nat → Int64) (Q : Option Value → sm_M → Prop) (x1 : Int32) (s1 : Int32) (s2 : Int32) :
    sm_wp X 253 200 [some (.ref 81), some (.int x1), none, none] [.int s2, .int s1, .ref 117] (sM mo G I J) Q =
    (vp_in s1 60 ∧ (True ∧ Q none (sM mo G (up2 I 117 s1.toNatClampNeg s2) J))) :=
  (sm_blk X 253 200 (tt_lin 253 (by decide)) rfl rfl _ _ _ _).trans rfl
set_option maxRecDepth 100000 in
theorem bk_254_0 (X : (Nat → Int32) × Nat) (mo : Bool) (G : Nat × Nat) (I : Nat → Nat → Int32) (J : Nat → Nat → Int64) (Q : Option Value → sm_M → Prop) (x1 : Int32) (x2 : Int32) :
    sm_wp X 254 0 [some (.ref 81), some (.int x1), some (.int x2), none, none] [] (sM mo G I J) Q =
    (vp_in x1 60 ∧ (sm_wp X 254 10 [some (.ref 81), some (.int x1), some (.int x2), some (.int (I 109 (x1.toNatClampNeg))), some (.int 0)] [] (sM mo G I J) Q)) :=
  (sm_blk X 254 0 (tt_lin 254 (by decide)) rfl rfl _ _ _ _).trans rfl
set_option maxRecDepth 100000 in
theorem bk_254_10 (X : (Nat → Int32) × Nat) (mo : Bool) (G : Nat × Nat) (I : Nat → Nat → Int32) (J : Nat → Nat → Int64) (Q : Option Value → sm_M → Prop) (x1 : Int32) (x2 : Int32) (x3 : Int32) (x4 : Int32) :
    sm_wp X 254 10 [some (.ref 81), some (.int x1), some (.int x2), some (.int x3), some (.int x4)] [] (sM mo G I J) Q =
    (vp_in x3 7 ∧ (if (I 102 (x3.toNatClampNeg) : Int32) ≤ (x4 : Int32) then sm_wp X 254 65 [some (.ref 81), some (.int x1), some (.int x2), some (.int x3), some (.int x4)] [] (sM mo G I J) Q else (vp_in ((16 * x3) + x4) 112 ∧ (if ¬ (I 99 (((16 * x3) + x4).toNatClampNeg) : Int32) = (3 : Int32) then sm_wp X 254 41 [some (.ref 81), some (.int x1), some (.int x2), some (.int x3), some (.int x4)] [] (sM mo G I J) Q else (sm_wp X 254 42 [some (.ref 81), some (.int x1), some (.int x2), some (.int x3), some (.int x4)] [.int 1] (sM mo G I J) Q))))) :=
  (sm_blk X 254 10 (tt_lin 254 (by decide)) rfl rfl _ _ _ _).trans rfl
set_option maxRecDepth 100000 in
theorem bk_254_41 (X : (Nat → Int32) × Nat) (mo : Bool) (G : Nat × Nat) (I : Nat → Nat → Int32) (J : Nat → Nat → Int64) (Q : Option Value → sm_M → Prop) (x1 : Int32) (x2 : Int32) (x3 : Int32) (x4 : Int32) :
    sm_wp X 254 41 [some (.ref 81), some (.int x1), some (.int x2), some (.int x3), some (.int x4)] [] (sM mo G I J) Q =
    (if ¬ (0 : Int32) = (x2 : Int32) then sm_wp X 254 59 [some (.ref 81), some (.int x1), some (.int x2), some (.int x3), some (.int x4)] [] (sM mo G I J) Q else (sm_wp X 255 0 [some (.ref 81), some (.int x1), some (.int x4), none, none] [] (sM mo G I J) (fun v M => sm_wp X 254 53 [some (.ref 81), some (.int x1), some (.int x2), some (.int x3), some (.int x4)] (v.toList ++ []) M Q))) :=
  (sm_blk X 254 41 (tt_lin 254 (by decide)) rfl rfl _ _ _ _).trans rfl
set_option maxRecDepth 100000 in
theorem bk_254_42 (X : (Nat → Int32) × Nat) (mo : Bool) (G : Nat × Nat) (I : Nat → Nat → Int32) (J : Nat → Nat → Int64) (Q : Option Value → sm_M → Prop) (x1 : Int32) (x2 : Int32) (x3 : Int32) (x4 : Int32) (s0 : Int32) :
    sm_wp X 254 42 [some (.ref 81), some (.int x1), some (.int x2), some (.int x3), some (.int x4)] [.int s0] (sM mo G I J) Q =
    (if ¬ (s0 : Int32) = (x2 : Int32) then sm_wp X 254 59 [some (.ref 81), some (.int x1), some (.int x2), some (.int x3), some (.int x4)] [] (sM mo G I J) Q else (sm_wp X 255 0 [some (.ref 81), some (.int x1), some (.int x4), none, none] [] (sM mo G I J) (fun v M => sm_wp X 254 53 [some (.ref 81), some (.int x1), some (.int x2), some (.int x3), some (.int x4)] (v.toList ++ []) M Q))) :=
  (sm_blk X 254 42 (tt_lin 254 (by decide)) rfl rfl _ _ _ _).trans rfl
set_option maxRecDepth 100000 in
theorem bk_254_53 (X : (Nat → Int32) × Nat) (mo : Bool) (G : Nat × Nat) (I : Nat → Nat → Int32) (J : Nat → Nat → Int64) (Q : Option Value → sm_M → Prop) (x1 : Int32) (x2 : Int32) (x3 : Int32) (x4 : Int32) (s0 : Int32) :
    sm_wp X 254 53 [some (.ref 81), some (.int x1), some (.int x2), some (.int x3), some (.int x4)] [.int s0] (sM mo G I J) Q =
    (if (s0 : Int32) = 0 then sm_wp X 254 59 [some (.ref 81), some (.int x1), some (.int x2), some (.int x3), some (.int x4)] [] (sM mo G I J) Q else (True ∧ Q (some (.int x4)) (sM mo G I J))) :=
  (sm_blk X 254 53 (tt_lin 254 (by decide)) rfl rfl _ _ _ _).trans rfl
set_option maxRecDepth 100000 in
theorem bk_254_59 (X : (Nat → Int32) × Nat) (mo : Bool) (G : Nat × Nat) (I : Nat → Nat → Int32) (J : Nat → Nat → Int64) (Q : Option Value → sm_M → Prop) (x1 : Int32) (x2 : Int32) (x3 : Int32) (x4 : Int32) :
    sm_wp X 254 59 [some (.ref 81), some (.int x1), some (.int x2), some (.int x3), some (.int x4)] [] (sM mo G I J) Q =
    (sm_wp X 254 10 [some (.ref 81), some (.int x1), some (.int x2), some (.int x3), some (.int (x4 + 1))] [] (sM mo G I J) Q) :=
  (sm_blk X 254 59 (tt_lin 254 (by decide)) rfl rfl _ _ _ _).trans rfl
set_option maxRecDepth 100000 in
theorem bk_254_65 (X : (Nat → Int32) × Nat) (mo : Bool) (G : Nat × Nat) (I : Nat → Nat → Int32) (J : Nat → Nat → Int64) (Q : Option Value → sm_M → Prop) (x1 : Int32) (x2 : Int32) (x3 : Int32) (x4 : Int32) :
    sm_wp X 254 65 [some (.ref 81), some (.int x1), some (.int x2), some (.int x3), some (.int x4)] [] (sM mo G I J) Q =
    (True ∧ Q (some (.int (-1))) (sM mo G I J)) :=
  (sm_blk X 254 65 (tt_lin 254 (by decide)) rfl rfl _ _ _ _).trans rfl
set_option maxRecDepth 100000 in
theorem bk_255_0 (X : (Nat → Int32) × Nat) (mo : Bool) (G : Nat × Nat) (I : Nat → Nat → Int32) (J : Nat → Nat → Int64) (Q : Option Value → sm_M → Prop) (x1 : Int32) (x2 : Int32) :
    sm_wp X 255 0 [some (.ref 81), some (.int x1), some (.int x2), none, none] [] (sM mo G I J) Q =
    (sm_wp X 256 0 [some (.ref 81), some (.int x1), some (.int x2), none, none, none, none, none, none, none] [] (sM mo G I J) (fun v M => sm_wp X 255 6 [some (.ref 81), some (.int x1), some (.int x2), none, none] (v.toList ++ []) M Q)) :=
  (sm_blk X 255 0 (tt_lin 255 (by decide)) rfl rfl _ _ _ _).trans rfl
set_option maxRecDepth 100000 in
theorem bk_255_6 (X : (Nat → Int32) × Nat) (mo : Bool) (G : Nat × Nat) (I : Nat → Nat → Int32) (J : Nat → Nat → Int64) (Q : Option Value → sm_M → Prop) (x1 : Int32) (x2 : Int32) (s0 : Int64) :
    sm_wp X 255 6 [some (.ref 81), some (.int x1), some (.int x2), none, none] [.long s0] (sM mo G I J) Q =
    (if (lg_cmp s0 (-9223372036854775808) : Int32) = 0 then sm_wp X 255 25 [some (.ref 81), some (.int x1), some (.int x2), some (.long s0), none] [] (sM mo G I J) Q else (if (lg_cmp s0 0 : Int32) = 0 then sm_wp X 255 25 [some (.ref 81), some (.int x1), some (.int x2), some (.long s0), none] [] (sM mo G I J) Q else (sm_wp X 255 26 [some (.ref 81), some (.int x1), some (.int x2), some (.long s0), none] [.int 1] (sM mo G I J) Q))) :=
  (sm_blk X 255 6 (tt_lin 255 (by decide)) rfl rfl _ _ _ _).trans rfl
set_option maxRecDepth 100000 in
theorem bk_255_25 (X : (Nat → Int32) × Nat) (mo : Bool) (G : Nat × Nat) (I : Nat → Nat → Int32) (J : Nat → Nat → Int64) (Q : Option Value → sm_M → Prop) (x1 : Int32) (x2 : Int32) (x3 : Int64) :
    sm_wp X 255 25 [some (.ref 81), some (.int x1), some (.int x2), some (.long x3), none] [] (sM mo G I J) Q =
    (sm_zb 0 ∧ Q (some (.int 0)) (sM mo G I J)) :=
  (sm_blk X 255 25 (tt_lin 255 (by decide)) rfl rfl _ _ _ _).trans rfl
set_option maxRecDepth 100000 in
theorem bk_255_26 (X : (Nat → Int32) × Nat) (mo : Bool) (G : Nat × Nat) (I : Nat → Nat → Int32) (J : Nat → Nat → Int64) (Q : Option Value → sm_M → Prop) (x1 : Int32) (x2 : Int32) (x3 : Int64) (s0 : Int32) :
    sm_wp X 255 26 [some (.ref 81), some (.int x1), some (.int x2), some (.long x3), none] [.int s0] (sM mo G I J) Q =
    (sm_zb s0 ∧ Q (some (.int s0)) (sM mo G I J)) :=
  (sm_blk X 255 26 (tt_lin 255 (by decide)) rfl rfl _ _ _ _).trans rfl
set_option maxRecDepth 100000 in
theorem bk_256_0 (X : (Nat → Int32) × Nat) (mo : Bool) (G : Nat × Nat) (I : Nat → Nat → Int32) (J : Nat → Nat → Int64) (Q : Option Value → sm_M → Prop) (x1 : Int32) (x2 : Int32) :
    sm_wp X 256 0 [some (.ref 81), some (.int x1), some (.int x2), none, none, none, none, none, none, none] [] (sM mo G I J) Q =
    (vp_in x1 60 ∧ (sm_zb 0 ∧ (sm_wp X 256 26 [some (.ref 81), some (.int x1), none, some (.int (I 109 (x1.toNatClampNeg))), some (.int ((16 * (I 109 (x1.toNatClampNeg))) + x2)), some (.long 0), none, some (.int 0), none, none] [] (sM mo G (up2 I 81 63 0) J) Q))) :=
  (sm_blk X 256 0 (tt_lin 256 (by decide)) rfl rfl _ _ _ _).trans rfl
set_option maxRecDepth 100000 in
theorem bk_256_26 (X : (Nat → Int32) × Nat) (mo : Bool) (G : Nat × Nat) (I : Nat → Nat → Int32) (J : Nat → Nat → Int64) (Q : Option Value → sm_M → Prop) (x1 : Int32) (x3 : Int32) (x4 : Int32) (x5 : Int64) (x7 : Int32) :
    sm_wp X 256 26 [some (.ref 81), some (.int x1), none, some (.int x3), some (.int x4), some (.long x5), none, some (.int x7), none, none] [] (sM mo G I J) Q =
    (vp_in x4 112 ∧ (if (I 101 (x4.toNatClampNeg) : Int32) ≤ (x7 : Int32) then sm_wp X 256 220 [some (.ref 81), some (.int x1), none, some (.int x3), some (.int x4), some (.long x5), none, some (.int x7), none, none] [] (sM mo G I J) Q else (if ¬ (I 81 63 : Int32) = 0 then sm_wp X 256 220 [some (.ref 81), some (.int x1), none, some (.int x3), some (.int x4), some (.long x5), none, some (.int x7), none, none] [] (sM mo G I J) Q else (vp_in x4 112 ∧ (vp_in (((64 * x3) + (I 100 (x4.toNatClampNeg))) + x7) 448 ∧ (vp_in (I 98 ((((64 * x3) + (I 100 (x4.toNatClampNeg))) + x7).toNatClampNeg)) 448 ∧ (if ¬ (I 94 ((I 98 ((((64 * x3) + (I 100 (x4.toNatClampNeg))) + x7).toNatClampNeg)).toNatClampNeg) : Int32) = 0 then sm_wp X 256 92 [some (.ref 81), some (.int x1), none, some (.int x3), some (.int x4), some (.long x5), none, some (.int x7), some (.int (I 98 ((((64 * x3) + (I 100 (x4.toNatClampNeg))) + x7).toNatClampNeg))), some (.int (I 94 ((I 98 ((((64 * x3) + (I 100 (x4.toNatClampNeg))) + x7).toNatClampNeg)).toNatClampNeg)))] [] (sM mo G I J) Q else (vp_in (I 98 ((((64 * x3) + (I 100 (x4.toNatClampNeg))) + x7).toNatClampNeg)) 448 ∧ (sm_wp X 256 203 [some (.ref 81), some (.int x1), none, some (.int x3), some (.int x4), some (.long x5), none, some (.int x7), some (.int (I 98 ((((64 * x3) + (I 100 (x4.toNatClampNeg))) + x7).toNatClampNeg))), some (.int (I 94 ((I 98 ((((64 * x3) + (I 100 (x4.toNatClampNeg))) + x7).toNatClampNeg)).toNatClampNeg)))] [.long ((I 97 ((I 98 ((((64 * x3) + (I 100 (x4.toNatClampNeg))) + x7).toNatClampNeg)).toNatClampNeg)).toInt64)] (sM mo G I J) Q))))))))) :=
  (sm_blk X 256 26 (tt_lin 256 (by decide)) rfl rfl _ _ _ _).trans rfl
set_option maxRecDepth 100000 in
theorem bk_256_92 (X : (Nat → Int32) × Nat) (mo : Bool) (G : Nat × Nat) (I : Nat → Nat → Int32) (J : Nat → Nat → Int64) (Q : Option Value → sm_M → Prop) (x1 : Int32) (x3 : Int32) (x4 : Int32) (x5 : Int64) (x7 : Int32) (x8 : Int32) (x9 : Int32) :
    sm_wp X 256 92 [some (.ref 81), some (.int x1), none, some (.int x3), some (.int x4), some (.long x5), none, some (.int x7), some (.int x8), some (.int x9)] [] (sM mo G I J) Q =
    (if ¬ (x9 : Int32) = (16 : Int32) then sm_wp X 256 115 [some (.ref 81), some (.int x1), none, some (.int x3), some (.int x4), some (.long x5), none, some (.int x7), some (.int x8), some (.int x9)] [] (sM mo G I J) Q else (vp_in x8 448 ∧ (sm_wp X 257 0 [some (.ref 81), some (.int (I 97 (x8.toNatClampNeg))), some (.int x1), none] [] (sM mo G I J) (fun v M => sm_wp X 256 111 [some (.ref 81), some (.int x1), none, some (.int x3), some (.int x4), some (.long x5), none, some (.int x7), some (.int x8), some (.int x9)] (v.toList ++ []) M Q)))) :=
  (sm_blk X 256 92 (tt_lin 256 (by decide)) rfl rfl _ _ _ _).trans rfl
set_option maxRecDepth 100000 in
theorem bk_256_111 (X : (Nat → Int32) × Nat) (mo : Bool) (G : Nat × Nat) (I : Nat → Nat → Int32) (J : Nat → Nat → Int64) (Q : Option Value → sm_M → Prop) (x1 : Int32) (x3 : Int32) (x4 : Int32) (x5 : Int64) (x7 : Int32) (x8 : Int32) (x9 : Int32) (s0 : Int32) :
    sm_wp X 256 111 [some (.ref 81), some (.int x1), none, some (.int x3), some (.int x4), some (.long x5), none, some (.int x7), some (.int x8), some (.int x9)] [.int s0] (sM mo G I J) Q =
    (sm_wp X 256 203 [some (.ref 81), some (.int x1), none, some (.int x3), some (.int x4), some (.long x5), none, some (.int x7), some (.int x8), some (.int x9)] [.long (s0.toInt64)] (sM mo G I J) Q) :=
  (sm_blk X 256 111 (tt_lin 256 (by decide)) rfl rfl _ _ _ _).trans rfl
set_option maxRecDepth 100000 in
theorem bk_256_115 (X : (Nat → Int32) × Nat) (mo : Bool) (G : Nat × Nat) (I : Nat → Nat → Int32) (J : Nat → Nat → Int64) (Q : Option Value → sm_M → Prop) (x1 : Int32) (x3 : Int32) (x4 : Int32) (x5 : Int64) (x7 : Int32) (x8 : Int32) (x9 : Int32) :
    sm_wp X 256 115 [some (.ref 81), some (.int x1), none, some (.int x3), some (.int x4), some (.long x5), none, some (.int x7), some (.int x8), some (.int x9)] [] (sM mo G I J) Q =
    (if ¬ (x9 : Int32) = (12 : Int32) then sm_wp X 256 138 [some (.ref 81), some (.int x1), none, some (.int x3), some (.int x4), some (.long x5), none, some (.int x7), some (.int x8), some (.int x9)] [] (sM mo G I J) Q else (vp_in x8 448 ∧ (vp_in (I 95 (x8.toNatClampNeg)) 384 ∧ (sm_wp X 256 203 [some (.ref 81), some (.int x1), none, some (.int x3), some (.int x4), some (.long x5), none, some (.int x7), some (.int x8), some (.int x9)] [.long (-(J 121 ((I 95 (x8.toNatClampNeg)).toNatClampNeg)))] (sM mo G I J) Q)))) :=
  (sm_blk X 256 115 (tt_lin 256 (by decide)) rfl rfl _ _ _ _).trans rfl
set_option maxRecDepth 100000 in
theorem bk_256_138 (X : (Nat → Int32) × Nat) (mo : Bool) (G : Nat × Nat) (I : Nat → Nat → Int32) (J : Nat → Nat → Int64) (Q : Option Value → sm_M → Prop) (x1 : Int32) (x3 : Int32) (x4 : Int32) (x5 : Int64) (x7 : Int32) (x8 : Int32) (x9 : Int32) :
    sm_wp X 256 138 [some (.ref 81), some (.int x1), none, some (.int x3), some (.int x4), some (.long x5), none, some (.int x7), some (.int x8), some (.int x9)] [] (sM mo G I J) Q =
    (if ¬ (x9 : Int32) = (13 : Int32) then sm_wp X 256 173 [some (.ref 81), some (.int x1), none, some (.int x3), some (.int x4), some (.long x5), none, some (.int x7), some (.int x8), some (.int x9)] [] (sM mo G I J) Q else (vp_in x8 448 ∧ (vp_in (I 95 (x8.toNatClampNeg)) 384 ∧ (if ¬ (lg_cmp (J 121 ((I 95 (x8.toNatClampNeg)).toNatClampNeg)) 0 : Int32) = 0 then sm_wp X 256 166 [some (.ref 81), some (.int x1), none, some (.int x3), some (.int x4), some (.long x5), none, some (.int x7), some (.int x8), some (.int x9)] [] (sM mo G I J) Q else (sm_wp X 256 167 [some (.ref 81), some (.int x1), none, some (.int x3), some (.int x4), some (.long x5), none, some (.int x7), some (.int x8), some (.int x9)] [.int 1] (sM mo G I J) Q))))) :=
  (sm_blk X 256 138 (tt_lin 256 (by decide)) rfl rfl _ _ _ _).trans rfl
set_option maxRecDepth 100000 in
theorem bk_256_166 (X : (Nat → Int32) × Nat) (mo : Bool) (G : Nat × Nat) (I : Nat → Nat → Int32) (J : Nat → Nat → Int64) (Q : Option Value → sm_M → Prop) (x1 : Int32) (x3 : Int32) (x4 : Int32) (x5 : Int64) (x7 : Int32) (x8 : Int32) (x9 : Int32) :
    sm_wp X 256 166 [some (.ref 81), some (.int x1), none, some (.int x3), some (.int x4), some (.long x5), none, some (.int x7), some (.int x8), some (.int x9)] [] (sM mo G I J) Q =
    (sm_wp X 260 0 [some (.int 0)] [] (sM mo G I J) (fun v M => sm_wp X 256 170 [some (.ref 81), some (.int x1), none, some (.int x3), some (.int x4), some (.long x5), none, some (.int x7), some (.int x8), some (.int x9)] (v.toList ++ []) M Q)) :=
  (sm_blk X 256 166 (tt_lin 256 (by decide)) rfl rfl _ _ _ _).trans rfl
set_option maxRecDepth 100000 in
theorem bk_256_167 (X : (Nat → Int32) × Nat) (mo : Bool) (G : Nat × Nat) (I : Nat → Nat → Int32) (J : Nat → Nat → Int64) (Q : Option Value → sm_M → Prop) (x1 : Int32) (x3 : Int32) (x4 : Int32) (x5 : Int64) (x7 : Int32) (x8 : Int32) (x9 : Int32) (s0 : Int32) :
    sm_wp X 256 167 [some (.ref 81), some (.int x1), none, some (.int x3), some (.int x4), some (.long x5), none, some (.int x7), some (.int x8), some (.int x9)] [.int s0] (sM mo G I J) Q =
    (sm_wp X 260 0 [some (.int s0)] [] (sM mo G I J) (fun v M => sm_wp X 256 170 [some (.ref 81), some (.int x1), none, some (.int x3), some (.int x4), some (.long x5), none, some (.int x7), some (.int x8), some (.int x9)] (v.toList ++ []) M Q)) :=
  (sm_blk X 256 167 (tt_lin 256 (by decide)) rfl rfl _ _ _ _).trans rfl
set_option maxRecDepth 100000 in
theorem bk_256_170 (X : (Nat → Int32) × Nat) (mo : Bool) (G : Nat × Nat) (I : Nat → Nat → Int32) (J : Nat → Nat → Int64) (Q : Option Value → sm_M → Prop) (x1 : Int32) (x3 : Int32) (x4 : Int32) (x5 : Int64) (x7 : Int32) (x8 : Int32) (x9 : Int32) (s0 : Int64) :
    sm_wp X 256 170 [some (.ref 81), some (.int x1), none, some (.int x3), some (.int x4), some (.long x5), none, some (.int x7), some (.int x8), some (.int x9)] [.long s0] (sM mo G I J) Q =
    (sm_wp X 256 203 [some (.ref 81), some (.int x1), none, some (.int x3), some (.int x4), some (.long x5), none, some (.int x7), some (.int x8), some (.int x9)] [.long s0] (sM mo G I J) Q) :=
  (sm_blk X 256 170 (tt_lin 256 (by decide)) rfl rfl _ _ _ _).trans rfl
set_option maxRecDepth 100000 in
theorem bk_256_173 (X : (Nat → Int32) × Nat) (mo : Bool) (G : Nat × Nat) (I : Nat → Nat → Int32) (J : Nat → Nat → Int64) (Q : Option Value → sm_M → Prop) (x1 : Int32) (x3 : Int32) (x4 : Int32) (x5 : Int64) (x7 : Int32) (x8 : Int32) (x9 : Int32) :
    sm_wp X 256 173 [some (.ref 81), some (.int x1), none, some (.int x3), some (.int x4), some (.long x5), none, some (.int x7), some (.int x8), some (.int x9)] [] (sM mo G I J) Q =
    (vp_in x8 448 ∧ (vp_in (I 95 (x8.toNatClampNeg)) 384 ∧ (vp_in x8 448 ∧ (vp_in (I 96 (x8.toNatClampNeg)) 384 ∧ (sm_wp X 261 0 [some (.ref 81), some (.int x9), some (.long (J 121 ((I 95 (x8.toNatClampNeg)).toNatClampNeg))), none, some (.long (J 121 ((I 96 (x8.toNatClampNeg)).toNatClampNeg))), none] [] (sM mo G I J) (fun v M => sm_wp X 256 203 [some (.ref 81), some (.int x1), none, some (.int x3), some (.int x4), some (.long x5), none, some (.int x7), some (.int x8), some (.int x9)] (v.toList ++ []) M Q)))))) :=
  (sm_blk X 256 173 (tt_lin 256 (by decide)) rfl rfl _ _ _ _).trans rfl
set_option maxRecDepth 100000 in
theorem bk_256_203 (X : (Nat → Int32) × Nat) (mo : Bool) (G : Nat × Nat) (I : Nat → Nat → Int32) (J : Nat → Nat → Int64) (Q : Option Value → sm_M → Prop) (x1 : Int32) (x3 : Int32) (x4 : Int32) (x5 : Int64) (x7 : Int32) (x8 : Int32) (x9 : Int32) (s0 : Int64) :
    sm_wp X 256 203 [some (.ref 81), some (.int x1), none, some (.int x3), some (.int x4), some (.long x5), none, some (.int x7), some (.int x8), some (.int x9)] [.long s0] (sM mo G I J) Q =
    (vp_in x8 384 ∧ (sm_wp X 256 26 [some (.ref 81), some (.int x1), none, some (.int x3), some (.int x4), some (.long s0), none, some (.int (x7 + 1)), none, none] [] (sM mo G I (up2 J 121 x8.toNatClampNeg s0)) Q)) :=
  (sm_blk X 256 203 (tt_lin 256 (by decide)) rfl rfl _ _ _ _).trans rfl
set_option maxRecDepth 100000 in
theorem bk_256_220 (X : (Nat → Int32) × Nat) (mo : Bool) (G : Nat × Nat) (I : Nat → Nat → Int32) (J : Nat → Nat → Int64) (Q : Option Value → sm_M → Prop) (x1 : Int32) (x3 : Int32) (x4 : Int32) (x5 : Int64) (x7 : Int32) :
    sm_wp X 256 220 [some (.ref 81), some (.int x1), none, some (.int x3), some (.int x4), some (.long x5), none, some (.int x7), none, none] [] (sM mo G I J) Q =
    (if (I 81 63 : Int32) = 0 then sm_wp X 256 233 [some (.ref 81), some (.int x1), none, some (.int x3), some (.int x4), some (.long x5), none, some (.int x7), none, none] [] (sM mo G I J) Q else (sm_wp X 256 235 [some (.ref 81), some (.int x1), none, some (.int x3), some (.int x4), some (.long x5), none, some (.int x7), none, none] [.long (-9223372036854775808)] (sM mo G I J) Q)) :=
  (sm_blk X 256 220 (tt_lin 256 (by decide)) rfl rfl _ _ _ _).trans rfl
set_option maxRecDepth 100000 in
theorem bk_256_233 (X : (Nat → Int32) × Nat) (mo : Bool) (G : Nat × Nat) (I : Nat → Nat → Int32) (J : Nat → Nat → Int64) (Q : Option Value → sm_M → Prop) (x1 : Int32) (x3 : Int32) (x4 : Int32) (x5 : Int64) (x7 : Int32) :
    sm_wp X 256 233 [some (.ref 81), some (.int x1), none, some (.int x3), some (.int x4), some (.long x5), none, some (.int x7), none, none] [] (sM mo G I J) Q =
    (True ∧ Q (some (.long x5)) (sM mo G I J)) :=
  (sm_blk X 256 233 (tt_lin 256 (by decide)) rfl rfl _ _ _ _).trans rfl
set_option maxRecDepth 100000 in
theorem bk_256_235 (X : (Nat → Int32) × Nat) (mo : Bool) (G : Nat × Nat) (I : Nat → Nat → Int32) (J : Nat → Nat → Int64) (Q : Option Value → sm_M → Prop) (x1 : Int32) (x3 : Int32) (x4 : Int32) (x5 : Int64) (x7 : Int32) (s0 : Int64) :
    sm_wp X 256 235 [some (.ref 81), some (.int x1), none, some (.int x3), some (.int x4), some (.long x5), none, some (.int x7), none, none] [.long s0] (sM mo G I J) Q =
    (True ∧ Q (some (.long s0)) (sM mo G I J)) :=
  (sm_blk X 256 235 (tt_lin 256 (by decide)) rfl rfl _ _ _ _).trans rfl
set_option maxRecDepth 100000 in
theorem bk_257_0 (X : (Nat → Int32) × Nat) (mo : Bool) (G : Nat × Nat) (I : Nat → Nat → Int32) (J : Nat → Nat → Int64) (Q : Option Value → sm_M → Prop) (x1 : Int32) (x2 : Int32) :
    sm_wp X 257 0 [some (.ref 81), some (.int x1), some (.int x2), none] [] (sM mo G I J) Q =
    (vp_in x2 60 ∧ (if (x1 : Int32) = 0 then sm_wp X 257 68 [some (.ref 81), some (.int x1), some (.int x2), some (.int (I 109 (x2.toNatClampNeg)))] [] (sM mo G I J) Q else if (x1 : Int32) = 1 then sm_wp X 257 92 [some (.ref 81), some (.int x1), some (.int x2), some (.int (I 109 (x2.toNatClampNeg)))] [] (sM mo G I J) Q else if (x1 : Int32) = 2 then sm_wp X 257 104 [some (.ref 81), some (.int x1), some (.int x2), some (.int (I 109 (x2.toNatClampNeg)))] [] (sM mo G I J) Q else if (x1 : Int32) = 3 then sm_wp X 257 116 [some (.ref 81), some (.int x1), some (.int x2), some (.int (I 109 (x2.toNatClampNeg)))] [] (sM mo G I J) Q else if (x1 : Int32) = 4 then sm_wp X 257 138 [some (.ref 81), some (.int x1), some (.int x2), some (.int (I 109 (x2.toNatClampNeg)))] [] (sM mo G I J) Q else if (x1 : Int32) = 5 then sm_wp X 257 163 [some (.ref 81), some (.int x1), some (.int x2), some (.int (I 109 (x2.toNatClampNeg)))] [] (sM mo G I J) Q else if (x1 : Int32) = 6 then sm_wp X 257 174 [some (.ref 81), some (.int x1), some (.int x2), some (.int (I 109 (x2.toNatClampNeg)))] [] (sM mo G I J) Q else if (x1 : Int32) = 7 then sm_wp X 257 181 [some (.ref 81), some (.int x1), some (.int x2), some (.int (I 109 (x2.toNatClampNeg)))] [] (sM mo G I J) Q else if (x1 : Int32) = 8 then sm_wp X 257 188 [some (.ref 81), some (.int x1), some (.int x2), some (.int (I 109 (x2.toNatClampNeg)))] [] (sM mo G I J) Q else if (x1 : Int32) = 9 then sm_wp X 257 200 [some (.ref 81), some (.int x1), some (.int x2), some (.int (I 109 (x2.toNatClampNeg)))] [] (sM mo G I J) Q else if (x1 : Int32) = 10 then sm_wp X 257 205 [some (.ref 81), some (.int x1), some (.int x2), some (.int (I 109 (x2.toNatClampNeg)))] [] (sM mo G I J) Q else sm_wp X 257 217 [some (.ref 81), some (.int x1), some (.int x2), some (.int (I 109 (x2.toNatClampNeg)))] [] (sM mo G I J) Q)) :=
  (sm_blk X 257 0 (tt_lin 257 (by decide)) rfl rfl _ _ _ _).trans rfl
set_option maxRecDepth 100000 in
theorem bk_257_68 (X : (Nat → Int32) × Nat) (mo : Bool) (G : Nat × Nat) (I : Nat → Nat → Int32) (J : Nat → Nat → Int64) (Q : Option Value → sm_M → Prop) (x1 : Int32) (x2 : Int32) (x3 : Int32) :
    sm_wp X 257 68 [some (.ref 81), some (.int x1), some (.int x2), some (.int x3)] [] (sM mo G I J) Q =
    (vp_in x2 60 ∧ (sm_wp X 224 0 [some (.ref 81), some (.int x3), some (.int (I 111 (x2.toNatClampNeg))), none, none] [] (sM mo G I J) (fun v M => sm_wp X 257 79 [some (.ref 81), some (.int x1), some (.int x2), some (.int x3)] (v.toList ++ []) M Q))) :=
  (sm_blk X 257 68 (tt_lin 257 (by decide)) rfl rfl _ _ _ _).trans rfl
set_option maxRecDepth 100000 in
theorem bk_257_79 (X : (Nat → Int32) × Nat) (mo : Bool) (G : Nat × Nat) (I : Nat → Nat → Int32) (J : Nat → Nat → Int64) (Q : Option Value → sm_M → Prop) (x1 : Int32) (x2 : Int32) (x3 : Int32) (s0 : Int32) :
    sm_wp X 257 79 [some (.ref 81), some (.int x1), some (.int x2), some (.int x3)] [.int s0] (sM mo G I J) Q =
    (vp_in x2 60 ∧ (sm_wp X 224 0 [some (.ref 81), some (.int x3), some (.int (I 112 (x2.toNatClampNeg))), none, none] [] (sM mo G I J) (fun v M => sm_wp X 257 90 [some (.ref 81), some (.int x1), some (.int x2), some (.int x3)] (v.toList ++ [.int s0]) M Q))) :=
  (sm_blk X 257 79 (tt_lin 257 (by decide)) rfl rfl _ _ _ _).trans rfl
set_option maxRecDepth 100000 in
theorem bk_257_90 (X : (Nat → Int32) × Nat) (mo : Bool) (G : Nat × Nat) (I : Nat → Nat → Int32) (J : Nat → Nat → Int64) (Q : Option Value → sm_M → Prop) (x1 : Int32) (x2 : Int32) (x3 : Int32) (s0 : Int32) (s1 : Int32) :
    sm_wp X 257 90 [some (.ref 81), some (.int x1), some (.int x2), some (.int x3)] [.int s1, .int s0] (sM mo G I J) Q =
    (True ∧ Q (some (.int (s0 - s1))) (sM mo G I J)) :=
  (sm_blk X 257 90 (tt_lin 257 (by decide)) rfl rfl _ _ _ _).trans rfl
set_option maxRecDepth 100000 in
theorem bk_257_92 (X : (Nat → Int32) × Nat) (mo : Bool) (G : Nat × Nat) (I : Nat → Nat → Int32) (J : Nat → Nat → Int64) (Q : Option Value → sm_M → Prop) (x1 : Int32) (x2 : Int32) (x3 : Int32) :
    sm_wp X 257 92 [some (.ref 81), some (.int x1), some (.int x2), some (.int x3)] [] (sM mo G I J) Q =
    (vp_in x2 60 ∧ (sm_wp X 224 0 [some (.ref 81), some (.int x3), some (.int (I 111 (x2.toNatClampNeg))), none, none] [] (sM mo G I J) (fun v M => sm_wp X 257 103 [some (.ref 81), some (.int x1), some (.int x2), some (.int x3)] (v.toList ++ []) M Q))) :=
  (sm_blk X 257 92 (tt_lin 257 (by decide)) rfl rfl _ _ _ _).trans rfl
set_option maxRecDepth 100000 in
theorem bk_257_103 (X : (Nat → Int32) × Nat) (mo : Bool) (G : Nat × Nat) (I : Nat → Nat → Int32) (J : Nat → Nat → Int64) (Q : Option Value → sm_M → Prop) (x1 : Int32) (x2 : Int32) (x3 : Int32) (s0 : Int32) :
    sm_wp X 257 103 [some (.ref 81), some (.int x1), some (.int x2), some (.int x3)] [.int s0] (sM mo G I J) Q =
    (True ∧ Q (some (.int s0)) (sM mo G I J)) :=
  (sm_blk X 257 103 (tt_lin 257 (by decide)) rfl rfl _ _ _ _).trans rfl
set_option maxRecDepth 100000 in
theorem bk_257_104 (X : (Nat → Int32) × Nat) (mo : Bool) (G : Nat × Nat) (I : Nat → Nat → Int32) (J : Nat → Nat → Int64) (Q : Option Value → sm_M → Prop) (x1 : Int32) (x2 : Int32) (x3 : Int32) :
    sm_wp X 257 104 [some (.ref 81), some (.int x1), some (.int x2), some (.int x3)] [] (sM mo G I J) Q =
    (vp_in x2 60 ∧ (sm_wp X 224 0 [some (.ref 81), some (.int x3), some (.int (I 112 (x2.toNatClampNeg))), none, none] [] (sM mo G I J) (fun v M => sm_wp X 257 115 [some (.ref 81), some (.int x1), some (.int x2), some (.int x3)] (v.toList ++ []) M Q))) :=
  (sm_blk X 257 104 (tt_lin 257 (by decide)) rfl rfl _ _ _ _).trans rfl
set_option maxRecDepth 100000 in
theorem bk_257_115 (X : (Nat → Int32) × Nat) (mo : Bool) (G : Nat × Nat) (I : Nat → Nat → Int32) (J : Nat → Nat → Int64) (Q : Option Value → sm_M → Prop) (x1 : Int32) (x2 : Int32) (x3 : Int32) (s0 : Int32) :
    sm_wp X 257 115 [some (.ref 81), some (.int x1), some (.int x2), some (.int x3)] [.int s0] (sM mo G I J) Q =
    (True ∧ Q (some (.int s0)) (sM mo G I J)) :=
  (sm_blk X 257 115 (tt_lin 257 (by decide)) rfl rfl _ _ _ _).trans rfl
set_option maxRecDepth 100000 in
theorem bk_257_116 (X : (Nat → Int32) × Nat) (mo : Bool) (G : Nat × Nat) (I : Nat → Nat → Int32) (J : Nat → Nat → Int64) (Q : Option Value → sm_M → Prop) (x1 : Int32) (x2 : Int32) (x3 : Int32) :
    sm_wp X 257 116 [some (.ref 81), some (.int x1), some (.int x2), some (.int x3)] [] (sM mo G I J) Q =
    (vp_in x2 60 ∧ (sm_wp X 258 0 [some (.ref 81), some (.int (I 111 (x2.toNatClampNeg))), none, none] [] (sM mo G I J) (fun v M => sm_wp X 257 126 [some (.ref 81), some (.int x1), some (.int x2), some (.int x3)] (v.toList ++ []) M Q))) :=
  (sm_blk X 257 116 (tt_lin 257 (by decide)) rfl rfl _ _ _ _).trans rfl
set_option maxRecDepth 100000 in
theorem bk_257_126 (X : (Nat → Int32) × Nat) (mo : Bool) (G : Nat × Nat) (I : Nat → Nat → Int32) (J : Nat → Nat → Int64) (Q : Option Value → sm_M → Prop) (x1 : Int32) (x2 : Int32) (x3 : Int32) (s0 : Int32) :
    sm_wp X 257 126 [some (.ref 81), some (.int x1), some (.int x2), some (.int x3)] [.int s0] (sM mo G I J) Q =
    (vp_in x2 60 ∧ (sm_wp X 258 0 [some (.ref 81), some (.int (I 112 (x2.toNatClampNeg))), none, none] [] (sM mo G I J) (fun v M => sm_wp X 257 136 [some (.ref 81), some (.int x1), some (.int x2), some (.int x3)] (v.toList ++ [.int s0]) M Q))) :=
  (sm_blk X 257 126 (tt_lin 257 (by decide)) rfl rfl _ _ _ _).trans rfl
set_option maxRecDepth 100000 in
theorem bk_257_136 (X : (Nat → Int32) × Nat) (mo : Bool) (G : Nat × Nat) (I : Nat → Nat → Int32) (J : Nat → Nat → Int64) (Q : Option Value → sm_M → Prop) (x1 : Int32) (x2 : Int32) (x3 : Int32) (s0 : Int32) (s1 : Int32) :
    sm_wp X 257 136 [some (.ref 81), some (.int x1), some (.int x2), some (.int x3)] [.int s1, .int s0] (sM mo G I J) Q =
    (True ∧ Q (some (.int (s0 - s1))) (sM mo G I J)) :=
  (sm_blk X 257 136 (tt_lin 257 (by decide)) rfl rfl _ _ _ _).trans rfl
set_option maxRecDepth 100000 in
theorem bk_257_138 (X : (Nat → Int32) × Nat) (mo : Bool) (G : Nat × Nat) (I : Nat → Nat → Int32) (J : Nat → Nat → Int64) (Q : Option Value → sm_M → Prop) (x1 : Int32) (x2 : Int32) (x3 : Int32) :
    sm_wp X 257 138 [some (.ref 81), some (.int x1), some (.int x2), some (.int x3)] [] (sM mo G I J) Q =
    (vp_in x2 60 ∧ (sm_wp X 223 0 [some (.ref 81), some (.int x3), none, none] [] (sM mo G I J) (fun v M => sm_wp X 257 150 [some (.ref 81), some (.int x1), some (.int x2), some (.int x3)] (v.toList ++ [.int (I 111 (x2.toNatClampNeg)), .ref 81]) M Q))) :=
  (sm_blk X 257 138 (tt_lin 257 (by decide)) rfl rfl _ _ _ _).trans rfl
set_option maxRecDepth 100000 in
theorem bk_257_150 (X : (Nat → Int32) × Nat) (mo : Bool) (G : Nat × Nat) (I : Nat → Nat → Int32) (J : Nat → Nat → Int64) (Q : Option Value → sm_M → Prop) (x1 : Int32) (x2 : Int32) (x3 : Int32) (s1 : Int32) (s2 : Int32) :
    sm_wp X 257 150 [some (.ref 81), some (.int x1), some (.int x2), some (.int x3)] [.int s2, .int s1, .ref 81] (sM mo G I J) Q =
    (vp_in x2 60 ∧ (sm_wp X 259 0 [some (.ref 81), some (.int s1), some (.int (s2 &&& ((I 112 (x2.toNatClampNeg)) ^^^ (-1)))), none, none, none, none] [] (sM mo G I J) (fun v M => sm_wp X 257 162 [some (.ref 81), some (.int x1), some (.int x2), some (.int x3)] (v.toList ++ []) M Q))) :=
  (sm_blk X 257 150 (tt_lin 257 (by decide)) rfl rfl _ _ _ _).trans rfl
set_option maxRecDepth 100000 in
theorem bk_257_162 (X : (Nat → Int32) × Nat) (mo : Bool) (G : Nat × Nat) (I : Nat → Nat → Int32) (J : Nat → Nat → Int64) (Q : Option Value → sm_M → Prop) (x1 : Int32) (x2 : Int32) (x3 : Int32) (s0 : Int32) :
    sm_wp X 257 162 [some (.ref 81), some (.int x1), some (.int x2), some (.int x3)] [.int s0] (sM mo G I J) Q =
    (True ∧ Q (some (.int s0)) (sM mo G I J)) :=
  (sm_blk X 257 162 (tt_lin 257 (by decide)) rfl rfl _ _ _ _).trans rfl
set_option maxRecDepth 100000 in
theorem bk_257_163 (X : (Nat → Int32) × Nat) (mo : Bool) (G : Nat × Nat) (I : Nat → Nat → Int32) (J : Nat → Nat → Int64) (Q : Option Value → sm_M → Prop) (x1 : Int32) (x2 : Int32) (x3 : Int32) :
    sm_wp X 257 163 [some (.ref 81), some (.int x1), some (.int x2), some (.int x3)] [] (sM mo G I J) Q =
    (sm_wp X 223 0 [some (.ref 81), some (.int x3), none, none] [] (sM mo G I J) (fun v M => sm_wp X 257 170 [some (.ref 81), some (.int x1), some (.int x2), some (.int x3)] (v.toList ++ [.int x3, .ref 81]) M Q)) :=
  (sm_blk X 257 163 (tt_lin 257 (by decide)) rfl rfl _ _ _ _).trans rfl
set_option maxRecDepth 100000 in
theorem bk_257_170 (X : (Nat → Int32) × Nat) (mo : Bool) (G : Nat × Nat) (I : Nat → Nat → Int32) (J : Nat → Nat → Int64) (Q : Option Value → sm_M → Prop) (x1 : Int32) (x2 : Int32) (x3 : Int32) (s1 : Int32) (s2 : Int32) :
    sm_wp X 257 170 [some (.ref 81), some (.int x1), some (.int x2), some (.int x3)] [.int s2, .int s1, .ref 81] (sM mo G I J) Q =
    (sm_wp X 224 0 [some (.ref 81), some (.int s1), some (.int s2), none, none] [] (sM mo G I J) (fun v M => sm_wp X 257 173 [some (.ref 81), some (.int x1), some (.int x2), some (.int x3)] (v.toList ++ []) M Q)) :=
  (sm_blk X 257 170 (tt_lin 257 (by decide)) rfl rfl _ _ _ _).trans rfl
set_option maxRecDepth 100000 in
theorem bk_257_173 (X : (Nat → Int32) × Nat) (mo : Bool) (G : Nat × Nat) (I : Nat → Nat → Int32) (J : Nat → Nat → Int64) (Q : Option Value → sm_M → Prop) (x1 : Int32) (x2 : Int32) (x3 : Int32) (s0 : Int32) :
    sm_wp X 257 173 [some (.ref 81), some (.int x1), some (.int x2), some (.int x3)] [.int s0] (sM mo G I J) Q =
    (True ∧ Q (some (.int s0)) (sM mo G I J)) :=
  (sm_blk X 257 173 (tt_lin 257 (by decide)) rfl rfl _ _ _ _).trans rfl
set_option maxRecDepth 100000 in
theorem bk_257_174 (X : (Nat → Int32) × Nat) (mo : Bool) (G : Nat × Nat) (I : Nat → Nat → Int32) (J : Nat → Nat → Int64) (Q : Option Value → sm_M → Prop) (x1 : Int32) (x2 : Int32) (x3 : Int32) :
    sm_wp X 257 174 [some (.ref 81), some (.int x1), some (.int x2), some (.int x3)] [] (sM mo G I J) Q =
    (vp_in x3 6 ∧ (True ∧ Q (some (.int (I 92 (x3.toNatClampNeg)))) (sM mo G I J))) :=
  (sm_blk X 257 174 (tt_lin 257 (by decide)) rfl rfl _ _ _ _).trans rfl
set_option maxRecDepth 100000 in
theorem bk_257_181 (X : (Nat → Int32) × Nat) (mo : Bool) (G : Nat × Nat) (I : Nat → Nat → Int32) (J : Nat → Nat → Int64) (Q : Option Value → sm_M → Prop) (x1 : Int32) (x2 : Int32) (x3 : Int32) :
    sm_wp X 257 181 [some (.ref 81), some (.int x1), some (.int x2), some (.int x3)] [] (sM mo G I J) Q =
    (vp_in x3 6 ∧ (True ∧ Q (some (.int (I 89 (x3.toNatClampNeg)))) (sM mo G I J))) :=
  (sm_blk X 257 181 (tt_lin 257 (by decide)) rfl rfl _ _ _ _).trans rfl
set_option maxRecDepth 100000 in
theorem bk_257_188 (X : (Nat → Int32) × Nat) (mo : Bool) (G : Nat × Nat) (I : Nat → Nat → Int32) (J : Nat → Nat → Int64) (Q : Option Value → sm_M → Prop) (x1 : Int32) (x2 : Int32) (x3 : Int32) :
    sm_wp X 257 188 [some (.ref 81), some (.int x1), some (.int x2), some (.int x3)] [] (sM mo G I J) Q =
    (vp_in x2 60 ∧ (vp_in (I 108 (x2.toNatClampNeg)) 6 ∧ (True ∧ Q (some (.int (I 89 ((I 108 (x2.toNatClampNeg)).toNatClampNeg)))) (sM mo G I J)))) :=
  (sm_blk X 257 188 (tt_lin 257 (by decide)) rfl rfl _ _ _ _).trans rfl
set_option maxRecDepth 100000 in
theorem bk_257_200 (X : (Nat → Int32) × Nat) (mo : Bool) (G : Nat × Nat) (I : Nat → Nat → Int32) (J : Nat → Nat → Int64) (Q : Option Value → sm_M → Prop) (x1 : Int32) (x2 : Int32) (x3 : Int32) :
    sm_wp X 257 200 [some (.ref 81), some (.int x1), some (.int x2), some (.int x3)] [] (sM mo G I J) Q =
    (True ∧ Q (some (.int (I 81 16))) (sM mo G I J)) :=
  (sm_blk X 257 200 (tt_lin 257 (by decide)) rfl rfl _ _ _ _).trans rfl
set_option maxRecDepth 100000 in
theorem bk_257_205 (X : (Nat → Int32) × Nat) (mo : Bool) (G : Nat × Nat) (I : Nat → Nat → Int32) (J : Nat → Nat → Int64) (Q : Option Value → sm_M → Prop) (x1 : Int32) (x2 : Int32) (x3 : Int32) :
    sm_wp X 257 205 [some (.ref 81), some (.int x1), some (.int x2), some (.int x3)] [] (sM mo G I J) Q =
    (vp_in x2 60 ∧ (True ∧ Q (some (.int ((I 113 (x2.toNatClampNeg)) - (I 81 16)))) (sM mo G I J))) :=
  (sm_blk X 257 205 (tt_lin 257 (by decide)) rfl rfl _ _ _ _).trans rfl
set_option maxRecDepth 100000 in
theorem bk_257_217 (X : (Nat → Int32) × Nat) (mo : Bool) (G : Nat × Nat) (I : Nat → Nat → Int32) (J : Nat → Nat → Int64) (Q : Option Value → sm_M → Prop) (x1 : Int32) (x2 : Int32) (x3 : Int32) :
    sm_wp X 257 217 [some (.ref 81), some (.int x1), some (.int x2), some (.int x3)] [] (sM mo G I J) Q =
    (vp_in x2 60 ∧ (if ¬ (I 114 (x2.toNatClampNeg) : Int32) = ((-1) : Int32) then sm_wp X 257 231 [some (.ref 81), some (.int x1), some (.int x2), some (.int x3)] [] (sM mo G I J) Q else (sm_wp X 257 232 [some (.ref 81), some (.int x1), some (.int x2), some (.int x3)] [.int 0] (sM mo G I J) Q))) :=
  (sm_blk X 257 217 (tt_lin 257 (by decide)) rfl rfl _ _ _ _).trans rfl
set_option maxRecDepth 100000 in
theorem bk_257_231 (X : (Nat → Int32) × Nat) (mo : Bool) (G : Nat × Nat) (I : Nat → Nat → Int32) (J : Nat → Nat → Int64) (Q : Option Value → sm_M → Prop) (x1 : Int32) (x2 : Int32) (x3 : Int32) :
    sm_wp X 257 231 [some (.ref 81), some (.int x1), some (.int x2), some (.int x3)] [] (sM mo G I J) Q =
    (True ∧ Q (some (.int 1)) (sM mo G I J)) :=
  (sm_blk X 257 231 (tt_lin 257 (by decide)) rfl rfl _ _ _ _).trans rfl
set_option maxRecDepth 100000 in
theorem bk_257_232 (X : (Nat → Int32) × Nat) (mo : Bool) (G : Nat × Nat) (I : Nat → Nat → Int32) (J : Nat → Nat → Int64) (Q : Option Value → sm_M → Prop) (x1 : Int32) (x2 : Int32) (x3 : Int32) (s0 : Int32) :
    sm_wp X 257 232 [some (.ref 81), some (.int x1), some (.int x2), some (.int x3)] [.int s0] (sM mo G I J) Q =
    (True ∧ Q (some (.int s0)) (sM mo G I J)) :=
  (sm_blk X 257 232 (tt_lin 257 (by decide)) rfl rfl _ _ _ _).trans rfl
set_option maxRecDepth 100000 in
theorem bk_258_0 (X : (Nat → Int32) × Nat) (mo : Bool) (G : Nat × Nat) (I : Nat → Nat → Int32) (J : Nat → Nat → Int64) (Q : Option Value → sm_M → Prop) (x1 : Int32) :
    sm_wp X 258 0 [some (.ref 81), some (.int x1), none, none] [] (sM mo G I J) Q =
    (sm_wp X 258 4 [some (.ref 81), some (.int x1), some (.int 0), some (.int 0)] [] (sM mo G I J) Q) :=
  (sm_blk X 258 0 (tt_lin 258 (by decide)) rfl rfl _ _ _ _).trans rfl
set_option maxRecDepth 100000 in
theorem bk_258_4 (X : (Nat → Int32) × Nat) (mo : Bool) (G : Nat × Nat) (I : Nat → Nat → Int32) (J : Nat → Nat → Int64) (Q : Option Value → sm_M → Prop) (x1 : Int32) (x2 : Int32) (x3 : Int32) :
    sm_wp X 258 4 [some (.ref 81), some (.int x1), some (.int x2), some (.int x3)] [] (sM mo G I J) Q =
    (if (I 81 3 : Int32) ≤ (x3 : Int32) then sm_wp X 258 40 [some (.ref 81), some (.int x1), some (.int x2), some (.int x3)] [] (sM mo G I J) Q else (if ¬ ((x1 >>> (x3 &&& 31)) &&& 1 : Int32) = (1 : Int32) then sm_wp X 258 31 [some (.ref 81), some (.int x1), some (.int x2), some (.int x3)] [.int x2] (sM mo G I J) Q else (vp_in x3 12 ∧ (sm_wp X 258 32 [some (.ref 81), some (.int x1), some (.int x2), some (.int x3)] [.int (I 83 (x3.toNatClampNeg)), .int x2] (sM mo G I J) Q)))) :=
  (sm_blk X 258 4 (tt_lin 258 (by decide)) rfl rfl _ _ _ _).trans rfl
set_option maxRecDepth 100000 in
theorem bk_258_31 (X : (Nat → Int32) × Nat) (mo : Bool) (G : Nat × Nat) (I : Nat → Nat → Int32) (J : Nat → Nat → Int64) (Q : Option Value → sm_M → Prop) (x1 : Int32) (x2 : Int32) (x3 : Int32) (s0 : Int32) :
    sm_wp X 258 31 [some (.ref 81), some (.int x1), some (.int x2), some (.int x3)] [.int s0] (sM mo G I J) Q =
    (sm_wp X 258 4 [some (.ref 81), some (.int x1), some (.int (s0 + 0)), some (.int (x3 + 1))] [] (sM mo G I J) Q) :=
  (sm_blk X 258 31 (tt_lin 258 (by decide)) rfl rfl _ _ _ _).trans rfl
set_option maxRecDepth 100000 in
theorem bk_258_32 (X : (Nat → Int32) × Nat) (mo : Bool) (G : Nat × Nat) (I : Nat → Nat → Int32) (J : Nat → Nat → Int64) (Q : Option Value → sm_M → Prop) (x1 : Int32) (x2 : Int32) (x3 : Int32) (s0 : Int32) (s1 : Int32) :
    sm_wp X 258 32 [some (.ref 81), some (.int x1), some (.int x2), some (.int x3)] [.int s1, .int s0] (sM mo G I J) Q =
    (sm_wp X 258 4 [some (.ref 81), some (.int x1), some (.int (s0 + s1)), some (.int (x3 + 1))] [] (sM mo G I J) Q) :=
  (sm_blk X 258 32 (tt_lin 258 (by decide)) rfl rfl _ _ _ _).trans rfl
set_option maxRecDepth 100000 in
theorem bk_258_40 (X : (Nat → Int32) × Nat) (mo : Bool) (G : Nat × Nat) (I : Nat → Nat → Int32) (J : Nat → Nat → Int64) (Q : Option Value → sm_M → Prop) (x1 : Int32) (x2 : Int32) (x3 : Int32) :
    sm_wp X 258 40 [some (.ref 81), some (.int x1), some (.int x2), some (.int x3)] [] (sM mo G I J) Q =
    (True ∧ Q (some (.int x2)) (sM mo G I J)) :=
  (sm_blk X 258 40 (tt_lin 258 (by decide)) rfl rfl _ _ _ _).trans rfl
set_option maxRecDepth 100000 in
theorem bk_259_0 (X : (Nat → Int32) × Nat) (mo : Bool) (G : Nat × Nat) (I : Nat → Nat → Int32) (J : Nat → Nat → Int64) (Q : Option Value → sm_M → Prop) (x1 : Int32) (x2 : Int32) :
    sm_wp X 259 0 [some (.ref 81), some (.int x1), some (.int x2), none, none, none, none] [] (sM mo G I J) Q =
    (sm_wp X 259 5 [some (.ref 81), some (.int x1), some (.int x2), some (.int 0), some (.int 0), none, none] [] (sM mo G I J) Q) :=
  (sm_blk X 259 0 (tt_lin 259 (by decide)) rfl rfl _ _ _ _).trans rfl
set_option maxRecDepth 100000 in
theorem bk_259_5 (X : (Nat → Int32) × Nat) (mo : Bool) (G : Nat × Nat) (I : Nat → Nat → Int32) (J : Nat → Nat → Int64) (Q : Option Value → sm_M → Prop) (x1 : Int32) (x2 : Int32) (x3 : Int32) (x4 : Int32) :
    sm_wp X 259 5 [some (.ref 81), some (.int x1), some (.int x2), some (.int x3), some (.int x4), none, none] [] (sM mo G I J) Q =
    (if (I 81 3 : Int32) ≤ (x4 : Int32) then sm_wp X 259 102 [some (.ref 81), some (.int x1), some (.int x2), some (.int x3), some (.int x4), none, none] [] (sM mo G I J) Q else (sm_wp X 259 20 [some (.ref 81), some (.int x1), some (.int x2), some (.int x3), some (.int x4), some (.int 0), some (.int 0)] [] (sM mo G I J) Q)) :=
  (sm_blk X 259 5 (tt_lin 259 (by decide)) rfl rfl _ _ _ _).trans rfl
set_option maxRecDepth 100000 in
theorem bk_259_20 (X : (Nat → Int32) × Nat) (mo : Bool) (G : Nat × Nat) (I : Nat → Nat → Int32) (J : Nat → Nat → Int64) (Q : Option Value → sm_M → Prop) (x1 : Int32) (x2 : Int32) (x3 : Int32) (x4 : Int32) (x5 : Int32) (x6 : Int32) :
    sm_wp X 259 20 [some (.ref 81), some (.int x1), some (.int x2), some (.int x3), some (.int x4), some (.int x5), some (.int x6)] [] (sM mo G I J) Q =
    (if (I 81 3 : Int32) ≤ (x6 : Int32) then sm_wp X 259 73 [some (.ref 81), some (.int x1), some (.int x2), some (.int x3), some (.int x4), some (.int x5), some (.int x6)] [] (sM mo G I J) Q else (if ¬ (x5 : Int32) = 0 then sm_wp X 259 60 [some (.ref 81), some (.int x1), some (.int x2), some (.int x3), some (.int x4), some (.int x5), some (.int x6)] [] (sM mo G I J) Q else (if ¬ ((x2 >>> (x6 &&& 31)) &&& 1 : Int32) = (1 : Int32) then sm_wp X 259 64 [some (.ref 81), some (.int x1), some (.int x2), some (.int x3), some (.int x4), some (.int x5), some (.int x6)] [] (sM mo G I J) Q else (vp_in ((12 * x4) + x6) 144 ∧ (if (I 84 (((12 * x4) + x6).toNatClampNeg) : Int32) = 0 then sm_wp X 259 64 [some (.ref 81), some (.int x1), some (.int x2), some (.int x3), some (.int x4), some (.int x5), some (.int x6)] [] (sM mo G I J) Q else (sm_wp X 259 65 [some (.ref 81), some (.int x1), some (.int x2), some (.int x3), some (.int x4), some (.int x5), some (.int x6)] [.int 1] (sM mo G I J) Q)))))) :=
  (sm_blk X 259 20 (tt_lin 259 (by decide)) rfl rfl _ _ _ _).trans rfl
set_option maxRecDepth 100000 in
theorem bk_259_60 (X : (Nat → Int32) × Nat) (mo : Bool) (G : Nat × Nat) (I : Nat → Nat → Int32) (J : Nat → Nat → Int64) (Q : Option Value → sm_M → Prop) (x1 : Int32) (x2 : Int32) (x3 : Int32) (x4 : Int32) (x5 : Int32) (x6 : Int32) :
    sm_wp X 259 60 [some (.ref 81), some (.int x1), some (.int x2), some (.int x3), some (.int x4), some (.int x5), some (.int x6)] [] (sM mo G I J) Q =
    (sm_wp X 259 65 [some (.ref 81), some (.int x1), some (.int x2), some (.int x3), some (.int x4), some (.int x5), some (.int x6)] [.int 1] (sM mo G I J) Q) :=
  (sm_blk X 259 60 (tt_lin 259 (by decide)) rfl rfl _ _ _ _).trans rfl
set_option maxRecDepth 100000 in
theorem bk_259_64 (X : (Nat → Int32) × Nat) (mo : Bool) (G : Nat × Nat) (I : Nat → Nat → Int32) (J : Nat → Nat → Int64) (Q : Option Value → sm_M → Prop) (x1 : Int32) (x2 : Int32) (x3 : Int32) (x4 : Int32) (x5 : Int32) (x6 : Int32) :
    sm_wp X 259 64 [some (.ref 81), some (.int x1), some (.int x2), some (.int x3), some (.int x4), some (.int x5), some (.int x6)] [] (sM mo G I J) Q =
    (sm_wp X 259 20 [some (.ref 81), some (.int x1), some (.int x2), some (.int x3), some (.int x4), some (.int 0), some (.int (x6 + 1))] [] (sM mo G I J) Q) :=
  (sm_blk X 259 64 (tt_lin 259 (by decide)) rfl rfl _ _ _ _).trans rfl
set_option maxRecDepth 100000 in
theorem bk_259_65 (X : (Nat → Int32) × Nat) (mo : Bool) (G : Nat × Nat) (I : Nat → Nat → Int32) (J : Nat → Nat → Int64) (Q : Option Value → sm_M → Prop) (x1 : Int32) (x2 : Int32) (x3 : Int32) (x4 : Int32) (x5 : Int32) (x6 : Int32) (s0 : Int32) :
    sm_wp X 259 65 [some (.ref 81), some (.int x1), some (.int x2), some (.int x3), some (.int x4), some (.int x5), some (.int x6)] [.int s0] (sM mo G I J) Q =
    (sm_wp X 259 20 [some (.ref 81), some (.int x1), some (.int x2), some (.int x3), some (.int x4), some (.int s0), some (.int (x6 + 1))] [] (sM mo G I J) Q) :=
  (sm_blk X 259 65 (tt_lin 259 (by decide)) rfl rfl _ _ _ _).trans rfl
set_option maxRecDepth 100000 in
theorem bk_259_73 (X : (Nat → Int32) × Nat) (mo : Bool) (G : Nat × Nat) (I : Nat → Nat → Int32) (J : Nat → Nat → Int64) (Q : Option Value → sm_M → Prop) (x1 : Int32) (x2 : Int32) (x3 : Int32) (x4 : Int32) (x5 : Int32) (x6 : Int32) :
    sm_wp X 259 73 [some (.ref 81), some (.int x1), some (.int x2), some (.int x3), some (.int x4), some (.int x5), some (.int x6)] [] (sM mo G I J) Q =
    (if (x5 : Int32) = 0 then sm_wp X 259 93 [some (.ref 81), some (.int x1), some (.int x2), some (.int x3), some (.int x4), some (.int x5), some (.int x6)] [.int x3] (sM mo G I J) Q else (if ¬ ((x1 >>> (x4 &&& 31)) &&& 1 : Int32) = (1 : Int32) then sm_wp X 259 93 [some (.ref 81), some (.int x1), some (.int x2), some (.int x3), some (.int x4), some (.int x5), some (.int x6)] [.int x3] (sM mo G I J) Q else (sm_wp X 259 94 [some (.ref 81), some (.int x1), some (.int x2), some (.int x3), some (.int x4), some (.int x5), some (.int x6)] [.int 1, .int x3] (sM mo G I J) Q))) :=
  (sm_blk X 259 73 (tt_lin 259 (by decide)) rfl rfl _ _ _ _).trans rfl
set_option maxRecDepth 100000 in
theorem bk_259_93 (X : (Nat → Int32) × Nat) (mo : Bool) (G : Nat × Nat) (I : Nat → Nat → Int32) (J : Nat → Nat → Int64) (Q : Option Value → sm_M → Prop) (x1 : Int32) (x2 : Int32) (x3 : Int32) (x4 : Int32) (x5 : Int32) (x6 : Int32) (s0 : Int32) :
    sm_wp X 259 93 [some (.ref 81), some (.int x1), some (.int x2), some (.int x3), some (.int x4), some (.int x5), some (.int x6)] [.int s0] (sM mo G I J) Q =
    (sm_wp X 259 5 [some (.ref 81), some (.int x1), some (.int x2), some (.int (s0 + 0)), some (.int (x4 + 1)), none, none] [] (sM mo G I J) Q) :=
  (sm_blk X 259 93 (tt_lin 259 (by decide)) rfl rfl _ _ _ _).trans rfl
set_option maxRecDepth 100000 in
theorem bk_259_94 (X : (Nat → Int32) × Nat) (mo : Bool) (G : Nat × Nat) (I : Nat → Nat → Int32) (J : Nat → Nat → Int64) (Q : Option Value → sm_M → Prop) (x1 : Int32) (x2 : Int32) (x3 : Int32) (x4 : Int32) (x5 : Int32) (x6 : Int32) (s0 : Int32) (s1 : Int32) :
    sm_wp X 259 94 [some (.ref 81), some (.int x1), some (.int x2), some (.int x3), some (.int x4), some (.int x5), some (.int x6)] [.int s1, .int s0] (sM mo G I J) Q =
    (sm_wp X 259 5 [some (.ref 81), some (.int x1), some (.int x2), some (.int (s0 + s1)), some (.int (x4 + 1)), none, none] [] (sM mo G I J) Q) :=
  (sm_blk X 259 94 (tt_lin 259 (by decide)) rfl rfl _ _ _ _).trans rfl
set_option maxRecDepth 100000 in
theorem bk_259_102 (X : (Nat → Int32) × Nat) (mo : Bool) (G : Nat × Nat) (I : Nat → Nat → Int32) (J : Nat → Nat → Int64) (Q : Option Value → sm_M → Prop) (x1 : Int32) (x2 : Int32) (x3 : Int32) (x4 : Int32) :
    sm_wp X 259 102 [some (.ref 81), some (.int x1), some (.int x2), some (.int x3), some (.int x4), none, none] [] (sM mo G I J) Q =
    (True ∧ Q (some (.int x3)) (sM mo G I J)) :=
  (sm_blk X 259 102 (tt_lin 259 (by decide)) rfl rfl _ _ _ _).trans rfl
set_option maxRecDepth 100000 in
theorem bk_260_0 (X : (Nat → Int32) × Nat) (mo : Bool) (G : Nat × Nat) (I : Nat → Nat → Int32) (J : Nat → Nat → Int64) (Q : Option Value → sm_M → Prop) (x0 : Int32) :
    sm_wp X 260 0 [some (.int x0)] [] (sM mo G I J) Q =
    (if (x0 : Int32) = 0 then sm_wp X 260 8 [some (.int x0)] [] (sM mo G I J) Q else (sm_wp X 260 9 [some (.int x0)] [.long 1] (sM mo G I J) Q)) :=
  (sm_blk X 260 0 (tt_lin 260 (by decide)) rfl rfl _ _ _ _).trans rfl
set_option maxRecDepth 100000 in
theorem bk_260_8 (X : (Nat → Int32) × Nat) (mo : Bool) (G : Nat × Nat) (I : Nat → Nat → Int32) (J : Nat → Nat → Int64) (Q : Option Value → sm_M → Prop) (x0 : Int32) :
    sm_wp X 260 8 [some (.int x0)] [] (sM mo G I J) Q =
    (True ∧ Q (some (.long 0)) (sM mo G I J)) :=
  (sm_blk X 260 8 (tt_lin 260 (by decide)) rfl rfl _ _ _ _).trans rfl
set_option maxRecDepth 100000 in
theorem bk_260_9 (X : (Nat → Int32) × Nat) (mo : Bool) (G : Nat × Nat) (I : Nat → Nat → Int32) (J : Nat → Nat → Int64) (Q : Option Value → sm_M → Prop) (x0 : Int32) (s0 : Int64) :
    sm_wp X 260 9 [some (.int x0)] [.long s0] (sM mo G I J) Q =
    (True ∧ Q (some (.long s0)) (sM mo G I J)) :=
  (sm_blk X 260 9 (tt_lin 260 (by decide)) rfl rfl _ _ _ _).trans rfl
set_option maxRecDepth 100000 in
theorem bk_261_0 (X : (Nat → Int32) × Nat) (mo : Bool) (G : Nat × Nat) (I : Nat → Nat → Int32) (J : Nat → Nat → Int64) (Q : Option Value → sm_M → Prop) (x1 : Int32) (x2 : Int64) (x4 : Int64) :
    sm_wp X 261 0 [some (.ref 81), some (.int x1), some (.long x2), none, some (.long x4), none] [] (sM mo G I J) Q =
    (if (x1 : Int32) = 1 then sm_wp X 261 72 [some (.ref 81), some (.int x1), some (.long x2), none, some (.long x4), none] [] (sM mo G I J) Q else if (x1 : Int32) = 2 then sm_wp X 261 88 [some (.ref 81), some (.int x1), some (.long x2), none, some (.long x4), none] [] (sM mo G I J) Q else if (x1 : Int32) = 3 then sm_wp X 261 104 [some (.ref 81), some (.int x1), some (.long x2), none, some (.long x4), none] [] (sM mo G I J) Q else if (x1 : Int32) = 4 then sm_wp X 261 120 [some (.ref 81), some (.int x1), some (.long x2), none, some (.long x4), none] [] (sM mo G I J) Q else if (x1 : Int32) = 5 then sm_wp X 261 136 [some (.ref 81), some (.int x1), some (.long x2), none, some (.long x4), none] [] (sM mo G I J) Q else if (x1 : Int32) = 6 then sm_wp X 261 152 [some (.ref 81), some (.int x1), some (.long x2), none, some (.long x4), none] [] (sM mo G I J) Q else if (x1 : Int32) = 7 then sm_wp X 261 168 [some (.ref 81), some (.int x1), some (.long x2), none, some (.long x4), none] [] (sM mo G I J) Q else if (x1 : Int32) = 8 then sm_wp X 261 177 [some (.ref 81), some (.int x1), some (.long x2), none, some (.long x4), none] [] (sM mo G I J) Q else if (x1 : Int32) = 9 then sm_wp X 261 186 [some (.ref 81), some (.int x1), some (.long x2), none, some (.long x4), none] [] (sM mo G I J) Q else if (x1 : Int32) = 10 then sm_wp X 261 241 [some (.ref 81), some (.int x1), some (.long x2), none, some (.long x4), none] [] (sM mo G I J) Q else if (x1 : Int32) = 11 then sm_wp X 261 241 [some (.ref 81), some (.int x1), some (.long x2), none, some (.long x4), none] [] (sM mo G I J) Q else if (x1 : Int32) = 12 then sm_wp X 261 315 [some (.ref 81), some (.int x1), some (.long x2), none, some (.long x4), none] [] (sM mo G I J) Q else if (x1 : Int32) = 13 then sm_wp X 261 315 [some (.ref 81), some (.int x1), some (.long x2), none, some (.long x4), none] [] (sM mo G I J) Q else if (x1 : Int32) = 14 then sm_wp X 261 293 [some (.ref 81), some (.int x1), some (.long x2), none, some (.long x4), none] [] (sM mo G I J) Q else sm_wp X 261 315 [some (.ref 81), some (.int x1), some (.long x2), none, some (.long x4), none] [] (sM mo G I J) Q) :=
  (sm_blk X 261 0 (tt_lin 261 (by decide)) rfl rfl _ _ _ _).trans rfl
set_option maxRecDepth 100000 in
theorem bk_261_72 (X : (Nat → Int32) × Nat) (mo : Bool) (G : Nat × Nat) (I : Nat → Nat → Int32) (J : Nat → Nat → Int64) (Q : Option Value → sm_M → Prop) (x1 : Int32) (x2 : Int64) (x4 : Int64) :
    sm_wp X 261 72 [some (.ref 81), some (.int x1), some (.long x2), none, some (.long x4), none] [] (sM mo G I J) Q =
    (if 0 ≤ (lg_cmp x2 x4 : Int32) then sm_wp X 261 83 [some (.ref 81), some (.int x1), some (.long x2), none, some (.long x4), none] [] (sM mo G I J) Q else (sm_wp X 261 84 [some (.ref 81), some (.int x1), some (.long x2), none, some (.long x4), none] [.int 1] (sM mo G I J) Q)) :=
  (sm_blk X 261 72 (tt_lin 261 (by decide)) rfl rfl _ _ _ _).trans rfl
set_option maxRecDepth 100000 in
theorem bk_261_83 (X : (Nat → Int32) × Nat) (mo : Bool) (G : Nat × Nat) (I : Nat → Nat → Int32) (J : Nat → Nat → Int64) (Q : Option Value → sm_M → Prop) (x1 : Int32) (x2 : Int64) (x4 : Int64) :
    sm_wp X 261 83 [some (.ref 81), some (.int x1), some (.long x2), none, some (.long x4), none] [] (sM mo G I J) Q =
    (sm_wp X 260 0 [some (.int 0)] [] (sM mo G I J) (fun v M => sm_wp X 261 87 [some (.ref 81), some (.int x1), some (.long x2), none, some (.long x4), none] (v.toList ++ []) M Q)) :=
  (sm_blk X 261 83 (tt_lin 261 (by decide)) rfl rfl _ _ _ _).trans rfl
set_option maxRecDepth 100000 in
theorem bk_261_84 (X : (Nat → Int32) × Nat) (mo : Bool) (G : Nat × Nat) (I : Nat → Nat → Int32) (J : Nat → Nat → Int64) (Q : Option Value → sm_M → Prop) (x1 : Int32) (x2 : Int64) (x4 : Int64) (s0 : Int32) :
    sm_wp X 261 84 [some (.ref 81), some (.int x1), some (.long x2), none, some (.long x4), none] [.int s0] (sM mo G I J) Q =
    (sm_wp X 260 0 [some (.int s0)] [] (sM mo G I J) (fun v M => sm_wp X 261 87 [some (.ref 81), some (.int x1), some (.long x2), none, some (.long x4), none] (v.toList ++ []) M Q)) :=
  (sm_blk X 261 84 (tt_lin 261 (by decide)) rfl rfl _ _ _ _).trans rfl
set_option maxRecDepth 100000 in
theorem bk_261_87 (X : (Nat → Int32) × Nat) (mo : Bool) (G : Nat × Nat) (I : Nat → Nat → Int32) (J : Nat → Nat → Int64) (Q : Option Value → sm_M → Prop) (x1 : Int32) (x2 : Int64) (x4 : Int64) (s0 : Int64) :
    sm_wp X 261 87 [some (.ref 81), some (.int x1), some (.long x2), none, some (.long x4), none] [.long s0] (sM mo G I J) Q =
    (True ∧ Q (some (.long s0)) (sM mo G I J)) :=
  (sm_blk X 261 87 (tt_lin 261 (by decide)) rfl rfl _ _ _ _).trans rfl
set_option maxRecDepth 100000 in
theorem bk_261_88 (X : (Nat → Int32) × Nat) (mo : Bool) (G : Nat × Nat) (I : Nat → Nat → Int32) (J : Nat → Nat → Int64) (Q : Option Value → sm_M → Prop) (x1 : Int32) (x2 : Int64) (x4 : Int64) :
    sm_wp X 261 88 [some (.ref 81), some (.int x1), some (.long x2), none, some (.long x4), none] [] (sM mo G I J) Q =
    (if 0 < (lg_cmp x2 x4 : Int32) then sm_wp X 261 99 [some (.ref 81), some (.int x1), some (.long x2), none, some (.long x4), none] [] (sM mo G I J) Q else (sm_wp X 261 100 [some (.ref 81), some (.int x1), some (.long x2), none, some (.long x4), none] [.int 1] (sM mo G I J) Q)) :=
  (sm_blk X 261 88 (tt_lin 261 (by decide)) rfl rfl _ _ _ _).trans rfl
set_option maxRecDepth 100000 in
theorem bk_261_99 (X : (Nat → Int32) × Nat) (mo : Bool) (G : Nat × Nat) (I : Nat → Nat → Int32) (J : Nat → Nat → Int64) (Q : Option Value → sm_M → Prop) (x1 : Int32) (x2 : Int64) (x4 : Int64) :
    sm_wp X 261 99 [some (.ref 81), some (.int x1), some (.long x2), none, some (.long x4), none] [] (sM mo G I J) Q =
    (sm_wp X 260 0 [some (.int 0)] [] (sM mo G I J) (fun v M => sm_wp X 261 103 [some (.ref 81), some (.int x1), some (.long x2), none, some (.long x4), none] (v.toList ++ []) M Q)) :=
  (sm_blk X 261 99 (tt_lin 261 (by decide)) rfl rfl _ _ _ _).trans rfl
set_option maxRecDepth 100000 in
theorem bk_261_100 (X : (Nat → Int32) × Nat) (mo : Bool) (G : Nat × Nat) (I : Nat → Nat → Int32) (J : Nat → Nat → Int64) (Q : Option Value → sm_M → Prop) (x1 : Int32) (x2 : Int64) (x4 : Int64) (s0 : Int32) :
    sm_wp X 261 100 [some (.ref 81), some (.int x1), some (.long x2), none, some (.long x4), none] [.int s0] (sM mo G I J) Q =
    (sm_wp X 260 0 [some (.int s0)] [] (sM mo G I J) (fun v M => sm_wp X 261 103 [some (.ref 81), some (.int x1), some (.long x2), none, some (.long x4), none] (v.toList ++ []) M Q)) :=
  (sm_blk X 261 100 (tt_lin 261 (by decide)) rfl rfl _ _ _ _).trans rfl
set_option maxRecDepth 100000 in
theorem bk_261_103 (X : (Nat → Int32) × Nat) (mo : Bool) (G : Nat × Nat) (I : Nat → Nat → Int32) (J : Nat → Nat → Int64) (Q : Option Value → sm_M → Prop) (x1 : Int32) (x2 : Int64) (x4 : Int64) (s0 : Int64) :
    sm_wp X 261 103 [some (.ref 81), some (.int x1), some (.long x2), none, some (.long x4), none] [.long s0] (sM mo G I J) Q =
    (True ∧ Q (some (.long s0)) (sM mo G I J)) :=
  (sm_blk X 261 103 (tt_lin 261 (by decide)) rfl rfl _ _ _ _).trans rfl
set_option maxRecDepth 100000 in
theorem bk_261_104 (X : (Nat → Int32) × Nat) (mo : Bool) (G : Nat × Nat) (I : Nat → Nat → Int32) (J : Nat → Nat → Int64) (Q : Option Value → sm_M → Prop) (x1 : Int32) (x2 : Int64) (x4 : Int64) :
    sm_wp X 261 104 [some (.ref 81), some (.int x1), some (.long x2), none, some (.long x4), none] [] (sM mo G I J) Q =
    (if ¬ (lg_cmp x2 x4 : Int32) = 0 then sm_wp X 261 115 [some (.ref 81), some (.int x1), some (.long x2), none, some (.long x4), none] [] (sM mo G I J) Q else (sm_wp X 261 116 [some (.ref 81), some (.int x1), some (.long x2), none, some (.long x4), none] [.int 1] (sM mo G I J) Q)) :=
  (sm_blk X 261 104 (tt_lin 261 (by decide)) rfl rfl _ _ _ _).trans rfl
set_option maxRecDepth 100000 in
theorem bk_261_115 (X : (Nat → Int32) × Nat) (mo : Bool) (G : Nat × Nat) (I : Nat → Nat → Int32) (J : Nat → Nat → Int64) (Q : Option Value → sm_M → Prop) (x1 : Int32) (x2 : Int64) (x4 : Int64) :
    sm_wp X 261 115 [some (.ref 81), some (.int x1), some (.long x2), none, some (.long x4), none] [] (sM mo G I J) Q =
    (sm_wp X 260 0 [some (.int 0)] [] (sM mo G I J) (fun v M => sm_wp X 261 119 [some (.ref 81), some (.int x1), some (.long x2), none, some (.long x4), none] (v.toList ++ []) M Q)) :=
  (sm_blk X 261 115 (tt_lin 261 (by decide)) rfl rfl _ _ _ _).trans rfl
set_option maxRecDepth 100000 in
theorem bk_261_116 (X : (Nat → Int32) × Nat) (mo : Bool) (G : Nat × Nat) (I : Nat → Nat → Int32) (J : Nat → Nat → Int64) (Q : Option Value → sm_M → Prop) (x1 : Int32) (x2 : Int64) (x4 : Int64) (s0 : Int32) :
    sm_wp X 261 116 [some (.ref 81), some (.int x1), some (.long x2), none, some (.long x4), none] [.int s0] (sM mo G I J) Q =
    (sm_wp X 260 0 [some (.int s0)] [] (sM mo G I J) (fun v M => sm_wp X 261 119 [some (.ref 81), some (.int x1), some (.long x2), none, some (.long x4), none] (v.toList ++ []) M Q)) :=
  (sm_blk X 261 116 (tt_lin 261 (by decide)) rfl rfl _ _ _ _).trans rfl
set_option maxRecDepth 100000 in
theorem bk_261_119 (X : (Nat → Int32) × Nat) (mo : Bool) (G : Nat × Nat) (I : Nat → Nat → Int32) (J : Nat → Nat → Int64) (Q : Option Value → sm_M → Prop) (x1 : Int32) (x2 : Int64) (x4 : Int64) (s0 : Int64) :
    sm_wp X 261 119 [some (.ref 81), some (.int x1), some (.long x2), none, some (.long x4), none] [.long s0] (sM mo G I J) Q =
    (True ∧ Q (some (.long s0)) (sM mo G I J)) :=
  (sm_blk X 261 119 (tt_lin 261 (by decide)) rfl rfl _ _ _ _).trans rfl
set_option maxRecDepth 100000 in
theorem bk_261_120 (X : (Nat → Int32) × Nat) (mo : Bool) (G : Nat × Nat) (I : Nat → Nat → Int32) (J : Nat → Nat → Int64) (Q : Option Value → sm_M → Prop) (x1 : Int32) (x2 : Int64) (x4 : Int64) :
    sm_wp X 261 120 [some (.ref 81), some (.int x1), some (.long x2), none, some (.long x4), none] [] (sM mo G I J) Q =
    (if (lg_cmp x2 x4 : Int32) = 0 then sm_wp X 261 131 [some (.ref 81), some (.int x1), some (.long x2), none, some (.long x4), none] [] (sM mo G I J) Q else (sm_wp X 261 132 [some (.ref 81), some (.int x1), some (.long x2), none, some (.long x4), none] [.int 1] (sM mo G I J) Q)) :=
  (sm_blk X 261 120 (tt_lin 261 (by decide)) rfl rfl _ _ _ _).trans rfl
set_option maxRecDepth 100000 in
theorem bk_261_131 (X : (Nat → Int32) × Nat) (mo : Bool) (G : Nat × Nat) (I : Nat → Nat → Int32) (J : Nat → Nat → Int64) (Q : Option Value → sm_M → Prop) (x1 : Int32) (x2 : Int64) (x4 : Int64) :
    sm_wp X 261 131 [some (.ref 81), some (.int x1), some (.long x2), none, some (.long x4), none] [] (sM mo G I J) Q =
    (sm_wp X 260 0 [some (.int 0)] [] (sM mo G I J) (fun v M => sm_wp X 261 135 [some (.ref 81), some (.int x1), some (.long x2), none, some (.long x4), none] (v.toList ++ []) M Q)) :=
  (sm_blk X 261 131 (tt_lin 261 (by decide)) rfl rfl _ _ _ _).trans rfl
set_option maxRecDepth 100000 in
theorem bk_261_132 (X : (Nat → Int32) × Nat) (mo : Bool) (G : Nat × Nat) (I : Nat → Nat → Int32) (J : Nat → Nat → Int64) (Q : Option Value → sm_M → Prop) (x1 : Int32) (x2 : Int64) (x4 : Int64) (s0 : Int32) :
    sm_wp X 261 132 [some (.ref 81), some (.int x1), some (.long x2), none, some (.long x4), none] [.int s0] (sM mo G I J) Q =
    (sm_wp X 260 0 [some (.int s0)] [] (sM mo G I J) (fun v M => sm_wp X 261 135 [some (.ref 81), some (.int x1), some (.long x2), none, some (.long x4), none] (v.toList ++ []) M Q)) :=
  (sm_blk X 261 132 (tt_lin 261 (by decide)) rfl rfl _ _ _ _).trans rfl
set_option maxRecDepth 100000 in
theorem bk_261_135 (X : (Nat → Int32) × Nat) (mo : Bool) (G : Nat × Nat) (I : Nat → Nat → Int32) (J : Nat → Nat → Int64) (Q : Option Value → sm_M → Prop) (x1 : Int32) (x2 : Int64) (x4 : Int64) (s0 : Int64) :
    sm_wp X 261 135 [some (.ref 81), some (.int x1), some (.long x2), none, some (.long x4), none] [.long s0] (sM mo G I J) Q =
    (True ∧ Q (some (.long s0)) (sM mo G I J)) :=
  (sm_blk X 261 135 (tt_lin 261 (by decide)) rfl rfl _ _ _ _).trans rfl
set_option maxRecDepth 100000 in
theorem bk_261_136 (X : (Nat → Int32) × Nat) (mo : Bool) (G : Nat × Nat) (I : Nat → Nat → Int32) (J : Nat → Nat → Int64) (Q : Option Value → sm_M → Prop) (x1 : Int32) (x2 : Int64) (x4 : Int64) :
    sm_wp X 261 136 [some (.ref 81), some (.int x1), some (.long x2), none, some (.long x4), none] [] (sM mo G I J) Q =
    (if (lg_cmp x2 x4 : Int32) < 0 then sm_wp X 261 147 [some (.ref 81), some (.int x1), some (.long x2), none, some (.long x4), none] [] (sM mo G I J) Q else (sm_wp X 261 148 [some (.ref 81), some (.int x1), some (.long x2), none, some (.long x4), none] [.int 1] (sM mo G I J) Q)) :=
  (sm_blk X 261 136 (tt_lin 261 (by decide)) rfl rfl _ _ _ _).trans rfl
set_option maxRecDepth 100000 in
theorem bk_261_147 (X : (Nat → Int32) × Nat) (mo : Bool) (G : Nat × Nat) (I : Nat → Nat → Int32) (J : Nat → Nat → Int64) (Q : Option Value → sm_M → Prop) (x1 : Int32) (x2 : Int64) (x4 : Int64) :
    sm_wp X 261 147 [some (.ref 81), some (.int x1), some (.long x2), none, some (.long x4), none] [] (sM mo G I J) Q =
    (sm_wp X 260 0 [some (.int 0)] [] (sM mo G I J) (fun v M => sm_wp X 261 151 [some (.ref 81), some (.int x1), some (.long x2), none, some (.long x4), none] (v.toList ++ []) M Q)) :=
  (sm_blk X 261 147 (tt_lin 261 (by decide)) rfl rfl _ _ _ _).trans rfl
set_option maxRecDepth 100000 in
theorem bk_261_148 (X : (Nat → Int32) × Nat) (mo : Bool) (G : Nat × Nat) (I : Nat → Nat → Int32) (J : Nat → Nat → Int64) (Q : Option Value → sm_M → Prop) (x1 : Int32) (x2 : Int64) (x4 : Int64) (s0 : Int32) :
    sm_wp X 261 148 [some (.ref 81), some (.int x1), some (.long x2), none, some (.long x4), none] [.int s0] (sM mo G I J) Q =
    (sm_wp X 260 0 [some (.int s0)] [] (sM mo G I J) (fun v M => sm_wp X 261 151 [some (.ref 81), some (.int x1), some (.long x2), none, some (.long x4), none] (v.toList ++ []) M Q)) :=
  (sm_blk X 261 148 (tt_lin 261 (by decide)) rfl rfl _ _ _ _).trans rfl
set_option maxRecDepth 100000 in
theorem bk_261_151 (X : (Nat → Int32) × Nat) (mo : Bool) (G : Nat × Nat) (I : Nat → Nat → Int32) (J : Nat → Nat → Int64) (Q : Option Value → sm_M → Prop) (x1 : Int32) (x2 : Int64) (x4 : Int64) (s0 : Int64) :
    sm_wp X 261 151 [some (.ref 81), some (.int x1), some (.long x2), none, some (.long x4), none] [.long s0] (sM mo G I J) Q =
    (True ∧ Q (some (.long s0)) (sM mo G I J)) :=
  (sm_blk X 261 151 (tt_lin 261 (by decide)) rfl rfl _ _ _ _).trans rfl
set_option maxRecDepth 100000 in
theorem bk_261_152 (X : (Nat → Int32) × Nat) (mo : Bool) (G : Nat × Nat) (I : Nat → Nat → Int32) (J : Nat → Nat → Int64) (Q : Option Value → sm_M → Prop) (x1 : Int32) (x2 : Int64) (x4 : Int64) :
    sm_wp X 261 152 [some (.ref 81), some (.int x1), some (.long x2), none, some (.long x4), none] [] (sM mo G I J) Q =
    (if (lg_cmp x2 x4 : Int32) ≤ 0 then sm_wp X 261 163 [some (.ref 81), some (.int x1), some (.long x2), none, some (.long x4), none] [] (sM mo G I J) Q else (sm_wp X 261 164 [some (.ref 81), some (.int x1), some (.long x2), none, some (.long x4), none] [.int 1] (sM mo G I J) Q)) :=
  (sm_blk X 261 152 (tt_lin 261 (by decide)) rfl rfl _ _ _ _).trans rfl
set_option maxRecDepth 100000 in
theorem bk_261_163 (X : (Nat → Int32) × Nat) (mo : Bool) (G : Nat × Nat) (I : Nat → Nat → Int32) (J : Nat → Nat → Int64) (Q : Option Value → sm_M → Prop) (x1 : Int32) (x2 : Int64) (x4 : Int64) :
    sm_wp X 261 163 [some (.ref 81), some (.int x1), some (.long x2), none, some (.long x4), none] [] (sM mo G I J) Q =
    (sm_wp X 260 0 [some (.int 0)] [] (sM mo G I J) (fun v M => sm_wp X 261 167 [some (.ref 81), some (.int x1), some (.long x2), none, some (.long x4), none] (v.toList ++ []) M Q)) :=
  (sm_blk X 261 163 (tt_lin 261 (by decide)) rfl rfl _ _ _ _).trans rfl
set_option maxRecDepth 100000 in
theorem bk_261_164 (X : (Nat → Int32) × Nat) (mo : Bool) (G : Nat × Nat) (I : Nat → Nat → Int32) (J : Nat → Nat → Int64) (Q : Option Value → sm_M → Prop) (x1 : Int32) (x2 : Int64) (x4 : Int64) (s0 : Int32) :
    sm_wp X 261 164 [some (.ref 81), some (.int x1), some (.long x2), none, some (.long x4), none] [.int s0] (sM mo G I J) Q =
    (sm_wp X 260 0 [some (.int s0)] [] (sM mo G I J) (fun v M => sm_wp X 261 167 [some (.ref 81), some (.int x1), some (.long x2), none, some (.long x4), none] (v.toList ++ []) M Q)) :=
  (sm_blk X 261 164 (tt_lin 261 (by decide)) rfl rfl _ _ _ _).trans rfl
set_option maxRecDepth 100000 in
theorem bk_261_167 (X : (Nat → Int32) × Nat) (mo : Bool) (G : Nat × Nat) (I : Nat → Nat → Int32) (J : Nat → Nat → Int64) (Q : Option Value → sm_M → Prop) (x1 : Int32) (x2 : Int64) (x4 : Int64) (s0 : Int64) :
    sm_wp X 261 167 [some (.ref 81), some (.int x1), some (.long x2), none, some (.long x4), none] [.long s0] (sM mo G I J) Q =
    (True ∧ Q (some (.long s0)) (sM mo G I J)) :=
  (sm_blk X 261 167 (tt_lin 261 (by decide)) rfl rfl _ _ _ _).trans rfl
set_option maxRecDepth 100000 in
theorem bk_261_168 (X : (Nat → Int32) × Nat) (mo : Bool) (G : Nat × Nat) (I : Nat → Nat → Int32) (J : Nat → Nat → Int64) (Q : Option Value → sm_M → Prop) (x1 : Int32) (x2 : Int64) (x4 : Int64) :
    sm_wp X 261 168 [some (.ref 81), some (.int x1), some (.long x2), none, some (.long x4), none] [] (sM mo G I J) Q =
    (sm_wp X 262 0 [some (.ref 81), some (.long (x2 + x4)), none] [] (sM mo G I J) (fun v M => sm_wp X 261 176 [some (.ref 81), some (.int x1), some (.long x2), none, some (.long x4), none] (v.toList ++ []) M Q)) :=
  (sm_blk X 261 168 (tt_lin 261 (by decide)) rfl rfl _ _ _ _).trans rfl
set_option maxRecDepth 100000 in
theorem bk_261_176 (X : (Nat → Int32) × Nat) (mo : Bool) (G : Nat × Nat) (I : Nat → Nat → Int32) (J : Nat → Nat → Int64) (Q : Option Value → sm_M → Prop) (x1 : Int32) (x2 : Int64) (x4 : Int64) (s0 : Int64) :
    sm_wp X 261 176 [some (.ref 81), some (.int x1), some (.long x2), none, some (.long x4), none] [.long s0] (sM mo G I J) Q =
    (True ∧ Q (some (.long s0)) (sM mo G I J)) :=
  (sm_blk X 261 176 (tt_lin 261 (by decide)) rfl rfl _ _ _ _).trans rfl
set_option maxRecDepth 100000 in
theorem bk_261_177 (X : (Nat → Int32) × Nat) (mo : Bool) (G : Nat × Nat) (I : Nat → Nat → Int32) (J : Nat → Nat → Int64) (Q : Option Value → sm_M → Prop) (x1 : Int32) (x2 : Int64) (x4 : Int64) :
    sm_wp X 261 177 [some (.ref 81), some (.int x1), some (.long x2), none, some (.long x4), none] [] (sM mo G I J) Q =
    (sm_wp X 262 0 [some (.ref 81), some (.long (x2 - x4)), none] [] (sM mo G I J) (fun v M => sm_wp X 261 185 [some (.ref 81), some (.int x1), some (.long x2), none, some (.long x4), none] (v.toList ++ []) M Q)) :=
  (sm_blk X 261 177 (tt_lin 261 (by decide)) rfl rfl _ _ _ _).trans rfl
set_option maxRecDepth 100000 in
theorem bk_261_185 (X : (Nat → Int32) × Nat) (mo : Bool) (G : Nat × Nat) (I : Nat → Nat → Int32) (J : Nat → Nat → Int64) (Q : Option Value → sm_M → Prop) (x1 : Int32) (x2 : Int64) (x4 : Int64) (s0 : Int64) :
    sm_wp X 261 185 [some (.ref 81), some (.int x1), some (.long x2), none, some (.long x4), none] [.long s0] (sM mo G I J) Q =
    (True ∧ Q (some (.long s0)) (sM mo G I J)) :=
  (sm_blk X 261 185 (tt_lin 261 (by decide)) rfl rfl _ _ _ _).trans rfl
set_option maxRecDepth 100000 in
theorem bk_261_186 (X : (Nat → Int32) × Nat) (mo : Bool) (G : Nat × Nat) (I : Nat → Nat → Int32) (J : Nat → Nat → Int64) (Q : Option Value → sm_M → Prop) (x1 : Int32) (x2 : Int64) (x4 : Int64) :
    sm_wp X 261 186 [some (.ref 81), some (.int x1), some (.long x2), none, some (.long x4), none] [] (sM mo G I J) Q =
    (if ¬ (I 81 63 : Int32) = 0 then sm_wp X 261 217 [some (.ref 81), some (.int x1), some (.long x2), none, some (.long x4), none] [.ref 81] (sM mo G I J) Q else (if (lg_cmp x2 0 : Int32) = 0 then sm_wp X 261 221 [some (.ref 81), some (.int x1), some (.long x2), none, some (.long x4), none] [.ref 81] (sM mo G I J) Q else (sm_wp X 263 0 [some (.long x4), none] [] (sM mo G I J) (fun v M => sm_wp X 261 205 [some (.ref 81), some (.int x1), some (.long x2), none, some (.long x4), none] (v.toList ++ [.ref 81]) M Q)))) :=
  (sm_blk X 261 186 (tt_lin 261 (by decide)) rfl rfl _ _ _ _).trans rfl
set_option maxRecDepth 100000 in
theorem bk_261_205 (X : (Nat → Int32) × Nat) (mo : Bool) (G : Nat × Nat) (I : Nat → Nat → Int32) (J : Nat → Nat → Int64) (Q : Option Value → sm_M → Prop) (x1 : Int32) (x2 : Int64) (x4 : Int64) (s1 : Int64) :
    sm_wp X 261 205 [some (.ref 81), some (.int x1), some (.long x2), none, some (.long x4), none] [.long s1, .ref 81] (sM mo G I J) Q =
    (sm_wp X 263 0 [some (.long x2), none] [] (sM mo G I J) (fun v M => sm_wp X 261 212 [some (.ref 81), some (.int x1), some (.long x2), none, some (.long x4), none] (v.toList ++ [.long 1000000000000, .long s1, .ref 81]) M Q)) :=
  (sm_blk X 261 205 (tt_lin 261 (by decide)) rfl rfl _ _ _ _).trans rfl
set_option maxRecDepth 100000 in
theorem bk_261_212 (X : (Nat → Int32) × Nat) (mo : Bool) (G : Nat × Nat) (I : Nat → Nat → Int32) (J : Nat → Nat → Int64) (Q : Option Value → sm_M → Prop) (x1 : Int32) (x2 : Int64) (x4 : Int64) (s1 : Int64) (s2 : Int64) (s3 : Int64) :
    sm_wp X 261 212 [some (.ref 81), some (.int x1), some (.long x2), none, some (.long x4), none] [.long s3, .long s2, .long s1, .ref 81] (sM mo G I J) Q =
    (¬ (s3 : Int64) = 0 ∧ (if (lg_cmp s1 (s2 / s3) : Int32) ≤ 0 then sm_wp X 261 221 [some (.ref 81), some (.int x1), some (.long x2), none, some (.long x4), none] [.ref 81] (sM mo G I J) Q else (sm_wp X 261 222 [some (.ref 81), some (.int x1), some (.long x2), none, some (.long x4), none] [.int 1, .ref 81] (sM mo G I J) Q))) :=
  (sm_blk X 261 212 (tt_lin 261 (by decide)) rfl rfl _ _ _ _).trans rfl
set_option maxRecDepth 100000 in
theorem bk_261_217 (X : (Nat → Int32) × Nat) (mo : Bool) (G : Nat × Nat) (I : Nat → Nat → Int32) (J : Nat → Nat → Int64) (Q : Option Value → sm_M → Prop) (x1 : Int32) (x2 : Int64) (x4 : Int64) :
    sm_wp X 261 217 [some (.ref 81), some (.int x1), some (.long x2), none, some (.long x4), none] [.ref 81] (sM mo G I J) Q =
    (sm_wp X 261 222 [some (.ref 81), some (.int x1), some (.long x2), none, some (.long x4), none] [.int 1, .ref 81] (sM mo G I J) Q) :=
  (sm_blk X 261 217 (tt_lin 261 (by decide)) rfl rfl _ _ _ _).trans rfl
set_option maxRecDepth 100000 in
theorem bk_261_221 (X : (Nat → Int32) × Nat) (mo : Bool) (G : Nat × Nat) (I : Nat → Nat → Int32) (J : Nat → Nat → Int64) (Q : Option Value → sm_M → Prop) (x1 : Int32) (x2 : Int64) (x4 : Int64) :
    sm_wp X 261 221 [some (.ref 81), some (.int x1), some (.long x2), none, some (.long x4), none] [.ref 81] (sM mo G I J) Q =
    (sm_zb 0 ∧ (if ((up2 I 81 63 0) 81 63 : Int32) = 0 then sm_wp X 261 236 [some (.ref 81), some (.int x1), some (.long x2), none, some (.long x4), none] [] (sM mo G (up2 I 81 63 0) J) Q else (sm_wp X 261 240 [some (.ref 81), some (.int x1), some (.long x2), none, some (.long x4), none] [.long 0] (sM mo G (up2 I 81 63 0) J) Q))) :=
  (sm_blk X 261 221 (tt_lin 261 (by decide)) rfl rfl _ _ _ _).trans rfl
set_option maxRecDepth 100000 in
theorem bk_261_222 (X : (Nat → Int32) × Nat) (mo : Bool) (G : Nat × Nat) (I : Nat → Nat → Int32) (J : Nat → Nat → Int64) (Q : Option Value → sm_M → Prop) (x1 : Int32) (x2 : Int64) (x4 : Int64) (s1 : Int32) :
    sm_wp X 261 222 [some (.ref 81), some (.int x1), some (.long x2), none, some (.long x4), none] [.int s1, .ref 81] (sM mo G I J) Q =
    (sm_zb s1 ∧ (if ((up2 I 81 63 s1) 81 63 : Int32) = 0 then sm_wp X 261 236 [some (.ref 81), some (.int x1), some (.long x2), none, some (.long x4), none] [] (sM mo G (up2 I 81 63 s1) J) Q else (sm_wp X 261 240 [some (.ref 81), some (.int x1), some (.long x2), none, some (.long x4), none] [.long 0] (sM mo G (up2 I 81 63 s1) J) Q))) :=
  (sm_blk X 261 222 (tt_lin 261 (by decide)) rfl rfl _ _ _ _).trans rfl
set_option maxRecDepth 100000 in
theorem bk_261_236 (X : (Nat → Int32) × Nat) (mo : Bool) (G : Nat × Nat) (I : Nat → Nat → Int32) (J : Nat → Nat → Int64) (Q : Option Value → sm_M → Prop) (x1 : Int32) (x2 : Int64) (x4 : Int64) :
    sm_wp X 261 236 [some (.ref 81), some (.int x1), some (.long x2), none, some (.long x4), none] [] (sM mo G I J) Q =
    (True ∧ Q (some (.long (x2 * x4))) (sM mo G I J)) :=
  (sm_blk X 261 236 (tt_lin 261 (by decide)) rfl rfl _ _ _ _).trans rfl
set_option maxRecDepth 100000 in
theorem bk_261_240 (X : (Nat → Int32) × Nat) (mo : Bool) (G : Nat × Nat) (I : Nat → Nat → Int32) (J : Nat → Nat → Int64) (Q : Option Value → sm_M → Prop) (x1 : Int32) (x2 : Int64) (x4 : Int64) (s0 : Int64) :
    sm_wp X 261 240 [some (.ref 81), some (.int x1), some (.long x2), none, some (.long x4), none] [.long s0] (sM mo G I J) Q =
    (True ∧ Q (some (.long s0)) (sM mo G I J)) :=
  (sm_blk X 261 240 (tt_lin 261 (by decide)) rfl rfl _ _ _ _).trans rfl
set_option maxRecDepth 100000 in
theorem bk_261_241 (X : (Nat → Int32) × Nat) (mo : Bool) (G : Nat × Nat) (I : Nat → Nat → Int32) (J : Nat → Nat → Int64) (Q : Option Value → sm_M → Prop) (x1 : Int32) (x2 : Int64) (x4 : Int64) :
    sm_wp X 261 241 [some (.ref 81), some (.int x1), some (.long x2), none, some (.long x4), none] [] (sM mo G I J) Q =
    (if ¬ (I 81 63 : Int32) = 0 then sm_wp X 261 256 [some (.ref 81), some (.int x1), some (.long x2), none, some (.long x4), none] [.ref 81] (sM mo G I J) Q else (if ¬ (lg_cmp x4 0 : Int32) = 0 then sm_wp X 261 260 [some (.ref 81), some (.int x1), some (.long x2), none, some (.long x4), none] [.ref 81] (sM mo G I J) Q else (sm_wp X 261 261 [some (.ref 81), some (.int x1), some (.long x2), none, some (.long x4), none] [.int 1, .ref 81] (sM mo G I J) Q))) :=
  (sm_blk X 261 241 (tt_lin 261 (by decide)) rfl rfl _ _ _ _).trans rfl
set_option maxRecDepth 100000 in
theorem bk_261_256 (X : (Nat → Int32) × Nat) (mo : Bool) (G : Nat × Nat) (I : Nat → Nat → Int32) (J : Nat → Nat → Int64) (Q : Option Value → sm_M → Prop) (x1 : Int32) (x2 : Int64) (x4 : Int64) :
    sm_wp X 261 256 [some (.ref 81), some (.int x1), some (.long x2), none, some (.long x4), none] [.ref 81] (sM mo G I J) Q =
    (sm_wp X 261 261 [some (.ref 81), some (.int x1), some (.long x2), none, some (.long x4), none] [.int 1, .ref 81] (sM mo G I J) Q) :=
  (sm_blk X 261 256 (tt_lin 261 (by decide)) rfl rfl _ _ _ _).trans rfl
set_option maxRecDepth 100000 in
theorem bk_261_260 (X : (Nat → Int32) × Nat) (mo : Bool) (G : Nat × Nat) (I : Nat → Nat → Int32) (J : Nat → Nat → Int64) (Q : Option Value → sm_M → Prop) (x1 : Int32) (x2 : Int64) (x4 : Int64) :
    sm_wp X 261 260 [some (.ref 81), some (.int x1), some (.long x2), none, some (.long x4), none] [.ref 81] (sM mo G I J) Q =
    (sm_zb 0 ∧ (if ((up2 I 81 63 0) 81 63 : Int32) = 0 then sm_wp X 261 275 [some (.ref 81), some (.int x1), some (.long x2), none, some (.long x4), none] [] (sM mo G (up2 I 81 63 0) J) Q else (sm_wp X 261 292 [some (.ref 81), some (.int x1), some (.long x2), none, some (.long x4), none] [.long 0] (sM mo G (up2 I 81 63 0) J) Q))) :=
  (sm_blk X 261 260 (tt_lin 261 (by decide)) rfl rfl _ _ _ _).trans rfl
set_option maxRecDepth 100000 in
theorem bk_261_261 (X : (Nat → Int32) × Nat) (mo : Bool) (G : Nat × Nat) (I : Nat → Nat → Int32) (J : Nat → Nat → Int64) (Q : Option Value → sm_M → Prop) (x1 : Int32) (x2 : Int64) (x4 : Int64) (s1 : Int32) :
    sm_wp X 261 261 [some (.ref 81), some (.int x1), some (.long x2), none, some (.long x4), none] [.int s1, .ref 81] (sM mo G I J) Q =
    (sm_zb s1 ∧ (if ((up2 I 81 63 s1) 81 63 : Int32) = 0 then sm_wp X 261 275 [some (.ref 81), some (.int x1), some (.long x2), none, some (.long x4), none] [] (sM mo G (up2 I 81 63 s1) J) Q else (sm_wp X 261 292 [some (.ref 81), some (.int x1), some (.long x2), none, some (.long x4), none] [.long 0] (sM mo G (up2 I 81 63 s1) J) Q))) :=
  (sm_blk X 261 261 (tt_lin 261 (by decide)) rfl rfl _ _ _ _).trans rfl
set_option maxRecDepth 100000 in
theorem bk_261_275 (X : (Nat → Int32) × Nat) (mo : Bool) (G : Nat × Nat) (I : Nat → Nat → Int32) (J : Nat → Nat → Int64) (Q : Option Value → sm_M → Prop) (x1 : Int32) (x2 : Int64) (x4 : Int64) :
    sm_wp X 261 275 [some (.ref 81), some (.int x1), some (.long x2), none, some (.long x4), none] [] (sM mo G I J) Q =
    (if ¬ (x1 : Int32) = (10 : Int32) then sm_wp X 261 288 [some (.ref 81), some (.int x1), some (.long x2), none, some (.long x4), none] [] (sM mo G I J) Q else (¬ (x4 : Int64) = 0 ∧ (sm_wp X 261 292 [some (.ref 81), some (.int x1), some (.long x2), none, some (.long x4), none] [.long (x2 / x4)] (sM mo G I J) Q))) :=
  (sm_blk X 261 275 (tt_lin 261 (by decide)) rfl rfl _ _ _ _).trans rfl
set_option maxRecDepth 100000 in
theorem bk_261_288 (X : (Nat → Int32) × Nat) (mo : Bool) (G : Nat × Nat) (I : Nat → Nat → Int32) (J : Nat → Nat → Int64) (Q : Option Value → sm_M → Prop) (x1 : Int32) (x2 : Int64) (x4 : Int64) :
    sm_wp X 261 288 [some (.ref 81), some (.int x1), some (.long x2), none, some (.long x4), none] [] (sM mo G I J) Q =
    (¬ (x4 : Int64) = 0 ∧ (True ∧ Q (some (.long (x2 - x2 / x4 * x4))) (sM mo G I J))) :=
  (sm_blk X 261 288 (tt_lin 261 (by decide)) rfl rfl _ _ _ _).trans rfl
set_option maxRecDepth 100000 in
theorem bk_261_292 (X : (Nat → Int32) × Nat) (mo : Bool) (G : Nat × Nat) (I : Nat → Nat → Int32) (J : Nat → Nat → Int64) (Q : Option Value → sm_M → Prop) (x1 : Int32) (x2 : Int64) (x4 : Int64) (s0 : Int64) :
    sm_wp X 261 292 [some (.ref 81), some (.int x1), some (.long x2), none, some (.long x4), none] [.long s0] (sM mo G I J) Q =
    (True ∧ Q (some (.long s0)) (sM mo G I J)) :=
  (sm_blk X 261 292 (tt_lin 261 (by decide)) rfl rfl _ _ _ _).trans rfl
set_option maxRecDepth 100000 in
theorem bk_261_293 (X : (Nat → Int32) × Nat) (mo : Bool) (G : Nat × Nat) (I : Nat → Nat → Int32) (J : Nat → Nat → Int64) (Q : Option Value → sm_M → Prop) (x1 : Int32) (x2 : Int64) (x4 : Int64) :
    sm_wp X 261 293 [some (.ref 81), some (.int x1), some (.long x2), none, some (.long x4), none] [] (sM mo G I J) Q =
    (if (lg_cmp x2 0 : Int32) = 0 then sm_wp X 261 310 [some (.ref 81), some (.int x1), some (.long x2), none, some (.long x4), none] [] (sM mo G I J) Q else (if (lg_cmp x4 0 : Int32) = 0 then sm_wp X 261 310 [some (.ref 81), some (.int x1), some (.long x2), none, some (.long x4), none] [] (sM mo G I J) Q else (sm_wp X 261 311 [some (.ref 81), some (.int x1), some (.long x2), none, some (.long x4), none] [.int 1] (sM mo G I J) Q))) :=
  (sm_blk X 261 293 (tt_lin 261 (by decide)) rfl rfl _ _ _ _).trans rfl
set_option maxRecDepth 100000 in
theorem bk_261_310 (X : (Nat → Int32) × Nat) (mo : Bool) (G : Nat × Nat) (I : Nat → Nat → Int32) (J : Nat → Nat → Int64) (Q : Option Value → sm_M → Prop) (x1 : Int32) (x2 : Int64) (x4 : Int64) :
    sm_wp X 261 310 [some (.ref 81), some (.int x1), some (.long x2), none, some (.long x4), none] [] (sM mo G I J) Q =
    (sm_wp X 260 0 [some (.int 0)] [] (sM mo G I J) (fun v M => sm_wp X 261 314 [some (.ref 81), some (.int x1), some (.long x2), none, some (.long x4), none] (v.toList ++ []) M Q)) :=
  (sm_blk X 261 310 (tt_lin 261 (by decide)) rfl rfl _ _ _ _).trans rfl
set_option maxRecDepth 100000 in
theorem bk_261_311 (X : (Nat → Int32) × Nat) (mo : Bool) (G : Nat × Nat) (I : Nat → Nat → Int32) (J : Nat → Nat → Int64) (Q : Option Value → sm_M → Prop) (x1 : Int32) (x2 : Int64) (x4 : Int64) (s0 : Int32) :
    sm_wp X 261 311 [some (.ref 81), some (.int x1), some (.long x2), none, some (.long x4), none] [.int s0] (sM mo G I J) Q =
    (sm_wp X 260 0 [some (.int s0)] [] (sM mo G I J) (fun v M => sm_wp X 261 314 [some (.ref 81), some (.int x1), some (.long x2), none, some (.long x4), none] (v.toList ++ []) M Q)) :=
  (sm_blk X 261 311 (tt_lin 261 (by decide)) rfl rfl _ _ _ _).trans rfl
set_option maxRecDepth 100000 in
theorem bk_261_314 (X : (Nat → Int32) × Nat) (mo : Bool) (G : Nat × Nat) (I : Nat → Nat → Int32) (J : Nat → Nat → Int64) (Q : Option Value → sm_M → Prop) (x1 : Int32) (x2 : Int64) (x4 : Int64) (s0 : Int64) :
    sm_wp X 261 314 [some (.ref 81), some (.int x1), some (.long x2), none, some (.long x4), none] [.long s0] (sM mo G I J) Q =
    (True ∧ Q (some (.long s0)) (sM mo G I J)) :=
  (sm_blk X 261 314 (tt_lin 261 (by decide)) rfl rfl _ _ _ _).trans rfl
set_option maxRecDepth 100000 in
theorem bk_261_315 (X : (Nat → Int32) × Nat) (mo : Bool) (G : Nat × Nat) (I : Nat → Nat → Int32) (J : Nat → Nat → Int64) (Q : Option Value → sm_M → Prop) (x1 : Int32) (x2 : Int64) (x4 : Int64) :
    sm_wp X 261 315 [some (.ref 81), some (.int x1), some (.long x2), none, some (.long x4), none] [] (sM mo G I J) Q =
    (if ¬ (lg_cmp x2 0 : Int32) = 0 then sm_wp X 261 328 [some (.ref 81), some (.int x1), some (.long x2), none, some (.long x4), none] [] (sM mo G I J) Q else (if (lg_cmp x4 0 : Int32) = 0 then sm_wp X 261 332 [some (.ref 81), some (.int x1), some (.long x2), none, some (.long x4), none] [] (sM mo G I J) Q else (sm_wp X 261 333 [some (.ref 81), some (.int x1), some (.long x2), none, some (.long x4), none] [.int 1] (sM mo G I J) Q))) :=
  (sm_blk X 261 315 (tt_lin 261 (by decide)) rfl rfl _ _ _ _).trans rfl
set_option maxRecDepth 100000 in
theorem bk_261_328 (X : (Nat → Int32) × Nat) (mo : Bool) (G : Nat × Nat) (I : Nat → Nat → Int32) (J : Nat → Nat → Int64) (Q : Option Value → sm_M → Prop) (x1 : Int32) (x2 : Int64) (x4 : Int64) :
    sm_wp X 261 328 [some (.ref 81), some (.int x1), some (.long x2), none, some (.long x4), none] [] (sM mo G I J) Q =
    (sm_wp X 261 333 [some (.ref 81), some (.int x1), some (.long x2), none, some (.long x4), none] [.int 1] (sM mo G I J) Q) :=
  (sm_blk X 261 328 (tt_lin 261 (by decide)) rfl rfl _ _ _ _).trans rfl
set_option maxRecDepth 100000 in
theorem bk_261_332 (X : (Nat → Int32) × Nat) (mo : Bool) (G : Nat × Nat) (I : Nat → Nat → Int32) (J : Nat → Nat → Int64) (Q : Option Value → sm_M → Prop) (x1 : Int32) (x2 : Int64) (x4 : Int64) :
    sm_wp X 261 332 [some (.ref 81), some (.int x1), some (.long x2), none, some (.long x4), none] [] (sM mo G I J) Q =
    (sm_wp X 260 0 [some (.int 0)] [] (sM mo G I J) (fun v M => sm_wp X 261 336 [some (.ref 81), some (.int x1), some (.long x2), none, some (.long x4), none] (v.toList ++ []) M Q)) :=
  (sm_blk X 261 332 (tt_lin 261 (by decide)) rfl rfl _ _ _ _).trans rfl
set_option maxRecDepth 100000 in
theorem bk_261_333 (X : (Nat → Int32) × Nat) (mo : Bool) (G : Nat × Nat) (I : Nat → Nat → Int32) (J : Nat → Nat → Int64) (Q : Option Value → sm_M → Prop) (x1 : Int32) (x2 : Int64) (x4 : Int64) (s0 : Int32) :
    sm_wp X 261 333 [some (.ref 81), some (.int x1), some (.long x2), none, some (.long x4), none] [.int s0] (sM mo G I J) Q =
    (sm_wp X 260 0 [some (.int s0)] [] (sM mo G I J) (fun v M => sm_wp X 261 336 [some (.ref 81), some (.int x1), some (.long x2), none, some (.long x4), none] (v.toList ++ []) M Q)) :=
  (sm_blk X 261 333 (tt_lin 261 (by decide)) rfl rfl _ _ _ _).trans rfl
set_option maxRecDepth 100000 in
theorem bk_261_336 (X : (Nat → Int32) × Nat) (mo : Bool) (G : Nat × Nat) (I : Nat → Nat → Int32) (J : Nat → Nat → Int64) (Q : Option Value → sm_M → Prop) (x1 : Int32) (x2 : Int64) (x4 : Int64) (s0 : Int64) :
    sm_wp X 261 336 [some (.ref 81), some (.int x1), some (.long x2), none, some (.long x4), none] [.long s0] (sM mo G I J) Q =
    (True ∧ Q (some (.long s0)) (sM mo G I J)) :=
  (sm_blk X 261 336 (tt_lin 261 (by decide)) rfl rfl _ _ _ _).trans rfl
