section
set_option maxRecDepth 100000 in
theorem bk_248_0 (X : (Nat → Int32) × Nat) (mo : Bool) (G : Nat × Nat) (I : Nat → Nat → Int32) (J : Nat → Nat → Int64) (Q : Option Value → sm_M → Prop) (x1 : Int32) :
    sm_wp X 248 0 [some (.ref 81), some (.int x1)] [] (sM mo G I J) Q =
    (if (x1 : Int32) < 0 then sm_wp X 248 25 [some (.ref 81), some (.int x1)] [] (sM mo G I J) Q else (if (I 81 46 : Int32) ≤ (x1 : Int32) then sm_wp X 248 25 [some (.ref 81), some (.int x1)] [] (sM mo G I J) Q else (vp_in x1 60 ∧ (if ¬ (I 107 (x1.toNatClampNeg) : Int32) = 0 then sm_wp X 248 25 [some (.ref 81), some (.int x1)] [] (sM mo G I J) Q else (sm_wp X 248 26 [some (.ref 81), some (.int x1)] [.int 1] (sM mo G I J) Q))))) :=
  (sm_blk X 248 0 (tt_lin 248 (by decide)) rfl rfl _ _ _ _).trans rfl
set_option maxRecDepth 100000 in
theorem bk_248_25 (X : (Nat → Int32) × Nat) (mo : Bool) (G : Nat × Nat) (I : Nat → Nat → Int32) (J : Nat → Nat → Int64) (Q : Option Value → sm_M → Prop) (x1 : Int32) :
    sm_wp X 248 25 [some (.ref 81), some (.int x1)] [] (sM mo G I J) Q =
    (sm_zb 0 ∧ Q (some (.int 0)) (sM mo G I J)) :=
  (sm_blk X 248 25 (tt_lin 248 (by decide)) rfl rfl _ _ _ _).trans rfl
set_option maxRecDepth 100000 in
theorem bk_248_26 (X : (Nat → Int32) × Nat) (mo : Bool) (G : Nat × Nat) (I : Nat → Nat → Int32) (J : Nat → Nat → Int64) (Q : Option Value → sm_M → Prop) (x1 : Int32) (s0 : Int32) :
    sm_wp X 248 26 [some (.ref 81), some (.int x1)] [.int s0] (sM mo G I J) Q =
    (sm_zb s0 ∧ Q (some (.int s0)) (sM mo G I J)) :=
  (sm_blk X 248 26 (tt_lin 248 (by decide)) rfl rfl _ _ _ _).trans rfl
set_option maxRecDepth 100000 in
theorem bk_249_0 (X : (Nat → Int32) × Nat) (mo : Bool) (G : Nat × Nat) (I : Nat → Nat → Int32) (J : Nat → Nat → Int64) (Q : Option Value → sm_M → Prop) (x1 : Int32) (x2 : Int32) (x3 : Int32) :
    sm_wp X 249 0 [some (.ref 81), some (.int x1), some (.int x2), some (.int x3), none, none] [] (sM mo G I J) Q =
    (if ((up2 I 81 2 0) 81 46 : Int32) = (60 : Int32) then sm_wp X 249 40 [some (.ref 81), some (.int x1), some (.int x2), some (.int x3), none, none] [] (sM mo G (up2 I 81 2 0) J) Q else (sm_wp X 215 0 [some (.ref 81), some (.int x1)] [] (sM mo G (up2 I 81 2 0) J) (fun v M => sm_wp X 249 19 [some (.ref 81), some (.int x1), some (.int x2), some (.int x3), none, none] (v.toList ++ []) M Q))) :=
  (sm_blk X 249 0 (tt_lin 249 (by decide)) rfl rfl _ _ _ _).trans rfl
set_option maxRecDepth 100000 in
theorem bk_249_19 (X : (Nat → Int32) × Nat) (mo : Bool) (G : Nat × Nat) (I : Nat → Nat → Int32) (J : Nat → Nat → Int64) (Q : Option Value → sm_M → Prop) (x1 : Int32) (x2 : Int32) (x3 : Int32) (s0 : Int32) :
    sm_wp X 249 19 [some (.ref 81), some (.int x1), some (.int x2), some (.int x3), none, none] [.int s0] (sM mo G I J) Q =
    (if (s0 : Int32) = 0 then sm_wp X 249 40 [some (.ref 81), some (.int x1), some (.int x2), some (.int x3), none, none] [] (sM mo G I J) Q else (sm_wp X 215 0 [some (.ref 81), some (.int x2)] [] (sM mo G I J) (fun v M => sm_wp X 249 27 [some (.ref 81), some (.int x1), some (.int x2), some (.int x3), none, none] (v.toList ++ []) M Q))) :=
  (sm_blk X 249 19 (tt_lin 249 (by decide)) rfl rfl _ _ _ _).trans rfl
set_option maxRecDepth 100000 in
theorem bk_249_27 (X : (Nat → Int32) × Nat) (mo : Bool) (G : Nat × Nat) (I : Nat → Nat → Int32) (J : Nat → Nat → Int64) (Q : Option Value → sm_M → Prop) (x1 : Int32) (x2 : Int32) (x3 : Int32) (s0 : Int32) :
    sm_wp X 249 27 [some (.ref 81), some (.int x1), some (.int x2), some (.int x3), none, none] [.int s0] (sM mo G I J) Q =
    (if (s0 : Int32) = 0 then sm_wp X 249 40 [some (.ref 81), some (.int x1), some (.int x2), some (.int x3), none, none] [] (sM mo G I J) Q else (sm_wp X 210 0 [some (.int x3), some (.int 1), some (.int 99)] [] (sM mo G I J) (fun v M => sm_wp X 249 37 [some (.ref 81), some (.int x1), some (.int x2), some (.int x3), none, none] (v.toList ++ []) M Q))) :=
  (sm_blk X 249 27 (tt_lin 249 (by decide)) rfl rfl _ _ _ _).trans rfl
set_option maxRecDepth 100000 in
theorem bk_249_37 (X : (Nat → Int32) × Nat) (mo : Bool) (G : Nat × Nat) (I : Nat → Nat → Int32) (J : Nat → Nat → Int64) (Q : Option Value → sm_M → Prop) (x1 : Int32) (x2 : Int32) (x3 : Int32) (s0 : Int32) :
    sm_wp X 249 37 [some (.ref 81), some (.int x1), some (.int x2), some (.int x3), none, none] [.int s0] (sM mo G I J) Q =
    (if ¬ (s0 : Int32) = 0 then sm_wp X 249 42 [some (.ref 81), some (.int x1), some (.int x2), some (.int x3), none, none] [] (sM mo G I J) Q else (True ∧ Q (some (.int (-1))) (sM mo G I J))) :=
  (sm_blk X 249 37 (tt_lin 249 (by decide)) rfl rfl _ _ _ _).trans rfl
set_option maxRecDepth 100000 in
theorem bk_249_40 (X : (Nat → Int32) × Nat) (mo : Bool) (G : Nat × Nat) (I : Nat → Nat → Int32) (J : Nat → Nat → Int64) (Q : Option Value → sm_M → Prop) (x1 : Int32) (x2 : Int32) (x3 : Int32) :
    sm_wp X 249 40 [some (.ref 81), some (.int x1), some (.int x2), some (.int x3), none, none] [] (sM mo G I J) Q =
    (True ∧ Q (some (.int (-1))) (sM mo G I J)) :=
  (sm_blk X 249 40 (tt_lin 249 (by decide)) rfl rfl _ _ _ _).trans rfl
set_option maxRecDepth 100000 in
theorem bk_249_42 (X : (Nat → Int32) × Nat) (mo : Bool) (G : Nat × Nat) (I : Nat → Nat → Int32) (J : Nat → Nat → Int64) (Q : Option Value → sm_M → Prop) (x1 : Int32) (x2 : Int32) (x3 : Int32) :
    sm_wp X 249 42 [some (.ref 81), some (.int x1), some (.int x2), some (.int x3), none, none] [] (sM mo G I J) Q =
    (vp_in (I 81 46) 60 ∧ (vp_in ((up2 I 107 (I 81 46).toNatClampNeg (vp_nar .boolean 1)) 81 46) 60 ∧ (vp_in ((up2 (up2 I 107 (I 81 46).toNatClampNeg (vp_nar .boolean 1)) 108 ((up2 I 107 (I 81 46).toNatClampNeg (vp_nar .boolean 1)) 81 46).toNatClampNeg x1) 81 46) 60 ∧ (vp_in ((up2 (up2 (up2 I 107 (I 81 46).toNatClampNeg (vp_nar .boolean 1)) 108 ((up2 I 107 (I 81 46).toNatClampNeg (vp_nar .boolean 1)) 81 46).toNatClampNeg x1) 109 ((up2 (up2 I 107 (I 81 46).toNatClampNeg (vp_nar .boolean 1)) 108 ((up2 I 107 (I 81 46).toNatClampNeg (vp_nar .boolean 1)) 81 46).toNatClampNeg x1) 81 46).toNatClampNeg x2) 81 46) 60 ∧ (vp_in ((up2 (up2 (up2 (up2 I 107 (I 81 46).toNatClampNeg (vp_nar .boolean 1)) 108 ((up2 I 107 (I 81 46).toNatClampNeg (vp_nar .boolean 1)) 81 46).toNatClampNeg x1) 109 ((up2 (up2 I 107 (I 81 46).toNatClampNeg (vp_nar .boolean 1)) 108 ((up2 I 107 (I 81 46).toNatClampNeg (vp_nar .boolean 1)) 81 46).toNatClampNeg x1) 81 46).toNatClampNeg x2) 110 ((up2 (up2 (up2 I 107 (I 81 46).toNatClampNeg (vp_nar .boolean 1)) 108 ((up2 I 107 (I 81 46).toNatClampNeg (vp_nar .boolean 1)) 81 46).toNatClampNeg x1) 109 ((up2 (up2 I 107 (I 81 46).toNatClampNeg (vp_nar .boolean 1)) 108 ((up2 I 107 (I 81 46).toNatClampNeg (vp_nar .boolean 1)) 81 46).toNatClampNeg x1) 81 46).toNatClampNeg x2) 81 46).toNatClampNeg ((up2 (up2 (up2 I 107 (I 81 46).toNatClampNeg (vp_nar .boolean 1)) 108 ((up2 I 107 (I 81 46).toNatClampNeg (vp_nar .boolean 1)) 81 46).toNatClampNeg x1) 109 ((up2 (up2 I 107 (I 81 46).toNatClampNeg (vp_nar .boolean 1)) 108 ((up2 I 107 (I 81 46).toNatClampNeg (vp_nar .boolean 1)) 81 46).toNatClampNeg x1) 81 46).toNatClampNeg x2) 81 16)) 81 46) 60 ∧ (vp_in ((up2 (up2 (up2 (up2 (up2 I 107 (I 81 46).toNatClampNeg (vp_nar .boolean 1)) 108 ((up2 I 107 (I 81 46).toNatClampNeg (vp_nar .boolean 1)) 81 46).toNatClampNeg x1) 109 ((up2 (up2 I 107 (I 81 46).toNatClampNeg (vp_nar .boolean 1)) 108 ((up2 I 107 (I 81 46).toNatClampNeg (vp_nar .boolean 1)) 81 46).toNatClampNeg x1) 81 46).toNatClampNeg x2) 110 ((up2 (up2 (up2 I 107 (I 81 46).toNatClampNeg (vp_nar .boolean 1)) 108 ((up2 I 107 (I 81 46).toNatClampNeg (vp_nar .boolean 1)) 81 46).toNatClampNeg x1) 109 ((up2 (up2 I 107 (I 81 46).toNatClampNeg (vp_nar .boolean 1)) 108 ((up2 I 107 (I 81 46).toNatClampNeg (vp_nar .boolean 1)) 81 46).toNatClampNeg x1) 81 46).toNatClampNeg x2) 81 46).toNatClampNeg ((up2 (up2 (up2 I 107 (I 81 46).toNatClampNeg (vp_nar .boolean 1)) 108 ((up2 I 107 (I 81 46).toNatClampNeg (vp_nar .boolean 1)) 81 46).toNatClampNeg x1) 109 ((up2 (up2 I 107 (I 81 46).toNatClampNeg (vp_nar .boolean 1)) 108 ((up2 I 107 (I 81 46).toNatClampNeg (vp_nar .boolean 1)) 81 46).toNatClampNeg x1) 81 46).toNatClampNeg x2) 81 16)) 115 ((up2 (up2 (up2 (up2 I 107 (I 81 46).toNatClampNeg (vp_nar .boolean 1)) 108 ((up2 I 107 (I 81 46).toNatClampNeg (vp_nar .boolean 1)) 81 46).toNatClampNeg x1) 109 ((up2 (up2 I 107 (I 81 46).toNatClampNeg (vp_nar .boolean 1)) 108 ((up2 I 107 (I 81 46).toNatClampNeg (vp_nar .boolean 1)) 81 46).toNatClampNeg x1) 81 46).toNatClampNeg x2) 110 ((up2 (up2 (up2 I 107 (I 81 46).toNatClampNeg (vp_nar .boolean 1)) 108 ((up2 I 107 (I 81 46).toNatClampNeg (vp_nar .boolean 1)) 81 46).toNatClampNeg x1) 109 ((up2 (up2 I 107 (I 81 46).toNatClampNeg (vp_nar .boolean 1)) 108 ((up2 I 107 (I 81 46).toNatClampNeg (vp_nar .boolean 1)) 81 46).toNatClampNeg x1) 81 46).toNatClampNeg x2) 81 46).toNatClampNeg ((up2 (up2 (up2 I 107 (I 81 46).toNatClampNeg (vp_nar .boolean 1)) 108 ((up2 I 107 (I 81 46).toNatClampNeg (vp_nar .boolean 1)) 81 46).toNatClampNeg x1) 109 ((up2 (up2 I 107 (I 81 46).toNatClampNeg (vp_nar .boolean 1)) 108 ((up2 I 107 (I 81 46).toNatClampNeg (vp_nar .boolean 1)) 81 46).toNatClampNeg x1) 81 46).toNatClampNeg x2) 81 16)) 81 46).toNatClampNeg x3) 81 46) 60 ∧ (sm_wp X 249 108 [some (.ref 81), some (.int x1), some (.int x2), none, some (.int 0), none] [] (sM mo G (up2 (up2 (up2 (up2 (up2 (up2 I 107 (I 81 46).toNatClampNeg (vp_nar .boolean 1)) 108 ((up2 I 107 (I 81 46).toNatClampNeg (vp_nar .boolean 1)) 81 46).toNatClampNeg x1) 109 ((up2 (up2 I 107 (I 81 46).toNatClampNeg (vp_nar .boolean 1)) 108 ((up2 I 107 (I 81 46).toNatClampNeg (vp_nar .boolean 1)) 81 46).toNatClampNeg x1) 81 46).toNatClampNeg x2) 110 ((up2 (up2 (up2 I 107 (I 81 46).toNatClampNeg (vp_nar .boolean 1)) 108 ((up2 I 107 (I 81 46).toNatClampNeg (vp_nar .boolean 1)) 81 46).toNatClampNeg x1) 109 ((up2 (up2 I 107 (I 81 46).toNatClampNeg (vp_nar .boolean 1)) 108 ((up2 I 107 (I 81 46).toNatClampNeg (vp_nar .boolean 1)) 81 46).toNatClampNeg x1) 81 46).toNatClampNeg x2) 81 46).toNatClampNeg ((up2 (up2 (up2 I 107 (I 81 46).toNatClampNeg (vp_nar .boolean 1)) 108 ((up2 I 107 (I 81 46).toNatClampNeg (vp_nar .boolean 1)) 81 46).toNatClampNeg x1) 109 ((up2 (up2 I 107 (I 81 46).toNatClampNeg (vp_nar .boolean 1)) 108 ((up2 I 107 (I 81 46).toNatClampNeg (vp_nar .boolean 1)) 81 46).toNatClampNeg x1) 81 46).toNatClampNeg x2) 81 16)) 115 ((up2 (up2 (up2 (up2 I 107 (I 81 46).toNatClampNeg (vp_nar .boolean 1)) 108 ((up2 I 107 (I 81 46).toNatClampNeg (vp_nar .boolean 1)) 81 46).toNatClampNeg x1) 109 ((up2 (up2 I 107 (I 81 46).toNatClampNeg (vp_nar .boolean 1)) 108 ((up2 I 107 (I 81 46).toNatClampNeg (vp_nar .boolean 1)) 81 46).toNatClampNeg x1) 81 46).toNatClampNeg x2) 110 ((up2 (up2 (up2 I 107 (I 81 46).toNatClampNeg (vp_nar .boolean 1)) 108 ((up2 I 107 (I 81 46).toNatClampNeg (vp_nar .boolean 1)) 81 46).toNatClampNeg x1) 109 ((up2 (up2 I 107 (I 81 46).toNatClampNeg (vp_nar .boolean 1)) 108 ((up2 I 107 (I 81 46).toNatClampNeg (vp_nar .boolean 1)) 81 46).toNatClampNeg x1) 81 46).toNatClampNeg x2) 81 46).toNatClampNeg ((up2 (up2 (up2 I 107 (I 81 46).toNatClampNeg (vp_nar .boolean 1)) 108 ((up2 I 107 (I 81 46).toNatClampNeg (vp_nar .boolean 1)) 81 46).toNatClampNeg x1) 109 ((up2 (up2 I 107 (I 81 46).toNatClampNeg (vp_nar .boolean 1)) 108 ((up2 I 107 (I 81 46).toNatClampNeg (vp_nar .boolean 1)) 81 46).toNatClampNeg x1) 81 46).toNatClampNeg x2) 81 16)) 81 46).toNatClampNeg x3) 116 ((up2 (up2 (up2 (up2 (up2 I 107 (I 81 46).toNatClampNeg (vp_nar .boolean 1)) 108 ((up2 I 107 (I 81 46).toNatClampNeg (vp_nar .boolean 1)) 81 46).toNatClampNeg x1) 109 ((up2 (up2 I 107 (I 81 46).toNatClampNeg (vp_nar .boolean 1)) 108 ((up2 I 107 (I 81 46).toNatClampNeg (vp_nar .boolean 1)) 81 46).toNatClampNeg x1) 81 46).toNatClampNeg x2) 110 ((up2 (up2 (up2 I 107 (I 81 46).toNatClampNeg (vp_nar .boolean 1)) 108 ((up2 I 107 (I 81 46).toNatClampNeg (vp_nar .boolean 1)) 81 46).toNatClampNeg x1) 109 ((up2 (up2 I 107 (I 81 46).toNatClampNeg (vp_nar .boolean 1)) 108 ((up2 I 107 (I 81 46).toNatClampNeg (vp_nar .boolean 1)) 81 46).toNatClampNeg x1) 81 46).toNatClampNeg x2) 81 46).toNatClampNeg ((up2 (up2 (up2 I 107 (I 81 46).toNatClampNeg (vp_nar .boolean 1)) 108 ((up2 I 107 (I 81 46).toNatClampNeg (vp_nar .boolean 1)) 81 46).toNatClampNeg x1) 109 ((up2 (up2 I 107 (I 81 46).toNatClampNeg (vp_nar .boolean 1)) 108 ((up2 I 107 (I 81 46).toNatClampNeg (vp_nar .boolean 1)) 81 46).toNatClampNeg x1) 81 46).toNatClampNeg x2) 81 16)) 115 ((up2 (up2 (up2 (up2 I 107 (I 81 46).toNatClampNeg (vp_nar .boolean 1)) 108 ((up2 I 107 (I 81 46).toNatClampNeg (vp_nar .boolean 1)) 81 46).toNatClampNeg x1) 109 ((up2 (up2 I 107 (I 81 46).toNatClampNeg (vp_nar .boolean 1)) 108 ((up2 I 107 (I 81 46).toNatClampNeg (vp_nar .boolean 1)) 81 46).toNatClampNeg x1) 81 46).toNatClampNeg x2) 110 ((up2 (up2 (up2 I 107 (I 81 46).toNatClampNeg (vp_nar .boolean 1)) 108 ((up2 I 107 (I 81 46).toNatClampNeg (vp_nar .boolean 1)) 81 46).toNatClampNeg x1) 109 ((up2 (up2 I 107 (I 81 46).toNatClampNeg (vp_nar .boolean 1)) 108 ((up2 I 107 (I 81 46).toNatClampNeg (vp_nar .boolean 1)) 81 46).toNatClampNeg x1) 81 46).toNatClampNeg x2) 81 46).toNatClampNeg ((up2 (up2 (up2 I 107 (I 81 46).toNatClampNeg (vp_nar .boolean 1)) 108 ((up2 I 107 (I 81 46).toNatClampNeg (vp_nar .boolean 1)) 81 46).toNatClampNeg x1) 109 ((up2 (up2 I 107 (I 81 46).toNatClampNeg (vp_nar .boolean 1)) 108 ((up2 I 107 (I 81 46).toNatClampNeg (vp_nar .boolean 1)) 81 46).toNatClampNeg x1) 81 46).toNatClampNeg x2) 81 16)) 81 46).toNatClampNeg x3) 81 46).toNatClampNeg 0) J) Q))))))) :=
  (sm_blk X 249 42 (tt_lin 249 (by decide)) rfl rfl _ _ _ _).trans rfl
set_option maxRecDepth 100000 in
theorem bk_249_108 (X : (Nat → Int32) × Nat) (mo : Bool) (G : Nat × Nat) (I : Nat → Nat → Int32) (J : Nat → Nat → Int64) (Q : Option Value → sm_M → Prop) (x1 : Int32) (x2 : Int32) (x4 : Int32) :
    sm_wp X 249 108 [some (.ref 81), some (.int x1), some (.int x2), none, some (.int x4), none] [] (sM mo G I J) Q =
    (if (I 81 60 : Int32) ≤ (x4 : Int32) then sm_wp X 249 210 [some (.ref 81), some (.int x1), some (.int x2), none, some (.int x4), none] [] (sM mo G I J) Q else (if ¬ (x1 : Int32) = (x2 : Int32) then sm_wp X 249 173 [some (.ref 81), some (.int x1), some (.int x2), none, some (.int x4), none] [] (sM mo G I J) Q else (vp_in ((4 * x4) + 1) 80 ∧ (if ¬ (I 120 (((4 * x4) + 1).toNatClampNeg) : Int32) = (x1 : Int32) then sm_wp X 249 173 [some (.ref 81), some (.int x1), some (.int x2), none, some (.int x4), none] [] (sM mo G I J) Q else (vp_in ((4 * x4) + 2) 80 ∧ (vp_in ((4 * x4) + 3) 80 ∧ (sm_wp X 210 0 [some (.int (I 81 16)), some (.int (I 120 (((4 * x4) + 2).toNatClampNeg))), some (.int (I 120 (((4 * x4) + 3).toNatClampNeg)))] [] (sM mo G I J) (fun v M => sm_wp X 249 166 [some (.ref 81), some (.int x1), some (.int x2), none, some (.int x4), none] (v.toList ++ []) M Q)))))))) :=
  (sm_blk X 249 108 (tt_lin 249 (by decide)) rfl rfl _ _ _ _).trans rfl
set_option maxRecDepth 100000 in
theorem bk_249_166 (X : (Nat → Int32) × Nat) (mo : Bool) (G : Nat × Nat) (I : Nat → Nat → Int32) (J : Nat → Nat → Int64) (Q : Option Value → sm_M → Prop) (x1 : Int32) (x2 : Int32) (x4 : Int32) (s0 : Int32) :
    sm_wp X 249 166 [some (.ref 81), some (.int x1), some (.int x2), none, some (.int x4), none] [.int s0] (sM mo G I J) Q =
    (if (s0 : Int32) = 0 then sm_wp X 249 173 [some (.ref 81), some (.int x1), some (.int x2), none, some (.int x4), none] [] (sM mo G I J) Q else (sm_wp X 249 174 [some (.ref 81), some (.int x1), some (.int x2), none, some (.int x4), none] [.int 1] (sM mo G I J) Q)) :=
  (sm_blk X 249 166 (tt_lin 249 (by decide)) rfl rfl _ _ _ _).trans rfl
set_option maxRecDepth 100000 in
theorem bk_249_173 (X : (Nat → Int32) × Nat) (mo : Bool) (G : Nat × Nat) (I : Nat → Nat → Int32) (J : Nat → Nat → Int64) (Q : Option Value → sm_M → Prop) (x1 : Int32) (x2 : Int32) (x4 : Int32) :
    sm_wp X 249 173 [some (.ref 81), some (.int x1), some (.int x2), none, some (.int x4), none] [] (sM mo G I J) Q =
    (if (0 : Int32) = 0 then sm_wp X 249 204 [some (.ref 81), some (.int x1), some (.int x2), none, some (.int x4), some (.int 0)] [] (sM mo G I J) Q else (vp_in (I 81 46) 60 ∧ (vp_in (4 * x4) 80 ∧ (vp_in (I 81 46) 60 ∧ (sm_wp X 249 108 [some (.ref 81), some (.int x1), some (.int x2), none, some (.int (x4 + 1)), none] [] (sM mo G (up2 I 116 (I 81 46).toNatClampNeg ((I 116 ((I 81 46).toNatClampNeg)) ||| (1 <<< ((I 120 ((4 * x4).toNatClampNeg)) &&& 31)))) J) Q))))) :=
  (sm_blk X 249 173 (tt_lin 249 (by decide)) rfl rfl _ _ _ _).trans rfl
set_option maxRecDepth 100000 in
theorem bk_249_174 (X : (Nat → Int32) × Nat) (mo : Bool) (G : Nat × Nat) (I : Nat → Nat → Int32) (J : Nat → Nat → Int64) (Q : Option Value → sm_M → Prop) (x1 : Int32) (x2 : Int32) (x4 : Int32) (s0 : Int32) :
    sm_wp X 249 174 [some (.ref 81), some (.int x1), some (.int x2), none, some (.int x4), none] [.int s0] (sM mo G I J) Q =
    (if (s0 : Int32) = 0 then sm_wp X 249 204 [some (.ref 81), some (.int x1), some (.int x2), none, some (.int x4), some (.int s0)] [] (sM mo G I J) Q else (vp_in (I 81 46) 60 ∧ (vp_in (4 * x4) 80 ∧ (vp_in (I 81 46) 60 ∧ (sm_wp X 249 108 [some (.ref 81), some (.int x1), some (.int x2), none, some (.int (x4 + 1)), none] [] (sM mo G (up2 I 116 (I 81 46).toNatClampNeg ((I 116 ((I 81 46).toNatClampNeg)) ||| (1 <<< ((I 120 ((4 * x4).toNatClampNeg)) &&& 31)))) J) Q))))) :=
  (sm_blk X 249 174 (tt_lin 249 (by decide)) rfl rfl _ _ _ _).trans rfl
set_option maxRecDepth 100000 in
theorem bk_249_204 (X : (Nat → Int32) × Nat) (mo : Bool) (G : Nat × Nat) (I : Nat → Nat → Int32) (J : Nat → Nat → Int64) (Q : Option Value → sm_M → Prop) (x1 : Int32) (x2 : Int32) (x4 : Int32) (x5 : Int32) :
    sm_wp X 249 204 [some (.ref 81), some (.int x1), some (.int x2), none, some (.int x4), some (.int x5)] [] (sM mo G I J) Q =
    (sm_wp X 249 108 [some (.ref 81), some (.int x1), some (.int x2), none, some (.int (x4 + 1)), none] [] (sM mo G I J) Q) :=
  (sm_blk X 249 204 (tt_lin 249 (by decide)) rfl rfl _ _ _ _).trans rfl
set_option maxRecDepth 100000 in
theorem bk_249_210 (X : (Nat → Int32) × Nat) (mo : Bool) (G : Nat × Nat) (I : Nat → Nat → Int32) (J : Nat → Nat → Int64) (Q : Option Value → sm_M → Prop) (x1 : Int32) (x2 : Int32) (x4 : Int32) :
    sm_wp X 249 210 [some (.ref 81), some (.int x1), some (.int x2), none, some (.int x4), none] [] (sM mo G I J) Q =
    (vp_in (I 81 46) 60 ∧ (vp_in ((up2 I 117 (I 81 46).toNatClampNeg (-1)) 81 46) 60 ∧ (vp_in ((up2 (up2 I 117 (I 81 46).toNatClampNeg (-1)) 118 ((up2 I 117 (I 81 46).toNatClampNeg (-1)) 81 46).toNatClampNeg (-1)) 81 46) 60 ∧ (True ∧ Q (some (.int (((up2 (up2 (up2 (up2 I 117 (I 81 46).toNatClampNeg (-1)) 118 ((up2 I 117 (I 81 46).toNatClampNeg (-1)) 81 46).toNatClampNeg (-1)) 119 ((up2 (up2 I 117 (I 81 46).toNatClampNeg (-1)) 118 ((up2 I 117 (I 81 46).toNatClampNeg (-1)) 81 46).toNatClampNeg (-1)) 81 46).toNatClampNeg (-1)) 81 46 (((up2 (up2 (up2 I 117 (I 81 46).toNatClampNeg (-1)) 118 ((up2 I 117 (I 81 46).toNatClampNeg (-1)) 81 46).toNatClampNeg (-1)) 119 ((up2 (up2 I 117 (I 81 46).toNatClampNeg (-1)) 118 ((up2 I 117 (I 81 46).toNatClampNeg (-1)) 81 46).toNatClampNeg (-1)) 81 46).toNatClampNeg (-1)) 81 46) + 1)) 81 46) - 1))) (sM mo G (up2 (up2 (up2 (up2 I 117 (I 81 46).toNatClampNeg (-1)) 118 ((up2 I 117 (I 81 46).toNatClampNeg (-1)) 81 46).toNatClampNeg (-1)) 119 ((up2 (up2 I 117 (I 81 46).toNatClampNeg (-1)) 118 ((up2 I 117 (I 81 46).toNatClampNeg (-1)) 81 46).toNatClampNeg (-1)) 81 46).toNatClampNeg (-1)) 81 46 (((up2 (up2 (up2 I 117 (I 81 46).toNatClampNeg (-1)) 118 ((up2 I 117 (I 81 46).toNatClampNeg (-1)) 81 46).toNatClampNeg (-1)) 119 ((up2 (up2 I 117 (I 81 46).toNatClampNeg (-1)) 118 ((up2 I 117 (I 81 46).toNatClampNeg (-1)) 81 46).toNatClampNeg (-1)) 81 46).toNatClampNeg (-1)) 81 46) + 1)) J))))) :=
  (sm_blk X 249 210 (tt_lin 249 (by decide)) rfl rfl _ _ _ _).trans rfl
set_option maxRecDepth 100000 in
theorem bk_250_0 (X : (Nat → Int32) × Nat) (mo : Bool) (G : Nat × Nat) (I : Nat → Nat → Int32) (J : Nat → Nat → Int64) (Q : Option Value → sm_M → Prop) (x1 : Int32) (x2 : Int32) (x3 : Int32) (x4 : Int32) :
    sm_wp X 250 0 [some (.ref 81), some (.int x1), some (.int x2), some (.int x3), some (.int x4)] [] (sM mo G I J) Q =
    (if ((up2 I 81 2 0) 81 60 : Int32) = (20 : Int32) then sm_wp X 250 61 [some (.ref 81), some (.int x1), some (.int x2), some (.int x3), some (.int x4)] [] (sM mo G (up2 I 81 2 0) J) Q else (sm_wp X 216 0 [some (.ref 81), some (.int x1)] [] (sM mo G (up2 I 81 2 0) J) (fun v M => sm_wp X 250 19 [some (.ref 81), some (.int x1), some (.int x2), some (.int x3), some (.int x4)] (v.toList ++ []) M Q))) :=
  (sm_blk X 250 0 (tt_lin 250 (by decide)) rfl rfl _ _ _ _).trans rfl
set_option maxRecDepth 100000 in
theorem bk_250_19 (X : (Nat → Int32) × Nat) (mo : Bool) (G : Nat × Nat) (I : Nat → Nat → Int32) (J : Nat → Nat → Int64) (Q : Option Value → sm_M → Prop) (x1 : Int32) (x2 : Int32) (x3 : Int32) (x4 : Int32) (s0 : Int32) :
    sm_wp X 250 19 [some (.ref 81), some (.int x1), some (.int x2), some (.int x3), some (.int x4)] [.int s0] (sM mo G I J) Q =
    (if (s0 : Int32) = 0 then sm_wp X 250 61 [some (.ref 81), some (.int x1), some (.int x2), some (.int x3), some (.int x4)] [] (sM mo G I J) Q else (sm_wp X 216 0 [some (.ref 81), some (.int x2)] [] (sM mo G I J) (fun v M => sm_wp X 250 27 [some (.ref 81), some (.int x1), some (.int x2), some (.int x3), some (.int x4)] (v.toList ++ []) M Q))) :=
  (sm_blk X 250 19 (tt_lin 250 (by decide)) rfl rfl _ _ _ _).trans rfl
set_option maxRecDepth 100000 in
theorem bk_250_27 (X : (Nat → Int32) × Nat) (mo : Bool) (G : Nat × Nat) (I : Nat → Nat → Int32) (J : Nat → Nat → Int64) (Q : Option Value → sm_M → Prop) (x1 : Int32) (x2 : Int32) (x3 : Int32) (x4 : Int32) (s0 : Int32) :
    sm_wp X 250 27 [some (.ref 81), some (.int x1), some (.int x2), some (.int x3), some (.int x4)] [.int s0] (sM mo G I J) Q =
    (if (s0 : Int32) = 0 then sm_wp X 250 61 [some (.ref 81), some (.int x1), some (.int x2), some (.int x3), some (.int x4)] [] (sM mo G I J) Q else (if (x1 : Int32) = (x2 : Int32) then sm_wp X 250 61 [some (.ref 81), some (.int x1), some (.int x2), some (.int x3), some (.int x4)] [] (sM mo G I J) Q else (sm_wp X 210 0 [some (.int x3), some (.int (I 81 16)), some (.int 300)] [] (sM mo G I J) (fun v M => sm_wp X 250 46 [some (.ref 81), some (.int x1), some (.int x2), some (.int x3), some (.int x4)] (v.toList ++ []) M Q)))) :=
  (sm_blk X 250 27 (tt_lin 250 (by decide)) rfl rfl _ _ _ _).trans rfl
set_option maxRecDepth 100000 in
theorem bk_250_46 (X : (Nat → Int32) × Nat) (mo : Bool) (G : Nat × Nat) (I : Nat → Nat → Int32) (J : Nat → Nat → Int64) (Q : Option Value → sm_M → Prop) (x1 : Int32) (x2 : Int32) (x3 : Int32) (x4 : Int32) (s0 : Int32) :
    sm_wp X 250 46 [some (.ref 81), some (.int x1), some (.int x2), some (.int x3), some (.int x4)] [.int s0] (sM mo G I J) Q =
    (if (s0 : Int32) = 0 then sm_wp X 250 61 [some (.ref 81), some (.int x1), some (.int x2), some (.int x3), some (.int x4)] [] (sM mo G I J) Q else (sm_wp X 210 0 [some (.int x4), some (.int x3), some (.int 300)] [] (sM mo G I J) (fun v M => sm_wp X 250 58 [some (.ref 81), some (.int x1), some (.int x2), some (.int x3), some (.int x4)] (v.toList ++ []) M Q))) :=
  (sm_blk X 250 46 (tt_lin 250 (by decide)) rfl rfl _ _ _ _).trans rfl
set_option maxRecDepth 100000 in
theorem bk_250_58 (X : (Nat → Int32) × Nat) (mo : Bool) (G : Nat × Nat) (I : Nat → Nat → Int32) (J : Nat → Nat → Int64) (Q : Option Value → sm_M → Prop) (x1 : Int32) (x2 : Int32) (x3 : Int32) (x4 : Int32) (s0 : Int32) :
    sm_wp X 250 58 [some (.ref 81), some (.int x1), some (.int x2), some (.int x3), some (.int x4)] [.int s0] (sM mo G I J) Q =
    (if ¬ (s0 : Int32) = 0 then sm_wp X 250 63 [some (.ref 81), some (.int x1), some (.int x2), some (.int x3), some (.int x4)] [] (sM mo G I J) Q else (sm_zb 0 ∧ Q (some (.int 0)) (sM mo G I J))) :=
  (sm_blk X 250 58 (tt_lin 250 (by decide)) rfl rfl _ _ _ _).trans rfl
set_option maxRecDepth 100000 in
theorem bk_250_61 (X : (Nat → Int32) × Nat) (mo : Bool) (G : Nat × Nat) (I : Nat → Nat → Int32) (J : Nat → Nat → Int64) (Q : Option Value → sm_M → Prop) (x1 : Int32) (x2 : Int32) (x3 : Int32) (x4 : Int32) :
    sm_wp X 250 61 [some (.ref 81), some (.int x1), some (.int x2), some (.int x3), some (.int x4)] [] (sM mo G I J) Q =
    (sm_zb 0 ∧ Q (some (.int 0)) (sM mo G I J)) :=
  (sm_blk X 250 61 (tt_lin 250 (by decide)) rfl rfl _ _ _ _).trans rfl
set_option maxRecDepth 100000 in
theorem bk_250_63 (X : (Nat → Int32) × Nat) (mo : Bool) (G : Nat × Nat) (I : Nat → Nat → Int32) (J : Nat → Nat → Int64) (Q : Option Value → sm_M → Prop) (x1 : Int32) (x2 : Int32) (x3 : Int32) (x4 : Int32) :
    sm_wp X 250 63 [some (.ref 81), some (.int x1), some (.int x2), some (.int x3), some (.int x4)] [] (sM mo G I J) Q =
    (vp_in (4 * (I 81 60)) 80 ∧ (vp_in ((4 * ((up2 I 120 (4 * (I 81 60)).toNatClampNeg x1) 81 60)) + 1) 80 ∧ (vp_in ((4 * ((up2 (up2 I 120 (4 * (I 81 60)).toNatClampNeg x1) 120 ((4 * ((up2 I 120 (4 * (I 81 60)).toNatClampNeg x1) 81 60)) + 1).toNatClampNeg x2) 81 60)) + 2) 80 ∧ (vp_in ((4 * ((up2 (up2 (up2 I 120 (4 * (I 81 60)).toNatClampNeg x1) 120 ((4 * ((up2 I 120 (4 * (I 81 60)).toNatClampNeg x1) 81 60)) + 1).toNatClampNeg x2) 120 ((4 * ((up2 (up2 I 120 (4 * (I 81 60)).toNatClampNeg x1) 120 ((4 * ((up2 I 120 (4 * (I 81 60)).toNatClampNeg x1) 81 60)) + 1).toNatClampNeg x2) 81 60)) + 2).toNatClampNeg x3) 81 60)) + 3) 80 ∧ (sm_zb 1 ∧ Q (some (.int 1)) (sM mo G (up2 (up2 (up2 (up2 (up2 I 120 (4 * (I 81 60)).toNatClampNeg x1) 120 ((4 * ((up2 I 120 (4 * (I 81 60)).toNatClampNeg x1) 81 60)) + 1).toNatClampNeg x2) 120 ((4 * ((up2 (up2 I 120 (4 * (I 81 60)).toNatClampNeg x1) 120 ((4 * ((up2 I 120 (4 * (I 81 60)).toNatClampNeg x1) 81 60)) + 1).toNatClampNeg x2) 81 60)) + 2).toNatClampNeg x3) 120 ((4 * ((up2 (up2 (up2 I 120 (4 * (I 81 60)).toNatClampNeg x1) 120 ((4 * ((up2 I 120 (4 * (I 81 60)).toNatClampNeg x1) 81 60)) + 1).toNatClampNeg x2) 120 ((4 * ((up2 (up2 I 120 (4 * (I 81 60)).toNatClampNeg x1) 120 ((4 * ((up2 I 120 (4 * (I 81 60)).toNatClampNeg x1) 81 60)) + 1).toNatClampNeg x2) 81 60)) + 2).toNatClampNeg x3) 81 60)) + 3).toNatClampNeg x4) 81 60 (((up2 (up2 (up2 (up2 I 120 (4 * (I 81 60)).toNatClampNeg x1) 120 ((4 * ((up2 I 120 (4 * (I 81 60)).toNatClampNeg x1) 81 60)) + 1).toNatClampNeg x2) 120 ((4 * ((up2 (up2 I 120 (4 * (I 81 60)).toNatClampNeg x1) 120 ((4 * ((up2 I 120 (4 * (I 81 60)).toNatClampNeg x1) 81 60)) + 1).toNatClampNeg x2) 81 60)) + 2).toNatClampNeg x3) 120 ((4 * ((up2 (up2 (up2 I 120 (4 * (I 81 60)).toNatClampNeg x1) 120 ((4 * ((up2 I 120 (4 * (I 81 60)).toNatClampNeg x1) 81 60)) + 1).toNatClampNeg x2) 120 ((4 * ((up2 (up2 I 120 (4 * (I 81 60)).toNatClampNeg x1) 120 ((4 * ((up2 I 120 (4 * (I 81 60)).toNatClampNeg x1) 81 60)) + 1).toNatClampNeg x2) 81 60)) + 2).toNatClampNeg x3) 81 60)) + 3).toNatClampNeg x4) 81 60) + 1)) J)))))) :=
  (sm_blk X 250 63 (tt_lin 250 (by decide)) rfl rfl _ _ _ _).trans rfl
set_option maxRecDepth 100000 in
theorem bk_251_0 (X : (Nat → Int32) × Nat) (mo : Bool) (G : Nat × Nat) (I : Nat → Nat → Int32) (J : Nat → Nat → Int64) (Q : Option Value → sm_M → Prop) (x1 : Int32) :
    sm_wp X 251 0 [some (.ref 81), some (.int x1), none, none] [] (sM mo G I J) Q =
    (sm_wp X 210 0 [some (.int x1), some (.int 1), some (.int 50)] [] (sM mo G (up2 I 81 2 0) J) (fun v M => sm_wp X 251 12 [some (.ref 81), some (.int x1), none, none] (v.toList ++ []) M Q)) :=
  (sm_blk X 251 0 (tt_lin 251 (by decide)) rfl rfl _ _ _ _).trans rfl
set_option maxRecDepth 100000 in
theorem bk_251_12 (X : (Nat → Int32) × Nat) (mo : Bool) (G : Nat × Nat) (I : Nat → Nat → Int32) (J : Nat → Nat → Int64) (Q : Option Value → sm_M → Prop) (x1 : Int32) (s0 : Int32) :
    sm_wp X 251 12 [some (.ref 81), some (.int x1), none, none] [.int s0] (sM mo G I J) Q =
    (if (s0 : Int32) = 0 then sm_wp X 251 27 [some (.ref 81), some (.int x1), none, none] [] (sM mo G I J) Q else (if ((I 81 16) + x1 : Int32) ≤ (300 : Int32) then sm_wp X 251 29 [some (.ref 81), some (.int x1), none, none] [] (sM mo G I J) Q else (True ∧ Q (some (.int (-1))) (sM mo G I J)))) :=
  (sm_blk X 251 12 (tt_lin 251 (by decide)) rfl rfl _ _ _ _).trans rfl
set_option maxRecDepth 100000 in
theorem bk_251_27 (X : (Nat → Int32) × Nat) (mo : Bool) (G : Nat × Nat) (I : Nat → Nat → Int32) (J : Nat → Nat → Int64) (Q : Option Value → sm_M → Prop) (x1 : Int32) :
    sm_wp X 251 27 [some (.ref 81), some (.int x1), none, none] [] (sM mo G I J) Q =
    (True ∧ Q (some (.int (-1))) (sM mo G I J)) :=
  (sm_blk X 251 27 (tt_lin 251 (by decide)) rfl rfl _ _ _ _).trans rfl
set_option maxRecDepth 100000 in
theorem bk_251_29 (X : (Nat → Int32) × Nat) (mo : Bool) (G : Nat × Nat) (I : Nat → Nat → Int32) (J : Nat → Nat → Int64) (Q : Option Value → sm_M → Prop) (x1 : Int32) :
    sm_wp X 251 29 [some (.ref 81), some (.int x1), none, none] [] (sM mo G I J) Q =
    (sm_wp X 251 31 [some (.ref 81), some (.int x1), some (.int 0), none] [] (sM mo G I J) Q) :=
  (sm_blk X 251 29 (tt_lin 251 (by decide)) rfl rfl _ _ _ _).trans rfl
set_option maxRecDepth 100000 in
theorem bk_251_31 (X : (Nat → Int32) × Nat) (mo : Bool) (G : Nat × Nat) (I : Nat → Nat → Int32) (J : Nat → Nat → Int64) (Q : Option Value → sm_M → Prop) (x1 : Int32) (x2 : Int32) :
    sm_wp X 251 31 [some (.ref 81), some (.int x1), some (.int x2), none] [] (sM mo G I J) Q =
    (if (x1 : Int32) ≤ (x2 : Int32) then sm_wp X 251 121 [some (.ref 81), some (.int x1), some (.int x2), none] [] (sM mo G I J) Q else (sm_wp X 251 48 [some (.ref 81), some (.int x1), some (.int x2), some (.int 0)] [] (sM mo G (up2 I 81 16 ((I 81 16) + 1)) J) Q)) :=
  (sm_blk X 251 31 (tt_lin 251 (by decide)) rfl rfl _ _ _ _).trans rfl
set_option maxRecDepth 100000 in
theorem bk_251_48 (X : (Nat → Int32) × Nat) (mo : Bool) (G : Nat × Nat) (I : Nat → Nat → Int32) (J : Nat → Nat → Int64) (Q : Option Value → sm_M → Prop) (x1 : Int32) (x2 : Int32) (x3 : Int32) :
    sm_wp X 251 48 [some (.ref 81), some (.int x1), some (.int x2), some (.int x3)] [] (sM mo G I J) Q =
    (if (I 81 46 : Int32) ≤ (x3 : Int32) then sm_wp X 251 75 [some (.ref 81), some (.int x1), some (.int x2), some (.int x3)] [] (sM mo G I J) Q else (sm_wp X 252 0 [some (.ref 81), some (.int x3)] [] (sM mo G I J) (fun v M => sm_wp X 251 61 [some (.ref 81), some (.int x1), some (.int x2), some (.int x3)] (v.toList ++ []) M Q))) :=
  (sm_blk X 251 48 (tt_lin 251 (by decide)) rfl rfl _ _ _ _).trans rfl
set_option maxRecDepth 100000 in
theorem bk_251_61 (X : (Nat → Int32) × Nat) (mo : Bool) (G : Nat × Nat) (I : Nat → Nat → Int32) (J : Nat → Nat → Int64) (Q : Option Value → sm_M → Prop) (x1 : Int32) (x2 : Int32) (x3 : Int32) (s0 : Int32) :
    sm_wp X 251 61 [some (.ref 81), some (.int x1), some (.int x2), some (.int x3)] [.int s0] (sM mo G I J) Q =
    (if (s0 : Int32) = 0 then sm_wp X 251 69 [some (.ref 81), some (.int x1), some (.int x2), some (.int x3)] [] (sM mo G I J) Q else (sm_wp X 253 0 [some (.ref 81), some (.int x3), none, none] [] (sM mo G I J) (fun v M => sm_wp X 251 69 [some (.ref 81), some (.int x1), some (.int x2), some (.int x3)] (v.toList ++ []) M Q))) :=
  (sm_blk X 251 61 (tt_lin 251 (by decide)) rfl rfl _ _ _ _).trans rfl
set_option maxRecDepth 100000 in
theorem bk_251_69 (X : (Nat → Int32) × Nat) (mo : Bool) (G : Nat × Nat) (I : Nat → Nat → Int32) (J : Nat → Nat → Int64) (Q : Option Value → sm_M → Prop) (x1 : Int32) (x2 : Int32) (x3 : Int32) :
    sm_wp X 251 69 [some (.ref 81), some (.int x1), some (.int x2), some (.int x3)] [] (sM mo G I J) Q =
    (sm_wp X 251 48 [some (.ref 81), some (.int x1), some (.int x2), some (.int (x3 + 1))] [] (sM mo G I J) Q) :=
  (sm_blk X 251 69 (tt_lin 251 (by decide)) rfl rfl _ _ _ _).trans rfl
set_option maxRecDepth 100000 in
theorem bk_251_75 (X : (Nat → Int32) × Nat) (mo : Bool) (G : Nat × Nat) (I : Nat → Nat → Int32) (J : Nat → Nat → Int64) (Q : Option Value → sm_M → Prop) (x1 : Int32) (x2 : Int32) (x3 : Int32) :
    sm_wp X 251 75 [some (.ref 81), some (.int x1), some (.int x2), some (.int x3)] [] (sM mo G I J) Q =
    (sm_wp X 251 77 [some (.ref 81), some (.int x1), some (.int x2), some (.int 0)] [] (sM mo G I J) Q) :=
  (sm_blk X 251 75 (tt_lin 251 (by decide)) rfl rfl _ _ _ _).trans rfl
set_option maxRecDepth 100000 in
theorem bk_251_77 (X : (Nat → Int32) × Nat) (mo : Bool) (G : Nat × Nat) (I : Nat → Nat → Int32) (J : Nat → Nat → Int64) (Q : Option Value → sm_M → Prop) (x1 : Int32) (x2 : Int32) (x3 : Int32) :
    sm_wp X 251 77 [some (.ref 81), some (.int x1), some (.int x2), some (.int x3)] [] (sM mo G I J) Q =
    (if (I 81 46 : Int32) ≤ (x3 : Int32) then sm_wp X 251 115 [some (.ref 81), some (.int x1), some (.int x2), some (.int x3)] [] (sM mo G I J) Q else (vp_in x3 60 ∧ (if ¬ (I 107 (x3.toNatClampNeg) : Int32) = 0 then sm_wp X 251 109 [some (.ref 81), some (.int x1), some (.int x2), some (.int x3)] [] (sM mo G I J) Q else (vp_in x3 60 ∧ (if ¬ (I 117 (x3.toNatClampNeg) : Int32) = (2 : Int32) then sm_wp X 251 109 [some (.ref 81), some (.int x1), some (.int x2), some (.int x3)] [] (sM mo G I J) Q else (sm_wp X 264 0 [some (.ref 81), some (.int x3), none, none, none, none] [] (sM mo G I J) (fun v M => sm_wp X 251 109 [some (.ref 81), some (.int x1), some (.int x2), some (.int x3)] (v.toList ++ []) M Q))))))) :=
  (sm_blk X 251 77 (tt_lin 251 (by decide)) rfl rfl _ _ _ _).trans rfl
set_option maxRecDepth 100000 in
theorem bk_251_109 (X : (Nat → Int32) × Nat) (mo : Bool) (G : Nat × Nat) (I : Nat → Nat → Int32) (J : Nat → Nat → Int64) (Q : Option Value → sm_M → Prop) (x1 : Int32) (x2 : Int32) (x3 : Int32) :
    sm_wp X 251 109 [some (.ref 81), some (.int x1), some (.int x2), some (.int x3)] [] (sM mo G I J) Q =
    (sm_wp X 251 77 [some (.ref 81), some (.int x1), some (.int x2), some (.int (x3 + 1))] [] (sM mo G I J) Q) :=
  (sm_blk X 251 109 (tt_lin 251 (by decide)) rfl rfl _ _ _ _).trans rfl
set_option maxRecDepth 100000 in
theorem bk_251_115 (X : (Nat → Int32) × Nat) (mo : Bool) (G : Nat × Nat) (I : Nat → Nat → Int32) (J : Nat → Nat → Int64) (Q : Option Value → sm_M → Prop) (x1 : Int32) (x2 : Int32) (x3 : Int32) :
    sm_wp X 251 115 [some (.ref 81), some (.int x1), some (.int x2), some (.int x3)] [] (sM mo G I J) Q =
    (sm_wp X 251 31 [some (.ref 81), some (.int x1), some (.int (x2 + 1)), none] [] (sM mo G I J) Q) :=
  (sm_blk X 251 115 (tt_lin 251 (by decide)) rfl rfl _ _ _ _).trans rfl
set_option maxRecDepth 100000 in
theorem bk_251_121 (X : (Nat → Int32) × Nat) (mo : Bool) (G : Nat × Nat) (I : Nat → Nat → Int32) (J : Nat → Nat → Int64) (Q : Option Value → sm_M → Prop) (x1 : Int32) (x2 : Int32) :
    sm_wp X 251 121 [some (.ref 81), some (.int x1), some (.int x2), none] [] (sM mo G I J) Q =
    (True ∧ Q (some (.int (I 81 16))) (sM mo G I J)) :=
  (sm_blk X 251 121 (tt_lin 251 (by decide)) rfl rfl _ _ _ _).trans rfl
set_option maxRecDepth 100000 in
theorem bk_252_0 (X : (Nat → Int32) × Nat) (mo : Bool) (G : Nat × Nat) (I : Nat → Nat → Int32) (J : Nat → Nat → Int64) (Q : Option Value → sm_M → Prop) (x1 : Int32) :
    sm_wp X 252 0 [some (.ref 81), some (.int x1)] [] (sM mo G I J) Q =
    (vp_in x1 60 ∧ (if ¬ (I 107 (x1.toNatClampNeg) : Int32) = 0 then sm_wp X 252 23 [some (.ref 81), some (.int x1)] [] (sM mo G I J) Q else (vp_in x1 60 ∧ (if (2 : Int32) ≤ (I 117 (x1.toNatClampNeg) : Int32) then sm_wp X 252 23 [some (.ref 81), some (.int x1)] [] (sM mo G I J) Q else (sm_wp X 252 24 [some (.ref 81), some (.int x1)] [.int 1] (sM mo G I J) Q))))) :=
  (sm_blk X 252 0 (tt_lin 252 (by decide)) rfl rfl _ _ _ _).trans rfl
set_option maxRecDepth 100000 in
theorem bk_252_23 (X : (Nat → Int32) × Nat) (mo : Bool) (G : Nat × Nat) (I : Nat → Nat → Int32) (J : Nat → Nat → Int64) (Q : Option Value → sm_M → Prop) (x1 : Int32) :
    sm_wp X 252 23 [some (.ref 81), some (.int x1)] [] (sM mo G I J) Q =
    (sm_zb 0 ∧ Q (some (.int 0)) (sM mo G I J)) :=
  (sm_blk X 252 23 (tt_lin 252 (by decide)) rfl rfl _ _ _ _).trans rfl
set_option maxRecDepth 100000 in
theorem bk_252_24 (X : (Nat → Int32) × Nat) (mo : Bool) (G : Nat × Nat) (I : Nat → Nat → Int32) (J : Nat → Nat → Int64) (Q : Option Value → sm_M → Prop) (x1 : Int32) (s0 : Int32) :
    sm_wp X 252 24 [some (.ref 81), some (.int x1)] [.int s0] (sM mo G I J) Q =
    (sm_zb s0 ∧ Q (some (.int s0)) (sM mo G I J)) :=
  (sm_blk X 252 24 (tt_lin 252 (by decide)) rfl rfl _ _ _ _).trans rfl
set_option maxRecDepth 100000 in
theorem bk_253_0 (X : (Nat → Int32) × Nat) (mo : Bool) (G : Nat × Nat) (I : Nat → Nat → Int32) (J : Nat → Nat → Int64) (Q : Option Value → sm_M → Prop) (x1 : Int32) :
    sm_wp X 253 0 [some (.ref 81), some (.int x1), none, none] [] (sM mo G I J) Q =
    (vp_in x1 60 ∧ (if (I 113 (x1.toNatClampNeg) : Int32) < (I 81 16 : Int32) then sm_wp X 253 39 [some (.ref 81), some (.int x1), none, none] [] (sM mo G I J) Q else (vp_in x1 60 ∧ (sm_wp X 215 0 [some (.ref 81), some (.int (I 108 (x1.toNatClampNeg)))] [] (sM mo G I J) (fun v M => sm_wp X 253 23 [some (.ref 81), some (.int x1), none, none] (v.toList ++ []) M Q))))) :=
  (sm_blk X 253 0 (tt_lin 253 (by decide)) rfl rfl _ _ _ _).trans rfl
set_option maxRecDepth 100000 in
theorem bk_253_23 (X : (Nat → Int32) × Nat) (mo : Bool) (G : Nat × Nat) (I : Nat → Nat → Int32) (J : Nat → Nat → Int64) (Q : Option Value → sm_M → Prop) (x1 : Int32) (s0 : Int32) :
    sm_wp X 253 23 [some (.ref 81), some (.int x1), none, none] [.int s0] (sM mo G I J) Q =
    (if (s0 : Int32) = 0 then sm_wp X 253 39 [some (.ref 81), some (.int x1), none, none] [] (sM mo G I J) Q else (vp_in x1 60 ∧ (sm_wp X 215 0 [some (.ref 81), some (.int (I 109 (x1.toNatClampNeg)))] [] (sM mo G I J) (fun v M => sm_wp X 253 36 [some (.ref 81), some (.int x1), none, none] (v.toList ++ []) M Q)))) :=
  (sm_blk X 253 23 (tt_lin 253 (by decide)) rfl rfl _ _ _ _).trans rfl
set_option maxRecDepth 100000 in
theorem bk_253_36 (X : (Nat → Int32) × Nat) (mo : Bool) (G : Nat × Nat) (I : Nat → Nat → Int32) (J : Nat → Nat → Int64) (Q : Option Value → sm_M → Prop) (x1 : Int32) (s0 : Int32) :
    sm_wp X 253 36 [some (.ref 81), some (.int x1), none, none] [.int s0] (sM mo G I J) Q =
    (if ¬ (s0 : Int32) = 0 then sm_wp X 253 47 [some (.ref 81), some (.int x1), none, none] [] (sM mo G I J) Q else (vp_in x1 60 ∧ (True ∧ Q none (sM mo G (up2 I 117 x1.toNatClampNeg 4) J)))) :=
  (sm_blk X 253 36 (tt_lin 253 (by decide)) rfl rfl _ _ _ _).trans rfl
set_option maxRecDepth 100000 in
theorem bk_253_39 (X : (Nat → Int32) × Nat) (mo : Bool) (G : Nat × Nat) (I : Nat → Nat → Int32) (J : Nat → Nat → Int64) (Q : Option Value → sm_M → Prop) (x1 : Int32) :
    sm_wp X 253 39 [some (.ref 81), some (.int x1), none, none] [] (sM mo G I J) Q =
    (vp_in x1 60 ∧ (True ∧ Q none (sM mo G (up2 I 117 x1.toNatClampNeg 4) J))) :=
  (sm_blk X 253 39 (tt_lin 253 (by decide)) rfl rfl _ _ _ _).trans rfl
set_option maxRecDepth 100000 in
theorem bk_253_47 (X : (Nat → Int32) × Nat) (mo : Bool) (G : Nat × Nat) (I : Nat → Nat → Int32) (J : Nat → Nat → Int64) (Q : Option Value → sm_M → Prop) (x1 : Int32) :
    sm_wp X 253 47 [some (.ref 81), some (.int x1), none, none] [] (sM mo G I J) Q =
    (vp_in x1 60 ∧ (if ¬ (I 117 (x1.toNatClampNeg) : Int32) = 0 then sm_wp X 253 145 [some (.ref 81), some (.int x1), none, none] [] (sM mo G I J) Q else (sm_wp X 254 0 [some (.ref 81), some (.int x1), some (.int 0), none, none] [] (sM mo G I J) (fun v M => sm_wp X 253 62 [some (.ref 81), some (.int x1), none, none] (v.toList ++ []) M Q)))) :=
  (sm_blk X 253 47 (tt_lin 253 (by decide)) rfl rfl _ _ _ _).trans rfl
set_option maxRecDepth 100000 in
theorem bk_253_62 (X : (Nat → Int32) × Nat) (mo : Bool) (G : Nat × Nat) (I : Nat → Nat → Int32) (J : Nat → Nat → Int64) (Q : Option Value → sm_M → Prop) (x1 : Int32) (s0 : Int32) :
    sm_wp X 253 62 [some (.ref 81), some (.int x1), none, none] [.int s0] (sM mo G I J) Q =
    (if 0 ≤ (s0 : Int32) then sm_wp X 253 68 [some (.ref 81), some (.int x1), some (.int s0), none] [] (sM mo G I J) Q else (True ∧ Q none (sM mo G I J))) :=
  (sm_blk X 253 62 (tt_lin 253 (by decide)) rfl rfl _ _ _ _).trans rfl
set_option maxRecDepth 100000 in
theorem bk_253_68 (X : (Nat → Int32) × Nat) (mo : Bool) (G : Nat × Nat) (I : Nat → Nat → Int32) (J : Nat → Nat → Int64) (Q : Option Value → sm_M → Prop) (x1 : Int32) (x2 : Int32) :
    sm_wp X 253 68 [some (.ref 81), some (.int x1), some (.int x2), none] [] (sM mo G I J) Q =
    (vp_in x1 60 ∧ (vp_in ((16 * (I 109 (x1.toNatClampNeg))) + x2) 112 ∧ (vp_in x1 60 ∧ (if ¬ (I 99 (((16 * (I 109 (x1.toNatClampNeg))) + x2).toNatClampNeg) : Int32) = 0 then sm_wp X 253 105 [some (.ref 81), some (.int x1), some (.int x2), some (.int (I 99 (((16 * (I 109 (x1.toNatClampNeg))) + x2).toNatClampNeg)))] [.int x1, .ref 117] (sM mo G (up2 I 118 x1.toNatClampNeg x2) J) Q else (sm_wp X 253 115 [some (.ref 81), some (.int x1), some (.int x2), some (.int (I 99 (((16 * (I 109 (x1.toNatClampNeg))) + x2).toNatClampNeg)))] [.int 2, .int x1, .ref 117] (sM mo G (up2 I 118 x1.toNatClampNeg x2) J) Q))))) :=
  (sm_blk X 253 68 (tt_lin 253 (by decide)) rfl rfl _ _ _ _).trans rfl
set_option maxRecDepth 100000 in
theorem bk_253_105 (X : (Nat → Int32) × Nat) (mo : Bool) (G : Nat × Nat) (I : Nat → Nat → Int32) (J : Nat → Nat → Int64) (Q : Option Value → sm_M → Prop) (x1 : Int32) (x2 : Int32) (x3 : Int32) (s1 : Int32) :
    sm_wp X 253 105 [some (.ref 81), some (.int x1), some (.int x2), some (.int x3)] [.int s1, .ref 117] (sM mo G I J) Q =
    (if ¬ (x3 : Int32) = (1 : Int32) then sm_wp X 253 114 [some (.ref 81), some (.int x1), some (.int x2), some (.int x3)] [.int s1, .ref 117] (sM mo G I J) Q else (sm_wp X 253 115 [some (.ref 81), some (.int x1), some (.int x2), some (.int x3)] [.int 3, .int s1, .ref 117] (sM mo G I J) Q)) :=
  (sm_blk X 253 105 (tt_lin 253 (by decide)) rfl rfl _ _ _ _).trans rfl
set_option maxRecDepth 100000 in
theorem bk_253_114 (X : (Nat → Int32) × Nat) (mo : Bool) (G : Nat × Nat) (I : Nat → Nat → Int32) (J : Nat → Nat → Int64) (Q : Option Value → sm_M → Prop) (x1 : Int32) (x2 : Int32) (x3 : Int32) (s1 : Int32) :
    sm_wp X 253 114 [some (.ref 81), some (.int x1), some (.int x2), some (.int x3)] [.int s1, .ref 117] (sM mo G I J) Q =
    (vp_in s1 60 ∧ (if ¬ (x3 : Int32) = (2 : Int32) then sm_wp X 253 145 [some (.ref 81), some (.int x1), some (.int x2), some (.int x3)] [] (sM mo G (up2 I 117 s1.toNatClampNeg 1) J) Q else (vp_in x1 60 ∧ (vp_in ((up2 I 117 s1.toNatClampNeg 1) 109 (x1.toNatClampNeg)) 6 ∧ (vp_in x1 60 ∧ (vp_in x1 60 ∧ (if ¬ ((up2 (up2 I 117 s1.toNatClampNeg 1) 119 x1.toNatClampNeg (((up2 I 117 s1.toNatClampNeg 1) 81 16) + (2 * ((up2 I 117 s1.toNatClampNeg 1) 90 (((up2 I 117 s1.toNatClampNeg 1) 109 (x1.toNatClampNeg)).toNatClampNeg))))) 117 (x1.toNatClampNeg) : Int32) = (1 : Int32) then sm_wp X 253 168 [some (.ref 81), some (.int x1), some (.int x2), some (.int x3)] [] (sM mo G (up2 (up2 I 117 s1.toNatClampNeg 1) 119 x1.toNatClampNeg (((up2 I 117 s1.toNatClampNeg 1) 81 16) + (2 * ((up2 I 117 s1.toNatClampNeg 1) 90 (((up2 I 117 s1.toNatClampNeg 1) 109 (x1.toNatClampNeg)).toNatClampNeg))))) J) Q else (vp_in x1 60 ∧ (if ((up2 (up2 I 117 s1.toNatClampNeg 1) 119 x1.toNatClampNeg (((up2 I 117 s1.toNatClampNeg 1) 81 16) + (2 * ((up2 I 117 s1.toNatClampNeg 1) 90 (((up2 I 117 s1.toNatClampNeg 1) 109 (x1.toNatClampNeg)).toNatClampNeg))))) 119 (x1.toNatClampNeg) : Int32) ≤ ((up2 (up2 I 117 s1.toNatClampNeg 1) 119 x1.toNatClampNeg (((up2 I 117 s1.toNatClampNeg 1) 81 16) + (2 * ((up2 I 117 s1.toNatClampNeg 1) 90 (((up2 I 117 s1.toNatClampNeg 1) 109 (x1.toNatClampNeg)).toNatClampNeg))))) 81 16 : Int32) then sm_wp X 253 169 [some (.ref 81), some (.int x1), some (.int x2), some (.int x3)] [] (sM mo G (up2 (up2 I 117 s1.toNatClampNeg 1) 119 x1.toNatClampNeg (((up2 I 117 s1.toNatClampNeg 1) 81 16) + (2 * ((up2 I 117 s1.toNatClampNeg 1) 90 (((up2 I 117 s1.toNatClampNeg 1) 109 (x1.toNatClampNeg)).toNatClampNeg))))) J) Q else (True ∧ Q none (sM mo G (up2 (up2 I 117 s1.toNatClampNeg 1) 119 x1.toNatClampNeg (((up2 I 117 s1.toNatClampNeg 1) 81 16) + (2 * ((up2 I 117 s1.toNatClampNeg 1) 90 (((up2 I 117 s1.toNatClampNeg 1) 109 (x1.toNatClampNeg)).toNatClampNeg))))) J))))))))))) :=
  (sm_blk X 253 114 (tt_lin 253 (by decide)) rfl rfl _ _ _ _).trans rfl
set_option maxRecDepth 100000 in
theorem bk_253_115 (X : (Nat → Int32) × Nat) (mo : Bool) (G : Nat × Nat) (I : Nat → Nat → Int32) (J : Nat → Nat → Int64) (Q : Option Value → sm_M → Prop) (x1 : Int32) (x2 : Int32) (x3 : Int32) (s1 : Int32) (s2 : Int32) :
    sm_wp X 253 115 [some (.ref 81), some (.int x1), some (.int x2), some (.int x3)] [.int s2, .int s1, .ref 117] (sM mo G I J) Q =
    (vp_in s1 60 ∧ (if ¬ (x3 : Int32) = (2 : Int32) then sm_wp X 253 145 [some (.ref 81), some (.int x1), some (.int x2), some (.int x3)] [] (sM mo G (up2 I 117 s1.toNatClampNeg s2) J) Q else (vp_in x1 60 ∧ (vp_in ((up2 I 117 s1.toNatClampNeg s2) 109 (x1.toNatClampNeg)) 6 ∧ (vp_in x1 60 ∧ (vp_in x1 60 ∧ (if ¬ ((up2 (up2 I 117 s1.toNatClampNeg s2) 119 x1.toNatClampNeg (((up2 I 117 s1.toNatClampNeg s2) 81 16) + (2 * ((up2 I 117 s1.toNatClampNeg s2) 90 (((up2 I 117 s1.toNatClampNeg s2) 109 (x1.toNatClampNeg)).toNatClampNeg))))) 117 (x1.toNatClampNeg) : Int32) = (1 : Int32) then sm_wp X 253 168 [some (.ref 81), some (.int x1), some (.int x2), some (.int x3)] [] (sM mo G (up2 (up2 I 117 s1.toNatClampNeg s2) 119 x1.toNatClampNeg (((up2 I 117 s1.toNatClampNeg s2) 81 16) + (2 * ((up2 I 117 s1.toNatClampNeg s2) 90 (((up2 I 117 s1.toNatClampNeg s2) 109 (x1.toNatClampNeg)).toNatClampNeg))))) J) Q else (vp_in x1 60 ∧ (if ((up2 (up2 I 117 s1.toNatClampNeg s2) 119 x1.toNatClampNeg (((up2 I 117 s1.toNatClampNeg s2) 81 16) + (2 * ((up2 I 117 s1.toNatClampNeg s2) 90 (((up2 I 117 s1.toNatClampNeg s2) 109 (x1.toNatClampNeg)).toNatClampNeg))))) 119 (x1.toNatClampNeg) : Int32) ≤ ((up2 (up2 I 117 s1.toNatClampNeg s2) 119 x1.toNatClampNeg (((up2 I 117 s1.toNatClampNeg s2) 81 16) + (2 * ((up2 I 117 s1.toNatClampNeg s2) 90 (((up2 I 117 s1.toNatClampNeg s2) 109 (x1.toNatClampNeg)).toNatClampNeg))))) 81 16 : Int32) then sm_wp X 253 169 [some (.ref 81), some (.int x1), some (.int x2), some (.int x3)] [] (sM mo G (up2 (up2 I 117 s1.toNatClampNeg s2) 119 x1.toNatClampNeg (((up2 I 117 s1.toNatClampNeg s2) 81 16) + (2 * ((up2 I 117 s1.toNatClampNeg s2) 90 (((up2 I 117 s1.toNatClampNeg s2) 109 (x1.toNatClampNeg)).toNatClampNeg))))) J) Q else (True ∧ Q none (sM mo G (up2 (up2 I 117 s1.toNatClampNeg s2) 119 x1.toNatClampNeg (((up2 I 117 s1.toNatClampNeg s2) 81 16) + (2 * ((up2 I 117 s1.toNatClampNeg s2) 90 (((up2 I 117 s1.toNatClampNeg s2) 109 (x1.toNatClampNeg)).toNatClampNeg))))) J))))))))))) :=
  (sm_blk X 253 115 (tt_lin 253 (by decide)) rfl rfl _ _ _ _).trans rfl
set_option maxRecDepth 100000 in
theorem bk_253_145 (X : (Nat → Int32) × Nat) (mo : Bool) (G : Nat × Nat) (I : Nat → Nat → Int32) (J : Nat → Nat → Int64) (Q : Option Value → sm_M → Prop) (x1 : Int32) :
    sm_wp X 253 145 [some (.ref 81), some (.int x1), none, none] [] (sM mo G I J) Q =
    (vp_in x1 60 ∧ (if ¬ (I 117 (x1.toNatClampNeg) : Int32) = (1 : Int32) then sm_wp X 253 168 [some (.ref 81), some (.int x1), none, none] [] (sM mo G I J) Q else (vp_in x1 60 ∧ (if (I 119 (x1.toNatClampNeg) : Int32) ≤ (I 81 16 : Int32) then sm_wp X 253 169 [some (.ref 81), some (.int x1), none, none] [] (sM mo G I J) Q else (True ∧ Q none (sM mo G I J)))))) :=
  (sm_blk X 253 145 (tt_lin 253 (by decide)) rfl rfl _ _ _ _).trans rfl
set_option maxRecDepth 100000 in
theorem bk_253_168 (X : (Nat → Int32) × Nat) (mo : Bool) (G : Nat × Nat) (I : Nat → Nat → Int32) (J : Nat → Nat → Int64) (Q : Option Value → sm_M → Prop) (x1 : Int32) :
    sm_wp X 253 168 [some (.ref 81), some (.int x1), none, none] [] (sM mo G I J) Q =
    (True ∧ Q none (sM mo G I J)) :=
  (sm_blk X 253 168 (tt_lin 253 (by decide)) rfl rfl _ _ _ _).trans rfl
set_option maxRecDepth 100000 in
theorem bk_253_169 (X : (Nat → Int32) × Nat) (mo : Bool) (G : Nat × Nat) (I : Nat → Nat → Int32) (J : Nat → Nat → Int64) (Q : Option Value → sm_M → Prop) (x1 : Int32) :
    sm_wp X 253 169 [some (.ref 81), some (.int x1), none, none] [] (sM mo G I J) Q =
    (sm_wp X 254 0 [some (.ref 81), some (.int x1), some (.int 1), none, none] [] (sM mo G I J) (fun v M => sm_wp X 253 180 [some (.ref 81), some (.int x1), none, none] (v.toList ++ [.int x1, .ref 118]) M Q)) :=
  (sm_blk X 253 169 (tt_lin 253 (by decide)) rfl rfl _ _ _ _).trans rfl
set_option maxRecDepth 100000 in
theorem bk_253_180 (X : (Nat → Int32) × Nat) (mo : Bool) (G : Nat × Nat) (I : Nat → Nat → Int32) (J : Nat → Nat → Int64) (Q : Option Value → sm_M → Prop) (x1 : Int32) (s1 : Int32) (s2 : Int32) :
    sm_wp X 253 180 [some (.ref 81), some (.int x1), none, none] [.int s2, .int s1, .ref 118] (sM mo G I J) Q =
    (vp_in s1 60 ∧ (vp_in x1 60 ∧ (if ((up2 I 118 s1.toNatClampNeg s2) 118 (x1.toNatClampNeg) : Int32) < 0 then sm_wp X 253 199 [some (.ref 81), some (.int x1), none, none] [.int x1, .ref 117] (sM mo G (up2 I 118 s1.toNatClampNeg s2) J) Q else (sm_wp X 253 200 [some (.ref 81), some (.int x1), none, none] [.int 2, .int x1, .ref 117] (sM mo G (up2 I 118 s1.toNatClampNeg s2) J) Q)))) :=
  (sm_blk X 253 180 (tt_lin 253 (by decide)) rfl rfl _ _ _ _).trans rfl
set_option maxRecDepth 100000 in
theorem bk_253_199 (X : (Nat → Int32) × Nat) (mo : Bool) (G : Nat × Nat) (I : Nat → Nat → Int32) (J : Nat → Nat → Int64) (Q : Option Value → sm_M → Prop) (x1 : Int32) (s1 : Int32) :
    sm_wp X 253 199 [some (.ref 81), some (.int x1), none, none] [.int s1, .ref 117] (sM mo G I J) Q =
    (vp_in s1 60 ∧ (True ∧ Q none (sM mo G (up2 I 117 s1.toNatClampNeg 3) J))) :=
  (sm_blk X 253 199 (tt_lin 253 (by decide)) rfl rfl _ _ _ _).trans rfl
set_option maxRecDepth 100000 in
theorem bk_253_200 (X : (Nat → Int32) × Nat) (mo : Bool) (G : Nat × Nat) (I : Nat → Nat → Int32) (J : Nat → Nat → Int64) (Q : Option Value → sm_M → Prop) (x1 : Int32) (s1 : Int32) (s2 : Int32) :
    sm_wp X 253 200 [some (.ref 81), some (.int x1), none, none] [.int s2, .int s1, .ref 117] (sM mo G I J) Q =
    (vp_in s1 60 ∧ (True ∧ Q none (sM mo G (up2 I 117 s1.toNatClampNeg s2) J))) :=
  (sm_blk X 253 200 (tt_lin 253 (by decide)) rfl rfl _ _ _ _).trans rfl
set_option maxRecDepth 100000 in
theorem bk_254_0 (X : (Nat → Int32) × Nat) (mo : Bool) (G : Nat × Nat) (I : Nat → Nat → Int32) (J : Nat → Nat → Int64) (Q : Option Value → sm_M → Prop) (x1 : Int32) (x2 : Int32) :
    sm_wp X 254 0 [some (.ref 81), some (.int x1), some (.int x2), none, none] [] (sM mo G I J) Q =
    (vp_in x1 60 ∧ (sm_wp X 254 10 [some (.ref 81), some (.int x1), some (.int x2), some (.int (I 109 (x1.toNatClampNeg))), some (.int 0)] [] (sM mo G I J) Q)) :=
  (sm_blk X 254 0 (tt_lin 254 (by decide)) rfl rfl _ _ _ _).trans rfl
set_option maxRecDepth 100000 in
theorem bk_254_10 (X : (Nat → Int32) × Nat) (mo : Bool) (G : Nat × Nat) (I : Nat → Nat → Int32) (J : Nat → Nat → Int64) (Q : Option Value → sm_M → Prop) (x1 : Int32) (x2 : Int32) (x3 : Int32) (x4 : Int32) :
    sm_wp X 254 10 [some (.ref 81), some (.int x1), some (.int x2), some (.int x3), some (.int x4)] [] (sM mo G I J) Q =
    (vp_in x3 7 ∧ (if (I 102 (x3.toNatClampNeg) : Int32) ≤ (x4 : Int32) then sm_wp X 254 65 [some (.ref 81), some (.int x1), some (.int x2), some (.int x3), some (.int x4)] [] (sM mo G I J) Q else (vp_in ((16 * x3) + x4) 112 ∧ (if ¬ (I 99 (((16 * x3) + x4).toNatClampNeg) : Int32) = (3 : Int32) then sm_wp X 254 41 [some (.ref 81), some (.int x1), some (.int x2), some (.int x3), some (.int x4)] [] (sM mo G I J) Q else (sm_wp X 254 42 [some (.ref 81), some (.int x1), some (.int x2), some (.int x3), some (.int x4)] [.int 1] (sM mo G I J) Q))))) :=
  (sm_blk X 254 10 (tt_lin 254 (by decide)) rfl rfl _ _ _ _).trans rfl
set_option maxRecDepth 100000 in
theorem bk_254_41 (X : (Nat → Int32) × Nat) (mo : Bool) (G : Nat × Nat) (I : Nat → Nat → Int32) (J : Nat → Nat → Int64) (Q : Option Value → sm_M → Prop) (x1 : Int32) (x2 : Int32) (x3 : Int32) (x4 : Int32) :
    sm_wp X 254 41 [some (.ref 81), some (.int x1), some (.int x2), some (.int x3), some (.int x4)] [] (sM mo G I J) Q =
    (if ¬ (0 : Int32) = (x2 : Int32) then sm_wp X 254 59 [some (.ref 81), some (.int x1), some (.int x2), some (.int x3), some (.int x4)] [] (sM mo G I J) Q else (sm_wp X 255 0 [some (.ref 81), some (.int x1), some (.int x4), none, none] [] (sM mo G I J) (fun v M => sm_wp X 254 53 [some (.ref 81), some (.int x1), some (.int x2), some (.int x3), some (.int x4)] (v.toList ++ []) M Q))) :=
  (sm_blk X 254 41 (tt_lin 254 (by decide)) rfl rfl _ _ _ _).trans rfl
set_option maxRecDepth 100000 in
theorem bk_254_42 (X : (Nat → Int32) × Nat) (mo : Bool) (G : Nat × Nat) (I : Nat → Nat → Int32) (J : Nat → Nat → Int64) (Q : Option Value → sm_M → Prop) (x1 : Int32) (x2 : Int32) (x3 : Int32) (x4 : Int32) (s0 : Int32) :
    sm_wp X 254 42 [some (.ref 81), some (.int x1), some (.int x2), some (.int x3), some (.int x4)] [.int s0] (sM mo G I J) Q =
    (if ¬ (s0 : Int32) = (x2 : Int32) then sm_wp X 254 59 [some (.ref 81), some (.int x1), some (.int x2), some (.int x3), some (.int x4)] [] (sM mo G I J) Q else (sm_wp X 255 0 [some (.ref 81), some (.int x1), some (.int x4), none, none] [] (sM mo G I J) (fun v M => sm_wp X 254 53 [some (.ref 81), some (.int x1), some (.int x2), some (.int x3), some (.int x4)] (v.toList ++ []) M Q))) :=
  (sm_blk X 254 42 (tt_lin 254 (by decide)) rfl rfl _ _ _ _).trans rfl
set_option maxRecDepth 100000 in
theorem bk_254_53 (X : (Nat → Int32) × Nat) (mo : Bool) (G : Nat × Nat) (I : Nat → Nat → Int32) (J : Nat → Nat → Int64) (Q : Option Value → sm_M → Prop) (x1 : Int32) (x2 : Int32) (x3 : Int32) (x4 : Int32) (s0 : Int32) :
    sm_wp X 254 53 [some (.ref 81), some (.int x1), some (.int x2), some (.int x3), some (.int x4)] [.int s0] (sM mo G I J) Q =
    (if (s0 : Int32) = 0 then sm_wp X 254 59 [some (.ref 81), some (.int x1), some (.int x2), some (.int x3), some (.int x4)] [] (sM mo G I J) Q else (True ∧ Q (some (.int x4)) (sM mo G I J))) :=
  (sm_blk X 254 53 (tt_lin 254 (by decide)) rfl rfl _ _ _ _).trans rfl
set_option maxRecDepth 100000 in
theorem bk_254_59 (X : (Nat → Int32) × Nat) (mo : Bool) (G : Nat × Nat) (I : Nat → Nat → Int32) (J : Nat → Nat → Int64) (Q : Option Value → sm_M → Prop) (x1 : Int32) (x2 : Int32) (x3 : Int32) (x4 : Int32) :
    sm_wp X 254 59 [some (.ref 81), some (.int x1), some (.int x2), some (.int x3), some (.int x4)] [] (sM mo G I J) Q =
    (sm_wp X 254 10 [some (.ref 81), some (.int x1), some (.int x2), some (.int x3), some (.int (x4 + 1))] [] (sM mo G I J) Q) :=
  (sm_blk X 254 59 (tt_lin 254 (by decide)) rfl rfl _ _ _ _).trans rfl
set_option maxRecDepth 100000 in
theorem bk_254_65 (X : (Nat → Int32) × Nat) (mo : Bool) (G : Nat × Nat) (I : Nat → Nat → Int32) (J : Nat → Nat → Int64) (Q : Option Value → sm_M → Prop) (x1 : Int32) (x2 : Int32) (x3 : Int32) (x4 : Int32) :
    sm_wp X 254 65 [some (.ref 81), some (.int x1), some (.int x2), some (.int x3), some (.int x4)] [] (sM mo G I J) Q =
    (True ∧ Q (some (.int (-1))) (sM mo G I J)) :=
  (sm_blk X 254 65 (tt_lin 254 (by decide)) rfl rfl _ _ _ _).trans rfl
set_option maxRecDepth 100000 in
theorem bk_255_0 (X : (Nat → Int32) × Nat) (mo : Bool) (G : Nat × Nat) (I : Nat → Nat → Int32) (J : Nat → Nat → Int64) (Q : Option Value → sm_M → Prop) (x1 : Int32) (x2 : Int32) :
    sm_wp X 255 0 [some (.ref 81), some (.int x1), some (.int x2), none, none] [] (sM mo G I J) Q =
    (sm_wp X 256 0 [some (.ref 81), some (.int x1), some (.int x2), none, none, none, none, none, none, none] [] (sM mo G I J) (fun v M => sm_wp X 255 6 [some (.ref 81), some (.int x1), some (.int x2), none, none] (v.toList ++ []) M Q)) :=
  (sm_blk X 255 0 (tt_lin 255 (by decide)) rfl rfl _ _ _ _).trans rfl
set_option maxRecDepth 100000 in
theorem bk_255_6 (X : (Nat → Int32) × Nat) (mo : Bool) (G : Nat × Nat) (I : Nat → Nat → Int32) (J : Nat → Nat → Int64) (Q : Option Value → sm_M → Prop) (x1 : Int32) (x2 : Int32) (s0 : Int64) :
    sm_wp X 255 6 [some (.ref 81), some (.int x1), some (.int x2), none, none] [.long s0] (sM mo G I J) Q =
    (if (lg_cmp s0 (-9223372036854775808) : Int32) = 0 then sm_wp X 255 25 [some (.ref 81), some (.int x1), some (.int x2), some (.long s0), none] [] (sM mo G I J) Q else (if (lg_cmp s0 0 : Int32) = 0 then sm_wp X 255 25 [some (.ref 81), some (.int x1), some (.int x2), some (.long s0), none] [] (sM mo G I J) Q else (sm_wp X 255 26 [some (.ref 81), some (.int x1), some (.int x2), some (.long s0), none] [.int 1] (sM mo G I J) Q))) :=
  (sm_blk X 255 6 (tt_lin 255 (by decide)) rfl rfl _ _ _ _).trans rfl
set_option maxRecDepth 100000 in
theorem bk_255_25 (X : (Nat → Int32) × Nat) (mo : Bool) (G : Nat × Nat) (I : Nat → Nat → Int32) (J : Nat → Nat → Int64) (Q : Option Value → sm_M → Prop) (x1 : Int32) (x2 : Int32) (x3 : Int64) :
    sm_wp X 255 25 [some (.ref 81), some (.int x1), some (.int x2), some (.long x3), none] [] (sM mo G I J) Q =
    (sm_zb 0 ∧ Q (some (.int 0)) (sM mo G I J)) :=
  (sm_blk X 255 25 (tt_lin 255 (by decide)) rfl rfl _ _ _ _).trans rfl
set_option maxRecDepth 100000 in
theorem bk_255_26 (X : (Nat → Int32) × Nat) (mo : Bool) (G : Nat × Nat) (I : Nat → Nat → Int32) (J : Nat → Nat → Int64) (Q : Option Value → sm_M → Prop) (x1 : Int32) (x2 : Int32) (x3 : Int64) (s0 : Int32) :
    sm_wp X 255 26 [some (.ref 81), some (.int x1), some (.int x2), some (.long x3), none] [.int s0] (sM mo G I J) Q =
    (sm_zb s0 ∧ Q (some (.int s0)) (sM mo G I J)) :=
  (sm_blk X 255 26 (tt_lin 255 (by decide)) rfl rfl _ _ _ _).trans rfl
set_option maxRecDepth 100000 in
theorem bk_256_0 (X : (Nat → Int32) × Nat) (mo : Bool) (G : Nat × Nat) (I : Nat → Nat → Int32) (J : Nat → Nat → Int64) (Q : Option Value → sm_M → Prop) (x1 : Int32) (x2 : Int32) :
    sm_wp X 256 0 [some (.ref 81), some (.int x1), some (.int x2), none, none, none, none, none, none, none] [] (sM mo G I J) Q =
    (vp_in x1 60 ∧ (sm_zb 0 ∧ (sm_wp X 256 26 [some (.ref 81), some (.int x1), none, some (.int (I 109 (x1.toNatClampNeg))), some (.int ((16 * (I 109 (x1.toNatClampNeg))) + x2)), some (.long 0), none, some (.int 0), none, none] [] (sM mo G (up2 I 81 63 0) J) Q))) :=
  (sm_blk X 256 0 (tt_lin 256 (by decide)) rfl rfl _ _ _ _).trans rfl
set_option maxRecDepth 100000 in
theorem bk_256_26 (X : (Nat → Int32) × Nat) (mo : Bool) (G : Nat × Nat) (I : Nat → Nat → Int32) (J : Nat → Nat → Int64) (Q : Option Value → sm_M → Prop) (x1 : Int32) (x3 : Int32) (x4 : Int32) (x5 : Int64) (x7 : Int32) :
    sm_wp X 256 26 [some (.ref 81), some (.int x1), none, some (.int x3), some (.int x4), some (.long x5), none, some (.int x7), none, none] [] (sM mo G I J) Q =
    (vp_in x4 112 ∧ (if (I 101 (x4.toNatClampNeg) : Int32) ≤ (x7 : Int32) then sm_wp X 256 220 [some (.ref 81), some (.int x1), none, some (.int x3), some (.int x4), some (.long x5), none, some (.int x7), none, none] [] (sM mo G I J) Q else (if ¬ (I 81 63 : Int32) = 0 then sm_wp X 256 220 [some (.ref 81), some (.int x1), none, some (.int x3), some (.int x4), some (.long x5), none, some (.int x7), none, none] [] (sM mo G I J) Q else (vp_in x4 112 ∧ (vp_in (((64 * x3) + (I 100 (x4.toNatClampNeg))) + x7) 448 ∧ (vp_in (I 98 ((((64 * x3) + (I 100 (x4.toNatClampNeg))) + x7).toNatClampNeg)) 448 ∧ (if ¬ (I 94 ((I 98 ((((64 * x3) + (I 100 (x4.toNatClampNeg))) + x7).toNatClampNeg)).toNatClampNeg) : Int32) = 0 then sm_wp X 256 92 [some (.ref 81), some (.int x1), none, some (.int x3), some (.int x4), some (.long x5), none, some (.int x7), some (.int (I 98 ((((64 * x3) + (I 100 (x4.toNatClampNeg))) + x7).toNatClampNeg))), some (.int (I 94 ((I 98 ((((64 * x3) + (I 100 (x4.toNatClampNeg))) + x7).toNatClampNeg)).toNatClampNeg)))] [] (sM mo G I J) Q else (vp_in (I 98 ((((64 * x3) + (I 100 (x4.toNatClampNeg))) + x7).toNatClampNeg)) 448 ∧ (sm_wp X 256 203 [some (.ref 81), some (.int x1), none, some (.int x3), some (.int x4), some (.long x5), none, some (.int x7), some (.int (I 98 ((((64 * x3) + (I 100 (x4.toNatClampNeg))) + x7).toNatClampNeg))), some (.int (I 94 ((I 98 ((((64 * x3) + (I 100 (x4.toNatClampNeg))) + x7).toNatClampNeg)).toNatClampNeg)))] [.long ((I 97 ((I 98 ((((64 * x3) + (I 100 (x4.toNatClampNeg))) + x7).toNatClampNeg)).toNatClampNeg)).toInt64)] (sM mo G I J) Q))))))))) :=
  (sm_blk X 256 26 (tt_lin 256 (by decide)) rfl rfl _ _ _ _).trans rfl
set_option maxRecDepth 100000 in
theorem bk_256_92 (X : (Nat → Int32) × Nat) (mo : Bool) (G : Nat × Nat) (I : Nat → Nat → Int32) (J : Nat → Nat → Int64) (Q : Option Value → sm_M → Prop) (x1 : Int32) (x3 : Int32) (x4 : Int32) (x5 : Int64) (x7 : Int32) (x8 : Int32) (x9 : Int32) :
    sm_wp X 256 92 [some (.ref 81), some (.int x1), none, some (.int x3), some (.int x4), some (.long x5), none, some (.int x7), some (.int x8), some (.int x9)] [] (sM mo G I J) Q =
    (if ¬ (x9 : Int32) = (16 : Int32) then sm_wp X 256 115 [some (.ref 81), some (.int x1), none, some (.int x3), some (.int x4), some (.long x5), none, some (.int x7), some (.int x8), some (.int x9)] [] (sM mo G I J) Q else (vp_in x8 448 ∧ (sm_wp X 257 0 [some (.ref 81), some (.int (I 97 (x8.toNatClampNeg))), some (.int x1), none] [] (sM mo G I J) (fun v M => sm_wp X 256 111 [some (.ref 81), some (.int x1), none, some (.int x3), some (.int x4), some (.long x5), none, some (.int x7), some (.int x8), some (.int x9)] (v.toList ++ []) M Q)))) :=
  (sm_blk X 256 92 (tt_lin 256 (by decide)) rfl rfl _ _ _ _).trans rfl
set_option maxRecDepth 100000 in
theorem bk_256_111 (X : (Nat → Int32) × Nat) (mo : Bool) (G : Nat × Nat) (I : Nat → Nat → Int32) (J : Nat → Nat → Int64) (Q : Option Value → sm_M → Prop) (x1 : Int32) (x3 : Int32) (x4 : Int32) (x5 : Int64) (x7 : Int32) (x8 : Int32) (x9 : Int32) (s0 : Int32) :
    sm_wp X 256 111 [some (.ref 81), some (.int x1), none, some (.int x3), some (.int x4), some (.long x5), none, some (.int x7), some (.int x8), some (.int x9)] [.int s0] (sM mo G I J) Q =
    (sm_wp X 256 203 [some (.ref 81), some (.int x1), none, some (.int x3), some (.int x4), some (.long x5), none, some (.int x7), some (.int x8), some (.int x9)] [.long (s0.toInt64)] (sM mo G I J) Q) :=
  (sm_blk X 256 111 (tt_lin 256 (by decide)) rfl rfl _ _ _ _).trans rfl
set_option maxRecDepth 100000 in
theorem bk_256_115 (X : (Nat → Int32) × Nat) (mo : Bool) (G : Nat × Nat) (I : Nat → Nat → Int32) (J : Nat → Nat → Int64) (Q : Option Value → sm_M → Prop) (x1 : Int32) (x3 : Int32) (x4 : Int32) (x5 : Int64) (x7 : Int32) (x8 : Int32) (x9 : Int32) :
    sm_wp X 256 115 [some (.ref 81), some (.int x1), none, some (.int x3), some (.int x4), some (.long x5), none, some (.int x7), some (.int x8), some (.int x9)] [] (sM mo G I J) Q =
    (if ¬ (x9 : Int32) = (12 : Int32) then sm_wp X 256 138 [some (.ref 81), some (.int x1), none, some (.int x3), some (.int x4), some (.long x5), none, some (.int x7), some (.int x8), some (.int x9)] [] (sM mo G I J) Q else (vp_in x8 448 ∧ (vp_in (I 95 (x8.toNatClampNeg)) 384 ∧ (sm_wp X 256 203 [some (.ref 81), some (.int x1), none, some (.int x3), some (.int x4), some (.long x5), none, some (.int x7), some (.int x8), some (.int x9)] [.long (-(J 121 ((I 95 (x8.toNatClampNeg)).toNatClampNeg)))] (sM mo G I J) Q)))) :=
  (sm_blk X 256 115 (tt_lin 256 (by decide)) rfl rfl _ _ _ _).trans rfl
set_option maxRecDepth 100000 in
theorem bk_256_138 (X : (Nat → Int32) × Nat) (mo : Bool) (G : Nat × Nat) (I : Nat → Nat → Int32) (J : Nat → Nat → Int64) (Q : Option Value → sm_M → Prop) (x1 : Int32) (x3 : Int32) (x4 : Int32) (x5 : Int64) (x7 : Int32) (x8 : Int32) (x9 : Int32) :
    sm_wp X 256 138 [some (.ref 81), some (.int x1), none, some (.int x3), some (.int x4), some (.long x5), none, some (.int x7), some (.int x8), some (.int x9)] [] (sM mo G I J) Q =
    (if ¬ (x9 : Int32) = (13 : Int32) then sm_wp X 256 173 [some (.ref 81), some (.int x1), none, some (.int x3), some (.int x4), some (.long x5), none, some (.int x7), some (.int x8), some (.int x9)] [] (sM mo G I J) Q else (vp_in x8 448 ∧ (vp_in (I 95 (x8.toNatClampNeg)) 384 ∧ (if ¬ (lg_cmp (J 121 ((I 95 (x8.toNatClampNeg)).toNatClampNeg)) 0 : Int32) = 0 then sm_wp X 256 166 [some (.ref 81), some (.int x1), none, some (.int x3), some (.int x4), some (.long x5), none, some (.int x7), some (.int x8), some (.int x9)] [] (sM mo G I J) Q else (sm_wp X 256 167 [some (.ref 81), some (.int x1), none, some (.int x3), some (.int x4), some (.long x5), none, some (.int x7), some (.int x8), some (.int x9)] [.int 1] (sM mo G I J) Q))))) :=
  (sm_blk X 256 138 (tt_lin 256 (by decide)) rfl rfl _ _ _ _).trans rfl
set_option maxRecDepth 100000 in
theorem bk_256_166 (X : (Nat → Int32) × Nat) (mo : Bool) (G : Nat × Nat) (I : Nat → Nat → Int32) (J : Nat → Nat → Int64) (Q : Option Value → sm_M → Prop) (x1 : Int32) (x3 : Int32) (x4 : Int32) (x5 : Int64) (x7 : Int32) (x8 : Int32) (x9 : Int32) :
    sm_wp X 256 166 [some (.ref 81), some (.int x1), none, some (.int x3), some (.int x4), some (.long x5), none, some (.int x7), some (.int x8), some (.int x9)] [] (sM mo G I J) Q =
    (sm_wp X 260 0 [some (.int 0)] [] (sM mo G I J) (fun v M => sm_wp X 256 170 [some (.ref 81), some (.int x1), none, some (.int x3), some (.int x4), some (.long x5), none, some (.int x7), some (.int x8), some (.int x9)] (v.toList ++ []) M Q)) :=
  (sm_blk X 256 166 (tt_lin 256 (by decide)) rfl rfl _ _ _ _).trans rfl
set_option maxRecDepth 100000 in
theorem bk_256_167 (X : (Nat → Int32) × Nat) (mo : Bool) (G : Nat × Nat) (I : Nat → Nat → Int32) (J : Nat → Nat → Int64) (Q : Option Value → sm_M → Prop) (x1 : Int32) (x3 : Int32) (x4 : Int32) (x5 : Int64) (x7 : Int32) (x8 : Int32) (x9 : Int32) (s0 : Int32) :
    sm_wp X 256 167 [some (.ref 81), some (.int x1), none, some (.int x3), some (.int x4), some (.long x5), none, some (.int x7), some (.int x8), some (.int x9)] [.int s0] (sM mo G I J) Q =
    (sm_wp X 260 0 [some (.int s0)] [] (sM mo G I J) (fun v M => sm_wp X 256 170 [some (.ref 81), some (.int x1), none, some (.int x3), some (.int x4), some (.long x5), none, some (.int x7), some (.int x8), some (.int x9)] (v.toList ++ []) M Q)) :=
  (sm_blk X 256 167 (tt_lin 256 (by decide)) rfl rfl _ _ _ _).trans rfl
set_option maxRecDepth 100000 in
theorem bk_256_170 (X : (Nat → Int32) × Nat) (mo : Bool) (G : Nat × Nat) (I : Nat → Nat → Int32) (J : Nat → Nat → Int64) (Q : Option Value → sm_M → Prop) (x1 : Int32) (x3 : Int32) (x4 : Int32) (x5 : Int64) (x7 : Int32) (x8 : Int32) (x9 : Int32) (s0 : Int64) :
    sm_wp X 256 170 [some (.ref 81), some (.int x1), none, some (.int x3), some (.int x4), some (.long x5), none, some (.int x7), some (.int x8), some (.int x9)] [.long s0] (sM mo G I J) Q =
    (sm_wp X 256 203 [some (.ref 81), some (.int x1), none, some (.int x3), some (.int x4), some (.long x5), none, some (.int x7), some (.int x8), some (.int x9)] [.long s0] (sM mo G I J) Q) :=
  (sm_blk X 256 170 (tt_lin 256 (by decide)) rfl rfl _ _ _ _).trans rfl
set_option maxRecDepth 100000 in
theorem bk_256_173 (X : (Nat → Int32) × Nat) (mo : Bool) (G : Nat × Nat) (I : Nat → Nat → Int32) (J : Nat → Nat → Int64) (Q : Option Value → sm_M → Prop) (x1 : Int32) (x3 : Int32) (x4 : Int32) (x5 : Int64) (x7 : Int32) (x8 : Int32) (x9 : Int32) :
    sm_wp X 256 173 [some (.ref 81), some (.int x1), none, some (.int x3), some (.int x4), some (.long x5), none, some (.int x7), some (.int x8), some (.int x9)] [] (sM mo G I J) Q =
    (vp_in x8 448 ∧ (vp_in (I 95 (x8.toNatClampNeg)) 384 ∧ (vp_in x8 448 ∧ (vp_in (I 96 (x8.toNatClampNeg)) 384 ∧ (sm_wp X 261 0 [some (.ref 81), some (.int x9), some (.long (J 121 ((I 95 (x8.toNatClampNeg)).toNatClampNeg))), none, some (.long (J 121 ((I 96 (x8.toNatClampNeg)).toNatClampNeg))), none] [] (sM mo G I J) (fun v M => sm_wp X 256 203 [some (.ref 81), some (.int x1), none, some (.int x3), some (.int x4), some (.long x5), none, some (.int x7), some (.int x8), some (.int x9)] (v.toList ++ []) M Q)))))) :=
  (sm_blk X 256 173 (tt_lin 256 (by decide)) rfl rfl _ _ _ _).trans rfl
set_option maxRecDepth 100000 in
theorem bk_256_203 (X : (Nat → Int32) × Nat) (mo : Bool) (G : Nat × Nat) (I : Nat → Nat → Int32) (J : Nat → Nat → Int64) (Q : Option Value → sm_M → Prop) (x1 : Int32) (x3 : Int32) (x4 : Int32) (x5 : Int64) (x7 : Int32) (x8 : Int32) (x9 : Int32) (s0 : Int64) :
    sm_wp X 256 203 [some (.ref 81), some (.int x1), none, some (.int x3), some (.int x4), some (.long x5), none, some (.int x7), some (.int x8), some (.int x9)] [.long s0] (sM mo G I J) Q =
    (vp_in x8 384 ∧ (sm_wp X 256 26 [some (.ref 81), some (.int x1), none, some (.int x3), some (.int x4), some (.long s0), none, some (.int (x7 + 1)), none, none] [] (sM mo G I (up2 J 121 x8.toNatClampNeg s0)) Q)) :=
  (sm_blk X 256 203 (tt_lin 256 (by decide)) rfl rfl _ _ _ _).trans rfl
set_option maxRecDepth 100000 in
theorem bk_256_220 (X : (Nat → Int32) × Nat) (mo : Bool) (G : Nat × Nat) (I : Nat → Nat → Int32) (J : Nat → Nat → Int64) (Q : Option Value → sm_M → Prop) (x1 : Int32) (x3 : Int32) (x4 : Int32) (x5 : Int64) (x7 : Int32) :
    sm_wp X 256 220 [some (.ref 81), some (.int x1), none, some (.int x3), some (.int x4), some (.long x5), none, some (.int x7), none, none] [] (sM mo G I J) Q =
    (if (I 81 63 : Int32) = 0 then sm_wp X 256 233 [some (.ref 81), some (.int x1), none, some (.int x3), some (.int x4), some (.long x5), none, some (.int x7), none, none] [] (sM mo G I J) Q else (sm_wp X 256 235 [some (.ref 81), some (.int x1), none, some (.int x3), some (.int x4), some (.long x5), none, some (.int x7), none, none] [.long (-9223372036854775808)] (sM mo G I J) Q)) :=
  (sm_blk X 256 220 (tt_lin 256 (by decide)) rfl rfl _ _ _ _).trans rfl
set_option maxRecDepth 100000 in
theorem bk_256_233 (X : (Nat → Int32) × Nat) (mo : Bool) (G : Nat × Nat) (I : Nat → Nat → Int32) (J : Nat → Nat → Int64) (Q : Option Value → sm_M → Prop) (x1 : Int32) (x3 : Int32) (x4 : Int32) (x5 : Int64) (x7 : Int32) :
    sm_wp X 256 233 [some (.ref 81), some (.int x1), none, some (.int x3), some (.int x4), some (.long x5), none, some (.int x7), none, none] [] (sM mo G I J) Q =
    (True ∧ Q (some (.long x5)) (sM mo G I J)) :=
  (sm_blk X 256 233 (tt_lin 256 (by decide)) rfl rfl _ _ _ _).trans rfl
set_option maxRecDepth 100000 in
theorem bk_256_235 (X : (Nat → Int32) × Nat) (mo : Bool) (G : Nat × Nat) (I : Nat → Nat → Int32) (J : Nat → Nat → Int64) (Q : Option Value → sm_M → Prop) (x1 : Int32) (x3 : Int32) (x4 : Int32) (x5 : Int64) (x7 : Int32) (s0 : Int64) :
    sm_wp X 256 235 [some (.ref 81), some (.int x1), none, some (.int x3), some (.int x4), some (.long x5), none, some (.int x7), none, none] [.long s0] (sM mo G I J) Q =
    (True ∧ Q (some (.long s0)) (sM mo G I J)) :=
  (sm_blk X 256 235 (tt_lin 256 (by decide)) rfl rfl _ _ _ _).trans rfl
set_option maxRecDepth 100000 in
theorem bk_257_0 (X : (Nat → Int32) × Nat) (mo : Bool) (G : Nat × Nat) (I : Nat → Nat → Int32) (J : Nat → Nat → Int64) (Q : Option Value → sm_M → Prop) (x1 : Int32) (x2 : Int32) :
    sm_wp X 257 0 [some (.ref 81), some (.int x1), some (.int x2), none] [] (sM mo G I J) Q =
    (vp_in x2 60 ∧ (if (x1 : Int32) = 0 then sm_wp X 257 68 [some (.ref 81), some (.int x1), some (.int x2), some (.int (I 109 (x2.toNatClampNeg)))] [] (sM mo G I J) Q else if (x1 : Int32) = 1 then sm_wp X 257 92 [some (.ref 81), some (.int x1), some (.int x2), some (.int (I 109 (x2.toNatClampNeg)))] [] (sM mo G I J) Q else if (x1 : Int32) = 2 then sm_wp X 257 104 [some (.ref 81), some (.int x1), some (.int x2), some (.int (I 109 (x2.toNatClampNeg)))] [] (sM mo G I J) Q else if (x1 : Int32) = 3 then sm_wp X 257 116 [some (.ref 81), some (.int x1), some (.int x2), some (.int (I 109 (x2.toNatClampNeg)))] [] (sM mo G I J) Q else if (x1 : Int32) = 4 then sm_wp X 257 138 [some (.ref 81), some (.int x1), some (.int x2), some (.int (I 109 (x2.toNatClampNeg)))] [] (sM mo G I J) Q else if (x1 : Int32) = 5 then sm_wp X 257 163 [some (.ref 81), some (.int x1), some (.int x2), some (.int (I 109 (x2.toNatClampNeg)))] [] (sM mo G I J) Q else if (x1 : Int32) = 6 then sm_wp X 257 174 [some (.ref 81), some (.int x1), some (.int x2), some (.int (I 109 (x2.toNatClampNeg)))] [] (sM mo G I J) Q else if (x1 : Int32) = 7 then sm_wp X 257 181 [some (.ref 81), some (.int x1), some (.int x2), some (.int (I 109 (x2.toNatClampNeg)))] [] (sM mo G I J) Q else if (x1 : Int32) = 8 then sm_wp X 257 188 [some (.ref 81), some (.int x1), some (.int x2), some (.int (I 109 (x2.toNatClampNeg)))] [] (sM mo G I J) Q else if (x1 : Int32) = 9 then sm_wp X 257 200 [some (.ref 81), some (.int x1), some (.int x2), some (.int (I 109 (x2.toNatClampNeg)))] [] (sM mo G I J) Q else if (x1 : Int32) = 10 then sm_wp X 257 205 [some (.ref 81), some (.int x1), some (.int x2), some (.int (I 109 (x2.toNatClampNeg)))] [] (sM mo G I J) Q else sm_wp X 257 217 [some (.ref 81), some (.int x1), some (.int x2), some (.int (I 109 (x2.toNatClampNeg)))] [] (sM mo G I J) Q)) :=
  (sm_blk X 257 0 (tt_lin 257 (by decide)) rfl rfl _ _ _ _).trans rfl
set_option maxRecDepth 100000 in
theorem bk_257_68 (X : (Nat → Int32) × Nat) (mo : Bool) (G : Nat × Nat) (I : Nat → Nat → Int32) (J : Nat → Nat → Int64) (Q : Option Value → sm_M → Prop) (x1 : Int32) (x2 : Int32) (x3 : Int32) :
    sm_wp X 257 68 [some (.ref 81), some (.int x1), some (.int x2), some (.int x3)] [] (sM mo G I J) Q =
    (vp_in x2 60 ∧ (sm_wp X 224 0 [some (.ref 81), some (.int x3), some (.int (I 111 (x2.toNatClampNeg))), none, none] [] (sM mo G I J) (fun v M => sm_wp X 257 79 [some (.ref 81), some (.int x1), some (.int x2), some (.int x3)] (v.toList ++ []) M Q))) :=
  (sm_blk X 257 68 (tt_lin 257 (by decide)) rfl rfl _ _ _ _).trans rfl
set_option maxRecDepth 100000 in
theorem bk_257_79 (X : (Nat → Int32) × Nat) (mo : Bool) (G : Nat × Nat) (I : Nat → Nat → Int32) (J : Nat → Nat → Int64) (Q : Option Value → sm_M → Prop) (x1 : Int32) (x2 : Int32) (x3 : Int32) (s0 : Int32) :
    sm_wp X 257 79 [some (.ref 81), some (.int x1), some (.int x2), some (.int x3)] [.int s0] (sM mo G I J) Q =
    (vp_in x2 60 ∧ (sm_wp X 224 0 [some (.ref 81), some (.int x3), some (.int (I 112 (x2.toNatClampNeg))), none, none] [] (sM mo G I J) (fun v M => sm_wp X 257 90 [some (.ref 81), some (.int x1), some (.int x2), some (.int x3)] (v.toList ++ [.int s0]) M Q))) :=
  (sm_blk X 257 79 (tt_lin 257 (by decide)) rfl rfl _ _ _ _).trans rfl
set_option maxRecDepth 100000 in
theorem bk_257_90 (X : (Nat → Int32) × Nat) (mo : Bool) (G : Nat × Nat) (I : Nat → Nat → Int32) (J : Nat → Nat → Int64) (Q : Option Value → sm_M → Prop) (x1 : Int32) (x2 : Int32) (x3 : Int32) (s0 : Int32) (s1 : Int32) :
    sm_wp X 257 90 [some (.ref 81), some (.int x1), some (.int x2), some (.int x3)] [.int s1, .int s0] (sM mo G I J) Q =
    (True ∧ Q (some (.int (s0 - s1))) (sM mo G I J)) :=
  (sm_blk X 257 90 (tt_lin 257 (by decide)) rfl rfl _ _ _ _).trans rfl
set_option maxRecDepth 100000 in
theorem bk_257_92 (X : (Nat → Int32) × Nat) (mo : Bool) (G : Nat × Nat) (I : Nat → Nat → Int32) (J : Nat → Nat → Int64) (Q : Option Value → sm_M → Prop) (x1 : Int32) (x2 : Int32) (x3 : Int32) :
    sm_wp X 257 92 [some (.ref 81), some (.int x1), some (.int x2), some (.int x3)] [] (sM mo G I J) Q =
    (vp_in x2 60 ∧ (sm_wp X 224 0 [some (.ref 81), some (.int x3), some (.int (I 111 (x2.toNatClampNeg))), none, none] [] (sM mo G I J) (fun v M => sm_wp X 257 103 [some (.ref 81), some (.int x1), some (.int x2), some (.int x3)] (v.toList ++ []) M Q))) :=
  (sm_blk X 257 92 (tt_lin 257 (by decide)) rfl rfl _ _ _ _).trans rfl
set_option maxRecDepth 100000 in
theorem bk_257_103 (X : (Nat → Int32) × Nat) (mo : Bool) (G : Nat × Nat) (I : Nat → Nat → Int32) (J : Nat → Nat → Int64) (Q : Option Value → sm_M → Prop) (x1 : Int32) (x2 : Int32) (x3 : Int32) (s0 : Int32) :
    sm_wp X 257 103 [some (.ref 81), some (.int x1), some (.int x2), some (.int x3)] [.int s0] (sM mo G I J) Q =
    (True ∧ Q (some (.int s0)) (sM mo G I J)) :=
  (sm_blk X 257 103 (tt_lin 257 (by decide)) rfl rfl _ _ _ _).trans rfl
set_option maxRecDepth 100000 in
theorem bk_257_104 (X : (Nat → Int32) × Nat) (mo : Bool) (G : Nat × Nat) (I : Nat → Nat → Int32) (J : Nat → Nat → Int64) (Q : Option Value → sm_M → Prop) (x1 : Int32) (x2 : Int32) (x3 : Int32) :
    sm_wp X 257 104 [some (.ref 81), some (.int x1), some (.int x2), some (.int x3)] [] (sM mo G I J) Q =
    (vp_in x2 60 ∧ (sm_wp X 224 0 [some (.ref 81), some (.int x3), some (.int (I 112 (x2.toNatClampNeg))), none, none] [] (sM mo G I J) (fun v M => sm_wp X 257 115 [some (.ref 81), some (.int x1), some (.int x2), some (.int x3)] (v.toList ++ []) M Q))) :=
  (sm_blk X 257 104 (tt_lin 257 (by decide)) rfl rfl _ _ _ _).trans rfl
set_option maxRecDepth 100000 in
theorem bk_257_115 (X : (Nat → Int32) × Nat) (mo : Bool) (G : Nat × Nat) (I : Nat → Nat → Int32) (J : Nat → Nat → Int64) (Q : Option Value → sm_M → Prop) (x1 : Int32) (x2 : Int32) (x3 : Int32) (s0 : Int32) :
    sm_wp X 257 115 [some (.ref 81), some (.int x1), some (.int x2), some (.int x3)] [.int s0] (sM mo G I J) Q =
    (True ∧ Q (some (.int s0)) (sM mo G I J)) :=
  (sm_blk X 257 115 (tt_lin 257 (by decide)) rfl rfl _ _ _ _).trans rfl
set_option maxRecDepth 100000 in
theorem bk_257_116 (X : (Nat → Int32) × Nat) (mo : Bool) (G : Nat × Nat) (I : Nat → Nat → Int32) (J : Nat → Nat → Int64) (Q : Option Value → sm_M → Prop) (x1 : Int32) (x2 : Int32) (x3 : Int32) :
    sm_wp X 257 116 [some (.ref 81), some (.int x1), some (.int x2), some (.int x3)] [] (sM mo G I J) Q =
    (vp_in x2 60 ∧ (sm_wp X 258 0 [some (.ref 81), some (.int (I 111 (x2.toNatClampNeg))), none, none] [] (sM mo G I J) (fun v M => sm_wp X 257 126 [some (.ref 81), some (.int x1), some (.int x2), some (.int x3)] (v.toList ++ []) M Q))) :=
  (sm_blk X 257 116 (tt_lin 257 (by decide)) rfl rfl _ _ _ _).trans rfl
set_option maxRecDepth 100000 in
theorem bk_257_126 (X : (Nat → Int32) × Nat) (mo : Bool) (G : Nat × Nat) (I : Nat → Nat → Int32) (J : Nat → Nat → Int64) (Q : Option Value → sm_M → Prop) (x1 : Int32) (x2 : Int32) (x3 : Int32) (s0 : Int32) :
    sm_wp X 257 126 [some (.ref 81), some (.int x1), some (.int x2), some (.int x3)] [.int s0] (sM mo G I J) Q =
    (vp_in x2 60 ∧ (sm_wp X 258 0 [some (.ref 81), some (.int (I 112 (x2.toNatClampNeg))), none, none] [] (sM mo G I J) (fun v M => sm_wp X 257 136 [some (.ref 81), some (.int x1), some (.int x2), some (.int x3)] (v.toList ++ [.int s0]) M Q))) :=
  (sm_blk X 257 126 (tt_lin 257 (by decide)) rfl rfl _ _ _ _).trans rfl
set_option maxRecDepth 100000 in
theorem bk_257_136 (X : (Nat → Int32) × Nat) (mo : Bool) (G : Nat × Nat) (I : Nat → Nat → Int32) (J : Nat → Nat → Int64) (Q : Option Value → sm_M → Prop) (x1 : Int32) (x2 : Int32) (x3 : Int32) (s0 : Int32) (s1 : Int32) :
    sm_wp X 257 136 [some (.ref 81), some (.int x1), some (.int x2), some (.int x3)] [.int s1, .int s0] (sM mo G I J) Q =
    (True ∧ Q (some (.int (s0 - s1))) (sM mo G I J)) :=
  (sm_blk X 257 136 (tt_lin 257 (by decide)) rfl rfl _ _ _ _).trans rfl
set_option maxRecDepth 100000 in
theorem bk_257_138 (X : (Nat → Int32) × Nat) (mo : Bool) (G : Nat × Nat) (I : Nat → Nat → Int32) (J : Nat → Nat → Int64) (Q : Option Value → sm_M → Prop) (x1 : Int32) (x2 : Int32) (x3 : Int32) :
    sm_wp X 257 138 [some (.ref 81), some (.int x1), some (.int x2), some (.int x3)] [] (sM mo G I J) Q =
    (vp_in x2 60 ∧ (sm_wp X 223 0 [some (.ref 81), some (.int x3), none, none] [] (sM mo G I J) (fun v M => sm_wp X 257 150 [some (.ref 81), some (.int x1), some (.int x2), some (.int x3)] (v.toList ++ [.int (I 111 (x2.toNatClampNeg)), .ref 81]) M Q))) :=
  (sm_blk X 257 138 (tt_lin 257 (by decide)) rfl rfl _ _ _ _).trans rfl
set_option maxRecDepth 100000 in
theorem bk_257_150 (X : (Nat → Int32) × Nat) (mo : Bool) (G : Nat × Nat) (I : Nat → Nat → Int32) (J : Nat → Nat → Int64) (Q : Option Value → sm_M → Prop) (x1 : Int32) (x2 : Int32) (x3 : Int32) (s1 : Int32) (s2 : Int32) :
    sm_wp X 257 150 [some (.ref 81), some (.int x1), some (.int x2), some (.int x3)] [.int s2, .int s1, .ref 81] (sM mo G I J) Q =
    (vp_in x2 60 ∧ (sm_wp X 259 0 [some (.ref 81), some (.int s1), some (.int (s2 &&& ((I 112 (x2.toNatClampNeg)) ^^^ (-1)))), none, none, none, none] [] (sM mo G I J) (fun v M => sm_wp X 257 162 [some (.ref 81), some (.int x1), some (.int x2), some (.int x3)] (v.toList ++ []) M Q))) :=
  (sm_blk X 257 150 (tt_lin 257 (by decide)) rfl rfl _ _ _ _).trans rfl
set_option maxRecDepth 100000 in
theorem bk_257_162 (X : (Nat → Int32) × Nat) (mo : Bool) (G : Nat × Nat) (I : Nat → Nat → Int32) (J : Nat → Nat → Int64) (Q : Option Value → sm_M → Prop) (x1 : Int32) (x2 : Int32) (x3 : Int32) (s0 : Int32) :
    sm_wp X 257 162 [some (.ref 81), some (.int x1), some (.int x2), some (.int x3)] [.int s0] (sM mo G I J) Q =
    (True ∧ Q (some (.int s0)) (sM mo G I J)) :=
  (sm_blk X 257 162 (tt_lin 257 (by decide)) rfl rfl _ _ _ _).trans rfl
set_option maxRecDepth 100000 in
theorem bk_257_163 (X : (Nat → Int32) × Nat) (mo : Bool) (G : Nat × Nat) (I : Nat → Nat → Int32) (J : Nat → Nat → Int64) (Q : Option Value → sm_M → Prop) (x1 : Int32) (x2 : Int32) (x3 : Int32) :
    sm_wp X 257 163 [some (.ref 81), some (.int x1), some (.int x2), some (.int x3)] [] (sM mo G I J) Q =
    (sm_wp X 223 0 [some (.ref 81), some (.int x3), none, none] [] (sM mo G I J) (fun v M => sm_wp X 257 170 [some (.ref 81), some (.int x1), some (.int x2), some (.int x3)] (v.toList ++ [.int x3, .ref 81]) M Q)) :=
  (sm_blk X 257 163 (tt_lin 257 (by decide)) rfl rfl _ _ _ _).trans rfl
set_option maxRecDepth 100000 in
theorem bk_257_170 (X : (Nat → Int32) × Nat) (mo : Bool) (G : Nat × Nat) (I : Nat → Nat → Int32) (J : Nat → Nat → Int64) (Q : Option Value → sm_M → Prop) (x1 : Int32) (x2 : Int32) (x3 : Int32) (s1 : Int32) (s2 : Int32) :
    sm_wp X 257 170 [some (.ref 81), some (.int x1), some (.int x2), some (.int x3)] [.int s2, .int s1, .ref 81] (sM mo G I J) Q =
    (sm_wp X 224 0 [some (.ref 81), some (.int s1), some (.int s2), none, none] [] (sM mo G I J) (fun v M => sm_wp X 257 173 [some (.ref 81), some (.int x1), some (.int x2), some (.int x3)] (v.toList ++ []) M Q)) :=
  (sm_blk X 257 170 (tt_lin 257 (by decide)) rfl rfl _ _ _ _).trans rfl
set_option maxRecDepth 100000 in
theorem bk_257_173 (X : (Nat → Int32) × Nat) (mo : Bool) (G : Nat × Nat) (I : Nat → Nat → Int32) (J : Nat → Nat → Int64) (Q : Option Value → sm_M → Prop) (x1 : Int32) (x2 : Int32) (x3 : Int32) (s0 : Int32) :
    sm_wp X 257 173 [some (.ref 81), some (.int x1), some (.int x2), some (.int x3)] [.int s0] (sM mo G I J) Q =
    (True ∧ Q (some (.int s0)) (sM mo G I J)) :=
  (sm_blk X 257 173 (tt_lin 257 (by decide)) rfl rfl _ _ _ _).trans rfl
set_option maxRecDepth 100000 in
theorem bk_257_174 (X : (Nat → Int32) × Nat) (mo : Bool) (G : Nat × Nat) (I : Nat → Nat → Int32) (J : Nat → Nat → Int64) (Q : Option Value → sm_M → Prop) (x1 : Int32) (x2 : Int32) (x3 : Int32) :
    sm_wp X 257 174 [some (.ref 81), some (.int x1), some (.int x2), some (.int x3)] [] (sM mo G I J) Q =
    (vp_in x3 6 ∧ (True ∧ Q (some (.int (I 92 (x3.toNatClampNeg)))) (sM mo G I J))) :=
  (sm_blk X 257 174 (tt_lin 257 (by decide)) rfl rfl _ _ _ _).trans rfl
set_option maxRecDepth 100000 in
theorem bk_257_181 (X : (Nat → Int32) × Nat) (mo : Bool) (G : Nat × Nat) (I : Nat → Nat → Int32) (J : Nat → Nat → Int64) (Q : Option Value → sm_M → Prop) (x1 : Int32) (x2 : Int32) (x3 : Int32) :
    sm_wp X 257 181 [some (.ref 81), some (.int x1), some (.int x2), some (.int x3)] [] (sM mo G I J) Q =
    (vp_in x3 6 ∧ (True ∧ Q (some (.int (I 89 (x3.toNatClampNeg)))) (sM mo G I J))) :=
  (sm_blk X 257 181 (tt_lin 257 (by decide)) rfl rfl _ _ _ _).trans rfl
set_option maxRecDepth 100000 in
theorem bk_257_188 (X : (Nat → Int32) × Nat) (mo : Bool) (G : Nat × Nat) (I : Nat → Nat → Int32) (J : Nat → Nat → Int64) (Q : Option Value → sm_M → Prop) (x1 : Int32) (x2 : Int32) (x3 : Int32) :
    sm_wp X 257 188 [some (.ref 81), some (.int x1), some (.int x2), some (.int x3)] [] (sM mo G I J) Q =
    (vp_in x2 60 ∧ (vp_in (I 108 (x2.toNatClampNeg)) 6 ∧ (True ∧ Q (some (.int (I 89 ((I 108 (x2.toNatClampNeg)).toNatClampNeg)))) (sM mo G I J)))) :=
  (sm_blk X 257 188 (tt_lin 257 (by decide)) rfl rfl _ _ _ _).trans rfl
set_option maxRecDepth 100000 in
theorem bk_257_200 (X : (Nat → Int32) × Nat) (mo : Bool) (G : Nat × Nat) (I : Nat → Nat → Int32) (J : Nat → Nat → Int64) (Q : Option Value → sm_M → Prop) (x1 : Int32) (x2 : Int32) (x3 : Int32) :
    sm_wp X 257 200 [some (.ref 81), some (.int x1), some (.int x2), some (.int x3)] [] (sM mo G I J) Q =
    (True ∧ Q (some (.int (I 81 16))) (sM mo G I J)) :=
  (sm_blk X 257 200 (tt_lin 257 (by decide)) rfl rfl _ _ _ _).trans rfl
set_option maxRecDepth 100000 in
theorem bk_257_205 (X : (Nat → Int32) × Nat) (mo : Bool) (G : Nat × Nat) (I : Nat → Nat → Int32) (J : Nat → Nat → Int64) (Q : Option Value → sm_M → Prop) (x1 : Int32) (x2 : Int32) (x3 : Int32) :
    sm_wp X 257 205 [some (.ref 81), some (.int x1), some (.int x2), some (.int x3)] [] (sM mo G I J) Q =
    (vp_in x2 60 ∧ (True ∧ Q (some (.int ((I 113 (x2.toNatClampNeg)) - (I 81 16)))) (sM mo G I J))) :=
  (sm_blk X 257 205 (tt_lin 257 (by decide)) rfl rfl _ _ _ _).trans rfl
set_option maxRecDepth 100000 in
theorem bk_257_217 (X : (Nat → Int32) × Nat) (mo : Bool) (G : Nat × Nat) (I : Nat → Nat → Int32) (J : Nat → Nat → Int64) (Q : Option Value → sm_M → Prop) (x1 : Int32) (x2 : Int32) (x3 : Int32) :
    sm_wp X 257 217 [some (.ref 81), some (.int x1), some (.int x2), some (.int x3)] [] (sM mo G I J) Q =
    (vp_in x2 60 ∧ (if ¬ (I 114 (x2.toNatClampNeg) : Int32) = ((-1) : Int32) then sm_wp X 257 231 [some (.ref 81), some (.int x1), some (.int x2), some (.int x3)] [] (sM mo G I J) Q else (sm_wp X 257 232 [some (.ref 81), some (.int x1), some (.int x2), some (.int x3)] [.int 0] (sM mo G I J) Q))) :=
  (sm_blk X 257 217 (tt_lin 257 (by decide)) rfl rfl _ _ _ _).trans rfl
set_option maxRecDepth 100000 in
theorem bk_257_231 (X : (Nat → Int32) × Nat) (mo : Bool) (G : Nat × Nat) (I : Nat → Nat → Int32) (J : Nat → Nat → Int64) (Q : Option Value → sm_M → Prop) (x1 : Int32) (x2 : Int32) (x3 : Int32) :
    sm_wp X 257 231 [some (.ref 81), some (.int x1), some (.int x2), some (.int x3)] [] (sM mo G I J) Q =
    (True ∧ Q (some (.int 1)) (sM mo G I J)) :=
  (sm_blk X 257 231 (tt_lin 257 (by decide)) rfl rfl _ _ _ _).trans rfl
set_option maxRecDepth 100000 in
theorem bk_257_232 (X : (Nat → Int32) × Nat) (mo : Bool) (G : Nat × Nat) (I : Nat → Nat → Int32) (J : Nat → Nat → Int64) (Q : Option Value → sm_M → Prop) (x1 : Int32) (x2 : Int32) (x3 : Int32) (s0 : Int32) :
    sm_wp X 257 232 [some (.ref 81), some (.int x1), some (.int x2), some (.int x3)] [.int s0] (sM mo G I J) Q =
    (True ∧ Q (some (.int s0)) (sM mo G I J)) :=
  (sm_blk X 257 232 (tt_lin 257 (by decide)) rfl rfl _ _ _ _).trans rfl
set_option maxRecDepth 100000 in
theorem bk_258_0 (X : (Nat → Int32) × Nat) (mo : Bool) (G : Nat × Nat) (I : Nat → Nat → Int32) (J : Nat → Nat → Int64) (Q : Option Value → sm_M → Prop) (x1 : Int32) :
    sm_wp X 258 0 [some (.ref 81), some (.int x1), none, none] [] (sM mo G I J) Q =
    (sm_wp X 258 4 [some (.ref 81), some (.int x1), some (.int 0), some (.int 0)] [] (sM mo G I J) Q) :=
  (sm_blk X 258 0 (tt_lin 258 (by decide)) rfl rfl _ _ _ _).trans rfl
set_option maxRecDepth 100000 in
theorem bk_258_4 (X : (Nat → Int32) × Nat) (mo : Bool) (G : Nat × Nat) (I : Nat → Nat → Int32) (J : Nat → Nat → Int64) (Q : Option Value → sm_M → Prop) (x1 : Int32) (x2 : Int32) (x3 : Int32) :
    sm_wp X 258 4 [some (.ref 81), some (.int x1), some (.int x2), some (.int x3)] [] (sM mo G I J) Q =
    (if (I 81 3 : Int32) ≤ (x3 : Int32) then sm_wp X 258 40 [some (.ref 81), some (.int x1), some (.int x2), some (.int x3)] [] (sM mo G I J) Q else (if ¬ ((x1 >>> (x3 &&& 31)) &&& 1 : Int32) = (1 : Int32) then sm_wp X 258 31 [some (.ref 81), some (.int x1), some (.int x2), some (.int x3)] [.int x2] (sM mo G I J) Q else (vp_in x3 12 ∧ (sm_wp X 258 32 [some (.ref 81), some (.int x1), some (.int x2), some (.int x3)] [.int (I 83 (x3.toNatClampNeg)), .int x2] (sM mo G I J) Q)))) :=
  (sm_blk X 258 4 (tt_lin 258 (by decide)) rfl rfl _ _ _ _).trans rfl
set_option maxRecDepth 100000 in
theorem bk_258_31 (X : (Nat → Int32) × Nat) (mo : Bool) (G : Nat × Nat) (I : Nat → Nat → Int32) (J : Nat → Nat → Int64) (Q : Option Value → sm_M → Prop) (x1 : Int32) (x2 : Int32) (x3 : Int32) (s0 : Int32) :
    sm_wp X 258 31 [some (.ref 81), some (.int x1), some (.int x2), some (.int x3)] [.int s0] (sM mo G I J) Q =
    (sm_wp X 258 4 [some (.ref 81), some (.int x1), some (.int (s0 + 0)), some (.int (x3 + 1))] [] (sM mo G I J) Q) :=
  (sm_blk X 258 31 (tt_lin 258 (by decide)) rfl rfl _ _ _ _).trans rfl
set_option maxRecDepth 100000 in
theorem bk_258_32 (X : (Nat → Int32) × Nat) (mo : Bool) (G : Nat × Nat) (I : Nat → Nat → Int32) (J : Nat → Nat → Int64) (Q : Option Value → sm_M → Prop) (x1 : Int32) (x2 : Int32) (x3 : Int32) (s0 : Int32) (s1 : Int32) :
    sm_wp X 258 32 [some (.ref 81), some (.int x1), some (.int x2), some (.int x3)] [.int s1, .int s0] (sM mo G I J) Q =
    (sm_wp X 258 4 [some (.ref 81), some (.int x1), some (.int (s0 + s1)), some (.int (x3 + 1))] [] (sM mo G I J) Q) :=
  (sm_blk X 258 32 (tt_lin 258 (by decide)) rfl rfl _ _ _ _).trans rfl
set_option maxRecDepth 100000 in
theorem bk_258_40 (X : (Nat → Int32) × Nat) (mo : Bool) (G : Nat × Nat) (I : Nat → Nat → Int32) (J : Nat → Nat → Int64) (Q : Option Value → sm_M → Prop) (x1 : Int32) (x2 : Int32) (x3 : Int32) :
    sm_wp X 258 40 [some (.ref 81), some (.int x1), some (.int x2), some (.int x3)] [] (sM mo G I J) Q =
    (True ∧ Q (some (.int x2)) (sM mo G I J)) :=
  (sm_blk X 258 40 (tt_lin 258 (by decide)) rfl rfl _ _ _ _).trans rfl
set_option maxRecDepth 100000 in
theorem bk_259_0 (X : (Nat → Int32) × Nat) (mo : Bool) (G : Nat × Nat) (I : Nat → Nat → Int32) (J : Nat → Nat → Int64) (Q : Option Value → sm_M → Prop) (x1 : Int32) (x2 : Int32) :
    sm_wp X 259 0 [some (.ref 81), some (.int x1), some (.int x2), none, none, none, none] [] (sM mo G I J) Q =
    (sm_wp X 259 5 [some (.ref 81), some (.int x1), some (.int x2), some (.int 0), some (.int 0), none, none] [] (sM mo G I J) Q) :=
  (sm_blk X 259 0 (tt_lin 259 (by decide)) rfl rfl _ _ _ _).trans rfl
set_option maxRecDepth 100000 in
theorem bk_259_5 (X : (Nat → Int32) × Nat) (mo : Bool) (G : Nat × Nat) (I : Nat → Nat → Int32) (J : Nat → Nat → Int64) (Q : Option Value → sm_M → Prop) (x1 : Int32) (x2 : Int32) (x3 : Int32) (x4 : Int32) :
    sm_wp X 259 5 [some (.ref 81), some (.int x1), some (.int x2), some (.int x3), some (.int x4), none, none] [] (sM mo G I J) Q =
    (if (I 81 3 : Int32) ≤ (x4 : Int32) then sm_wp X 259 102 [some (.ref 81), some (.int x1), some (.int x2), some (.int x3), some (.int x4), none, none] [] (sM mo G I J) Q else (sm_wp X 259 20 [some (.ref 81), some (.int x1), some (.int x2), some (.int x3), some (.int x4), some (.int 0), some (.int 0)] [] (sM mo G I J) Q)) :=
  (sm_blk X 259 5 (tt_lin 259 (by decide)) rfl rfl _ _ _ _).trans rfl
set_option maxRecDepth 100000 in
theorem bk_259_20 (X : (Nat → Int32) × Nat) (mo : Bool) (G : Nat × Nat) (I : Nat → Nat → Int32) (J : Nat → Nat → Int64) (Q : Option Value → sm_M → Prop) (x1 : Int32) (x2 : Int32) (x3 : Int32) (x4 : Int32) (x5 : Int32) (x6 : Int32) :
    sm_wp X 259 20 [some (.ref 81), some (.int x1), some (.int x2), some (.int x3), some (.int x4), some (.int x5), some (.int x6)] [] (sM mo G I J) Q =
    (if (I 81 3 : Int32) ≤ (x6 : Int32) then sm_wp X 259 73 [some (.ref 81), some (.int x1), some (.int x2), some (.int x3), some (.int x4), some (.int x5), some (.int x6)] [] (sM mo G I J) Q else (if ¬ (x5 : Int32) = 0 then sm_wp X 259 60 [some (.ref 81), some (.int x1), some (.int x2), some (.int x3), some (.int x4), some (.int x5), some (.int x6)] [] (sM mo G I J) Q else (if ¬ ((x2 >>> (x6 &&& 31)) &&& 1 : Int32) = (1 : Int32) then sm_wp X 259 64 [some (.ref 81), some (.int x1), some (.int x2), some (.int x3), some (.int x4), some (.int x5), some (.int x6)] [] (sM mo G I J) Q else (vp_in ((12 * x4) + x6) 144 ∧ (if (I 84 (((12 * x4) + x6).toNatClampNeg) : Int32) = 0 then sm_wp X 259 64 [some (.ref 81), some (.int x1), some (.int x2), some (.int x3), some (.int x4), some (.int x5), some (.int x6)] [] (sM mo G I J) Q else (sm_wp X 259 65 [some (.ref 81), some (.int x1), some (.int x2), some (.int x3), some (.int x4), some (.int x5), some (.int x6)] [.int 1] (sM mo G I J) Q)))))) :=
  (sm_blk X 259 20 (tt_lin 259 (by decide)) rfl rfl _ _ _ _).trans rfl
set_option maxRecDepth 100000 in
theorem bk_259_60 (X : (Nat → Int32) × Nat) (mo : Bool) (G : Nat × Nat) (I : Nat → Nat → Int32) (J : Nat → Nat → Int64) (Q : Option Value → sm_M → Prop) (x1 : Int32) (x2 : Int32) (x3 : Int32) (x4 : Int32) (x5 : Int32) (x6 : Int32) :
    sm_wp X 259 60 [some (.ref 81), some (.int x1), some (.int x2), some (.int x3), some (.int x4), some (.int x5), some (.int x6)] [] (sM mo G I J) Q =
    (sm_wp X 259 65 [some (.ref 81), some (.int x1), some (.int x2), some (.int x3), some (.int x4), some (.int x5), some (.int x6)] [.int 1] (sM mo G I J) Q) :=
  (sm_blk X 259 60 (tt_lin 259 (by decide)) rfl rfl _ _ _ _).trans rfl
set_option maxRecDepth 100000 in
theorem bk_259_64 (X : (Nat → Int32) × Nat) (mo : Bool) (G : Nat × Nat) (I : Nat → Nat → Int32) (J : Nat → Nat → Int64) (Q : Option Value → sm_M → Prop) (x1 : Int32) (x2 : Int32) (x3 : Int32) (x4 : Int32) (x5 : Int32) (x6 : Int32) :
    sm_wp X 259 64 [some (.ref 81), some (.int x1), some (.int x2), some (.int x3), some (.int x4), some (.int x5), some (.int x6)] [] (sM mo G I J) Q =
    (sm_wp X 259 20 [some (.ref 81), some (.int x1), some (.int x2), some (.int x3), some (.int x4), some (.int 0), some (.int (x6 + 1))] [] (sM mo G I J) Q) :=
  (sm_blk X 259 64 (tt_lin 259 (by decide)) rfl rfl _ _ _ _).trans rfl
set_option maxRecDepth 100000 in
theorem bk_259_65 (X : (Nat → Int32) × Nat) (mo : Bool) (G : Nat × Nat) (I : Nat → Nat → Int32) (J : Nat → Nat → Int64) (Q : Option Value → sm_M → Prop) (x1 : Int32) (x2 : Int32) (x3 : Int32) (x4 : Int32) (x5 : Int32) (x6 : Int32) (s0 : Int32) :
    sm_wp X 259 65 [some (.ref 81), some (.int x1), some (.int x2), some (.int x3), some (.int x4), some (.int x5), some (.int x6)] [.int s0] (sM mo G I J) Q =
    (sm_wp X 259 20 [some (.ref 81), some (.int x1), some (.int x2), some (.int x3), some (.int x4), some (.int s0), some (.int (x6 + 1))] [] (sM mo G I J) Q) :=
  (sm_blk X 259 65 (tt_lin 259 (by decide)) rfl rfl _ _ _ _).trans rfl
set_option maxRecDepth 100000 in
theorem bk_259_73 (X : (Nat → Int32) × Nat) (mo : Bool) (G : Nat × Nat) (I : Nat → Nat → Int32) (J : Nat → Nat → Int64) (Q : Option Value → sm_M → Prop) (x1 : Int32) (x2 : Int32) (x3 : Int32) (x4 : Int32) (x5 : Int32) (x6 : Int32) :
    sm_wp X 259 73 [some (.ref 81), some (.int x1), some (.int x2), some (.int x3), some (.int x4), some (.int x5), some (.int x6)] [] (sM mo G I J) Q =
    (if (x5 : Int32) = 0 then sm_wp X 259 93 [some (.ref 81), some (.int x1), some (.int x2), some (.int x3), some (.int x4), some (.int x5), some (.int x6)] [.int x3] (sM mo G I J) Q else (if ¬ ((x1 >>> (x4 &&& 31)) &&& 1 : Int32) = (1 : Int32) then sm_wp X 259 93 [some (.ref 81), some (.int x1), some (.int x2), some (.int x3), some (.int x4), some (.int x5), some (.int x6)] [.int x3] (sM mo G I J) Q else (sm_wp X 259 94 [some (.ref 81), some (.int x1), some (.int x2), some (.int x3), some (.int x4), some (.int x5), some (.int x6)] [.int 1, .int x3] (sM mo G I J) Q))) :=
  (sm_blk X 259 73 (tt_lin 259 (by decide)) rfl rfl _ _ _ _).trans rfl
set_option maxRecDepth 100000 in
theorem bk_259_93 (X : (Nat → Int32) × Nat) (mo : Bool) (G : Nat × Nat) (I : Nat → Nat → Int32) (J : Nat → Nat → Int64) (Q : Option Value → sm_M → Prop) (x1 : Int32) (x2 : Int32) (x3 : Int32) (x4 : Int32) (x5 : Int32) (x6 : Int32) (s0 : Int32) :
    sm_wp X 259 93 [some (.ref 81), some (.int x1), some (.int x2), some (.int x3), some (.int x4), some (.int x5), some (.int x6)] [.int s0] (sM mo G I J) Q =
    (sm_wp X 259 5 [some (.ref 81), some (.int x1), some (.int x2), some (.int (s0 + 0)), some (.int (x4 + 1)), none, none] [] (sM mo G I J) Q) :=
  (sm_blk X 259 93 (tt_lin 259 (by decide)) rfl rfl _ _ _ _).trans rfl
set_option maxRecDepth 100000 in
theorem bk_259_94 (X : (Nat → Int32) × Nat) (mo : Bool) (G : Nat × Nat) (I : Nat → Nat → Int32) (J : Nat → Nat → Int64) (Q : Option Value → sm_M → Prop) (x1 : Int32) (x2 : Int32) (x3 : Int32) (x4 : Int32) (x5 : Int32) (x6 : Int32) (s0 : Int32) (s1 : Int32) :
    sm_wp X 259 94 [some (.ref 81), some (.int x1), some (.int x2), some (.int x3), some (.int x4), some (.int x5), some (.int x6)] [.int s1, .int s0] (sM mo G I J) Q =
    (sm_wp X 259 5 [some (.ref 81), some (.int x1), some (.int x2), some (.int (s0 + s1)), some (.int (x4 + 1)), none, none] [] (sM mo G I J) Q) :=
  (sm_blk X 259 94 (tt_lin 259 (by decide)) rfl rfl _ _ _ _).trans rfl
set_option maxRecDepth 100000 in
theorem bk_259_102 (X : (Nat → Int32) × Nat) (mo : Bool) (G : Nat × Nat) (I : Nat → Nat → Int32) (J : Nat → Nat → Int64) (Q : Option Value → sm_M → Prop) (x1 : Int32) (x2 : Int32) (x3 : Int32) (x4 : Int32) :
    sm_wp X 259 102 [some (.ref 81), some (.int x1), some (.int x2), some (.int x3), some (.int x4), none, none] [] (sM mo G I J) Q =
    (True ∧ Q (some (.int x3)) (sM mo G I J)) :=
  (sm_blk X 259 102 (tt_lin 259 (by decide)) rfl rfl _ _ _ _).trans rfl
set_option maxRecDepth 100000 in
theorem bk_260_0 (X : (Nat → Int32) × Nat) (mo : Bool) (G : Nat × Nat) (I : Nat → Nat → Int32) (J : Nat → Nat → Int64) (Q : Option Value → sm_M → Prop) (x0 : Int32) :
    sm_wp X 260 0 [some (.int x0)] [] (sM mo G I J) Q =
    (if (x0 : Int32) = 0 then sm_wp X 260 8 [some (.int x0)] [] (sM mo G I J) Q else (sm_wp X 260 9 [some (.int x0)] [.long 1] (sM mo G I J) Q)) :=
  (sm_blk X 260 0 (tt_lin 260 (by decide)) rfl rfl _ _ _ _).trans rfl
set_option maxRecDepth 100000 in
theorem bk_260_8 (X : (Nat → Int32) × Nat) (mo : Bool) (G : Nat × Nat) (I : Nat → Nat → Int32) (J : Nat → Nat → Int64) (Q : Option Value → sm_M → Prop) (x0 : Int32) :
    sm_wp X 260 8 [some (.int x0)] [] (sM mo G I J) Q =
    (True ∧ Q (some (.long 0)) (sM mo G I J)) :=
  (sm_blk X 260 8 (tt_lin 260 (by decide)) rfl rfl _ _ _ _).trans rfl
set_option maxRecDepth 100000 in
theorem bk_260_9 (X : (Nat → Int32) × Nat) (mo : Bool) (G : Nat × Nat) (I : Nat → Nat → Int32) (J : Nat → Nat → Int64) (Q : Option Value → sm_M → Prop) (x0 : Int32) (s0 : Int64) :
    sm_wp X 260 9 [some (.int x0)] [.long s0] (sM mo G I J) Q =
    (True ∧ Q (some (.long s0)) (sM mo G I J)) :=
  (sm_blk X 260 9 (tt_lin 260 (by decide)) rfl rfl _ _ _ _).trans rfl
set_option maxRecDepth 100000 in
theorem bk_261_0 (X : (Nat → Int32) × Nat) (mo : Bool) (G : Nat × Nat) (I : Nat → Nat → Int32) (J : Nat → Nat → Int64) (Q : Option Value → sm_M → Prop) (x1 : Int32) (x2 : Int64) (x4 : Int64) :
    sm_wp X 261 0 [some (.ref 81), some (.int x1), some (.long x2), none, some (.long x4), none] [] (sM mo G I J) Q =
    (if (x1 : Int32) = 1 then sm_wp X 261 72 [some (.ref 81), some (.int x1), some (.long x2), none, some (.long x4), none] [] (sM mo G I J) Q else if (x1 : Int32) = 2 then sm_wp X 261 88 [some (.ref 81), some (.int x1), some (.long x2), none, some (.long x4), none] [] (sM mo G I J) Q else if (x1 : Int32) = 3 then sm_wp X 261 104 [some (.ref 81), some (.int x1), some (.long x2), none, some (.long x4), none] [] (sM mo G I J) Q else if (x1 : Int32) = 4 then sm_wp X 261 120 [some (.ref 81), some (.int x1), some (.long x2), none, some (.long x4), none] [] (sM mo G I J) Q else if (x1 : Int32) = 5 then sm_wp X 261 136 [some (.ref 81), some (.int x1), some (.long x2), none, some (.long x4), none] [] (sM mo G I J) Q else if (x1 : Int32) = 6 then sm_wp X 261 152 [some (.ref 81), some (.int x1), some (.long x2), none, some (.long x4), none] [] (sM mo G I J) Q else if (x1 : Int32) = 7 then sm_wp X 261 168 [some (.ref 81), some (.int x1), some (.long x2), none, some (.long x4), none] [] (sM mo G I J) Q else if (x1 : Int32) = 8 then sm_wp X 261 177 [some (.ref 81), some (.int x1), some (.long x2), none, some (.long x4), none] [] (sM mo G I J) Q else if (x1 : Int32) = 9 then sm_wp X 261 186 [some (.ref 81), some (.int x1), some (.long x2), none, some (.long x4), none] [] (sM mo G I J) Q else if (x1 : Int32) = 10 then sm_wp X 261 241 [some (.ref 81), some (.int x1), some (.long x2), none, some (.long x4), none] [] (sM mo G I J) Q else if (x1 : Int32) = 11 then sm_wp X 261 241 [some (.ref 81), some (.int x1), some (.long x2), none, some (.long x4), none] [] (sM mo G I J) Q else if (x1 : Int32) = 12 then sm_wp X 261 315 [some (.ref 81), some (.int x1), some (.long x2), none, some (.long x4), none] [] (sM mo G I J) Q else if (x1 : Int32) = 13 then sm_wp X 261 315 [some (.ref 81), some (.int x1), some (.long x2), none, some (.long x4), none] [] (sM mo G I J) Q else if (x1 : Int32) = 14 then sm_wp X 261 293 [some (.ref 81), some (.int x1), some (.long x2), none, some (.long x4), none] [] (sM mo G I J) Q else sm_wp X 261 315 [some (.ref 81), some (.int x1), some (.long x2), none, some (.long x4), none] [] (sM mo G I J) Q) :=
  (sm_blk X 261 0 (tt_lin 261 (by decide)) rfl rfl _ _ _ _).trans rfl
set_option maxRecDepth 100000 in
theorem bk_261_72 (X : (Nat → Int32) × Nat) (mo : Bool) (G : Nat × Nat) (I : Nat → Nat → Int32) (J : Nat → Nat → Int64) (Q : Option Value → sm_M → Prop) (x1 : Int32) (x2 : Int64) (x4 : Int64) :
    sm_wp X 261 72 [some (.ref 81), some (.int x1), some (.long x2), none, some (.long x4), none] [] (sM mo G I J) Q =
    (if 0 ≤ (lg_cmp x2 x4 : Int32) then sm_wp X 261 83 [some (.ref 81), some (.int x1), some (.long x2), none, some (.long x4), none] [] (sM mo G I J) Q else (sm_wp X 261 84 [some (.ref 81), some (.int x1), some (.long x2), none, some (.long x4), none] [.int 1] (sM mo G I J) Q)) :=
  (sm_blk X 261 72 (tt_lin 261 (by decide)) rfl rfl _ _ _ _).trans rfl
set_option maxRecDepth 100000 in
theorem bk_261_83 (X : (Nat → Int32) × Nat) (mo : Bool) (G : Nat × Nat) (I : Nat → Nat → Int32) (J : Nat → Nat → Int64) (Q : Option Value → sm_M → Prop) (x1 : Int32) (x2 : Int64) (x4 : Int64) :
    sm_wp X 261 83 [some (.ref 81), some (.int x1), some (.long x2), none, some (.long x4), none] [] (sM mo G I J) Q =
    (sm_wp X 260 0 [some (.int 0)] [] (sM mo G I J) (fun v M => sm_wp X 261 87 [some (.ref 81), some (.int x1), some (.long x2), none, some (.long x4), none] (v.toList ++ []) M Q)) :=
  (sm_blk X 261 83 (tt_lin 261 (by decide)) rfl rfl _ _ _ _).trans rfl
set_option maxRecDepth 100000 in
theorem bk_261_84 (X : (Nat → Int32) × Nat) (mo : Bool) (G : Nat × Nat) (I : Nat → Nat → Int32) (J : Nat → Nat → Int64) (Q : Option Value → sm_M → Prop) (x1 : Int32) (x2 : Int64) (x4 : Int64) (s0 : Int32) :
    sm_wp X 261 84 [some (.ref 81), some (.int x1), some (.long x2), none, some (.long x4), none] [.int s0] (sM mo G I J) Q =
    (sm_wp X 260 0 [some (.int s0)] [] (sM mo G I J) (fun v M => sm_wp X 261 87 [some (.ref 81), some (.int x1), some (.long x2), none, some (.long x4), none] (v.toList ++ []) M Q)) :=
  (sm_blk X 261 84 (tt_lin 261 (by decide)) rfl rfl _ _ _ _).trans rfl
set_option maxRecDepth 100000 in
theorem bk_261_87 (X : (Nat → Int32) × Nat) (mo : Bool) (G : Nat × Nat) (I : Nat → Nat → Int32) (J : Nat → Nat → Int64) (Q : Option Value → sm_M → Prop) (x1 : Int32) (x2 : Int64) (x4 : Int64) (s0 : Int64) :
    sm_wp X 261 87 [some (.ref 81), some (.int x1), some (.long x2), none, some (.long x4), none] [.long s0] (sM mo G I J) Q =
    (True ∧ Q (some (.long s0)) (sM mo G I J)) :=
  (sm_blk X 261 87 (tt_lin 261 (by decide)) rfl rfl _ _ _ _).trans rfl
set_option maxRecDepth 100000 in
theorem bk_261_88 (X : (Nat → Int32) × Nat) (mo : Bool) (G : Nat × Nat) (I : Nat → Nat → Int32) (J : Nat → Nat → Int64) (Q : Option Value → sm_M → Prop) (x1 : Int32) (x2 : Int64) (x4 : Int64) :
    sm_wp X 261 88 [some (.ref 81), some (.int x1), some (.long x2), none, some (.long x4), none] [] (sM mo G I J) Q =
    (if 0 < (lg_cmp x2 x4 : Int32) then sm_wp X 261 99 [some (.ref 81), some (.int x1), some (.long x2), none, some (.long x4), none] [] (sM mo G I J) Q else (sm_wp X 261 100 [some (.ref 81), some (.int x1), some (.long x2), none, some (.long x4), none] [.int 1] (sM mo G I J) Q)) :=
  (sm_blk X 261 88 (tt_lin 261 (by decide)) rfl rfl _ _ _ _).trans rfl
set_option maxRecDepth 100000 in
theorem bk_261_99 (X : (Nat → Int32) × Nat) (mo : Bool) (G : Nat × Nat) (I : Nat → Nat → Int32) (J : Nat → Nat → Int64) (Q : Option Value → sm_M → Prop) (x1 : Int32) (x2 : Int64) (x4 : Int64) :
    sm_wp X 261 99 [some (.ref 81), some (.int x1), some (.long x2), none, some (.long x4), none] [] (sM mo G I J) Q =
    (sm_wp X 260 0 [some (.int 0)] [] (sM mo G I J) (fun v M => sm_wp X 261 103 [some (.ref 81), some (.int x1), some (.long x2), none, some (.long x4), none] (v.toList ++ []) M Q)) :=
  (sm_blk X 261 99 (tt_lin 261 (by decide)) rfl rfl _ _ _ _).trans rfl
set_option maxRecDepth 100000 in
theorem bk_261_100 (X : (Nat → Int32) × Nat) (mo : Bool) (G : Nat × Nat) (I : Nat → Nat → Int32) (J : Nat → Nat → Int64) (Q : Option Value → sm_M → Prop) (x1 : Int32) (x2 : Int64) (x4 : Int64) (s0 : Int32) :
    sm_wp X 261 100 [some (.ref 81), some (.int x1), some (.long x2), none, some (.long x4), none] [.int s0] (sM mo G I J) Q =
    (sm_wp X 260 0 [some (.int s0)] [] (sM mo G I J) (fun v M => sm_wp X 261 103 [some (.ref 81), some (.int x1), some (.long x2), none, some (.long x4), none] (v.toList ++ []) M Q)) :=
  (sm_blk X 261 100 (tt_lin 261 (by decide)) rfl rfl _ _ _ _).trans rfl
set_option maxRecDepth 100000 in
theorem bk_261_103 (X : (Nat → Int32) × Nat) (mo : Bool) (G : Nat × Nat) (I : Nat → Nat → Int32) (J : Nat → Nat → Int64) (Q : Option Value → sm_M → Prop) (x1 : Int32) (x2 : Int64) (x4 : Int64) (s0 : Int64) :
    sm_wp X 261 103 [some (.ref 81), some (.int x1), some (.long x2), none, some (.long x4), none] [.long s0] (sM mo G I J) Q =
    (True ∧ Q (some (.long s0)) (sM mo G I J)) :=
  (sm_blk X 261 103 (tt_lin 261 (by decide)) rfl rfl _ _ _ _).trans rfl
set_option maxRecDepth 100000 in
theorem bk_261_104 (X : (Nat → Int32) × Nat) (mo : Bool) (G : Nat × Nat) (I : Nat → Nat → Int32) (J : Nat → Nat → Int64) (Q : Option Value → sm_M → Prop) (x1 : Int32) (x2 : Int64) (x4 : Int64) :
    sm_wp X 261 104 [some (.ref 81), some (.int x1), some (.long x2), none, some (.long x4), none] [] (sM mo G I J) Q =
    (if ¬ (lg_cmp x2 x4 : Int32) = 0 then sm_wp X 261 115 [some (.ref 81), some (.int x1), some (.long x2), none, some (.long x4), none] [] (sM mo G I J) Q else (sm_wp X 261 116 [some (.ref 81), some (.int x1), some (.long x2), none, some (.long x4), none] [.int 1] (sM mo G I J) Q)) :=
  (sm_blk X 261 104 (tt_lin 261 (by decide)) rfl rfl _ _ _ _).trans rfl
set_option maxRecDepth 100000 in
theorem bk_261_115 (X : (Nat → Int32) × Nat) (mo : Bool) (G : Nat × Nat) (I : Nat → Nat → Int32) (J : Nat → Nat → Int64) (Q : Option Value → sm_M → Prop) (x1 : Int32) (x2 : Int64) (x4 : Int64) :
    sm_wp X 261 115 [some (.ref 81), some (.int x1), some (.long x2), none, some (.long x4), none] [] (sM mo G I J) Q =
    (sm_wp X 260 0 [some (.int 0)] [] (sM mo G I J) (fun v M => sm_wp X 261 119 [some (.ref 81), some (.int x1), some (.long x2), none, some (.long x4), none] (v.toList ++ []) M Q)) :=
  (sm_blk X 261 115 (tt_lin 261 (by decide)) rfl rfl _ _ _ _).trans rfl
set_option maxRecDepth 100000 in
theorem bk_261_116 (X : (Nat → Int32) × Nat) (mo : Bool) (G : Nat × Nat) (I : Nat → Nat → Int32) (J : Nat → Nat → Int64) (Q : Option Value → sm_M → Prop) (x1 : Int32) (x2 : Int64) (x4 : Int64) (s0 : Int32) :
    sm_wp X 261 116 [some (.ref 81), some (.int x1), some (.long x2), none, some (.long x4), none] [.int s0] (sM mo G I J) Q =
    (sm_wp X 260 0 [some (.int s0)] [] (sM mo G I J) (fun v M => sm_wp X 261 119 [some (.ref 81), some (.int x1), some (.long x2), none, some (.long x4), none] (v.toList ++ []) M Q)) :=
  (sm_blk X 261 116 (tt_lin 261 (by decide)) rfl rfl _ _ _ _).trans rfl
set_option maxRecDepth 100000 in
theorem bk_261_119 (X : (Nat → Int32) × Nat) (mo : Bool) (G : Nat × Nat) (I : Nat → Nat → Int32) (J : Nat → Nat → Int64) (Q : Option Value → sm_M → Prop) (x1 : Int32) (x2 : Int64) (x4 : Int64) (s0 : Int64) :
    sm_wp X 261 119 [some (.ref 81), some (.int x1), some (.long x2), none, some (.long x4), none] [.long s0] (sM mo G I J) Q =
    (True ∧ Q (some (.long s0)) (sM mo G I J)) :=
  (sm_blk X 261 119 (tt_lin 261 (by decide)) rfl rfl _ _ _ _).trans rfl
set_option maxRecDepth 100000 in
theorem bk_261_120 (X : (Nat → Int32) × Nat) (mo : Bool) (G : Nat × Nat) (I : Nat → Nat → Int32) (J : Nat → Nat → Int64) (Q : Option Value → sm_M → Prop) (x1 : Int32) (x2 : Int64) (x4 : Int64) :
    sm_wp X 261 120 [some (.ref 81), some (.int x1), some (.long x2), none, some (.long x4), none] [] (sM mo G I J) Q =
    (if (lg_cmp x2 x4 : Int32) = 0 then sm_wp X 261 131 [some (.ref 81), some (.int x1), some (.long x2), none, some (.long x4), none] [] (sM mo G I J) Q else (sm_wp X 261 132 [some (.ref 81), some (.int x1), some (.long x2), none, some (.long x4), none] [.int 1] (sM mo G I J) Q)) :=
  (sm_blk X 261 120 (tt_lin 261 (by decide)) rfl rfl _ _ _ _).trans rfl
set_option maxRecDepth 100000 in
theorem bk_261_131 (X : (Nat → Int32) × Nat) (mo : Bool) (G : Nat × Nat) (I : Nat → Nat → Int32) (J : Nat → Nat → Int64) (Q : Option Value → sm_M → Prop) (x1 : Int32) (x2 : Int64) (x4 : Int64) :
    sm_wp X 261 131 [some (.ref 81), some (.int x1), some (.long x2), none, some (.long x4), none] [] (sM mo G I J) Q =
    (sm_wp X 260 0 [some (.int 0)] [] (sM mo G I J) (fun v M => sm_wp X 261 135 [some (.ref 81), some (.int x1), some (.long x2), none, some (.long x4), none] (v.toList ++ []) M Q)) :=
  (sm_blk X 261 131 (tt_lin 261 (by decide)) rfl rfl _ _ _ _).trans rfl
set_option maxRecDepth 100000 in
theorem bk_261_132 (X : (Nat → Int32) × Nat) (mo : Bool) (G : Nat × Nat) (I : Nat → Nat → Int32) (J : Nat → Nat → Int64) (Q : Option Value → sm_M → Prop) (x1 : Int32) (x2 : Int64) (x4 : Int64) (s0 : Int32) :
    sm_wp X 261 132 [some (.ref 81), some (.int x1), some (.long x2), none, some (.long x4), none] [.int s0] (sM mo G I J) Q =
    (sm_wp X 260 0 [some (.int s0)] [] (sM mo G I J) (fun v M => sm_wp X 261 135 [some (.ref 81), some (.int x1), some (.long x2), none, some (.long x4), none] (v.toList ++ []) M Q)) :=
  (sm_blk X 261 132 (tt_lin 261 (by decide)) rfl rfl _ _ _ _).trans rfl
set_option maxRecDepth 100000 in
theorem bk_261_135 (X : (Nat → Int32) × Nat) (mo : Bool) (G : Nat × Nat) (I : Nat → Nat → Int32) (J : Nat → Nat → Int64) (Q : Option Value → sm_M → Prop) (x1 : Int32) (x2 : Int64) (x4 : Int64) (s0 : Int64) :
    sm_wp X 261 135 [some (.ref 81), some (.int x1), some (.long x2), none, some (.long x4), none] [.long s0] (sM mo G I J) Q =
    (True ∧ Q (some (.long s0)) (sM mo G I J)) :=
  (sm_blk X 261 135 (tt_lin 261 (by decide)) rfl rfl _ _ _ _).trans rfl
set_option maxRecDepth 100000 in
theorem bk_261_136 (X : (Nat → Int32) × Nat) (mo : Bool) (G : Nat × Nat) (I : Nat → Nat → Int32) (J : Nat → Nat → Int64) (Q : Option Value → sm_M → Prop) (x1 : Int32) (x2 : Int64) (x4 : Int64) :
    sm_wp X 261 136 [some (.ref 81), some (.int x1), some (.long x2), none, some (.long x4), none] [] (sM mo G I J) Q =
    (if (lg_cmp x2 x4 : Int32) < 0 then sm_wp X 261 147 [some (.ref 81), some (.int x1), some (.long x2), none, some (.long x4), none] [] (sM mo G I J) Q else (sm_wp X 261 148 [some (.ref 81), some (.int x1), some (.long x2), none, some (.long x4), none] [.int 1] (sM mo G I J) Q)) :=
  (sm_blk X 261 136 (tt_lin 261 (by decide)) rfl rfl _ _ _ _).trans rfl
set_option maxRecDepth 100000 in
theorem bk_261_147 (X : (Nat → Int32) × Nat) (mo : Bool) (G : Nat × Nat) (I : Nat → Nat → Int32) (J : Nat → Nat → Int64) (Q : Option Value → sm_M → Prop) (x1 : Int32) (x2 : Int64) (x4 : Int64) :
    sm_wp X 261 147 [some (.ref 81), some (.int x1), some (.long x2), none, some (.long x4), none] [] (sM mo G I J) Q =
    (sm_wp X 260 0 [some (.int 0)] [] (sM mo G I J) (fun v M => sm_wp X 261 151 [some (.ref 81), some (.int x1), some (.long x2), none, some (.long x4), none] (v.toList ++ []) M Q)) :=
  (sm_blk X 261 147 (tt_lin 261 (by decide)) rfl rfl _ _ _ _).trans rfl
set_option maxRecDepth 100000 in
theorem bk_261_148 (X : (Nat → Int32) × Nat) (mo : Bool) (G : Nat × Nat) (I : Nat → Nat → Int32) (J : Nat → Nat → Int64) (Q : Option Value → sm_M → Prop) (x1 : Int32) (x2 : Int64) (x4 : Int64) (s0 : Int32) :
    sm_wp X 261 148 [some (.ref 81), some (.int x1), some (.long x2), none, some (.long x4), none] [.int s0] (sM mo G I J) Q =
    (sm_wp X 260 0 [some (.int s0)] [] (sM mo G I J) (fun v M => sm_wp X 261 151 [some (.ref 81), some (.int x1), some (.long x2), none, some (.long x4), none] (v.toList ++ []) M Q)) :=
  (sm_blk X 261 148 (tt_lin 261 (by decide)) rfl rfl _ _ _ _).trans rfl
set_option maxRecDepth 100000 in
theorem bk_261_151 (X : (Nat → Int32) × Nat) (mo : Bool) (G : Nat × Nat) (I : Nat → Nat → Int32) (J : Nat → Nat → Int64) (Q : Option Value → sm_M → Prop) (x1 : Int32) (x2 : Int64) (x4 : Int64) (s0 : Int64) :
    sm_wp X 261 151 [some (.ref 81), some (.int x1), some (.long x2), none, some (.long x4), none] [.long s0] (sM mo G I J) Q =
    (True ∧ Q (some (.long s0)) (sM mo G I J)) :=
  (sm_blk X 261 151 (tt_lin 261 (by decide)) rfl rfl _ _ _ _).trans rfl
set_option maxRecDepth 100000 in
theorem bk_261_152 (X : (Nat → Int32) × Nat) (mo : Bool) (G : Nat × Nat) (I : Nat → Nat → Int32) (J : Nat → Nat → Int64) (Q : Option Value → sm_M → Prop) (x1 : Int32) (x2 : Int64) (x4 : Int64) :
    sm_wp X 261 152 [some (.ref 81), some (.int x1), some (.long x2), none, some (.long x4), none] [] (sM mo G I J) Q =
    (if (lg_cmp x2 x4 : Int32) ≤ 0 then sm_wp X 261 163 [some (.ref 81), some (.int x1), some (.long x2), none, some (.long x4), none] [] (sM mo G I J) Q else (sm_wp X 261 164 [some (.ref 81), some (.int x1), some (.long x2), none, some (.long x4), none] [.int 1] (sM mo G I J) Q)) :=
  (sm_blk X 261 152 (tt_lin 261 (by decide)) rfl rfl _ _ _ _).trans rfl
set_option maxRecDepth 100000 in
theorem bk_261_163 (X : (Nat → Int32) × Nat) (mo : Bool) (G : Nat × Nat) (I : Nat → Nat → Int32) (J : Nat → Nat → Int64) (Q : Option Value → sm_M → Prop) (x1 : Int32) (x2 : Int64) (x4 : Int64) :
    sm_wp X 261 163 [some (.ref 81), some (.int x1), some (.long x2), none, some (.long x4), none] [] (sM mo G I J) Q =
    (sm_wp X 260 0 [some (.int 0)] [] (sM mo G I J) (fun v M => sm_wp X 261 167 [some (.ref 81), some (.int x1), some (.long x2), none, some (.long x4), none] (v.toList ++ []) M Q)) :=
  (sm_blk X 261 163 (tt_lin 261 (by decide)) rfl rfl _ _ _ _).trans rfl
set_option maxRecDepth 100000 in
theorem bk_261_164 (X : (Nat → Int32) × Nat) (mo : Bool) (G : Nat × Nat) (I : Nat → Nat → Int32) (J : Nat → Nat → Int64) (Q : Option Value → sm_M → Prop) (x1 : Int32) (x2 : Int64) (x4 : Int64) (s0 : Int32) :
    sm_wp X 261 164 [some (.ref 81), some (.int x1), some (.long x2), none, some (.long x4), none] [.int s0] (sM mo G I J) Q =
    (sm_wp X 260 0 [some (.int s0)] [] (sM mo G I J) (fun v M => sm_wp X 261 167 [some (.ref 81), some (.int x1), some (.long x2), none, some (.long x4), none] (v.toList ++ []) M Q)) :=
  (sm_blk X 261 164 (tt_lin 261 (by decide)) rfl rfl _ _ _ _).trans rfl
set_option maxRecDepth 100000 in
theorem bk_261_167 (X : (Nat → Int32) × Nat) (mo : Bool) (G : Nat × Nat) (I : Nat → Nat → Int32) (J : Nat → Nat → Int64) (Q : Option Value → sm_M → Prop) (x1 : Int32) (x2 : Int64) (x4 : Int64) (s0 : Int64) :
    sm_wp X 261 167 [some (.ref 81), some (.int x1), some (.long x2), none, some (.long x4), none] [.long s0] (sM mo G I J) Q =
    (True ∧ Q (some (.long s0)) (sM mo G I J)) :=
  (sm_blk X 261 167 (tt_lin 261 (by decide)) rfl rfl _ _ _ _).trans rfl
set_option maxRecDepth 100000 in
theorem bk_261_168 (X : (Nat → Int32) × Nat) (mo : Bool) (G : Nat × Nat) (I : Nat → Nat → Int32) (J : Nat → Nat → Int64) (Q : Option Value → sm_M → Prop) (x1 : Int32) (x2 : Int64) (x4 : Int64) :
    sm_wp X 261 168 [some (.ref 81), some (.int x1), some (.long x2), none, some (.long x4), none] [] (sM mo G I J) Q =
    (sm_wp X 262 0 [some (.ref 81), some (.long (x2 + x4)), none] [] (sM mo G I J) (fun v M => sm_wp X 261 176 [some (.ref 81), some (.int x1), some (.long x2), none, some (.long x4), none] (v.toList ++ []) M Q)) :=
  (sm_blk X 261 168 (tt_lin 261 (by decide)) rfl rfl _ _ _ _).trans rfl
set_option maxRecDepth 100000 in
theorem bk_261_176 (X : (Nat → Int32) × Nat) (mo : Bool) (G : Nat × Nat) (I : Nat → Nat → Int32) (J : Nat → Nat → Int64) (Q : Option Value → sm_M → Prop) (x1 : Int32) (x2 : Int64) (x4 : Int64) (s0 : Int64) :
    sm_wp X 261 176 [some (.ref 81), some (.int x1), some (.long x2), none, some (.long x4), none] [.long s0] (sM mo G I J) Q =
    (True ∧ Q (some (.long s0)) (sM mo G I J)) :=
  (sm_blk X 261 176 (tt_lin 261 (by decide)) rfl rfl _ _ _ _).trans rfl
set_option maxRecDepth 100000 in
theorem bk_261_177 (X : (Nat → Int32) × Nat) (mo : Bool) (G : Nat × Nat) (I : Nat → Nat → Int32) (J : Nat → Nat → Int64) (Q : Option Value → sm_M → Prop) (x1 : Int32) (x2 : Int64) (x4 : Int64) :
    sm_wp X 261 177 [some (.ref 81), some (.int x1), some (.long x2), none, some (.long x4), none] [] (sM mo G I J) Q =
    (sm_wp X 262 0 [some (.ref 81), some (.long (x2 - x4)), none] [] (sM mo G I J) (fun v M => sm_wp X 261 185 [some (.ref 81), some (.int x1), some (.long x2), none, some (.long x4), none] (v.toList ++ []) M Q)) :=
  (sm_blk X 261 177 (tt_lin 261 (by decide)) rfl rfl _ _ _ _).trans rfl
set_option maxRecDepth 100000 in
theorem bk_261_185 (X : (Nat → Int32) × Nat) (mo : Bool) (G : Nat × Nat) (I : Nat → Nat → Int32) (J : Nat → Nat → Int64) (Q : Option Value → sm_M → Prop) (x1 : Int32) (x2 : Int64) (x4 : Int64) (s0 : Int64) :
    sm_wp X 261 185 [some (.ref 81), some (.int x1), some (.long x2), none, some (.long x4), none] [.long s0] (sM mo G I J) Q =
    (True ∧ Q (some (.long s0)) (sM mo G I J)) :=
  (sm_blk X 261 185 (tt_lin 261 (by decide)) rfl rfl _ _ _ _).trans rfl
set_option maxRecDepth 100000 in
theorem bk_261_186 (X : (Nat → Int32) × Nat) (mo : Bool) (G : Nat × Nat) (I : Nat → Nat → Int32) (J : Nat → Nat → Int64) (Q : Option Value → sm_M → Prop) (x1 : Int32) (x2 : Int64) (x4 : Int64) :
    sm_wp X 261 186 [some (.ref 81), some (.int x1), some (.long x2), none, some (.long x4), none] [] (sM mo G I J) Q =
    (if ¬ (I 81 63 : Int32) = 0 then sm_wp X 261 217 [some (.ref 81), some (.int x1), some (.long x2), none, some (.long x4), none] [.ref 81] (sM mo G I J) Q else (if (lg_cmp x2 0 : Int32) = 0 then sm_wp X 261 221 [some (.ref 81), some (.int x1), some (.long x2), none, some (.long x4), none] [.ref 81] (sM mo G I J) Q else (sm_wp X 263 0 [some (.long x4), none] [] (sM mo G I J) (fun v M => sm_wp X 261 205 [some (.ref 81), some (.int x1), some (.long x2), none, some (.long x4), none] (v.toList ++ [.ref 81]) M Q)))) :=
  (sm_blk X 261 186 (tt_lin 261 (by decide)) rfl rfl _ _ _ _).trans rfl
set_option maxRecDepth 100000 in
theorem bk_261_205 (X : (Nat → Int32) × Nat) (mo : Bool) (G : Nat × Nat) (I : Nat → Nat → Int32) (J : Nat → Nat → Int64) (Q : Option Value → sm_M → Prop) (x1 : Int32) (x2 : Int64) (x4 : Int64) (s1 : Int64) :
    sm_wp X 261 205 [some (.ref 81), some (.int x1), some (.long x2), none, some (.long x4), none] [.long s1, .ref 81] (sM mo G I J) Q =
    (sm_wp X 263 0 [some (.long x2), none] [] (sM mo G I J) (fun v M => sm_wp X 261 212 [some (.ref 81), some (.int x1), some (.long x2), none, some (.long x4), none] (v.toList ++ [.long 1000000000000, .long s1, .ref 81]) M Q)) :=
  (sm_blk X 261 205 (tt_lin 261 (by decide)) rfl rfl _ _ _ _).trans rfl
set_option maxRecDepth 100000 in
theorem bk_261_212 (X : (Nat → Int32) × Nat) (mo : Bool) (G : Nat × Nat) (I : Nat → Nat → Int32) (J : Nat → Nat → Int64) (Q : Option Value → sm_M → Prop) (x1 : Int32) (x2 : Int64) (x4 : Int64) (s1 : Int64) (s2 : Int64) (s3 : Int64) :
    sm_wp X 261 212 [some (.ref 81), some (.int x1), some (.long x2), none, some (.long x4), none] [.long s3, .long s2, .long s1, .ref 81] (sM mo G I J) Q =
    (¬ (s3 : Int64) = 0 ∧ (if (lg_cmp s1 (s2 / s3) : Int32) ≤ 0 then sm_wp X 261 221 [some (.ref 81), some (.int x1), some (.long x2), none, some (.long x4), none] [.ref 81] (sM mo G I J) Q else (sm_wp X 261 222 [some (.ref 81), some (.int x1), some (.long x2), none, some (.long x4), none] [.int 1, .ref 81] (sM mo G I J) Q))) :=
  (sm_blk X 261 212 (tt_lin 261 (by decide)) rfl rfl _ _ _ _).trans rfl
set_option maxRecDepth 100000 in
theorem bk_261_217 (X : (Nat → Int32) × Nat) (mo : Bool) (G : Nat × Nat) (I : Nat → Nat → Int32) (J : Nat → Nat → Int64) (Q : Option Value → sm_M → Prop) (x1 : Int32) (x2 : Int64) (x4 : Int64) :
    sm_wp X 261 217 [some (.ref 81), some (.int x1), some (.long x2), none, some (.long x4), none] [.ref 81] (sM mo G I J) Q =
    (sm_wp X 261 222 [some (.ref 81), some (.int x1), some (.long x2), none, some (.long x4), none] [.int 1, .ref 81] (sM mo G I J) Q) :=
  (sm_blk X 261 217 (tt_lin 261 (by decide)) rfl rfl _ _ _ _).trans rfl
set_option maxRecDepth 100000 in
theorem bk_261_221 (X : (Nat → Int32) × Nat) (mo : Bool) (G : Nat × Nat) (I : Nat → Nat → Int32) (J : Nat → Nat → Int64) (Q : Option Value → sm_M → Prop) (x1 : Int32) (x2 : Int64) (x4 : Int64) :
    sm_wp X 261 221 [some (.ref 81), some (.int x1), some (.long x2), none, some (.long x4), none] [.ref 81] (sM mo G I J) Q =
    (sm_zb 0 ∧ (if ((up2 I 81 63 0) 81 63 : Int32) = 0 then sm_wp X 261 236 [some (.ref 81), some (.int x1), some (.long x2), none, some (.long x4), none] [] (sM mo G (up2 I 81 63 0) J) Q else (sm_wp X 261 240 [some (.ref 81), some (.int x1), some (.long x2), none, some (.long x4), none] [.long 0] (sM mo G (up2 I 81 63 0) J) Q))) :=
  (sm_blk X 261 221 (tt_lin 261 (by decide)) rfl rfl _ _ _ _).trans rfl
set_option maxRecDepth 100000 in
theorem bk_261_222 (X : (Nat → Int32) × Nat) (mo : Bool) (G : Nat × Nat) (I : Nat → Nat → Int32) (J : Nat → Nat → Int64) (Q : Option Value → sm_M → Prop) (x1 : Int32) (x2 : Int64) (x4 : Int64) (s1 : Int32) :
    sm_wp X 261 222 [some (.ref 81), some (.int x1), some (.long x2), none, some (.long x4), none] [.int s1, .ref 81] (sM mo G I J) Q =
    (sm_zb s1 ∧ (if ((up2 I 81 63 s1) 81 63 : Int32) = 0 then sm_wp X 261 236 [some (.ref 81), some (.int x1), some (.long x2), none, some (.long x4), none] [] (sM mo G (up2 I 81 63 s1) J) Q else (sm_wp X 261 240 [some (.ref 81), some (.int x1), some (.long x2), none, some (.long x4), none] [.long 0] (sM mo G (up2 I 81 63 s1) J) Q))) :=
  (sm_blk X 261 222 (tt_lin 261 (by decide)) rfl rfl _ _ _ _).trans rfl
set_option maxRecDepth 100000 in
theorem bk_261_236 (X : (Nat → Int32) × Nat) (mo : Bool) (G : Nat × Nat) (I : Nat → Nat → Int32) (J : Nat → Nat → Int64) (Q : Option Value → sm_M → Prop) (x1 : Int32) (x2 : Int64) (x4 : Int64) :
    sm_wp X 261 236 [some (.ref 81), some (.int x1), some (.long x2), none, some (.long x4), none] [] (sM mo G I J) Q =
    (True ∧ Q (some (.long (x2 * x4))) (sM mo G I J)) :=
  (sm_blk X 261 236 (tt_lin 261 (by decide)) rfl rfl _ _ _ _).trans rfl
set_option maxRecDepth 100000 in
theorem bk_261_240 (X : (Nat → Int32) × Nat) (mo : Bool) (G : Nat × Nat) (I : Nat → Nat → Int32) (J : Nat → Nat → Int64) (Q : Option Value → sm_M → Prop) (x1 : Int32) (x2 : Int64) (x4 : Int64) (s0 : Int64) :
    sm_wp X 261 240 [some (.ref 81), some (.int x1), some (.long x2), none, some (.long x4), none] [.long s0] (sM mo G I J) Q =
    (True ∧ Q (some (.long s0)) (sM mo G I J)) :=
  (sm_blk X 261 240 (tt_lin 261 (by decide)) rfl rfl _ _ _ _).trans rfl
set_option maxRecDepth 100000 in
theorem bk_261_241 (X : (Nat → Int32) × Nat) (mo : Bool) (G : Nat × Nat) (I : Nat → Nat → Int32) (J : Nat → Nat → Int64) (Q : Option Value → sm_M → Prop) (x1 : Int32) (x2 : Int64) (x4 : Int64) :
    sm_wp X 261 241 [some (.ref 81), some (.int x1), some (.long x2), none, some (.long x4), none] [] (sM mo G I J) Q =
    (if ¬ (I 81 63 : Int32) = 0 then sm_wp X 261 256 [some (.ref 81), some (.int x1), some (.long x2), none, some (.long x4), none] [.ref 81] (sM mo G I J) Q else (if ¬ (lg_cmp x4 0 : Int32) = 0 then sm_wp X 261 260 [some (.ref 81), some (.int x1), some (.long x2), none, some (.long x4), none] [.ref 81] (sM mo G I J) Q else (sm_wp X 261 261 [some (.ref 81), some (.int x1), some (.long x2), none, some (.long x4), none] [.int 1, .ref 81] (sM mo G I J) Q))) :=
  (sm_blk X 261 241 (tt_lin 261 (by decide)) rfl rfl _ _ _ _).trans rfl
set_option maxRecDepth 100000 in
theorem bk_261_256 (X : (Nat → Int32) × Nat) (mo : Bool) (G : Nat × Nat) (I : Nat → Nat → Int32) (J : Nat → Nat → Int64) (Q : Option Value → sm_M → Prop) (x1 : Int32) (x2 : Int64) (x4 : Int64) :
    sm_wp X 261 256 [some (.ref 81), some (.int x1), some (.long x2), none, some (.long x4), none] [.ref 81] (sM mo G I J) Q =
    (sm_wp X 261 261 [some (.ref 81), some (.int x1), some (.long x2), none, some (.long x4), none] [.int 1, .ref 81] (sM mo G I J) Q) :=
  (sm_blk X 261 256 (tt_lin 261 (by decide)) rfl rfl _ _ _ _).trans rfl
set_option maxRecDepth 100000 in
theorem bk_261_260 (X : (Nat → Int32) × Nat) (mo : Bool) (G : Nat × Nat) (I : Nat → Nat → Int32) (J : Nat → Nat → Int64) (Q : Option Value → sm_M → Prop) (x1 : Int32) (x2 : Int64) (x4 : Int64) :
    sm_wp X 261 260 [some (.ref 81), some (.int x1), some (.long x2), none, some (.long x4), none] [.ref 81] (sM mo G I J) Q =
    (sm_zb 0 ∧ (if ((up2 I 81 63 0) 81 63 : Int32) = 0 then sm_wp X 261 275 [some (.ref 81), some (.int x1), some (.long x2), none, some (.long x4), none] [] (sM mo G (up2 I 81 63 0) J) Q else (sm_wp X 261 292 [some (.ref 81), some (.int x1), some (.long x2), none, some (.long x4), none] [.long 0] (sM mo G (up2 I 81 63 0) J) Q))) :=
  (sm_blk X 261 260 (tt_lin 261 (by decide)) rfl rfl _ _ _ _).trans rfl
set_option maxRecDepth 100000 in
theorem bk_261_261 (X : (Nat → Int32) × Nat) (mo : Bool) (G : Nat × Nat) (I : Nat → Nat → Int32) (J : Nat → Nat → Int64) (Q : Option Value → sm_M → Prop) (x1 : Int32) (x2 : Int64) (x4 : Int64) (s1 : Int32) :
    sm_wp X 261 261 [some (.ref 81), some (.int x1), some (.long x2), none, some (.long x4), none] [.int s1, .ref 81] (sM mo G I J) Q =
    (sm_zb s1 ∧ (if ((up2 I 81 63 s1) 81 63 : Int32) = 0 then sm_wp X 261 275 [some (.ref 81), some (.int x1), some (.long x2), none, some (.long x4), none] [] (sM mo G (up2 I 81 63 s1) J) Q else (sm_wp X 261 292 [some (.ref 81), some (.int x1), some (.long x2), none, some (.long x4), none] [.long 0] (sM mo G (up2 I 81 63 s1) J) Q))) :=
  (sm_blk X 261 261 (tt_lin 261 (by decide)) rfl rfl _ _ _ _).trans rfl
set_option maxRecDepth 100000 in
theorem bk_261_275 (X : (Nat → Int32) × Nat) (mo : Bool) (G : Nat × Nat) (I : Nat → Nat → Int32) (J : Nat → Nat → Int64) (Q : Option Value → sm_M → Prop) (x1 : Int32) (x2 : Int64) (x4 : Int64) :
    sm_wp X 261 275 [some (.ref 81), some (.int x1), some (.long x2), none, some (.long x4), none] [] (sM mo G I J) Q =
    (if ¬ (x1 : Int32) = (10 : Int32) then sm_wp X 261 288 [some (.ref 81), some (.int x1), some (.long x2), none, some (.long x4), none] [] (sM mo G I J) Q else (¬ (x4 : Int64) = 0 ∧ (sm_wp X 261 292 [some (.ref 81), some (.int x1), some (.long x2), none, some (.long x4), none] [.long (x2 / x4)] (sM mo G I J) Q))) :=
  (sm_blk X 261 275 (tt_lin 261 (by decide)) rfl rfl _ _ _ _).trans rfl
set_option maxRecDepth 100000 in
theorem bk_261_288 (X : (Nat → Int32) × Nat) (mo : Bool) (G : Nat × Nat) (I : Nat → Nat → Int32) (J : Nat → Nat → Int64) (Q : Option Value → sm_M → Prop) (x1 : Int32) (x2 : Int64) (x4 : Int64) :
    sm_wp X 261 288 [some (.ref 81), some (.int x1), some (.long x2), none, some (.long x4), none] [] (sM mo G I J) Q =
    (¬ (x4 : Int64) = 0 ∧ (True ∧ Q (some (.long (x2 - x2 / x4 * x4))) (sM mo G I J))) :=
  (sm_blk X 261 288 (tt_lin 261 (by decide)) rfl rfl _ _ _ _).trans rfl
set_option maxRecDepth 100000 in
theorem bk_261_292 (X : (Nat → Int32) × Nat) (mo : Bool) (G : Nat × Nat) (I : Nat → Nat → Int32) (J : Nat → Nat → Int64) (Q : Option Value → sm_M → Prop) (x1 : Int32) (x2 : Int64) (x4 : Int64) (s0 : Int64) :
    sm_wp X 261 292 [some (.ref 81), some (.int x1), some (.long x2), none, some (.long x4), none] [.long s0] (sM mo G I J) Q =
    (True ∧ Q (some (.long s0)) (sM mo G I J)) :=
  (sm_blk X 261 292 (tt_lin 261 (by decide)) rfl rfl _ _ _ _).trans rfl
set_option maxRecDepth 100000 in
theorem bk_261_293 (X : (Nat → Int32) × Nat) (mo : Bool) (G : Nat × Nat) (I : Nat → Nat → Int32) (J : Nat → Nat → Int64) (Q : Option Value → sm_M → Prop) (x1 : Int32) (x2 : Int64) (x4 : Int64) :
    sm_wp X 261 293 [some (.ref 81), some (.int x1), some (.long x2), none, some (.long x4), none] [] (sM mo G I J) Q =
    (if (lg_cmp x2 0 : Int32) = 0 then sm_wp X 261 310 [some (.ref 81), some (.int x1), some (.long x2), none, some (.long x4), none] [] (sM mo G I J) Q else (if (lg_cmp x4 0 : Int32) = 0 then sm_wp X 261 310 [some (.ref 81), some (.int x1), some (.long x2), none, some (.long x4), none] [] (sM mo G I J) Q else (sm_wp X 261 311 [some (.ref 81), some (.int x1), some (.long x2), none, some (.long x4), none] [.int 1] (sM mo G I J) Q))) :=
  (sm_blk X 261 293 (tt_lin 261 (by decide)) rfl rfl _ _ _ _).trans rfl
set_option maxRecDepth 100000 in
theorem bk_261_310 (X : (Nat → Int32) × Nat) (mo : Bool) (G : Nat × Nat) (I : Nat → Nat → Int32) (J : Nat → Nat → Int64) (Q : Option Value → sm_M → Prop) (x1 : Int32) (x2 : Int64) (x4 : Int64) :
    sm_wp X 261 310 [some (.ref 81), some (.int x1), some (.long x2), none, some (.long x4), none] [] (sM mo G I J) Q =
    (sm_wp X 260 0 [some (.int 0)] [] (sM mo G I J) (fun v M => sm_wp X 261 314 [some (.ref 81), some (.int x1), some (.long x2), none, some (.long x4), none] (v.toList ++ []) M Q)) :=
  (sm_blk X 261 310 (tt_lin 261 (by decide)) rfl rfl _ _ _ _).trans rfl
set_option maxRecDepth 100000 in
theorem bk_261_311 (X : (Nat → Int32) × Nat) (mo : Bool) (G : Nat × Nat) (I : Nat → Nat → Int32) (J : Nat → Nat → Int64) (Q : Option Value → sm_M → Prop) (x1 : Int32) (x2 : Int64) (x4 : Int64) (s0 : Int32) :
    sm_wp X 261 311 [some (.ref 81), some (.int x1), some (.long x2), none, some (.long x4), none] [.int s0] (sM mo G I J) Q =
    (sm_wp X 260 0 [some (.int s0)] [] (sM mo G I J) (fun v M => sm_wp X 261 314 [some (.ref 81), some (.int x1), some (.long x2), none, some (.long x4), none] (v.toList ++ []) M Q)) :=
  (sm_blk X 261 311 (tt_lin 261 (by decide)) rfl rfl _ _ _ _).trans rfl
set_option maxRecDepth 100000 in
theorem bk_261_314 (X : (Nat → Int32) × Nat) (mo : Bool) (G : Nat × Nat) (I : Nat → Nat → Int32) (J : Nat → Nat → Int64) (Q : Option Value → sm_M → Prop) (x1 : Int32) (x2 : Int64) (x4 : Int64) (s0 : Int64) :
    sm_wp X 261 314 [some (.ref 81), some (.int x1), some (.long x2), none, some (.long x4), none] [.long s0] (sM mo G I J) Q =
    (True ∧ Q (some (.long s0)) (sM mo G I J)) :=
  (sm_blk X 261 314 (tt_lin 261 (by decide)) rfl rfl _ _ _ _).trans rfl
set_option maxRecDepth 100000 in
theorem bk_261_315 (X : (Nat → Int32) × Nat) (mo : Bool) (G : Nat × Nat) (I : Nat → Nat → Int32) (J : Nat → Nat → Int64) (Q : Option Value → sm_M → Prop) (x1 : Int32) (x2 : Int64) (x4 : Int64) :
    sm_wp X 261 315 [some (.ref 81), some (.int x1), some (.long x2), none, some (.long x4), none] [] (sM mo G I J) Q =
    (if ¬ (lg_cmp x2 0 : Int32) = 0 then sm_wp X 261 328 [some (.ref 81), some (.int x1), some (.long x2), none, some (.long x4), none] [] (sM mo G I J) Q else (if (lg_cmp x4 0 : Int32) = 0 then sm_wp X 261 332 [some (.ref 81), some (.int x1), some (.long x2), none, some (.long x4), none] [] (sM mo G I J) Q else (sm_wp X 261 333 [some (.ref 81), some (.int x1), some (.long x2), none, some (.long x4), none] [.int 1] (sM mo G I J) Q))) :=
  (sm_blk X 261 315 (tt_lin 261 (by decide)) rfl rfl _ _ _ _).trans rfl
set_option maxRecDepth 100000 in
theorem bk_261_328 (X : (Nat → Int32) × Nat) (mo : Bool) (G : Nat × Nat) (I : Nat → Nat → Int32) (J : Nat → Nat → Int64) (Q : Option Value → sm_M → Prop) (x1 : Int32) (x2 : Int64) (x4 : Int64) :
    sm_wp X 261 328 [some (.ref 81), some (.int x1), some (.long x2), none, some (.long x4), none] [] (sM mo G I J) Q =
    (sm_wp X 261 333 [some (.ref 81), some (.int x1), some (.long x2), none, some (.long x4), none] [.int 1] (sM mo G I J) Q) :=
  (sm_blk X 261 328 (tt_lin 261 (by decide)) rfl rfl _ _ _ _).trans rfl
set_option maxRecDepth 100000 in
theorem bk_261_332 (X : (Nat → Int32) × Nat) (mo : Bool) (G : Nat × Nat) (I : Nat → Nat → Int32) (J : Nat → Nat → Int64) (Q : Option Value → sm_M → Prop) (x1 : Int32) (x2 : Int64) (x4 : Int64) :
    sm_wp X 261 332 [some (.ref 81), some (.int x1), some (.long x2), none, some (.long x4), none] [] (sM mo G I J) Q =
    (sm_wp X 260 0 [some (.int 0)] [] (sM mo G I J) (fun v M => sm_wp X 261 336 [some (.ref 81), some (.int x1), some (.long x2), none, some (.long x4), none] (v.toList ++ []) M Q)) :=
  (sm_blk X 261 332 (tt_lin 261 (by decide)) rfl rfl _ _ _ _).trans rfl
set_option maxRecDepth 100000 in
theorem bk_261_333 (X : (Nat → Int32) × Nat) (mo : Bool) (G : Nat × Nat) (I : Nat → Nat → Int32) (J : Nat → Nat → Int64) (Q : Option Value → sm_M → Prop) (x1 : Int32) (x2 : Int64) (x4 : Int64) (s0 : Int32) :
    sm_wp X 261 333 [some (.ref 81), some (.int x1), some (.long x2), none, some (.long x4), none] [.int s0] (sM mo G I J) Q =
    (sm_wp X 260 0 [some (.int s0)] [] (sM mo G I J) (fun v M => sm_wp X 261 336 [some (.ref 81), some (.int x1), some (.long x2), none, some (.long x4), none] (v.toList ++ []) M Q)) :=
  (sm_blk X 261 333 (tt_lin 261 (by decide)) rfl rfl _ _ _ _).trans rfl
set_option maxRecDepth 100000 in
theorem bk_261_336 (X : (Nat → Int32) × Nat) (mo : Bool) (G : Nat × Nat) (I : Nat → Nat → Int32) (J : Nat → Nat → Int64) (Q : Option Value → sm_M → Prop) (x1 : Int32) (x2 : Int64) (x4 : Int64) (s0 : Int64) :
    sm_wp X 261 336 [some (.ref 81), some (.int x1), some (.long x2), none, some (.long x4), none] [.long s0] (sM mo G I J) Q =
    (True ∧ Q (some (.long s0)) (sM mo G I J)) :=
  (sm_blk X 261 336 (tt_lin 261 (by decide)) rfl rfl _ _ _ _).trans rfl
end
section
set_option maxRecDepth 100000 in
theorem bk_262_0 (X : (Nat → Int32) × Nat) (mo : Bool) (G : Nat × Nat) (I : Nat → Nat → Int32) (J : Nat → Nat → Int64) (Q : Option Value → sm_M → Prop) (x1 : Int64) :
    sm_wp X 262 0 [some (.ref 81), some (.long x1), none] [] (sM mo G I J) Q =
    (if ¬ (I 81 63 : Int32) = 0 then sm_wp X 262 19 [some (.ref 81), some (.long x1), none] [.ref 81] (sM mo G I J) Q else (sm_wp X 263 0 [some (.long x1), none] [] (sM mo G I J) (fun v M => sm_wp X 262 12 [some (.ref 81), some (.long x1), none] (v.toList ++ [.ref 81]) M Q))) :=
  (sm_blk X 262 0 (tt_lin 262 (by decide)) rfl rfl _ _ _ _).trans rfl
set_option maxRecDepth 100000 in
theorem bk_262_12 (X : (Nat → Int32) × Nat) (mo : Bool) (G : Nat × Nat) (I : Nat → Nat → Int32) (J : Nat → Nat → Int64) (Q : Option Value → sm_M → Prop) (x1 : Int64) (s1 : Int64) :
    sm_wp X 262 12 [some (.ref 81), some (.long x1), none] [.long s1, .ref 81] (sM mo G I J) Q =
    (if (lg_cmp s1 1000000000000 : Int32) ≤ 0 then sm_wp X 262 23 [some (.ref 81), some (.long x1), none] [.ref 81] (sM mo G I J) Q else (sm_wp X 262 24 [some (.ref 81), some (.long x1), none] [.int 1, .ref 81] (sM mo G I J) Q)) :=
  (sm_blk X 262 12 (tt_lin 262 (by decide)) rfl rfl _ _ _ _).trans rfl
set_option maxRecDepth 100000 in
theorem bk_262_19 (X : (Nat → Int32) × Nat) (mo : Bool) (G : Nat × Nat) (I : Nat → Nat → Int32) (J : Nat → Nat → Int64) (Q : Option Value → sm_M → Prop) (x1 : Int64) :
    sm_wp X 262 19 [some (.ref 81), some (.long x1), none] [.ref 81] (sM mo G I J) Q =
    (sm_wp X 262 24 [some (.ref 81), some (.long x1), none] [.int 1, .ref 81] (sM mo G I J) Q) :=
  (sm_blk X 262 19 (tt_lin 262 (by decide)) rfl rfl _ _ _ _).trans rfl
set_option maxRecDepth 100000 in
theorem bk_262_23 (X : (Nat → Int32) × Nat) (mo : Bool) (G : Nat × Nat) (I : Nat → Nat → Int32) (J : Nat → Nat → Int64) (Q : Option Value → sm_M → Prop) (x1 : Int64) :
    sm_wp X 262 23 [some (.ref 81), some (.long x1), none] [.ref 81] (sM mo G I J) Q =
    (sm_zb 0 ∧ (if ((up2 I 81 63 0) 81 63 : Int32) = 0 then sm_wp X 262 38 [some (.ref 81), some (.long x1), none] [] (sM mo G (up2 I 81 63 0) J) Q else (sm_wp X 262 39 [some (.ref 81), some (.long x1), none] [.long 0] (sM mo G (up2 I 81 63 0) J) Q))) :=
  (sm_blk X 262 23 (tt_lin 262 (by decide)) rfl rfl _ _ _ _).trans rfl
set_option maxRecDepth 100000 in
theorem bk_262_24 (X : (Nat → Int32) × Nat) (mo : Bool) (G : Nat × Nat) (I : Nat → Nat → Int32) (J : Nat → Nat → Int64) (Q : Option Value → sm_M → Prop) (x1 : Int64) (s1 : Int32) :
    sm_wp X 262 24 [some (.ref 81), some (.long x1), none] [.int s1, .ref 81] (sM mo G I J) Q =
    (sm_zb s1 ∧ (if ((up2 I 81 63 s1) 81 63 : Int32) = 0 then sm_wp X 262 38 [some (.ref 81), some (.long x1), none] [] (sM mo G (up2 I 81 63 s1) J) Q else (sm_wp X 262 39 [some (.ref 81), some (.long x1), none] [.long 0] (sM mo G (up2 I 81 63 s1) J) Q))) :=
  (sm_blk X 262 24 (tt_lin 262 (by decide)) rfl rfl _ _ _ _).trans rfl
set_option maxRecDepth 100000 in
theorem bk_262_38 (X : (Nat → Int32) × Nat) (mo : Bool) (G : Nat × Nat) (I : Nat → Nat → Int32) (J : Nat → Nat → Int64) (Q : Option Value → sm_M → Prop) (x1 : Int64) :
    sm_wp X 262 38 [some (.ref 81), some (.long x1), none] [] (sM mo G I J) Q =
    (True ∧ Q (some (.long x1)) (sM mo G I J)) :=
  (sm_blk X 262 38 (tt_lin 262 (by decide)) rfl rfl _ _ _ _).trans rfl
set_option maxRecDepth 100000 in
theorem bk_262_39 (X : (Nat → Int32) × Nat) (mo : Bool) (G : Nat × Nat) (I : Nat → Nat → Int32) (J : Nat → Nat → Int64) (Q : Option Value → sm_M → Prop) (x1 : Int64) (s0 : Int64) :
    sm_wp X 262 39 [some (.ref 81), some (.long x1), none] [.long s0] (sM mo G I J) Q =
    (True ∧ Q (some (.long s0)) (sM mo G I J)) :=
  (sm_blk X 262 39 (tt_lin 262 (by decide)) rfl rfl _ _ _ _).trans rfl
set_option maxRecDepth 100000 in
theorem bk_263_0 (X : (Nat → Int32) × Nat) (mo : Bool) (G : Nat × Nat) (I : Nat → Nat → Int32) (J : Nat → Nat → Int64) (Q : Option Value → sm_M → Prop) (x0 : Int64) :
    sm_wp X 263 0 [some (.long x0), none] [] (sM mo G I J) Q =
    (if 0 ≤ (lg_cmp x0 0 : Int32) then sm_wp X 263 11 [some (.long x0), none] [] (sM mo G I J) Q else (sm_wp X 263 12 [some (.long x0), none] [.long (-x0)] (sM mo G I J) Q)) :=
  (sm_blk X 263 0 (tt_lin 263 (by decide)) rfl rfl _ _ _ _).trans rfl
set_option maxRecDepth 100000 in
theorem bk_263_11 (X : (Nat → Int32) × Nat) (mo : Bool) (G : Nat × Nat) (I : Nat → Nat → Int32) (J : Nat → Nat → Int64) (Q : Option Value → sm_M → Prop) (x0 : Int64) :
    sm_wp X 263 11 [some (.long x0), none] [] (sM mo G I J) Q =
    (True ∧ Q (some (.long x0)) (sM mo G I J)) :=
  (sm_blk X 263 11 (tt_lin 263 (by decide)) rfl rfl _ _ _ _).trans rfl
set_option maxRecDepth 100000 in
theorem bk_263_12 (X : (Nat → Int32) × Nat) (mo : Bool) (G : Nat × Nat) (I : Nat → Nat → Int32) (J : Nat → Nat → Int64) (Q : Option Value → sm_M → Prop) (x0 : Int64) (s0 : Int64) :
    sm_wp X 263 12 [some (.long x0), none] [.long s0] (sM mo G I J) Q =
    (True ∧ Q (some (.long s0)) (sM mo G I J)) :=
  (sm_blk X 263 12 (tt_lin 263 (by decide)) rfl rfl _ _ _ _).trans rfl
set_option maxRecDepth 100000 in
theorem bk_264_0 (X : (Nat → Int32) × Nat) (mo : Bool) (G : Nat × Nat) (I : Nat → Nat → Int32) (J : Nat → Nat → Int64) (Q : Option Value → sm_M → Prop) (x1 : Int32) :
    sm_wp X 264 0 [some (.ref 81), some (.int x1), none, none, none, none] [] (sM mo G I J) Q =
    (sm_wp X 265 0 [some (.ref 81), some (.int x1), none, none] [] (sM mo G I J) (fun v M => sm_wp X 264 5 [some (.ref 81), some (.int x1), none, none, none, none] (v.toList ++ []) M Q)) :=
  (sm_blk X 264 0 (tt_lin 264 (by decide)) rfl rfl _ _ _ _).trans rfl
set_option maxRecDepth 100000 in
theorem bk_264_5 (X : (Nat → Int32) × Nat) (mo : Bool) (G : Nat × Nat) (I : Nat → Nat → Int32) (J : Nat → Nat → Int64) (Q : Option Value → sm_M → Prop) (x1 : Int32) :
    sm_wp X 264 5 [some (.ref 81), some (.int x1), none, none, none, none] [] (sM mo G I J) Q =
    (sm_wp X 264 12 [some (.ref 81), none, some (.int 0), some (.int 0), some (.int 0), none] [] (sM mo G I J) Q) :=
  (sm_blk X 264 5 (tt_lin 264 (by decide)) rfl rfl _ _ _ _).trans rfl
set_option maxRecDepth 100000 in
theorem bk_264_12 (X : (Nat → Int32) × Nat) (mo : Bool) (G : Nat × Nat) (I : Nat → Nat → Int32) (J : Nat → Nat → Int64) (Q : Option Value → sm_M → Prop) (x2 : Int32) (x3 : Int32) (x4 : Int32) :
    sm_wp X 264 12 [some (.ref 81), none, some (.int x2), some (.int x3), some (.int x4), none] [] (sM mo G I J) Q =
    (if (I 81 46 : Int32) ≤ (x4 : Int32) then sm_wp X 264 105 [some (.ref 81), none, some (.int x2), some (.int x3), some (.int x4), none] [] (sM mo G I J) Q else (vp_in x4 60 ∧ (if ¬ (I 122 (x4.toNatClampNeg) : Int32) = 0 then sm_wp X 264 34 [some (.ref 81), none, some (.int x2), some (.int x3), some (.int x4), none] [] (sM mo G I J) Q else (sm_wp X 264 99 [some (.ref 81), none, some (.int x2), some (.int x3), some (.int x4), none] [] (sM mo G I J) Q)))) :=
  (sm_blk X 264 12 (tt_lin 264 (by decide)) rfl rfl _ _ _ _).trans rfl
set_option maxRecDepth 100000 in
theorem bk_264_34 (X : (Nat → Int32) × Nat) (mo : Bool) (G : Nat × Nat) (I : Nat → Nat → Int32) (J : Nat → Nat → Int64) (Q : Option Value → sm_M → Prop) (x2 : Int32) (x3 : Int32) (x4 : Int32) :
    sm_wp X 264 34 [some (.ref 81), none, some (.int x2), some (.int x3), some (.int x4), none] [] (sM mo G I J) Q =
    (if ¬ (x2 : Int32) = 0 then sm_wp X 264 72 [some (.ref 81), none, some (.int x2), some (.int x3), some (.int x4), none] [] (sM mo G I J) Q else (vp_in x4 60 ∧ (if (I 117 (x4.toNatClampNeg) : Int32) = (3 : Int32) then sm_wp X 264 72 [some (.ref 81), none, some (.int x2), some (.int x3), some (.int x4), none] [] (sM mo G I J) Q else (vp_in x4 60 ∧ (if (I 117 (x4.toNatClampNeg) : Int32) = (4 : Int32) then sm_wp X 264 72 [some (.ref 81), none, some (.int x2), some (.int x3), some (.int x4), none] [] (sM mo G I J) Q else (vp_in x4 60 ∧ (if ¬ (I 117 (x4.toNatClampNeg) : Int32) = (6 : Int32) then sm_wp X 264 76 [some (.ref 81), none, some (.int x2), some (.int x3), some (.int x4), none] [] (sM mo G I J) Q else (sm_wp X 264 77 [some (.ref 81), none, some (.int x2), some (.int x3), some (.int x4), none] [.int 1] (sM mo G I J) Q)))))))) :=
  (sm_blk X 264 34 (tt_lin 264 (by decide)) rfl rfl _ _ _ _).trans rfl
set_option maxRecDepth 100000 in
theorem bk_264_72 (X : (Nat → Int32) × Nat) (mo : Bool) (G : Nat × Nat) (I : Nat → Nat → Int32) (J : Nat → Nat → Int64) (Q : Option Value → sm_M → Prop) (x2 : Int32) (x3 : Int32) (x4 : Int32) :
    sm_wp X 264 72 [some (.ref 81), none, some (.int x2), some (.int x3), some (.int x4), none] [] (sM mo G I J) Q =
    (sm_wp X 264 77 [some (.ref 81), none, some (.int x2), some (.int x3), some (.int x4), none] [.int 1] (sM mo G I J) Q) :=
  (sm_blk X 264 72 (tt_lin 264 (by decide)) rfl rfl _ _ _ _).trans rfl
set_option maxRecDepth 100000 in
theorem bk_264_76 (X : (Nat → Int32) × Nat) (mo : Bool) (G : Nat × Nat) (I : Nat → Nat → Int32) (J : Nat → Nat → Int64) (Q : Option Value → sm_M → Prop) (x2 : Int32) (x3 : Int32) (x4 : Int32) :
    sm_wp X 264 76 [some (.ref 81), none, some (.int x2), some (.int x3), some (.int x4), none] [] (sM mo G I J) Q =
    (if ¬ (x3 : Int32) = 0 then sm_wp X 264 93 [some (.ref 81), none, some (.int 0), some (.int x3), some (.int x4), none] [] (sM mo G I J) Q else (vp_in x4 60 ∧ (if (2 : Int32) ≤ (I 117 (x4.toNatClampNeg) : Int32) then sm_wp X 264 97 [some (.ref 81), none, some (.int 0), some (.int x3), some (.int x4), none] [] (sM mo G I J) Q else (sm_wp X 264 98 [some (.ref 81), none, some (.int 0), some (.int x3), some (.int x4), none] [.int 1] (sM mo G I J) Q)))) :=
  (sm_blk X 264 76 (tt_lin 264 (by decide)) rfl rfl _ _ _ _).trans rfl
set_option maxRecDepth 100000 in
theorem bk_264_77 (X : (Nat → Int32) × Nat) (mo : Bool) (G : Nat × Nat) (I : Nat → Nat → Int32) (J : Nat → Nat → Int64) (Q : Option Value → sm_M → Prop) (x2 : Int32) (x3 : Int32) (x4 : Int32) (s0 : Int32) :
    sm_wp X 264 77 [some (.ref 81), none, some (.int x2), some (.int x3), some (.int x4), none] [.int s0] (sM mo G I J) Q =
    (if ¬ (x3 : Int32) = 0 then sm_wp X 264 93 [some (.ref 81), none, some (.int s0), some (.int x3), some (.int x4), none] [] (sM mo G I J) Q else (vp_in x4 60 ∧ (if (2 : Int32) ≤ (I 117 (x4.toNatClampNeg) : Int32) then sm_wp X 264 97 [some (.ref 81), none, some (.int s0), some (.int x3), some (.int x4), none] [] (sM mo G I J) Q else (sm_wp X 264 98 [some (.ref 81), none, some (.int s0), some (.int x3), some (.int x4), none] [.int 1] (sM mo G I J) Q)))) :=
  (sm_blk X 264 77 (tt_lin 264 (by decide)) rfl rfl _ _ _ _).trans rfl
set_option maxRecDepth 100000 in
theorem bk_264_93 (X : (Nat → Int32) × Nat) (mo : Bool) (G : Nat × Nat) (I : Nat → Nat → Int32) (J : Nat → Nat → Int64) (Q : Option Value → sm_M → Prop) (x2 : Int32) (x3 : Int32) (x4 : Int32) :
    sm_wp X 264 93 [some (.ref 81), none, some (.int x2), some (.int x3), some (.int x4), none] [] (sM mo G I J) Q =
    (sm_wp X 264 98 [some (.ref 81), none, some (.int x2), some (.int x3), some (.int x4), none] [.int 1] (sM mo G I J) Q) :=
  (sm_blk X 264 93 (tt_lin 264 (by decide)) rfl rfl _ _ _ _).trans rfl
set_option maxRecDepth 100000 in
theorem bk_264_97 (X : (Nat → Int32) × Nat) (mo : Bool) (G : Nat × Nat) (I : Nat → Nat → Int32) (J : Nat → Nat → Int64) (Q : Option Value → sm_M → Prop) (x2 : Int32) (x3 : Int32) (x4 : Int32) :
    sm_wp X 264 97 [some (.ref 81), none, some (.int x2), some (.int x3), some (.int x4), none] [] (sM mo G I J) Q =
    (sm_wp X 264 12 [some (.ref 81), none, some (.int x2), some (.int 0), some (.int (x4 + 1)), none] [] (sM mo G I J) Q) :=
  (sm_blk X 264 97 (tt_lin 264 (by decide)) rfl rfl _ _ _ _).trans rfl
set_option maxRecDepth 100000 in
theorem bk_264_98 (X : (Nat → Int32) × Nat) (mo : Bool) (G : Nat × Nat) (I : Nat → Nat → Int32) (J : Nat → Nat → Int64) (Q : Option Value → sm_M → Prop) (x2 : Int32) (x3 : Int32) (x4 : Int32) (s0 : Int32) :
    sm_wp X 264 98 [some (.ref 81), none, some (.int x2), some (.int x3), some (.int x4), none] [.int s0] (sM mo G I J) Q =
    (sm_wp X 264 12 [some (.ref 81), none, some (.int x2), some (.int s0), some (.int (x4 + 1)), none] [] (sM mo G I J) Q) :=
  (sm_blk X 264 98 (tt_lin 264 (by decide)) rfl rfl _ _ _ _).trans rfl
set_option maxRecDepth 100000 in
theorem bk_264_99 (X : (Nat → Int32) × Nat) (mo : Bool) (G : Nat × Nat) (I : Nat → Nat → Int32) (J : Nat → Nat → Int64) (Q : Option Value → sm_M → Prop) (x2 : Int32) (x3 : Int32) (x4 : Int32) :
    sm_wp X 264 99 [some (.ref 81), none, some (.int x2), some (.int x3), some (.int x4), none] [] (sM mo G I J) Q =
    (sm_wp X 264 12 [some (.ref 81), none, some (.int x2), some (.int x3), some (.int (x4 + 1)), none] [] (sM mo G I J) Q) :=
  (sm_blk X 264 99 (tt_lin 264 (by decide)) rfl rfl _ _ _ _).trans rfl
set_option maxRecDepth 100000 in
theorem bk_264_105 (X : (Nat → Int32) × Nat) (mo : Bool) (G : Nat × Nat) (I : Nat → Nat → Int32) (J : Nat → Nat → Int64) (Q : Option Value → sm_M → Prop) (x2 : Int32) (x3 : Int32) (x4 : Int32) :
    sm_wp X 264 105 [some (.ref 81), none, some (.int x2), some (.int x3), some (.int x4), none] [] (sM mo G I J) Q =
    (if (x2 : Int32) = 0 then sm_wp X 264 118 [some (.ref 81), none, some (.int x2), some (.int x3), some (.int x4), none] [] (sM mo G I J) Q else (sm_wp X 266 0 [some (.ref 81), some (.int 0), some (.int 2), some (.int 6), none] [] (sM mo G I J) (fun v M => sm_wp X 264 117 [some (.ref 81), none, some (.int x2), some (.int x3), some (.int x4), none] (v.toList ++ []) M Q))) :=
  (sm_blk X 264 105 (tt_lin 264 (by decide)) rfl rfl _ _ _ _).trans rfl
set_option maxRecDepth 100000 in
theorem bk_264_117 (X : (Nat → Int32) × Nat) (mo : Bool) (G : Nat × Nat) (I : Nat → Nat → Int32) (J : Nat → Nat → Int64) (Q : Option Value → sm_M → Prop) (x2 : Int32) (x3 : Int32) (x4 : Int32) :
    sm_wp X 264 117 [some (.ref 81), none, some (.int x2), some (.int x3), some (.int x4), none] [] (sM mo G I J) Q =
    (True ∧ Q none (sM mo G I J)) :=
  (sm_blk X 264 117 (tt_lin 264 (by decide)) rfl rfl _ _ _ _).trans rfl
set_option maxRecDepth 100000 in
theorem bk_264_118 (X : (Nat → Int32) × Nat) (mo : Bool) (G : Nat × Nat) (I : Nat → Nat → Int32) (J : Nat → Nat → Int64) (Q : Option Value → sm_M → Prop) (x2 : Int32) (x3 : Int32) (x4 : Int32) :
    sm_wp X 264 118 [some (.ref 81), none, some (.int x2), some (.int x3), some (.int x4), none] [] (sM mo G I J) Q =
    (if (x3 : Int32) = 0 then sm_wp X 264 123 [some (.ref 81), none, some (.int x2), some (.int x3), some (.int x4), none] [] (sM mo G I J) Q else (True ∧ Q none (sM mo G I J))) :=
  (sm_blk X 264 118 (tt_lin 264 (by decide)) rfl rfl _ _ _ _).trans rfl
set_option maxRecDepth 100000 in
theorem bk_264_123 (X : (Nat → Int32) × Nat) (mo : Bool) (G : Nat × Nat) (I : Nat → Nat → Int32) (J : Nat → Nat → Int64) (Q : Option Value → sm_M → Prop) (x2 : Int32) (x3 : Int32) (x4 : Int32) :
    sm_wp X 264 123 [some (.ref 81), none, some (.int x2), some (.int x3), some (.int x4), none] [] (sM mo G I J) Q =
    (sm_wp X 267 0 [some (.ref 81), none, none, none] [] (sM mo G I J) (fun v M => sm_wp X 264 127 [some (.ref 81), none, some (.int x2), some (.int x3), some (.int x4), none] (v.toList ++ []) M Q)) :=
  (sm_blk X 264 123 (tt_lin 264 (by decide)) rfl rfl _ _ _ _).trans rfl
set_option maxRecDepth 100000 in
theorem bk_264_127 (X : (Nat → Int32) × Nat) (mo : Bool) (G : Nat × Nat) (I : Nat → Nat → Int32) (J : Nat → Nat → Int64) (Q : Option Value → sm_M → Prop) (x2 : Int32) (x3 : Int32) (x4 : Int32) (s0 : Int32) :
    sm_wp X 264 127 [some (.ref 81), none, some (.int x2), some (.int x3), some (.int x4), none] [.int s0] (sM mo G I J) Q =
    (if ¬ (s0 : Int32) = 0 then sm_wp X 264 139 [some (.ref 81), none, some (.int x2), some (.int x3), some (.int x4), none] [] (sM mo G I J) Q else (sm_wp X 266 0 [some (.ref 81), some (.int 2), some (.int 2), some (.int 6), none] [] (sM mo G I J) (fun v M => sm_wp X 264 138 [some (.ref 81), none, some (.int x2), some (.int x3), some (.int x4), none] (v.toList ++ []) M Q))) :=
  (sm_blk X 264 127 (tt_lin 264 (by decide)) rfl rfl _ _ _ _).trans rfl
set_option maxRecDepth 100000 in
theorem bk_264_138 (X : (Nat → Int32) × Nat) (mo : Bool) (G : Nat × Nat) (I : Nat → Nat → Int32) (J : Nat → Nat → Int64) (Q : Option Value → sm_M → Prop) (x2 : Int32) (x3 : Int32) (x4 : Int32) :
    sm_wp X 264 138 [some (.ref 81), none, some (.int x2), some (.int x3), some (.int x4), none] [] (sM mo G I J) Q =
    (True ∧ Q none (sM mo G I J)) :=
  (sm_blk X 264 138 (tt_lin 264 (by decide)) rfl rfl _ _ _ _).trans rfl
set_option maxRecDepth 100000 in
theorem bk_264_139 (X : (Nat → Int32) × Nat) (mo : Bool) (G : Nat × Nat) (I : Nat → Nat → Int32) (J : Nat → Nat → Int64) (Q : Option Value → sm_M → Prop) (x2 : Int32) (x3 : Int32) (x4 : Int32) :
    sm_wp X 264 139 [some (.ref 81), none, some (.int x2), some (.int x3), some (.int x4), none] [] (sM mo G I J) Q =
    (sm_wp X 264 142 [some (.ref 81), none, none, none, some (.int 0), none] [] (sM mo G I J) Q) :=
  (sm_blk X 264 139 (tt_lin 264 (by decide)) rfl rfl _ _ _ _).trans rfl
set_option maxRecDepth 100000 in
theorem bk_264_142 (X : (Nat → Int32) × Nat) (mo : Bool) (G : Nat × Nat) (I : Nat → Nat → Int32) (J : Nat → Nat → Int64) (Q : Option Value → sm_M → Prop) (x4 : Int32) :
    sm_wp X 264 142 [some (.ref 81), none, none, none, some (.int x4), none] [] (sM mo G I J) Q =
    (if (I 81 46 : Int32) ≤ (x4 : Int32) then sm_wp X 264 261 [some (.ref 81), none, none, none, some (.int x4), none] [] (sM mo G I J) Q else (vp_in x4 60 ∧ (if (I 122 (x4.toNatClampNeg) : Int32) = 0 then sm_wp X 264 255 [some (.ref 81), none, none, none, some (.int x4), none] [] (sM mo G I J) Q else (vp_in x4 60 ∧ (if (I 117 (x4.toNatClampNeg) : Int32) = (2 : Int32) then sm_wp X 264 175 [some (.ref 81), none, none, none, some (.int x4), none] [] (sM mo G I J) Q else (sm_wp X 264 255 [some (.ref 81), none, none, none, some (.int x4), none] [] (sM mo G I J) Q)))))) :=
  (sm_blk X 264 142 (tt_lin 264 (by decide)) rfl rfl _ _ _ _).trans rfl
set_option maxRecDepth 100000 in
theorem bk_264_175 (X : (Nat → Int32) × Nat) (mo : Bool) (G : Nat × Nat) (I : Nat → Nat → Int32) (J : Nat → Nat → Int64) (Q : Option Value → sm_M → Prop) (x4 : Int32) :
    sm_wp X 264 175 [some (.ref 81), none, none, none, some (.int x4), none] [] (sM mo G I J) Q =
    (sm_wp X 264 178 [some (.ref 81), none, none, none, some (.int x4), some (.int 0)] [] (sM mo G I J) Q) :=
  (sm_blk X 264 175 (tt_lin 264 (by decide)) rfl rfl _ _ _ _).trans rfl
set_option maxRecDepth 100000 in
theorem bk_264_178 (X : (Nat → Int32) × Nat) (mo : Bool) (G : Nat × Nat) (I : Nat → Nat → Int32) (J : Nat → Nat → Int64) (Q : Option Value → sm_M → Prop) (x4 : Int32) (x5 : Int32) :
    sm_wp X 264 178 [some (.ref 81), none, none, none, some (.int x4), some (.int x5)] [] (sM mo G I J) Q =
    (if (I 81 3 : Int32) ≤ (x5 : Int32) then sm_wp X 264 255 [some (.ref 81), none, none, none, some (.int x4), some (.int x5)] [] (sM mo G I J) Q else (vp_in x4 60 ∧ (if ¬ (((I 111 (x4.toNatClampNeg)) >>> (x5 &&& 31)) &&& 1 : Int32) = (1 : Int32) then sm_wp X 264 218 [some (.ref 81), none, none, none, some (.int x4), some (.int x5)] [] (sM mo G I J) Q else (vp_in x4 60 ∧ (sm_wp X 217 0 [some (.ref 81), some (.int x5), some (.int (I 109 (x4.toNatClampNeg))), some (.int x4), none] [] (sM mo G I J) (fun v M => sm_wp X 264 218 [some (.ref 81), none, none, none, some (.int x4), some (.int x5)] (v.toList ++ []) M Q)))))) :=
  (sm_blk X 264 178 (tt_lin 264 (by decide)) rfl rfl _ _ _ _).trans rfl
set_option maxRecDepth 100000 in
theorem bk_264_218 (X : (Nat → Int32) × Nat) (mo : Bool) (G : Nat × Nat) (I : Nat → Nat → Int32) (J : Nat → Nat → Int64) (Q : Option Value → sm_M → Prop) (x4 : Int32) (x5 : Int32) :
    sm_wp X 264 218 [some (.ref 81), none, none, none, some (.int x4), some (.int x5)] [] (sM mo G I J) Q =
    (vp_in x4 60 ∧ (if ¬ (((I 112 (x4.toNatClampNeg)) >>> (x5 &&& 31)) &&& 1 : Int32) = (1 : Int32) then sm_wp X 264 249 [some (.ref 81), none, none, none, some (.int x4), some (.int x5)] [] (sM mo G I J) Q else (vp_in x4 60 ∧ (sm_wp X 217 0 [some (.ref 81), some (.int x5), some (.int (I 108 (x4.toNatClampNeg))), some (.int x4), none] [] (sM mo G I J) (fun v M => sm_wp X 264 249 [some (.ref 81), none, none, none, some (.int x4), some (.int x5)] (v.toList ++ []) M Q))))) :=
  (sm_blk X 264 218 (tt_lin 264 (by decide)) rfl rfl _ _ _ _).trans rfl
set_option maxRecDepth 100000 in
theorem bk_264_249 (X : (Nat → Int32) × Nat) (mo : Bool) (G : Nat × Nat) (I : Nat → Nat → Int32) (J : Nat → Nat → Int64) (Q : Option Value → sm_M → Prop) (x4 : Int32) (x5 : Int32) :
    sm_wp X 264 249 [some (.ref 81), none, none, none, some (.int x4), some (.int x5)] [] (sM mo G I J) Q =
    (sm_wp X 264 178 [some (.ref 81), none, none, none, some (.int x4), some (.int (x5 + 1))] [] (sM mo G I J) Q) :=
  (sm_blk X 264 249 (tt_lin 264 (by decide)) rfl rfl _ _ _ _).trans rfl
set_option maxRecDepth 100000 in
theorem bk_264_255 (X : (Nat → Int32) × Nat) (mo : Bool) (G : Nat × Nat) (I : Nat → Nat → Int32) (J : Nat → Nat → Int64) (Q : Option Value → sm_M → Prop) (x4 : Int32) :
    sm_wp X 264 255 [some (.ref 81), none, none, none, some (.int x4), none] [] (sM mo G I J) Q =
    (sm_wp X 264 142 [some (.ref 81), none, none, none, some (.int (x4 + 1)), none] [] (sM mo G I J) Q) :=
  (sm_blk X 264 255 (tt_lin 264 (by decide)) rfl rfl _ _ _ _).trans rfl
set_option maxRecDepth 100000 in
theorem bk_264_261 (X : (Nat → Int32) × Nat) (mo : Bool) (G : Nat × Nat) (I : Nat → Nat → Int32) (J : Nat → Nat → Int64) (Q : Option Value → sm_M → Prop) (x4 : Int32) :
    sm_wp X 264 261 [some (.ref 81), none, none, none, some (.int x4), none] [] (sM mo G I J) Q =
    (sm_wp X 266 0 [some (.ref 81), some (.int 2), some (.int 2), some (.int 5), none] [] (sM mo G I J) (fun v M => sm_wp X 264 268 [some (.ref 81), none, none, none, some (.int x4), none] (v.toList ++ []) M Q)) :=
  (sm_blk X 264 261 (tt_lin 264 (by decide)) rfl rfl _ _ _ _).trans rfl
set_option maxRecDepth 100000 in
theorem bk_264_268 (X : (Nat → Int32) × Nat) (mo : Bool) (G : Nat × Nat) (I : Nat → Nat → Int32) (J : Nat → Nat → Int64) (Q : Option Value → sm_M → Prop) (x4 : Int32) :
    sm_wp X 264 268 [some (.ref 81), none, none, none, some (.int x4), none] [] (sM mo G I J) Q =
    (True ∧ Q none (sM mo G I J)) :=
  (sm_blk X 264 268 (tt_lin 264 (by decide)) rfl rfl _ _ _ _).trans rfl
set_option maxRecDepth 100000 in
theorem bk_265_0 (X : (Nat → Int32) × Nat) (mo : Bool) (G : Nat × Nat) (I : Nat → Nat → Int32) (J : Nat → Nat → Int64) (Q : Option Value → sm_M → Prop) (x1 : Int32) :
    sm_wp X 265 0 [some (.ref 81), some (.int x1), none, none] [] (sM mo G I J) Q =
    (sm_wp X 265 2 [some (.ref 81), some (.int x1), some (.int 0), none] [] (sM mo G I J) Q) :=
  (sm_blk X 265 0 (tt_lin 265 (by decide)) rfl rfl _ _ _ _).trans rfl
set_option maxRecDepth 100000 in
theorem bk_265_2 (X : (Nat → Int32) × Nat) (mo : Bool) (G : Nat × Nat) (I : Nat → Nat → Int32) (J : Nat → Nat → Int64) (Q : Option Value → sm_M → Prop) (x1 : Int32) (x2 : Int32) :
    sm_wp X 265 2 [some (.ref 81), some (.int x1), some (.int x2), none] [] (sM mo G I J) Q =
    (if (60 : Int32) ≤ (x2 : Int32) then sm_wp X 265 30 [some (.ref 81), some (.int x1), some (.int x2), none] [] (sM mo G I J) Q else (if ¬ (x2 : Int32) = (x1 : Int32) then sm_wp X 265 22 [some (.ref 81), some (.int x1), some (.int x2), none] [.int x2, .ref 122] (sM mo G I J) Q else (sm_wp X 265 23 [some (.ref 81), some (.int x1), some (.int x2), none] [.int 1, .int x2, .ref 122] (sM mo G I J) Q))) :=
  (sm_blk X 265 2 (tt_lin 265 (by decide)) rfl rfl _ _ _ _).trans rfl
set_option maxRecDepth 100000 in
theorem bk_265_22 (X : (Nat → Int32) × Nat) (mo : Bool) (G : Nat × Nat) (I : Nat → Nat → Int32) (J : Nat → Nat → Int64) (Q : Option Value → sm_M → Prop) (x1 : Int32) (x2 : Int32) (s1 : Int32) :
    sm_wp X 265 22 [some (.ref 81), some (.int x1), some (.int x2), none] [.int s1, .ref 122] (sM mo G I J) Q =
    (vp_in s1 60 ∧ (sm_wp X 265 2 [some (.ref 81), some (.int x1), some (.int (x2 + 1)), none] [] (sM mo G (up2 I 122 s1.toNatClampNeg (vp_nar .boolean 0)) J) Q)) :=
  (sm_blk X 265 22 (tt_lin 265 (by decide)) rfl rfl _ _ _ _).trans rfl
set_option maxRecDepth 100000 in
theorem bk_265_23 (X : (Nat → Int32) × Nat) (mo : Bool) (G : Nat × Nat) (I : Nat → Nat → Int32) (J : Nat → Nat → Int64) (Q : Option Value → sm_M → Prop) (x1 : Int32) (x2 : Int32) (s1 : Int32) (s2 : Int32) :
    sm_wp X 265 23 [some (.ref 81), some (.int x1), some (.int x2), none] [.int s2, .int s1, .ref 122] (sM mo G I J) Q =
    (vp_in s1 60 ∧ (sm_wp X 265 2 [some (.ref 81), some (.int x1), some (.int (x2 + 1)), none] [] (sM mo G (up2 I 122 s1.toNatClampNeg (vp_nar .boolean s2)) J) Q)) :=
  (sm_blk X 265 23 (tt_lin 265 (by decide)) rfl rfl _ _ _ _).trans rfl
set_option maxRecDepth 100000 in
theorem bk_265_30 (X : (Nat → Int32) × Nat) (mo : Bool) (G : Nat × Nat) (I : Nat → Nat → Int32) (J : Nat → Nat → Int64) (Q : Option Value → sm_M → Prop) (x1 : Int32) (x2 : Int32) :
    sm_wp X 265 30 [some (.ref 81), some (.int x1), some (.int x2), none] [] (sM mo G I J) Q =
    (sm_wp X 265 32 [some (.ref 81), none, some (.int 1), none] [] (sM mo G I J) Q) :=
  (sm_blk X 265 30 (tt_lin 265 (by decide)) rfl rfl _ _ _ _).trans rfl
set_option maxRecDepth 100000 in
theorem bk_265_32 (X : (Nat → Int32) × Nat) (mo : Bool) (G : Nat × Nat) (I : Nat → Nat → Int32) (J : Nat → Nat → Int64) (Q : Option Value → sm_M → Prop) (x2 : Int32) :
    sm_wp X 265 32 [some (.ref 81), none, some (.int x2), none] [] (sM mo G I J) Q =
    (if (x2 : Int32) = 0 then sm_wp X 265 120 [some (.ref 81), none, some (.int x2), none] [] (sM mo G I J) Q else (sm_wp X 265 40 [some (.ref 81), none, some (.int 0), some (.int 0)] [] (sM mo G I J) Q)) :=
  (sm_blk X 265 32 (tt_lin 265 (by decide)) rfl rfl _ _ _ _).trans rfl
set_option maxRecDepth 100000 in
theorem bk_265_40 (X : (Nat → Int32) × Nat) (mo : Bool) (G : Nat × Nat) (I : Nat → Nat → Int32) (J : Nat → Nat → Int64) (Q : Option Value → sm_M → Prop) (x2 : Int32) (x3 : Int32) :
    sm_wp X 265 40 [some (.ref 81), none, some (.int x2), some (.int x3)] [] (sM mo G I J) Q =
    (if (I 81 46 : Int32) ≤ (x3 : Int32) then sm_wp X 265 117 [some (.ref 81), none, some (.int x2), some (.int x3)] [] (sM mo G I J) Q else (vp_in x3 60 ∧ (if ¬ (I 107 (x3.toNatClampNeg) : Int32) = 0 then sm_wp X 265 111 [some (.ref 81), none, some (.int x2), some (.int x3)] [] (sM mo G I J) Q else (vp_in x3 60 ∧ (if (I 114 (x3.toNatClampNeg) : Int32) = ((-1) : Int32) then sm_wp X 265 111 [some (.ref 81), none, some (.int x2), some (.int x3)] [] (sM mo G I J) Q else (vp_in x3 60 ∧ (vp_in x3 60 ∧ (vp_in (I 114 (x3.toNatClampNeg)) 60 ∧ (if ¬ (I 122 (x3.toNatClampNeg) : Int32) = (I 122 ((I 114 (x3.toNatClampNeg)).toNatClampNeg) : Int32) then sm_wp X 265 90 [some (.ref 81), none, some (.int x2), some (.int x3)] [] (sM mo G I J) Q else (sm_wp X 265 111 [some (.ref 81), none, some (.int x2), some (.int x3)] [] (sM mo G I J) Q)))))))))) :=
  (sm_blk X 265 40 (tt_lin 265 (by decide)) rfl rfl _ _ _ _).trans rfl
set_option maxRecDepth 100000 in
theorem bk_265_90 (X : (Nat → Int32) × Nat) (mo : Bool) (G : Nat × Nat) (I : Nat → Nat → Int32) (J : Nat → Nat → Int64) (Q : Option Value → sm_M → Prop) (x2 : Int32) (x3 : Int32) :
    sm_wp X 265 90 [some (.ref 81), none, some (.int x2), some (.int x3)] [] (sM mo G I J) Q =
    (vp_in x3 60 ∧ (vp_in x3 60 ∧ (vp_in ((up2 I 122 x3.toNatClampNeg (vp_nar .boolean 1)) 114 (x3.toNatClampNeg)) 60 ∧ (sm_wp X 265 40 [some (.ref 81), none, some (.int 1), some (.int (x3 + 1))] [] (sM mo G (up2 (up2 I 122 x3.toNatClampNeg (vp_nar .boolean 1)) 122 ((up2 I 122 x3.toNatClampNeg (vp_nar .boolean 1)) 114 (x3.toNatClampNeg)).toNatClampNeg (vp_nar .boolean 1)) J) Q)))) :=
  (sm_blk X 265 90 (tt_lin 265 (by decide)) rfl rfl _ _ _ _).trans rfl
set_option maxRecDepth 100000 in
theorem bk_265_111 (X : (Nat → Int32) × Nat) (mo : Bool) (G : Nat × Nat) (I : Nat → Nat → Int32) (J : Nat → Nat → Int64) (Q : Option Value → sm_M → Prop) (x2 : Int32) (x3 : Int32) :
    sm_wp X 265 111 [some (.ref 81), none, some (.int x2), some (.int x3)] [] (sM mo G I J) Q =
    (sm_wp X 265 40 [some (.ref 81), none, some (.int x2), some (.int (x3 + 1))] [] (sM mo G I J) Q) :=
  (sm_blk X 265 111 (tt_lin 265 (by decide)) rfl rfl _ _ _ _).trans rfl
set_option maxRecDepth 100000 in
theorem bk_265_117 (X : (Nat → Int32) × Nat) (mo : Bool) (G : Nat × Nat) (I : Nat → Nat → Int32) (J : Nat → Nat → Int64) (Q : Option Value → sm_M → Prop) (x2 : Int32) (x3 : Int32) :
    sm_wp X 265 117 [some (.ref 81), none, some (.int x2), some (.int x3)] [] (sM mo G I J) Q =
    (sm_wp X 265 32 [some (.ref 81), none, some (.int x2), none] [] (sM mo G I J) Q) :=
  (sm_blk X 265 117 (tt_lin 265 (by decide)) rfl rfl _ _ _ _).trans rfl
set_option maxRecDepth 100000 in
theorem bk_265_120 (X : (Nat → Int32) × Nat) (mo : Bool) (G : Nat × Nat) (I : Nat → Nat → Int32) (J : Nat → Nat → Int64) (Q : Option Value → sm_M → Prop) (x2 : Int32) :
    sm_wp X 265 120 [some (.ref 81), none, some (.int x2), none] [] (sM mo G I J) Q =
    (True ∧ Q none (sM mo G I J)) :=
  (sm_blk X 265 120 (tt_lin 265 (by decide)) rfl rfl _ _ _ _).trans rfl
set_option maxRecDepth 100000 in
theorem bk_266_0 (X : (Nat → Int32) × Nat) (mo : Bool) (G : Nat × Nat) (I : Nat → Nat → Int32) (J : Nat → Nat → Int64) (Q : Option Value → sm_M → Prop) (x1 : Int32) (x2 : Int32) (x3 : Int32) :
    sm_wp X 266 0 [some (.ref 81), some (.int x1), some (.int x2), some (.int x3), none] [] (sM mo G I J) Q =
    (sm_wp X 266 3 [some (.ref 81), some (.int x1), some (.int x2), some (.int x3), some (.int 0)] [] (sM mo G I J) Q) :=
  (sm_blk X 266 0 (tt_lin 266 (by decide)) rfl rfl _ _ _ _).trans rfl
set_option maxRecDepth 100000 in
theorem bk_266_3 (X : (Nat → Int32) × Nat) (mo : Bool) (G : Nat × Nat) (I : Nat → Nat → Int32) (J : Nat → Nat → Int64) (Q : Option Value → sm_M → Prop) (x1 : Int32) (x2 : Int32) (x3 : Int32) (x4 : Int32) :
    sm_wp X 266 3 [some (.ref 81), some (.int x1), some (.int x2), some (.int x3), some (.int x4)] [] (sM mo G I J) Q =
    (if (I 81 46 : Int32) ≤ (x4 : Int32) then sm_wp X 266 58 [some (.ref 81), some (.int x1), some (.int x2), some (.int x3), some (.int x4)] [] (sM mo G I J) Q else (vp_in x4 60 ∧ (if (I 122 (x4.toNatClampNeg) : Int32) = 0 then sm_wp X 266 52 [some (.ref 81), some (.int x1), some (.int x2), some (.int x3), some (.int x4)] [] (sM mo G I J) Q else (vp_in x4 60 ∧ (if (I 117 (x4.toNatClampNeg) : Int32) < (x1 : Int32) then sm_wp X 266 52 [some (.ref 81), some (.int x1), some (.int x2), some (.int x3), some (.int x4)] [] (sM mo G I J) Q else (vp_in x4 60 ∧ (if (x2 : Int32) < (I 117 (x4.toNatClampNeg) : Int32) then sm_wp X 266 52 [some (.ref 81), some (.int x1), some (.int x2), some (.int x3), some (.int x4)] [] (sM mo G I J) Q else (vp_in x4 60 ∧ (sm_wp X 266 3 [some (.ref 81), some (.int x1), some (.int x2), some (.int x3), some (.int (x4 + 1))] [] (sM mo G (up2 I 117 x4.toNatClampNeg x3) J) Q))))))))) :=
  (sm_blk X 266 3 (tt_lin 266 (by decide)) rfl rfl _ _ _ _).trans rfl
set_option maxRecDepth 100000 in
theorem bk_266_52 (X : (Nat → Int32) × Nat) (mo : Bool) (G : Nat × Nat) (I : Nat → Nat → Int32) (J : Nat → Nat → Int64) (Q : Option Value → sm_M → Prop) (x1 : Int32) (x2 : Int32) (x3 : Int32) (x4 : Int32) :
    sm_wp X 266 52 [some (.ref 81), some (.int x1), some (.int x2), some (.int x3), some (.int x4)] [] (sM mo G I J) Q =
    (sm_wp X 266 3 [some (.ref 81), some (.int x1), some (.int x2), some (.int x3), some (.int (x4 + 1))] [] (sM mo G I J) Q) :=
  (sm_blk X 266 52 (tt_lin 266 (by decide)) rfl rfl _ _ _ _).trans rfl
set_option maxRecDepth 100000 in
theorem bk_266_58 (X : (Nat → Int32) × Nat) (mo : Bool) (G : Nat × Nat) (I : Nat → Nat → Int32) (J : Nat → Nat → Int64) (Q : Option Value → sm_M → Prop) (x1 : Int32) (x2 : Int32) (x3 : Int32) (x4 : Int32) :
    sm_wp X 266 58 [some (.ref 81), some (.int x1), some (.int x2), some (.int x3), some (.int x4)] [] (sM mo G I J) Q =
    (True ∧ Q none (sM mo G I J)) :=
  (sm_blk X 266 58 (tt_lin 266 (by decide)) rfl rfl _ _ _ _).trans rfl
set_option maxRecDepth 100000 in
theorem bk_267_0 (X : (Nat → Int32) × Nat) (mo : Bool) (G : Nat × Nat) (I : Nat → Nat → Int32) (J : Nat → Nat → Int64) (Q : Option Value → sm_M → Prop)  :
    sm_wp X 267 0 [some (.ref 81), none, none, none] [] (sM mo G I J) Q =
    (sm_wp X 267 4 [some (.ref 81), some (.int 0), some (.int 0), none] [] (sM mo G I J) Q) :=
  (sm_blk X 267 0 (tt_lin 267 (by decide)) rfl rfl _ _ _ _).trans rfl
set_option maxRecDepth 100000 in
theorem bk_267_4 (X : (Nat → Int32) × Nat) (mo : Bool) (G : Nat × Nat) (I : Nat → Nat → Int32) (J : Nat → Nat → Int64) (Q : Option Value → sm_M → Prop) (x1 : Int32) (x2 : Int32) :
    sm_wp X 267 4 [some (.ref 81), some (.int x1), some (.int x2), none] [] (sM mo G I J) Q =
    (if (I 81 46 : Int32) ≤ (x2 : Int32) then sm_wp X 267 112 [some (.ref 81), some (.int x1), some (.int x2), none] [] (sM mo G I J) Q else (vp_in x2 60 ∧ (if (I 122 (x2.toNatClampNeg) : Int32) = 0 then sm_wp X 267 106 [some (.ref 81), some (.int x1), some (.int x2), none] [] (sM mo G I J) Q else (vp_in x2 60 ∧ (if (I 117 (x2.toNatClampNeg) : Int32) = (2 : Int32) then sm_wp X 267 34 [some (.ref 81), some (.int x1), some (.int x2), none] [] (sM mo G I J) Q else (sm_wp X 267 106 [some (.ref 81), some (.int x1), some (.int x2), none] [] (sM mo G I J) Q)))))) :=
  (sm_blk X 267 4 (tt_lin 267 (by decide)) rfl rfl _ _ _ _).trans rfl
set_option maxRecDepth 100000 in
theorem bk_267_34 (X : (Nat → Int32) × Nat) (mo : Bool) (G : Nat × Nat) (I : Nat → Nat → Int32) (J : Nat → Nat → Int64) (Q : Option Value → sm_M → Prop) (x1 : Int32) (x2 : Int32) :
    sm_wp X 267 34 [some (.ref 81), some (.int x1), some (.int x2), none] [] (sM mo G I J) Q =
    (vp_in x2 60 ∧ (vp_in x2 60 ∧ (if (x1 &&& ((I 111 (x2.toNatClampNeg)) ||| (I 112 (x2.toNatClampNeg))) : Int32) = 0 then sm_wp X 267 56 [some (.ref 81), some (.int x1), some (.int x2), some (.int ((I 111 (x2.toNatClampNeg)) ||| (I 112 (x2.toNatClampNeg))))] [] (sM mo G I J) Q else (sm_zb 0 ∧ Q (some (.int 0)) (sM mo G I J))))) :=
  (sm_blk X 267 34 (tt_lin 267 (by decide)) rfl rfl _ _ _ _).trans rfl
set_option maxRecDepth 100000 in
theorem bk_267_56 (X : (Nat → Int32) × Nat) (mo : Bool) (G : Nat × Nat) (I : Nat → Nat → Int32) (J : Nat → Nat → Int64) (Q : Option Value → sm_M → Prop) (x1 : Int32) (x2 : Int32) (x3 : Int32) :
    sm_wp X 267 56 [some (.ref 81), some (.int x1), some (.int x2), some (.int x3)] [] (sM mo G I J) Q =
    (vp_in x2 60 ∧ (vp_in x2 60 ∧ (sm_wp X 223 0 [some (.ref 81), some (.int (I 108 (x2.toNatClampNeg))), none, none] [] (sM mo G I J) (fun v M => sm_wp X 267 76 [some (.ref 81), some (.int (x1 ||| x3)), some (.int x2), some (.int x3)] (v.toList ++ [.int (I 111 (x2.toNatClampNeg))]) M Q)))) :=
  (sm_blk X 267 56 (tt_lin 267 (by decide)) rfl rfl _ _ _ _).trans rfl
set_option maxRecDepth 100000 in
theorem bk_267_76 (X : (Nat → Int32) × Nat) (mo : Bool) (G : Nat × Nat) (I : Nat → Nat → Int32) (J : Nat → Nat → Int64) (Q : Option Value → sm_M → Prop) (x1 : Int32) (x2 : Int32) (x3 : Int32) (s0 : Int32) (s1 : Int32) :
    sm_wp X 267 76 [some (.ref 81), some (.int x1), some (.int x2), some (.int x3)] [.int s1, .int s0] (sM mo G I J) Q =
    (if ¬ (s0 &&& (s1 ^^^ (-1)) : Int32) = 0 then sm_wp X 267 104 [some (.ref 81), some (.int x1), some (.int x2), some (.int x3)] [] (sM mo G I J) Q else (vp_in x2 60 ∧ (vp_in x2 60 ∧ (sm_wp X 223 0 [some (.ref 81), some (.int (I 109 (x2.toNatClampNeg))), none, none] [] (sM mo G I J) (fun v M => sm_wp X 267 98 [some (.ref 81), some (.int x1), some (.int x2), some (.int x3)] (v.toList ++ [.int (I 112 (x2.toNatClampNeg))]) M Q))))) :=
  (sm_blk X 267 76 (tt_lin 267 (by decide)) rfl rfl _ _ _ _).trans rfl
set_option maxRecDepth 100000 in
theorem bk_267_98 (X : (Nat → Int32) × Nat) (mo : Bool) (G : Nat × Nat) (I : Nat → Nat → Int32) (J : Nat → Nat → Int64) (Q : Option Value → sm_M → Prop) (x1 : Int32) (x2 : Int32) (x3 : Int32) (s0 : Int32) (s1 : Int32) :
    sm_wp X 267 98 [some (.ref 81), some (.int x1), some (.int x2), some (.int x3)] [.int s1, .int s0] (sM mo G I J) Q =
    (if (s0 &&& (s1 ^^^ (-1)) : Int32) = 0 then sm_wp X 267 106 [some (.ref 81), some (.int x1), some (.int x2), some (.int x3)] [] (sM mo G I J) Q else (sm_zb 0 ∧ Q (some (.int 0)) (sM mo G I J))) :=
  (sm_blk X 267 98 (tt_lin 267 (by decide)) rfl rfl _ _ _ _).trans rfl
set_option maxRecDepth 100000 in
theorem bk_267_104 (X : (Nat → Int32) × Nat) (mo : Bool) (G : Nat × Nat) (I : Nat → Nat → Int32) (J : Nat → Nat → Int64) (Q : Option Value → sm_M → Prop) (x1 : Int32) (x2 : Int32) (x3 : Int32) :
    sm_wp X 267 104 [some (.ref 81), some (.int x1), some (.int x2), some (.int x3)] [] (sM mo G I J) Q =
    (sm_zb 0 ∧ Q (some (.int 0)) (sM mo G I J)) :=
  (sm_blk X 267 104 (tt_lin 267 (by decide)) rfl rfl _ _ _ _).trans rfl
set_option maxRecDepth 100000 in
theorem bk_267_106 (X : (Nat → Int32) × Nat) (mo : Bool) (G : Nat × Nat) (I : Nat → Nat → Int32) (J : Nat → Nat → Int64) (Q : Option Value → sm_M → Prop) (x1 : Int32) (x2 : Int32) :
    sm_wp X 267 106 [some (.ref 81), some (.int x1), some (.int x2), none] [] (sM mo G I J) Q =
    (sm_wp X 267 4 [some (.ref 81), some (.int x1), some (.int (x2 + 1)), none] [] (sM mo G I J) Q) :=
  (sm_blk X 267 106 (tt_lin 267 (by decide)) rfl rfl _ _ _ _).trans rfl
set_option maxRecDepth 100000 in
theorem bk_267_112 (X : (Nat → Int32) × Nat) (mo : Bool) (G : Nat × Nat) (I : Nat → Nat → Int32) (J : Nat → Nat → Int64) (Q : Option Value → sm_M → Prop) (x1 : Int32) (x2 : Int32) :
    sm_wp X 267 112 [some (.ref 81), some (.int x1), some (.int x2), none] [] (sM mo G I J) Q =
    (sm_zb 1 ∧ Q (some (.int 1)) (sM mo G I J)) :=
  (sm_blk X 267 112 (tt_lin 267 (by decide)) rfl rfl _ _ _ _).trans rfl
set_option maxRecDepth 100000 in
theorem bk_268_0 (X : (Nat → Int32) × Nat) (mo : Bool) (G : Nat × Nat) (I : Nat → Nat → Int32) (J : Nat → Nat → Int64) (Q : Option Value → sm_M → Prop) (x1 : Int32) (x2 : Int32) :
    sm_wp X 268 0 [some (.ref 81), some (.int x1), some (.int x2)] [] (sM mo G I J) Q =
    (if (x1 : Int32) < 0 then sm_wp X 268 27 [some (.ref 81), some (.int x1), some (.int x2)] [] (sM mo G (up2 I 81 2 0) J) Q else (if ((up2 I 81 2 0) 81 46 : Int32) ≤ (x1 : Int32) then sm_wp X 268 27 [some (.ref 81), some (.int x1), some (.int x2)] [] (sM mo G (up2 I 81 2 0) J) Q else (sm_wp X 210 0 [some (.int x2), some (.int 0), some (.int 6)] [] (sM mo G (up2 I 81 2 0) J) (fun v M => sm_wp X 268 24 [some (.ref 81), some (.int x1), some (.int x2)] (v.toList ++ []) M Q)))) :=
  (sm_blk X 268 0 (tt_lin 268 (by decide)) rfl rfl _ _ _ _).trans rfl
set_option maxRecDepth 100000 in
theorem bk_268_24 (X : (Nat → Int32) × Nat) (mo : Bool) (G : Nat × Nat) (I : Nat → Nat → Int32) (J : Nat → Nat → Int64) (Q : Option Value → sm_M → Prop) (x1 : Int32) (x2 : Int32) (s0 : Int32) :
    sm_wp X 268 24 [some (.ref 81), some (.int x1), some (.int x2)] [.int s0] (sM mo G I J) Q =
    (if ¬ (s0 : Int32) = 0 then sm_wp X 268 30 [some (.ref 81), some (.int x1), some (.int x2)] [] (sM mo G I J) Q else (True ∧ Q (some (.int (-2))) (sM mo G I J))) :=
  (sm_blk X 268 24 (tt_lin 268 (by decide)) rfl rfl _ _ _ _).trans rfl
set_option maxRecDepth 100000 in
theorem bk_268_27 (X : (Nat → Int32) × Nat) (mo : Bool) (G : Nat × Nat) (I : Nat → Nat → Int32) (J : Nat → Nat → Int64) (Q : Option Value → sm_M → Prop) (x1 : Int32) (x2 : Int32) :
    sm_wp X 268 27 [some (.ref 81), some (.int x1), some (.int x2)] [] (sM mo G I J) Q =
    (True ∧ Q (some (.int (-2))) (sM mo G I J)) :=
  (sm_blk X 268 27 (tt_lin 268 (by decide)) rfl rfl _ _ _ _).trans rfl
set_option maxRecDepth 100000 in
theorem bk_268_30 (X : (Nat → Int32) × Nat) (mo : Bool) (G : Nat × Nat) (I : Nat → Nat → Int32) (J : Nat → Nat → Int64) (Q : Option Value → sm_M → Prop) (x1 : Int32) (x2 : Int32) :
    sm_wp X 268 30 [some (.ref 81), some (.int x1), some (.int x2)] [] (sM mo G I J) Q =
    (if (x2 : Int32) = 0 then sm_wp X 268 68 [some (.ref 81), some (.int x1), some (.int x2)] [] (sM mo G I J) Q else if (x2 : Int32) = 1 then sm_wp X 268 83 [some (.ref 81), some (.int x1), some (.int x2)] [] (sM mo G I J) Q else if (x2 : Int32) = 2 then sm_wp X 268 90 [some (.ref 81), some (.int x1), some (.int x2)] [] (sM mo G I J) Q else if (x2 : Int32) = 3 then sm_wp X 268 97 [some (.ref 81), some (.int x1), some (.int x2)] [] (sM mo G I J) Q else if (x2 : Int32) = 4 then sm_wp X 268 104 [some (.ref 81), some (.int x1), some (.int x2)] [] (sM mo G I J) Q else if (x2 : Int32) = 5 then sm_wp X 268 111 [some (.ref 81), some (.int x1), some (.int x2)] [] (sM mo G I J) Q else sm_wp X 268 118 [some (.ref 81), some (.int x1), some (.int x2)] [] (sM mo G I J) Q) :=
  (sm_blk X 268 30 (tt_lin 268 (by decide)) rfl rfl _ _ _ _).trans rfl
set_option maxRecDepth 100000 in
theorem bk_268_68 (X : (Nat → Int32) × Nat) (mo : Bool) (G : Nat × Nat) (I : Nat → Nat → Int32) (J : Nat → Nat → Int64) (Q : Option Value → sm_M → Prop) (x1 : Int32) (x2 : Int32) :
    sm_wp X 268 68 [some (.ref 81), some (.int x1), some (.int x2)] [] (sM mo G I J) Q =
    (vp_in x1 60 ∧ (if (I 107 (x1.toNatClampNeg) : Int32) = 0 then sm_wp X 268 81 [some (.ref 81), some (.int x1), some (.int x2)] [] (sM mo G I J) Q else (sm_wp X 268 82 [some (.ref 81), some (.int x1), some (.int x2)] [.int 1] (sM mo G I J) Q))) :=
  (sm_blk X 268 68 (tt_lin 268 (by decide)) rfl rfl _ _ _ _).trans rfl
set_option maxRecDepth 100000 in
theorem bk_268_81 (X : (Nat → Int32) × Nat) (mo : Bool) (G : Nat × Nat) (I : Nat → Nat → Int32) (J : Nat → Nat → Int64) (Q : Option Value → sm_M → Prop) (x1 : Int32) (x2 : Int32) :
    sm_wp X 268 81 [some (.ref 81), some (.int x1), some (.int x2)] [] (sM mo G I J) Q =
    (True ∧ Q (some (.int 0)) (sM mo G I J)) :=
  (sm_blk X 268 81 (tt_lin 268 (by decide)) rfl rfl _ _ _ _).trans rfl
set_option maxRecDepth 100000 in
theorem bk_268_82 (X : (Nat → Int32) × Nat) (mo : Bool) (G : Nat × Nat) (I : Nat → Nat → Int32) (J : Nat → Nat → Int64) (Q : Option Value → sm_M → Prop) (x1 : Int32) (x2 : Int32) (s0 : Int32) :
    sm_wp X 268 82 [some (.ref 81), some (.int x1), some (.int x2)] [.int s0] (sM mo G I J) Q =
    (True ∧ Q (some (.int s0)) (sM mo G I J)) :=
  (sm_blk X 268 82 (tt_lin 268 (by decide)) rfl rfl _ _ _ _).trans rfl
set_option maxRecDepth 100000 in
theorem bk_268_83 (X : (Nat → Int32) × Nat) (mo : Bool) (G : Nat × Nat) (I : Nat → Nat → Int32) (J : Nat → Nat → Int64) (Q : Option Value → sm_M → Prop) (x1 : Int32) (x2 : Int32) :
    sm_wp X 268 83 [some (.ref 81), some (.int x1), some (.int x2)] [] (sM mo G I J) Q =
    (vp_in x1 60 ∧ (True ∧ Q (some (.int (I 110 (x1.toNatClampNeg)))) (sM mo G I J))) :=
  (sm_blk X 268 83 (tt_lin 268 (by decide)) rfl rfl _ _ _ _).trans rfl
set_option maxRecDepth 100000 in
theorem bk_268_90 (X : (Nat → Int32) × Nat) (mo : Bool) (G : Nat × Nat) (I : Nat → Nat → Int32) (J : Nat → Nat → Int64) (Q : Option Value → sm_M → Prop) (x1 : Int32) (x2 : Int32) :
    sm_wp X 268 90 [some (.ref 81), some (.int x1), some (.int x2)] [] (sM mo G I J) Q =
    (vp_in x1 60 ∧ (True ∧ Q (some (.int (I 117 (x1.toNatClampNeg)))) (sM mo G I J))) :=
  (sm_blk X 268 90 (tt_lin 268 (by decide)) rfl rfl _ _ _ _).trans rfl
set_option maxRecDepth 100000 in
theorem bk_268_97 (X : (Nat → Int32) × Nat) (mo : Bool) (G : Nat × Nat) (I : Nat → Nat → Int32) (J : Nat → Nat → Int64) (Q : Option Value → sm_M → Prop) (x1 : Int32) (x2 : Int32) :
    sm_wp X 268 97 [some (.ref 81), some (.int x1), some (.int x2)] [] (sM mo G I J) Q =
    (vp_in x1 60 ∧ (True ∧ Q (some (.int (I 118 (x1.toNatClampNeg)))) (sM mo G I J))) :=
  (sm_blk X 268 97 (tt_lin 268 (by decide)) rfl rfl _ _ _ _).trans rfl
set_option maxRecDepth 100000 in
theorem bk_268_104 (X : (Nat → Int32) × Nat) (mo : Bool) (G : Nat × Nat) (I : Nat → Nat → Int32) (J : Nat → Nat → Int64) (Q : Option Value → sm_M → Prop) (x1 : Int32) (x2 : Int32) :
    sm_wp X 268 104 [some (.ref 81), some (.int x1), some (.int x2)] [] (sM mo G I J) Q =
    (vp_in x1 60 ∧ (True ∧ Q (some (.int (I 108 (x1.toNatClampNeg)))) (sM mo G I J))) :=
  (sm_blk X 268 104 (tt_lin 268 (by decide)) rfl rfl _ _ _ _).trans rfl
set_option maxRecDepth 100000 in
theorem bk_268_111 (X : (Nat → Int32) × Nat) (mo : Bool) (G : Nat × Nat) (I : Nat → Nat → Int32) (J : Nat → Nat → Int64) (Q : Option Value → sm_M → Prop) (x1 : Int32) (x2 : Int32) :
    sm_wp X 268 111 [some (.ref 81), some (.int x1), some (.int x2)] [] (sM mo G I J) Q =
    (vp_in x1 60 ∧ (True ∧ Q (some (.int (I 109 (x1.toNatClampNeg)))) (sM mo G I J))) :=
  (sm_blk X 268 111 (tt_lin 268 (by decide)) rfl rfl _ _ _ _).trans rfl
set_option maxRecDepth 100000 in
theorem bk_268_118 (X : (Nat → Int32) × Nat) (mo : Bool) (G : Nat × Nat) (I : Nat → Nat → Int32) (J : Nat → Nat → Int64) (Q : Option Value → sm_M → Prop) (x1 : Int32) (x2 : Int32) :
    sm_wp X 268 118 [some (.ref 81), some (.int x1), some (.int x2)] [] (sM mo G I J) Q =
    (vp_in x1 60 ∧ (True ∧ Q (some (.int (I 119 (x1.toNatClampNeg)))) (sM mo G I J))) :=
  (sm_blk X 268 118 (tt_lin 268 (by decide)) rfl rfl _ _ _ _).trans rfl
set_option maxRecDepth 100000 in
theorem bk_269_0 (X : (Nat → Int32) × Nat) (mo : Bool) (G : Nat × Nat) (I : Nat → Nat → Int32) (J : Nat → Nat → Int64) (Q : Option Value → sm_M → Prop) (x1 : Int32) :
    sm_wp X 269 0 [some (.ref 81), some (.int x1)] [] (sM mo G I J) Q =
    (sm_wp X 248 0 [some (.ref 81), some (.int x1)] [] (sM mo G (up2 I 81 2 0) J) (fun v M => sm_wp X 269 10 [some (.ref 81), some (.int x1)] (v.toList ++ []) M Q)) :=
  (sm_blk X 269 0 (tt_lin 269 (by decide)) rfl rfl _ _ _ _).trans rfl
set_option maxRecDepth 100000 in
theorem bk_269_10 (X : (Nat → Int32) × Nat) (mo : Bool) (G : Nat × Nat) (I : Nat → Nat → Int32) (J : Nat → Nat → Int64) (Q : Option Value → sm_M → Prop) (x1 : Int32) (s0 : Int32) :
    sm_wp X 269 10 [some (.ref 81), some (.int x1)] [.int s0] (sM mo G I J) Q =
    (if (s0 : Int32) = 0 then sm_wp X 269 22 [some (.ref 81), some (.int x1)] [] (sM mo G I J) Q else (sm_wp X 254 0 [some (.ref 81), some (.int x1), some (.int 0), none, none] [] (sM mo G I J) (fun v M => sm_wp X 269 19 [some (.ref 81), some (.int x1)] (v.toList ++ []) M Q))) :=
  (sm_blk X 269 10 (tt_lin 269 (by decide)) rfl rfl _ _ _ _).trans rfl
set_option maxRecDepth 100000 in
theorem bk_269_19 (X : (Nat → Int32) × Nat) (mo : Bool) (G : Nat × Nat) (I : Nat → Nat → Int32) (J : Nat → Nat → Int64) (Q : Option Value → sm_M → Prop) (x1 : Int32) (s0 : Int32) :
    sm_wp X 269 19 [some (.ref 81), some (.int x1)] [.int s0] (sM mo G I J) Q =
    (sm_wp X 269 23 [some (.ref 81), some (.int x1)] [.int s0] (sM mo G I J) Q) :=
  (sm_blk X 269 19 (tt_lin 269 (by decide)) rfl rfl _ _ _ _).trans rfl
set_option maxRecDepth 100000 in
theorem bk_269_22 (X : (Nat → Int32) × Nat) (mo : Bool) (G : Nat × Nat) (I : Nat → Nat → Int32) (J : Nat → Nat → Int64) (Q : Option Value → sm_M → Prop) (x1 : Int32) :
    sm_wp X 269 22 [some (.ref 81), some (.int x1)] [] (sM mo G I J) Q =
    (True ∧ Q (some (.int (-1))) (sM mo G I J)) :=
  (sm_blk X 269 22 (tt_lin 269 (by decide)) rfl rfl _ _ _ _).trans rfl
set_option maxRecDepth 100000 in
theorem bk_269_23 (X : (Nat → Int32) × Nat) (mo : Bool) (G : Nat × Nat) (I : Nat → Nat → Int32) (J : Nat → Nat → Int64) (Q : Option Value → sm_M → Prop) (x1 : Int32) (s0 : Int32) :
    sm_wp X 269 23 [some (.ref 81), some (.int x1)] [.int s0] (sM mo G I J) Q =
    (True ∧ Q (some (.int s0)) (sM mo G I J)) :=
  (sm_blk X 269 23 (tt_lin 269 (by decide)) rfl rfl _ _ _ _).trans rfl
set_option maxRecDepth 100000 in
theorem bk_270_0 (X : (Nat → Int32) × Nat) (mo : Bool) (G : Nat × Nat) (I : Nat → Nat → Int32) (J : Nat → Nat → Int64) (Q : Option Value → sm_M → Prop) (x1 : Int32) (x2 : Int32) :
    sm_wp X 270 0 [some (.ref 81), some (.int x1), some (.int x2)] [] (sM mo G I J) Q =
    (sm_wp X 248 0 [some (.ref 81), some (.int x1)] [] (sM mo G (up2 I 81 2 0) J) (fun v M => sm_wp X 270 10 [some (.ref 81), some (.int x1), some (.int x2)] (v.toList ++ []) M Q)) :=
  (sm_blk X 270 0 (tt_lin 270 (by decide)) rfl rfl _ _ _ _).trans rfl
set_option maxRecDepth 100000 in
theorem bk_270_10 (X : (Nat → Int32) × Nat) (mo : Bool) (G : Nat × Nat) (I : Nat → Nat → Int32) (J : Nat → Nat → Int64) (Q : Option Value → sm_M → Prop) (x1 : Int32) (x2 : Int32) (s0 : Int32) :
    sm_wp X 270 10 [some (.ref 81), some (.int x1), some (.int x2)] [.int s0] (sM mo G I J) Q =
    (if (s0 : Int32) = 0 then sm_wp X 270 41 [some (.ref 81), some (.int x1), some (.int x2)] [] (sM mo G I J) Q else (if (x2 : Int32) < 0 then sm_wp X 270 41 [some (.ref 81), some (.int x1), some (.int x2)] [] (sM mo G I J) Q else (vp_in x1 60 ∧ (vp_in (I 109 (x1.toNatClampNeg)) 7 ∧ (if (I 102 ((I 109 (x1.toNatClampNeg)).toNatClampNeg) : Int32) ≤ (x2 : Int32) then sm_wp X 270 41 [some (.ref 81), some (.int x1), some (.int x2)] [] (sM mo G I J) Q else (sm_wp X 256 0 [some (.ref 81), some (.int x1), some (.int x2), none, none, none, none, none, none, none] [] (sM mo G I J) (fun v M => sm_wp X 270 38 [some (.ref 81), some (.int x1), some (.int x2)] (v.toList ++ []) M Q))))))) :=
  (sm_blk X 270 10 (tt_lin 270 (by decide)) rfl rfl _ _ _ _).trans rfl
set_option maxRecDepth 100000 in
theorem bk_270_38 (X : (Nat → Int32) × Nat) (mo : Bool) (G : Nat × Nat) (I : Nat → Nat → Int32) (J : Nat → Nat → Int64) (Q : Option Value → sm_M → Prop) (x1 : Int32) (x2 : Int32) (s0 : Int64) :
    sm_wp X 270 38 [some (.ref 81), some (.int x1), some (.int x2)] [.long s0] (sM mo G I J) Q =
    (sm_wp X 270 44 [some (.ref 81), some (.int x1), some (.int x2)] [.long s0] (sM mo G I J) Q) :=
  (sm_blk X 270 38 (tt_lin 270 (by decide)) rfl rfl _ _ _ _).trans rfl
set_option maxRecDepth 100000 in
theorem bk_270_41 (X : (Nat → Int32) × Nat) (mo : Bool) (G : Nat × Nat) (I : Nat → Nat → Int32) (J : Nat → Nat → Int64) (Q : Option Value → sm_M → Prop) (x1 : Int32) (x2 : Int32) :
    sm_wp X 270 41 [some (.ref 81), some (.int x1), some (.int x2)] [] (sM mo G I J) Q =
    (True ∧ Q (some (.long (-9223372036854775808))) (sM mo G I J)) :=
  (sm_blk X 270 41 (tt_lin 270 (by decide)) rfl rfl _ _ _ _).trans rfl
set_option maxRecDepth 100000 in
theorem bk_270_44 (X : (Nat → Int32) × Nat) (mo : Bool) (G : Nat × Nat) (I : Nat → Nat → Int32) (J : Nat → Nat → Int64) (Q : Option Value → sm_M → Prop) (x1 : Int32) (x2 : Int32) (s0 : Int64) :
    sm_wp X 270 44 [some (.ref 81), some (.int x1), some (.int x2)] [.long s0] (sM mo G I J) Q =
    (True ∧ Q (some (.long s0)) (sM mo G I J)) :=
  (sm_blk X 270 44 (tt_lin 270 (by decide)) rfl rfl _ _ _ _).trans rfl
set_option maxRecDepth 100000 in
theorem bk_271_0 (X : (Nat → Int32) × Nat) (mo : Bool) (G : Nat × Nat) (I : Nat → Nat → Int32) (J : Nat → Nat → Int64) (Q : Option Value → sm_M → Prop) (x1 : Int32) (x2 : Int32) :
    sm_wp X 271 0 [some (.ref 81), some (.int x1), some (.int x2), none] [] (sM mo G I J) Q =
    (if (x1 : Int32) < 0 then sm_wp X 271 25 [some (.ref 81), some (.int x1), some (.int x2), none] [] (sM mo G (up2 I 81 2 0) J) Q else (if ((up2 I 81 2 0) 81 46 : Int32) ≤ (x1 : Int32) then sm_wp X 271 25 [some (.ref 81), some (.int x1), some (.int x2), none] [] (sM mo G (up2 I 81 2 0) J) Q else (sm_wp X 216 0 [some (.ref 81), some (.int x2)] [] (sM mo G (up2 I 81 2 0) J) (fun v M => sm_wp X 271 22 [some (.ref 81), some (.int x1), some (.int x2), none] (v.toList ++ []) M Q)))) :=
  (sm_blk X 271 0 (tt_lin 271 (by decide)) rfl rfl _ _ _ _).trans rfl
set_option maxRecDepth 100000 in
theorem bk_271_22 (X : (Nat → Int32) × Nat) (mo : Bool) (G : Nat × Nat) (I : Nat → Nat → Int32) (J : Nat → Nat → Int64) (Q : Option Value → sm_M → Prop) (x1 : Int32) (x2 : Int32) (s0 : Int32) :
    sm_wp X 271 22 [some (.ref 81), some (.int x1), some (.int x2), none] [.int s0] (sM mo G I J) Q =
    (if ¬ (s0 : Int32) = 0 then sm_wp X 271 27 [some (.ref 81), some (.int x1), some (.int x2), none] [] (sM mo G I J) Q else (True ∧ Q (some (.int (-1))) (sM mo G I J))) :=
  (sm_blk X 271 22 (tt_lin 271 (by decide)) rfl rfl _ _ _ _).trans rfl
set_option maxRecDepth 100000 in
theorem bk_271_25 (X : (Nat → Int32) × Nat) (mo : Bool) (G : Nat × Nat) (I : Nat → Nat → Int32) (J : Nat → Nat → Int64) (Q : Option Value → sm_M → Prop) (x1 : Int32) (x2 : Int32) :
    sm_wp X 271 25 [some (.ref 81), some (.int x1), some (.int x2), none] [] (sM mo G I J) Q =
    (True ∧ Q (some (.int (-1))) (sM mo G I J)) :=
  (sm_blk X 271 25 (tt_lin 271 (by decide)) rfl rfl _ _ _ _).trans rfl
set_option maxRecDepth 100000 in
theorem bk_271_27 (X : (Nat → Int32) × Nat) (mo : Bool) (G : Nat × Nat) (I : Nat → Nat → Int32) (J : Nat → Nat → Int64) (Q : Option Value → sm_M → Prop) (x1 : Int32) (x2 : Int32) :
    sm_wp X 271 27 [some (.ref 81), some (.int x1), some (.int x2), none] [] (sM mo G I J) Q =
    (sm_wp X 272 0 [some (.ref 81), some (.int x1), some (.int x2)] [] (sM mo G I J) (fun v M => sm_wp X 271 33 [some (.ref 81), some (.int x1), some (.int x2), none] (v.toList ++ []) M Q)) :=
  (sm_blk X 271 27 (tt_lin 271 (by decide)) rfl rfl _ _ _ _).trans rfl
set_option maxRecDepth 100000 in
theorem bk_271_33 (X : (Nat → Int32) × Nat) (mo : Bool) (G : Nat × Nat) (I : Nat → Nat → Int32) (J : Nat → Nat → Int64) (Q : Option Value → sm_M → Prop) (x1 : Int32) (x2 : Int32) (s0 : Int32) :
    sm_wp X 271 33 [some (.ref 81), some (.int x1), some (.int x2), none] [.int s0] (sM mo G I J) Q =
    (if (s0 : Int32) ≤ (I 81 16 : Int32) then sm_wp X 271 46 [some (.ref 81), some (.int x1), some (.int x2), some (.int s0)] [] (sM mo G I J) Q else (sm_wp X 271 47 [some (.ref 81), some (.int x1), some (.int x2), some (.int s0)] [.int (-1)] (sM mo G I J) Q)) :=
  (sm_blk X 271 33 (tt_lin 271 (by decide)) rfl rfl _ _ _ _).trans rfl
set_option maxRecDepth 100000 in
theorem bk_271_46 (X : (Nat → Int32) × Nat) (mo : Bool) (G : Nat × Nat) (I : Nat → Nat → Int32) (J : Nat → Nat → Int64) (Q : Option Value → sm_M → Prop) (x1 : Int32) (x2 : Int32) (x3 : Int32) :
    sm_wp X 271 46 [some (.ref 81), some (.int x1), some (.int x2), some (.int x3)] [] (sM mo G I J) Q =
    (True ∧ Q (some (.int x3)) (sM mo G I J)) :=
  (sm_blk X 271 46 (tt_lin 271 (by decide)) rfl rfl _ _ _ _).trans rfl
set_option maxRecDepth 100000 in
theorem bk_271_47 (X : (Nat → Int32) × Nat) (mo : Bool) (G : Nat × Nat) (I : Nat → Nat → Int32) (J : Nat → Nat → Int64) (Q : Option Value → sm_M → Prop) (x1 : Int32) (x2 : Int32) (x3 : Int32) (s0 : Int32) :
    sm_wp X 271 47 [some (.ref 81), some (.int x1), some (.int x2), some (.int x3)] [.int s0] (sM mo G I J) Q =
    (True ∧ Q (some (.int s0)) (sM mo G I J)) :=
  (sm_blk X 271 47 (tt_lin 271 (by decide)) rfl rfl _ _ _ _).trans rfl
set_option maxRecDepth 100000 in
theorem bk_272_0 (X : (Nat → Int32) × Nat) (mo : Bool) (G : Nat × Nat) (I : Nat → Nat → Int32) (J : Nat → Nat → Int64) (Q : Option Value → sm_M → Prop) (x1 : Int32) (x2 : Int32) :
    sm_wp X 272 0 [some (.ref 81), some (.int x1), some (.int x2)] [] (sM mo G I J) Q =
    (vp_in x1 60 ∧ (if (I 108 (x1.toNatClampNeg) : Int32) = (x2 : Int32) then sm_wp X 272 20 [some (.ref 81), some (.int x1), some (.int x2)] [] (sM mo G I J) Q else (vp_in x1 60 ∧ (if ¬ (I 109 (x1.toNatClampNeg) : Int32) = (x2 : Int32) then sm_wp X 272 27 [some (.ref 81), some (.int x1), some (.int x2)] [] (sM mo G I J) Q else (vp_in x1 60 ∧ (True ∧ Q (some (.int (I 110 (x1.toNatClampNeg)))) (sM mo G I J))))))) :=
  (sm_blk X 272 0 (tt_lin 272 (by decide)) rfl rfl _ _ _ _).trans rfl
set_option maxRecDepth 100000 in
theorem bk_272_20 (X : (Nat → Int32) × Nat) (mo : Bool) (G : Nat × Nat) (I : Nat → Nat → Int32) (J : Nat → Nat → Int64) (Q : Option Value → sm_M → Prop) (x1 : Int32) (x2 : Int32) :
    sm_wp X 272 20 [some (.ref 81), some (.int x1), some (.int x2)] [] (sM mo G I J) Q =
    (vp_in x1 60 ∧ (True ∧ Q (some (.int (I 110 (x1.toNatClampNeg)))) (sM mo G I J))) :=
  (sm_blk X 272 20 (tt_lin 272 (by decide)) rfl rfl _ _ _ _).trans rfl
set_option maxRecDepth 100000 in
theorem bk_272_27 (X : (Nat → Int32) × Nat) (mo : Bool) (G : Nat × Nat) (I : Nat → Nat → Int32) (J : Nat → Nat → Int64) (Q : Option Value → sm_M → Prop) (x1 : Int32) (x2 : Int32) :
    sm_wp X 272 27 [some (.ref 81), some (.int x1), some (.int x2)] [] (sM mo G I J) Q =
    (vp_in x1 60 ∧ (if (I 107 (x1.toNatClampNeg) : Int32) = 0 then sm_wp X 272 61 [some (.ref 81), some (.int x1), some (.int x2)] [] (sM mo G I J) Q else (vp_in x1 60 ∧ (if ¬ (((I 116 (x1.toNatClampNeg)) >>> (x2 &&& 31)) &&& 1 : Int32) = (1 : Int32) then sm_wp X 272 61 [some (.ref 81), some (.int x1), some (.int x2)] [] (sM mo G I J) Q else (vp_in x1 60 ∧ (sm_wp X 272 62 [some (.ref 81), some (.int x1), some (.int x2)] [.int ((I 110 (x1.toNatClampNeg)) + 1)] (sM mo G I J) Q)))))) :=
  (sm_blk X 272 27 (tt_lin 272 (by decide)) rfl rfl _ _ _ _).trans rfl
set_option maxRecDepth 100000 in
theorem bk_272_61 (X : (Nat → Int32) × Nat) (mo : Bool) (G : Nat × Nat) (I : Nat → Nat → Int32) (J : Nat → Nat → Int64) (Q : Option Value → sm_M → Prop) (x1 : Int32) (x2 : Int32) :
    sm_wp X 272 61 [some (.ref 81), some (.int x1), some (.int x2)] [] (sM mo G I J) Q =
    (True ∧ Q (some (.int (-1))) (sM mo G I J)) :=
  (sm_blk X 272 61 (tt_lin 272 (by decide)) rfl rfl _ _ _ _).trans rfl
set_option maxRecDepth 100000 in
theorem bk_272_62 (X : (Nat → Int32) × Nat) (mo : Bool) (G : Nat × Nat) (I : Nat → Nat → Int32) (J : Nat → Nat → Int64) (Q : Option Value → sm_M → Prop) (x1 : Int32) (x2 : Int32) (s0 : Int32) :
    sm_wp X 272 62 [some (.ref 81), some (.int x1), some (.int x2)] [.int s0] (sM mo G I J) Q =
    (True ∧ Q (some (.int s0)) (sM mo G I J)) :=
  (sm_blk X 272 62 (tt_lin 272 (by decide)) rfl rfl _ _ _ _).trans rfl
set_option maxRecDepth 100000 in
theorem bk_273_0 (X : (Nat → Int32) × Nat) (mo : Bool) (G : Nat × Nat) (I : Nat → Nat → Int32) (J : Nat → Nat → Int64) (Q : Option Value → sm_M → Prop) (x1 : Int32) (x2 : Int32) (x3 : Int32) :
    sm_wp X 273 0 [some (.ref 81), some (.int x1), some (.int x2), some (.int x3), none, none, none] [] (sM mo G I J) Q =
    (sm_wp X 216 0 [some (.ref 81), some (.int x1)] [] (sM mo G (up2 I 81 2 0) J) (fun v M => sm_wp X 273 10 [some (.ref 81), some (.int x1), some (.int x2), some (.int x3), none, none, none] (v.toList ++ []) M Q)) :=
  (sm_blk X 273 0 (tt_lin 273 (by decide)) rfl rfl _ _ _ _).trans rfl
set_option maxRecDepth 100000 in
theorem bk_273_10 (X : (Nat → Int32) × Nat) (mo : Bool) (G : Nat × Nat) (I : Nat → Nat → Int32) (J : Nat → Nat → Int64) (Q : Option Value → sm_M → Prop) (x1 : Int32) (x2 : Int32) (x3 : Int32) (s0 : Int32) :
    sm_wp X 273 10 [some (.ref 81), some (.int x1), some (.int x2), some (.int x3), none, none, none] [.int s0] (sM mo G I J) Q =
    (if (s0 : Int32) = 0 then sm_wp X 273 35 [some (.ref 81), some (.int x1), some (.int x2), some (.int x3), none, none, none] [] (sM mo G I J) Q else (sm_wp X 210 0 [some (.int x2), some (.int 0), some (.int (I 81 16))] [] (sM mo G I J) (fun v M => sm_wp X 273 22 [some (.ref 81), some (.int x1), some (.int x2), some (.int x3), none, none, none] (v.toList ++ []) M Q))) :=
  (sm_blk X 273 10 (tt_lin 273 (by decide)) rfl rfl _ _ _ _).trans rfl
set_option maxRecDepth 100000 in
theorem bk_273_22 (X : (Nat → Int32) × Nat) (mo : Bool) (G : Nat × Nat) (I : Nat → Nat → Int32) (J : Nat → Nat → Int64) (Q : Option Value → sm_M → Prop) (x1 : Int32) (x2 : Int32) (x3 : Int32) (s0 : Int32) :
    sm_wp X 273 22 [some (.ref 81), some (.int x1), some (.int x2), some (.int x3), none, none, none] [.int s0] (sM mo G I J) Q =
    (if (s0 : Int32) = 0 then sm_wp X 273 35 [some (.ref 81), some (.int x1), some (.int x2), some (.int x3), none, none, none] [] (sM mo G I J) Q else (sm_wp X 210 0 [some (.int x3), some (.int 1), some (.int 99)] [] (sM mo G I J) (fun v M => sm_wp X 273 32 [some (.ref 81), some (.int x1), some (.int x2), some (.int x3), none, none, none] (v.toList ++ []) M Q))) :=
  (sm_blk X 273 22 (tt_lin 273 (by decide)) rfl rfl _ _ _ _).trans rfl
set_option maxRecDepth 100000 in
theorem bk_273_32 (X : (Nat → Int32) × Nat) (mo : Bool) (G : Nat × Nat) (I : Nat → Nat → Int32) (J : Nat → Nat → Int64) (Q : Option Value → sm_M → Prop) (x1 : Int32) (x2 : Int32) (x3 : Int32) (s0 : Int32) :
    sm_wp X 273 32 [some (.ref 81), some (.int x1), some (.int x2), some (.int x3), none, none, none] [.int s0] (sM mo G I J) Q =
    (if ¬ (s0 : Int32) = 0 then sm_wp X 273 37 [some (.ref 81), some (.int x1), some (.int x2), some (.int x3), none, none, none] [] (sM mo G I J) Q else (True ∧ Q (some (.int (-1))) (sM mo G I J))) :=
  (sm_blk X 273 32 (tt_lin 273 (by decide)) rfl rfl _ _ _ _).trans rfl
set_option maxRecDepth 100000 in
theorem bk_273_35 (X : (Nat → Int32) × Nat) (mo : Bool) (G : Nat × Nat) (I : Nat → Nat → Int32) (J : Nat → Nat → Int64) (Q : Option Value → sm_M → Prop) (x1 : Int32) (x2 : Int32) (x3 : Int32) :
    sm_wp X 273 35 [some (.ref 81), some (.int x1), some (.int x2), some (.int x3), none, none, none] [] (sM mo G I J) Q =
    (True ∧ Q (some (.int (-1))) (sM mo G I J)) :=
  (sm_blk X 273 35 (tt_lin 273 (by decide)) rfl rfl _ _ _ _).trans rfl
set_option maxRecDepth 100000 in
theorem bk_273_37 (X : (Nat → Int32) × Nat) (mo : Bool) (G : Nat × Nat) (I : Nat → Nat → Int32) (J : Nat → Nat → Int64) (Q : Option Value → sm_M → Prop) (x1 : Int32) (x2 : Int32) (x3 : Int32) :
    sm_wp X 273 37 [some (.ref 81), some (.int x1), some (.int x2), some (.int x3), none, none, none] [] (sM mo G I J) Q =
    (sm_wp X 273 43 [some (.ref 81), some (.int x1), some (.int x2), some (.int x3), some (.int 0), some (.int 0), none] [] (sM mo G I J) Q) :=
  (sm_blk X 273 37 (tt_lin 273 (by decide)) rfl rfl _ _ _ _).trans rfl
set_option maxRecDepth 100000 in
theorem bk_273_43 (X : (Nat → Int32) × Nat) (mo : Bool) (G : Nat × Nat) (I : Nat → Nat → Int32) (J : Nat → Nat → Int64) (Q : Option Value → sm_M → Prop) (x1 : Int32) (x2 : Int32) (x3 : Int32) (x4 : Int32) (x5 : Int32) :
    sm_wp X 273 43 [some (.ref 81), some (.int x1), some (.int x2), some (.int x3), some (.int x4), some (.int x5), none] [] (sM mo G I J) Q =
    (if (I 81 46 : Int32) ≤ (x5 : Int32) then sm_wp X 273 109 [some (.ref 81), some (.int x1), some (.int x2), some (.int x3), some (.int x4), some (.int x5), none] [] (sM mo G I J) Q else (sm_wp X 272 0 [some (.ref 81), some (.int x5), some (.int x1)] [] (sM mo G I J) (fun v M => sm_wp X 273 59 [some (.ref 81), some (.int x1), some (.int x2), some (.int x3), some (.int x4), some (.int x5), none] (v.toList ++ []) M Q))) :=
  (sm_blk X 273 43 (tt_lin 273 (by decide)) rfl rfl _ _ _ _).trans rfl
set_option maxRecDepth 100000 in
theorem bk_273_59 (X : (Nat → Int32) × Nat) (mo : Bool) (G : Nat × Nat) (I : Nat → Nat → Int32) (J : Nat → Nat → Int64) (Q : Option Value → sm_M → Prop) (x1 : Int32) (x2 : Int32) (x3 : Int32) (x4 : Int32) (x5 : Int32) (s0 : Int32) :
    sm_wp X 273 59 [some (.ref 81), some (.int x1), some (.int x2), some (.int x3), some (.int x4), some (.int x5), none] [.int s0] (sM mo G I J) Q =
    (vp_in x5 60 ∧ (if (I 107 (x5.toNatClampNeg) : Int32) = 0 then sm_wp X 273 99 [some (.ref 81), some (.int x1), some (.int x2), some (.int x3), some (.int x4), some (.int x5), some (.int s0)] [.int x4] (sM mo G I J) Q else (vp_in x5 60 ∧ (if ¬ (I 115 (x5.toNatClampNeg) : Int32) = (x3 : Int32) then sm_wp X 273 99 [some (.ref 81), some (.int x1), some (.int x2), some (.int x3), some (.int x4), some (.int x5), some (.int s0)] [.int x4] (sM mo G I J) Q else (if (s0 : Int32) < 0 then sm_wp X 273 99 [some (.ref 81), some (.int x1), some (.int x2), some (.int x3), some (.int x4), some (.int x5), some (.int s0)] [.int x4] (sM mo G I J) Q else (if (x2 : Int32) < (s0 : Int32) then sm_wp X 273 99 [some (.ref 81), some (.int x1), some (.int x2), some (.int x3), some (.int x4), some (.int x5), some (.int s0)] [.int x4] (sM mo G I J) Q else (sm_wp X 273 100 [some (.ref 81), some (.int x1), some (.int x2), some (.int x3), some (.int x4), some (.int x5), some (.int s0)] [.int 1, .int x4] (sM mo G I J) Q))))))) :=
  (sm_blk X 273 59 (tt_lin 273 (by decide)) rfl rfl _ _ _ _).trans rfl
set_option maxRecDepth 100000 in
theorem bk_273_99 (X : (Nat → Int32) × Nat) (mo : Bool) (G : Nat × Nat) (I : Nat → Nat → Int32) (J : Nat → Nat → Int64) (Q : Option Value → sm_M → Prop) (x1 : Int32) (x2 : Int32) (x3 : Int32) (x4 : Int32) (x5 : Int32) (x6 : Int32) (s0 : Int32) :
    sm_wp X 273 99 [some (.ref 81), some (.int x1), some (.int x2), some (.int x3), some (.int x4), some (.int x5), some (.int x6)] [.int s0] (sM mo G I J) Q =
    (sm_wp X 273 43 [some (.ref 81), some (.int x1), some (.int x2), some (.int x3), some (.int (s0 + 0)), some (.int (x5 + 1)), none] [] (sM mo G I J) Q) :=
  (sm_blk X 273 99 (tt_lin 273 (by decide)) rfl rfl _ _ _ _).trans rfl
set_option maxRecDepth 100000 in
theorem bk_273_100 (X : (Nat → Int32) × Nat) (mo : Bool) (G : Nat × Nat) (I : Nat → Nat → Int32) (J : Nat → Nat → Int64) (Q : Option Value → sm_M → Prop) (x1 : Int32) (x2 : Int32) (x3 : Int32) (x4 : Int32) (x5 : Int32) (x6 : Int32) (s0 : Int32) (s1 : Int32) :
    sm_wp X 273 100 [some (.ref 81), some (.int x1), some (.int x2), some (.int x3), some (.int x4), some (.int x5), some (.int x6)] [.int s1, .int s0] (sM mo G I J) Q =
    (sm_wp X 273 43 [some (.ref 81), some (.int x1), some (.int x2), some (.int x3), some (.int (s0 + s1)), some (.int (x5 + 1)), none] [] (sM mo G I J) Q) :=
  (sm_blk X 273 100 (tt_lin 273 (by decide)) rfl rfl _ _ _ _).trans rfl
set_option maxRecDepth 100000 in
theorem bk_273_109 (X : (Nat → Int32) × Nat) (mo : Bool) (G : Nat × Nat) (I : Nat → Nat → Int32) (J : Nat → Nat → Int64) (Q : Option Value → sm_M → Prop) (x1 : Int32) (x2 : Int32) (x3 : Int32) (x4 : Int32) (x5 : Int32) :
    sm_wp X 273 109 [some (.ref 81), some (.int x1), some (.int x2), some (.int x3), some (.int x4), some (.int x5), none] [] (sM mo G I J) Q =
    (True ∧ Q (some (.int x4)) (sM mo G I J)) :=
  (sm_blk X 273 109 (tt_lin 273 (by decide)) rfl rfl _ _ _ _).trans rfl
set_option maxRecDepth 100000 in
theorem bk_274_0 (X : (Nat → Int32) × Nat) (mo : Bool) (G : Nat × Nat) (I : Nat → Nat → Int32) (J : Nat → Nat → Int64) (Q : Option Value → sm_M → Prop) (x1 : Int32) :
    sm_wp X 274 0 [some (.ref 81), some (.int x1), none, none] [] (sM mo G I J) Q =
    (sm_wp X 210 0 [some (.int x1), some (.int 0), some (.int 3)] [] (sM mo G (up2 I 81 2 0) J) (fun v M => sm_wp X 274 11 [some (.ref 81), some (.int x1), none, none] (v.toList ++ []) M Q)) :=
  (sm_blk X 274 0 (tt_lin 274 (by decide)) rfl rfl _ _ _ _).trans rfl
set_option maxRecDepth 100000 in
theorem bk_274_11 (X : (Nat → Int32) × Nat) (mo : Bool) (G : Nat × Nat) (I : Nat → Nat → Int32) (J : Nat → Nat → Int64) (Q : Option Value → sm_M → Prop) (x1 : Int32) (s0 : Int32) :
    sm_wp X 274 11 [some (.ref 81), some (.int x1), none, none] [.int s0] (sM mo G I J) Q =
    (if ¬ (s0 : Int32) = 0 then sm_wp X 274 16 [some (.ref 81), some (.int x1), none, none] [] (sM mo G I J) Q else (True ∧ Q (some (.int (-1))) (sM mo G I J))) :=
  (sm_blk X 274 11 (tt_lin 274 (by decide)) rfl rfl _ _ _ _).trans rfl
set_option maxRecDepth 100000 in
theorem bk_274_16 (X : (Nat → Int32) × Nat) (mo : Bool) (G : Nat × Nat) (I : Nat → Nat → Int32) (J : Nat → Nat → Int64) (Q : Option Value → sm_M → Prop) (x1 : Int32) :
    sm_wp X 274 16 [some (.ref 81), some (.int x1), none, none] [] (sM mo G I J) Q =
    (sm_wp X 275 0 [some (.ref 81), none, none, none] [] (sM mo G I J) (fun v M => sm_wp X 274 20 [some (.ref 81), some (.int x1), none, none] (v.toList ++ []) M Q)) :=
  (sm_blk X 274 16 (tt_lin 274 (by decide)) rfl rfl _ _ _ _).trans rfl
set_option maxRecDepth 100000 in
theorem bk_274_20 (X : (Nat → Int32) × Nat) (mo : Bool) (G : Nat × Nat) (I : Nat → Nat → Int32) (J : Nat → Nat → Int64) (Q : Option Value → sm_M → Prop) (x1 : Int32) :
    sm_wp X 274 20 [some (.ref 81), some (.int x1), none, none] [] (sM mo G I J) Q =
    (if ¬ (x1 : Int32) = 0 then sm_wp X 274 29 [some (.ref 81), some (.int x1), none, none] [] (sM mo G I J) Q else (True ∧ Q (some (.int (I 81 65))) (sM mo G I J))) :=
  (sm_blk X 274 20 (tt_lin 274 (by decide)) rfl rfl _ _ _ _).trans rfl
set_option maxRecDepth 100000 in
theorem bk_274_29 (X : (Nat → Int32) × Nat) (mo : Bool) (G : Nat × Nat) (I : Nat → Nat → Int32) (J : Nat → Nat → Int64) (Q : Option Value → sm_M → Prop) (x1 : Int32) :
    sm_wp X 274 29 [some (.ref 81), some (.int x1), none, none] [] (sM mo G I J) Q =
    (sm_wp X 276 0 [some (.ref 81)] [] (sM mo G I J) (fun v M => sm_wp X 274 33 [some (.ref 81), some (.int x1), none, none] (v.toList ++ []) M Q)) :=
  (sm_blk X 274 29 (tt_lin 274 (by decide)) rfl rfl _ _ _ _).trans rfl
set_option maxRecDepth 100000 in
theorem bk_274_33 (X : (Nat → Int32) × Nat) (mo : Bool) (G : Nat × Nat) (I : Nat → Nat → Int32) (J : Nat → Nat → Int64) (Q : Option Value → sm_M → Prop) (x1 : Int32) (s0 : Int32) :
    sm_wp X 274 33 [some (.ref 81), some (.int x1), none, none] [.int s0] (sM mo G I J) Q =
    (if (s0 : Int32) = 0 then sm_wp X 274 38 [some (.ref 81), some (.int x1), none, none] [] (sM mo G I J) Q else (True ∧ Q (some (.int (-1))) (sM mo G I J))) :=
  (sm_blk X 274 33 (tt_lin 274 (by decide)) rfl rfl _ _ _ _).trans rfl
set_option maxRecDepth 100000 in
theorem bk_274_38 (X : (Nat → Int32) × Nat) (mo : Bool) (G : Nat × Nat) (I : Nat → Nat → Int32) (J : Nat → Nat → Int64) (Q : Option Value → sm_M → Prop) (x1 : Int32) :
    sm_wp X 274 38 [some (.ref 81), some (.int x1), none, none] [] (sM mo G I J) Q =
    (if ¬ (x1 : Int32) = (1 : Int32) then sm_wp X 274 48 [some (.ref 81), some (.int x1), none, none] [] (sM mo G I J) Q else (True ∧ Q (some (.int (I 81 69))) (sM mo G I J))) :=
  (sm_blk X 274 38 (tt_lin 274 (by decide)) rfl rfl _ _ _ _).trans rfl
set_option maxRecDepth 100000 in
theorem bk_274_48 (X : (Nat → Int32) × Nat) (mo : Bool) (G : Nat × Nat) (I : Nat → Nat → Int32) (J : Nat → Nat → Int64) (Q : Option Value → sm_M → Prop) (x1 : Int32) :
    sm_wp X 274 48 [some (.ref 81), some (.int x1), none, none] [] (sM mo G I J) Q =
    (if ¬ (x1 : Int32) = (3 : Int32) then sm_wp X 274 57 [some (.ref 81), some (.int x1), none, none] [] (sM mo G I J) Q else (sm_wp X 277 0 [some (.ref 81), none, none, none, none, none, none, none] [] (sM mo G I J) (fun v M => sm_wp X 274 57 [some (.ref 81), some (.int x1), none, none] (v.toList ++ []) M Q))) :=
  (sm_blk X 274 48 (tt_lin 274 (by decide)) rfl rfl _ _ _ _).trans rfl
set_option maxRecDepth 100000 in
theorem bk_274_57 (X : (Nat → Int32) × Nat) (mo : Bool) (G : Nat × Nat) (I : Nat → Nat → Int32) (J : Nat → Nat → Int64) (Q : Option Value → sm_M → Prop) (x1 : Int32) :
    sm_wp X 274 57 [some (.ref 81), some (.int x1), none, none] [] (sM mo G I J) Q =
    (sm_wp X 274 61 [some (.ref 81), some (.int x1), some (.int 0), some (.int 0)] [] (sM mo G I J) Q) :=
  (sm_blk X 274 57 (tt_lin 274 (by decide)) rfl rfl _ _ _ _).trans rfl
set_option maxRecDepth 100000 in
theorem bk_274_61 (X : (Nat → Int32) × Nat) (mo : Bool) (G : Nat × Nat) (I : Nat → Nat → Int32) (J : Nat → Nat → Int64) (Q : Option Value → sm_M → Prop) (x1 : Int32) (x2 : Int32) (x3 : Int32) :
    sm_wp X 274 61 [some (.ref 81), some (.int x1), some (.int x2), some (.int x3)] [] (sM mo G I J) Q =
    (if (I 81 69 : Int32) ≤ (x3 : Int32) then sm_wp X 274 107 [some (.ref 81), some (.int x1), some (.int x2), some (.int x3)] [] (sM mo G I J) Q else (sm_wp X 278 0 [some (.ref 81), some (.int x3), none, none] [] (sM mo G I J) (fun v M => sm_wp X 274 74 [some (.ref 81), some (.int x1), some (.int x2), some (.int x3)] (v.toList ++ []) M Q))) :=
  (sm_blk X 274 61 (tt_lin 274 (by decide)) rfl rfl _ _ _ _).trans rfl
set_option maxRecDepth 100000 in
theorem bk_274_74 (X : (Nat → Int32) × Nat) (mo : Bool) (G : Nat × Nat) (I : Nat → Nat → Int32) (J : Nat → Nat → Int64) (Q : Option Value → sm_M → Prop) (x1 : Int32) (x2 : Int32) (x3 : Int32) :
    sm_wp X 274 74 [some (.ref 81), some (.int x1), some (.int x2), some (.int x3)] [] (sM mo G I J) Q =
    (sm_wp X 279 0 [some (.ref 81), none] [] (sM mo G I J) (fun v M => sm_wp X 274 79 [some (.ref 81), some (.int x1), some (.int x2), some (.int x3)] (v.toList ++ [.int x2]) M Q)) :=
  (sm_blk X 274 74 (tt_lin 274 (by decide)) rfl rfl _ _ _ _).trans rfl
set_option maxRecDepth 100000 in
theorem bk_274_79 (X : (Nat → Int32) × Nat) (mo : Bool) (G : Nat × Nat) (I : Nat → Nat → Int32) (J : Nat → Nat → Int64) (Q : Option Value → sm_M → Prop) (x1 : Int32) (x2 : Int32) (x3 : Int32) (s0 : Int32) (s1 : Int32) :
    sm_wp X 274 79 [some (.ref 81), some (.int x1), some (.int x2), some (.int x3)] [.int s1, .int s0] (sM mo G I J) Q =
    (if (s1 : Int32) = 0 then sm_wp X 274 98 [some (.ref 81), some (.int x1), some (.int x2), some (.int x3)] [.int s0] (sM mo G I J) Q else (if (x1 : Int32) = (2 : Int32) then sm_wp X 274 94 [some (.ref 81), some (.int x1), some (.int x2), some (.int x3)] [.int s0] (sM mo G I J) Q else (sm_wp X 280 0 [some (.ref 81), none, none] [] (sM mo G I J) (fun v M => sm_wp X 274 91 [some (.ref 81), some (.int x1), some (.int x2), some (.int x3)] (v.toList ++ [.int s0]) M Q)))) :=
  (sm_blk X 274 79 (tt_lin 274 (by decide)) rfl rfl _ _ _ _).trans rfl
set_option maxRecDepth 100000 in
theorem bk_274_91 (X : (Nat → Int32) × Nat) (mo : Bool) (G : Nat × Nat) (I : Nat → Nat → Int32) (J : Nat → Nat → Int64) (Q : Option Value → sm_M → Prop) (x1 : Int32) (x2 : Int32) (x3 : Int32) (s0 : Int32) (s1 : Int32) :
    sm_wp X 274 91 [some (.ref 81), some (.int x1), some (.int x2), some (.int x3)] [.int s1, .int s0] (sM mo G I J) Q =
    (if (s1 : Int32) = 0 then sm_wp X 274 98 [some (.ref 81), some (.int x1), some (.int x2), some (.int x3)] [.int s0] (sM mo G I J) Q else (sm_wp X 274 99 [some (.ref 81), some (.int x1), some (.int x2), some (.int x3)] [.int 1, .int s0] (sM mo G I J) Q)) :=
  (sm_blk X 274 91 (tt_lin 274 (by decide)) rfl rfl _ _ _ _).trans rfl
set_option maxRecDepth 100000 in
theorem bk_274_94 (X : (Nat → Int32) × Nat) (mo : Bool) (G : Nat × Nat) (I : Nat → Nat → Int32) (J : Nat → Nat → Int64) (Q : Option Value → sm_M → Prop) (x1 : Int32) (x2 : Int32) (x3 : Int32) (s0 : Int32) :
    sm_wp X 274 94 [some (.ref 81), some (.int x1), some (.int x2), some (.int x3)] [.int s0] (sM mo G I J) Q =
    (sm_wp X 274 99 [some (.ref 81), some (.int x1), some (.int x2), some (.int x3)] [.int 1, .int s0] (sM mo G I J) Q) :=
  (sm_blk X 274 94 (tt_lin 274 (by decide)) rfl rfl _ _ _ _).trans rfl
set_option maxRecDepth 100000 in
theorem bk_274_98 (X : (Nat → Int32) × Nat) (mo : Bool) (G : Nat × Nat) (I : Nat → Nat → Int32) (J : Nat → Nat → Int64) (Q : Option Value → sm_M → Prop) (x1 : Int32) (x2 : Int32) (x3 : Int32) (s0 : Int32) :
    sm_wp X 274 98 [some (.ref 81), some (.int x1), some (.int x2), some (.int x3)] [.int s0] (sM mo G I J) Q =
    (sm_wp X 274 61 [some (.ref 81), some (.int x1), some (.int (s0 + 0)), some (.int (x3 + 1))] [] (sM mo G I J) Q) :=
  (sm_blk X 274 98 (tt_lin 274 (by decide)) rfl rfl _ _ _ _).trans rfl
set_option maxRecDepth 100000 in
theorem bk_274_99 (X : (Nat → Int32) × Nat) (mo : Bool) (G : Nat × Nat) (I : Nat → Nat → Int32) (J : Nat → Nat → Int64) (Q : Option Value → sm_M → Prop) (x1 : Int32) (x2 : Int32) (x3 : Int32) (s0 : Int32) (s1 : Int32) :
    sm_wp X 274 99 [some (.ref 81), some (.int x1), some (.int x2), some (.int x3)] [.int s1, .int s0] (sM mo G I J) Q =
    (sm_wp X 274 61 [some (.ref 81), some (.int x1), some (.int (s0 + s1)), some (.int (x3 + 1))] [] (sM mo G I J) Q) :=
  (sm_blk X 274 99 (tt_lin 274 (by decide)) rfl rfl _ _ _ _).trans rfl
set_option maxRecDepth 100000 in
theorem bk_274_107 (X : (Nat → Int32) × Nat) (mo : Bool) (G : Nat × Nat) (I : Nat → Nat → Int32) (J : Nat → Nat → Int64) (Q : Option Value → sm_M → Prop) (x1 : Int32) (x2 : Int32) (x3 : Int32) :
    sm_wp X 274 107 [some (.ref 81), some (.int x1), some (.int x2), some (.int x3)] [] (sM mo G I J) Q =
    (True ∧ Q (some (.int x2)) (sM mo G I J)) :=
  (sm_blk X 274 107 (tt_lin 274 (by decide)) rfl rfl _ _ _ _).trans rfl
set_option maxRecDepth 100000 in
theorem bk_275_0 (X : (Nat → Int32) × Nat) (mo : Bool) (G : Nat × Nat) (I : Nat → Nat → Int32) (J : Nat → Nat → Int64) (Q : Option Value → sm_M → Prop)  :
    sm_wp X 275 0 [some (.ref 81), none, none, none] [] (sM mo G I J) Q =
    (sm_wp X 275 12 [some (.ref 81), some (.int 0), none, none] [] (sM mo G (up2 (up2 I 81 65 0) 81 69 1) J) Q) :=
  (sm_blk X 275 0 (tt_lin 275 (by decide)) rfl rfl _ _ _ _).trans rfl
set_option maxRecDepth 100000 in
theorem bk_275_12 (X : (Nat → Int32) × Nat) (mo : Bool) (G : Nat × Nat) (I : Nat → Nat → Int32) (J : Nat → Nat → Int64) (Q : Option Value → sm_M → Prop) (x1 : Int32) :
    sm_wp X 275 12 [some (.ref 81), some (.int x1), none, none] [] (sM mo G I J) Q =
    (if (6 : Int32) ≤ (x1 : Int32) then sm_wp X 275 59 [some (.ref 81), some (.int x1), none, none] [] (sM mo G I J) Q else (vp_in x1 6 ∧ (if ((up2 I 126 x1.toNatClampNeg 0) 81 10 : Int32) ≤ (x1 : Int32) then sm_wp X 275 51 [some (.ref 81), some (.int x1), none, none] [.int x1, .ref 127] (sM mo G (up2 I 126 x1.toNatClampNeg 0) J) Q else (sm_wp X 223 0 [some (.ref 81), some (.int x1), none, none] [] (sM mo G (up2 I 126 x1.toNatClampNeg 0) J) (fun v M => sm_wp X 275 45 [some (.ref 81), some (.int x1), none, none] (v.toList ++ [.int x1, .ref 81, .int x1, .ref 127]) M Q))))) :=
  (sm_blk X 275 12 (tt_lin 275 (by decide)) rfl rfl _ _ _ _).trans rfl
set_option maxRecDepth 100000 in
theorem bk_275_45 (X : (Nat → Int32) × Nat) (mo : Bool) (G : Nat × Nat) (I : Nat → Nat → Int32) (J : Nat → Nat → Int64) (Q : Option Value → sm_M → Prop) (x1 : Int32) (s1 : Int32) (s3 : Int32) (s4 : Int32) :
    sm_wp X 275 45 [some (.ref 81), some (.int x1), none, none] [.int s4, .int s3, .ref 81, .int s1, .ref 127] (sM mo G I J) Q =
    (sm_wp X 224 0 [some (.ref 81), some (.int s3), some (.int s4), none, none] [] (sM mo G I J) (fun v M => sm_wp X 275 48 [some (.ref 81), some (.int x1), none, none] (v.toList ++ [.int s1, .ref 127]) M Q)) :=
  (sm_blk X 275 45 (tt_lin 275 (by decide)) rfl rfl _ _ _ _).trans rfl
set_option maxRecDepth 100000 in
theorem bk_275_48 (X : (Nat → Int32) × Nat) (mo : Bool) (G : Nat × Nat) (I : Nat → Nat → Int32) (J : Nat → Nat → Int64) (Q : Option Value → sm_M → Prop) (x1 : Int32) (s1 : Int32) (s2 : Int32) :
    sm_wp X 275 48 [some (.ref 81), some (.int x1), none, none] [.int s2, .int s1, .ref 127] (sM mo G I J) Q =
    (sm_wp X 275 52 [some (.ref 81), some (.int x1), none, none] [.int s2, .int s1, .ref 127] (sM mo G I J) Q) :=
  (sm_blk X 275 48 (tt_lin 275 (by decide)) rfl rfl _ _ _ _).trans rfl
set_option maxRecDepth 100000 in
theorem bk_275_51 (X : (Nat → Int32) × Nat) (mo : Bool) (G : Nat × Nat) (I : Nat → Nat → Int32) (J : Nat → Nat → Int64) (Q : Option Value → sm_M → Prop) (x1 : Int32) (s1 : Int32) :
    sm_wp X 275 51 [some (.ref 81), some (.int x1), none, none] [.int s1, .ref 127] (sM mo G I J) Q =
    (vp_in s1 6 ∧ (sm_wp X 275 12 [some (.ref 81), some (.int (x1 + 1)), none, none] [] (sM mo G (up2 I 127 s1.toNatClampNeg 0) J) Q)) :=
  (sm_blk X 275 51 (tt_lin 275 (by decide)) rfl rfl _ _ _ _).trans rfl
set_option maxRecDepth 100000 in
theorem bk_275_52 (X : (Nat → Int32) × Nat) (mo : Bool) (G : Nat × Nat) (I : Nat → Nat → Int32) (J : Nat → Nat → Int64) (Q : Option Value → sm_M → Prop) (x1 : Int32) (s1 : Int32) (s2 : Int32) :
    sm_wp X 275 52 [some (.ref 81), some (.int x1), none, none] [.int s2, .int s1, .ref 127] (sM mo G I J) Q =
    (vp_in s1 6 ∧ (sm_wp X 275 12 [some (.ref 81), some (.int (x1 + 1)), none, none] [] (sM mo G (up2 I 127 s1.toNatClampNeg s2) J) Q)) :=
  (sm_blk X 275 52 (tt_lin 275 (by decide)) rfl rfl _ _ _ _).trans rfl
set_option maxRecDepth 100000 in
theorem bk_275_59 (X : (Nat → Int32) × Nat) (mo : Bool) (G : Nat × Nat) (I : Nat → Nat → Int32) (J : Nat → Nat → Int64) (Q : Option Value → sm_M → Prop) (x1 : Int32) :
    sm_wp X 275 59 [some (.ref 81), some (.int x1), none, none] [] (sM mo G I J) Q =
    (sm_wp X 275 61 [some (.ref 81), some (.int 0), none, none] [] (sM mo G I J) Q) :=
  (sm_blk X 275 59 (tt_lin 275 (by decide)) rfl rfl _ _ _ _).trans rfl
set_option maxRecDepth 100000 in
theorem bk_275_61 (X : (Nat → Int32) × Nat) (mo : Bool) (G : Nat × Nat) (I : Nat → Nat → Int32) (J : Nat → Nat → Int64) (Q : Option Value → sm_M → Prop) (x1 : Int32) :
    sm_wp X 275 61 [some (.ref 81), some (.int x1), none, none] [] (sM mo G I J) Q =
    (if (I 81 3 : Int32) ≤ (x1 : Int32) then sm_wp X 275 257 [some (.ref 81), some (.int x1), none, none] [] (sM mo G I J) Q else (vp_in x1 12 ∧ (sm_wp X 219 0 [some (.int ((I 86 (x1.toNatClampNeg)) &&& (I 81 15))), none, none] [] (sM mo G I J) (fun v M => sm_wp X 275 85 [some (.ref 81), some (.int x1), some (.int ((I 86 (x1.toNatClampNeg)) &&& (I 81 15))), none] (v.toList ++ []) M Q)))) :=
  (sm_blk X 275 61 (tt_lin 275 (by decide)) rfl rfl _ _ _ _).trans rfl
set_option maxRecDepth 100000 in
theorem bk_275_85 (X : (Nat → Int32) × Nat) (mo : Bool) (G : Nat × Nat) (I : Nat → Nat → Int32) (J : Nat → Nat → Int64) (Q : Option Value → sm_M → Prop) (x1 : Int32) (x2 : Int32) (s0 : Int32) :
    sm_wp X 275 85 [some (.ref 81), some (.int x1), some (.int x2), none] [.int s0] (sM mo G I J) Q =
    (if (2 : Int32) ≤ (s0 : Int32) then sm_wp X 275 132 [some (.ref 81), some (.int x1), some (.int x2), none] [] (sM mo G I J) Q else (vp_in x1 12 ∧ (if (I 85 (x1.toNatClampNeg) : Int32) = ((-1) : Int32) then sm_wp X 275 251 [some (.ref 81), some (.int x1), some (.int x2), none] [] (sM mo G I J) Q else (vp_in x1 12 ∧ (vp_in (I 85 (x1.toNatClampNeg)) 6 ∧ (vp_in x1 12 ∧ (vp_in ((12 * (I 85 (x1.toNatClampNeg))) + x1) 72 ∧ (vp_in (I 85 (x1.toNatClampNeg)) 6 ∧ (sm_wp X 275 251 [some (.ref 81), some (.int x1), some (.int x2), none] [] (sM mo G (up2 I 126 (I 85 (x1.toNatClampNeg)).toNatClampNeg ((I 126 ((I 85 (x1.toNatClampNeg)).toNatClampNeg)) + (I 91 (((12 * (I 85 (x1.toNatClampNeg))) + x1).toNatClampNeg)))) J) Q))))))))) :=
  (sm_blk X 275 85 (tt_lin 275 (by decide)) rfl rfl _ _ _ _).trans rfl
set_option maxRecDepth 100000 in
theorem bk_275_132 (X : (Nat → Int32) × Nat) (mo : Bool) (G : Nat × Nat) (I : Nat → Nat → Int32) (J : Nat → Nat → Int64) (Q : Option Value → sm_M → Prop) (x1 : Int32) (x2 : Int32) :
    sm_wp X 275 132 [some (.ref 81), some (.int x1), some (.int x2), none] [] (sM mo G I J) Q =
    (vp_in (I 81 65) 12 ∧ (if (8 : Int32) ≤ ((up2 I 123 (I 81 65).toNatClampNeg x1) 81 65 : Int32) then sm_wp X 275 241 [some (.ref 81), some (.int x1), some (.int x2), none] [] (sM mo G (up2 I 123 (I 81 65).toNatClampNeg x1) J) Q else (vp_in ((up2 I 123 (I 81 65).toNatClampNeg x1) 81 65) 8 ∧ (sm_wp X 275 163 [some (.ref 81), some (.int x1), some (.int x2), some (.int 0)] [] (sM mo G (up2 (up2 I 123 (I 81 65).toNatClampNeg x1) 125 ((up2 I 123 (I 81 65).toNatClampNeg x1) 81 65).toNatClampNeg 0) J) Q)))) :=
  (sm_blk X 275 132 (tt_lin 275 (by decide)) rfl rfl _ _ _ _).trans rfl
set_option maxRecDepth 100000 in
theorem bk_275_163 (X : (Nat → Int32) × Nat) (mo : Bool) (G : Nat × Nat) (I : Nat → Nat → Int32) (J : Nat → Nat → Int64) (Q : Option Value → sm_M → Prop) (x1 : Int32) (x2 : Int32) (x3 : Int32) :
    sm_wp X 275 163 [some (.ref 81), some (.int x1), some (.int x2), some (.int x3)] [] (sM mo G I J) Q =
    (if (I 81 10 : Int32) ≤ (x3 : Int32) then sm_wp X 275 223 [some (.ref 81), some (.int x1), some (.int x2), some (.int x3)] [] (sM mo G I J) Q else (if ¬ ((x2 >>> (x3 &&& 31)) &&& 1 : Int32) = 0 then sm_wp X 275 182 [some (.ref 81), some (.int x1), some (.int x2), some (.int x3)] [] (sM mo G I J) Q else (sm_wp X 275 217 [some (.ref 81), some (.int x1), some (.int x2), some (.int x3)] [] (sM mo G I J) Q))) :=
  (sm_blk X 275 163 (tt_lin 275 (by decide)) rfl rfl _ _ _ _).trans rfl
set_option maxRecDepth 100000 in
theorem bk_275_182 (X : (Nat → Int32) × Nat) (mo : Bool) (G : Nat × Nat) (I : Nat → Nat → Int32) (J : Nat → Nat → Int64) (Q : Option Value → sm_M → Prop) (x1 : Int32) (x2 : Int32) (x3 : Int32) :
    sm_wp X 275 182 [some (.ref 81), some (.int x1), some (.int x2), some (.int x3)] [] (sM mo G I J) Q =
    (vp_in (I 81 65) 8 ∧ (vp_in ((3 * (I 81 65)) + (I 125 ((I 81 65).toNatClampNeg))) 24 ∧ (vp_in ((up2 I 124 ((3 * (I 81 65)) + (I 125 ((I 81 65).toNatClampNeg))).toNatClampNeg x3) 81 65) 8 ∧ (vp_in ((up2 I 124 ((3 * (I 81 65)) + (I 125 ((I 81 65).toNatClampNeg))).toNatClampNeg x3) 81 65) 8 ∧ (sm_wp X 275 163 [some (.ref 81), some (.int x1), some (.int x2), some (.int (x3 + 1))] [] (sM mo G (up2 (up2 I 124 ((3 * (I 81 65)) + (I 125 ((I 81 65).toNatClampNeg))).toNatClampNeg x3) 125 ((up2 I 124 ((3 * (I 81 65)) + (I 125 ((I 81 65).toNatClampNeg))).toNatClampNeg x3) 81 65).toNatClampNeg (((up2 I 124 ((3 * (I 81 65)) + (I 125 ((I 81 65).toNatClampNeg))).toNatClampNeg x3) 125 (((up2 I 124 ((3 * (I 81 65)) + (I 125 ((I 81 65).toNatClampNeg))).toNatClampNeg x3) 81 65).toNatClampNeg)) + 1)) J) Q))))) :=
  (sm_blk X 275 182 (tt_lin 275 (by decide)) rfl rfl _ _ _ _).trans rfl
set_option maxRecDepth 100000 in
theorem bk_275_217 (X : (Nat → Int32) × Nat) (mo : Bool) (G : Nat × Nat) (I : Nat → Nat → Int32) (J : Nat → Nat → Int64) (Q : Option Value → sm_M → Prop) (x1 : Int32) (x2 : Int32) (x3 : Int32) :
    sm_wp X 275 217 [some (.ref 81), some (.int x1), some (.int x2), some (.int x3)] [] (sM mo G I J) Q =
    (sm_wp X 275 163 [some (.ref 81), some (.int x1), some (.int x2), some (.int (x3 + 1))] [] (sM mo G I J) Q) :=
  (sm_blk X 275 217 (tt_lin 275 (by decide)) rfl rfl _ _ _ _).trans rfl
set_option maxRecDepth 100000 in
theorem bk_275_223 (X : (Nat → Int32) × Nat) (mo : Bool) (G : Nat × Nat) (I : Nat → Nat → Int32) (J : Nat → Nat → Int64) (Q : Option Value → sm_M → Prop) (x1 : Int32) (x2 : Int32) (x3 : Int32) :
    sm_wp X 275 223 [some (.ref 81), some (.int x1), some (.int x2), some (.int x3)] [] (sM mo G I J) Q =
    (vp_in (I 81 65) 8 ∧ (sm_wp X 275 61 [some (.ref 81), some (.int (x1 + 1)), none, none] [] (sM mo G (up2 (up2 I 81 69 ((I 81 69) * (I 125 ((I 81 65).toNatClampNeg)))) 81 65 (((up2 I 81 69 ((I 81 69) * (I 125 ((I 81 65).toNatClampNeg)))) 81 65) + 1)) J) Q)) :=
  (sm_blk X 275 223 (tt_lin 275 (by decide)) rfl rfl _ _ _ _).trans rfl
set_option maxRecDepth 100000 in
theorem bk_275_241 (X : (Nat → Int32) × Nat) (mo : Bool) (G : Nat × Nat) (I : Nat → Nat → Int32) (J : Nat → Nat → Int64) (Q : Option Value → sm_M → Prop) (x1 : Int32) (x2 : Int32) :
    sm_wp X 275 241 [some (.ref 81), some (.int x1), some (.int x2), none] [] (sM mo G I J) Q =
    (sm_wp X 275 61 [some (.ref 81), some (.int (x1 + 1)), none, none] [] (sM mo G (up2 I 81 65 ((I 81 65) + 1)) J) Q) :=
  (sm_blk X 275 241 (tt_lin 275 (by decide)) rfl rfl _ _ _ _).trans rfl
set_option maxRecDepth 100000 in
theorem bk_275_251 (X : (Nat → Int32) × Nat) (mo : Bool) (G : Nat × Nat) (I : Nat → Nat → Int32) (J : Nat → Nat → Int64) (Q : Option Value → sm_M → Prop) (x1 : Int32) (x2 : Int32) :
    sm_wp X 275 251 [some (.ref 81), some (.int x1), some (.int x2), none] [] (sM mo G I J) Q =
    (sm_wp X 275 61 [some (.ref 81), some (.int (x1 + 1)), none, none] [] (sM mo G I J) Q) :=
  (sm_blk X 275 251 (tt_lin 275 (by decide)) rfl rfl _ _ _ _).trans rfl
set_option maxRecDepth 100000 in
theorem bk_275_257 (X : (Nat → Int32) × Nat) (mo : Bool) (G : Nat × Nat) (I : Nat → Nat → Int32) (J : Nat → Nat → Int64) (Q : Option Value → sm_M → Prop) (x1 : Int32) :
    sm_wp X 275 257 [some (.ref 81), some (.int x1), none, none] [] (sM mo G I J) Q =
    (True ∧ Q none (sM mo G I J)) :=
  (sm_blk X 275 257 (tt_lin 275 (by decide)) rfl rfl _ _ _ _).trans rfl
set_option maxRecDepth 100000 in
theorem bk_276_0 (X : (Nat → Int32) × Nat) (mo : Bool) (G : Nat × Nat) (I : Nat → Nat → Int32) (J : Nat → Nat → Int64) (Q : Option Value → sm_M → Prop)  :
    sm_wp X 276 0 [some (.ref 81)] [] (sM mo G I J) Q =
    (if (I 81 65 : Int32) ≤ (8 : Int32) then sm_wp X 276 13 [some (.ref 81)] [] (sM mo G I J) Q else (sm_wp X 276 14 [some (.ref 81)] [.int 1] (sM mo G I J) Q)) :=
  (sm_blk X 276 0 (tt_lin 276 (by decide)) rfl rfl _ _ _ _).trans rfl
set_option maxRecDepth 100000 in
theorem bk_276_13 (X : (Nat → Int32) × Nat) (mo : Bool) (G : Nat × Nat) (I : Nat → Nat → Int32) (J : Nat → Nat → Int64) (Q : Option Value → sm_M → Prop)  :
    sm_wp X 276 13 [some (.ref 81)] [] (sM mo G I J) Q =
    (sm_zb 0 ∧ Q (some (.int 0)) (sM mo G I J)) :=
  (sm_blk X 276 13 (tt_lin 276 (by decide)) rfl rfl _ _ _ _).trans rfl
set_option maxRecDepth 100000 in
theorem bk_276_14 (X : (Nat → Int32) × Nat) (mo : Bool) (G : Nat × Nat) (I : Nat → Nat → Int32) (J : Nat → Nat → Int64) (Q : Option Value → sm_M → Prop) (s0 : Int32) :
    sm_wp X 276 14 [some (.ref 81)] [.int s0] (sM mo G I J) Q =
    (sm_zb s0 ∧ Q (some (.int s0)) (sM mo G I J)) :=
  (sm_blk X 276 14 (tt_lin 276 (by decide)) rfl rfl _ _ _ _).trans rfl
set_option maxRecDepth 100000 in
theorem bk_277_0 (X : (Nat → Int32) × Nat) (mo : Bool) (G : Nat × Nat) (I : Nat → Nat → Int32) (J : Nat → Nat → Int64) (Q : Option Value → sm_M → Prop)  :
    sm_wp X 277 0 [some (.ref 81), none, none, none, none, none, none, none] [] (sM mo G I J) Q =
    (sm_wp X 277 2 [some (.ref 81), some (.int 0), none, none, none, none, none, none] [] (sM mo G I J) Q) :=
  (sm_blk X 277 0 (tt_lin 277 (by decide)) rfl rfl _ _ _ _).trans rfl
set_option maxRecDepth 100000 in
theorem bk_277_2 (X : (Nat → Int32) × Nat) (mo : Bool) (G : Nat × Nat) (I : Nat → Nat → Int32) (J : Nat → Nat → Int64) (Q : Option Value → sm_M → Prop) (x1 : Int32) :
    sm_wp X 277 2 [some (.ref 81), some (.int x1), none, none, none, none, none, none] [] (sM mo G I J) Q =
    (if (I 81 10 : Int32) ≤ (x1 : Int32) then sm_wp X 277 251 [some (.ref 81), some (.int x1), none, none, none, none, none, none] [] (sM mo G I J) Q else (sm_wp X 277 12 [some (.ref 81), some (.int x1), some (.int 0), none, none, none, none, none] [] (sM mo G I J) Q)) :=
  (sm_blk X 277 2 (tt_lin 277 (by decide)) rfl rfl _ _ _ _).trans rfl
set_option maxRecDepth 100000 in
theorem bk_277_12 (X : (Nat → Int32) × Nat) (mo : Bool) (G : Nat × Nat) (I : Nat → Nat → Int32) (J : Nat → Nat → Int64) (Q : Option Value → sm_M → Prop) (x1 : Int32) (x2 : Int32) :
    sm_wp X 277 12 [some (.ref 81), some (.int x1), some (.int x2), none, none, none, none, none] [] (sM mo G I J) Q =
    (if (I 81 10 : Int32) ≤ (x2 : Int32) then sm_wp X 277 245 [some (.ref 81), some (.int x1), some (.int x2), none, none, none, none, none] [] (sM mo G I J) Q else (sm_wp X 277 34 [some (.ref 81), some (.int x1), some (.int x2), some (.int (1200 * ((6 * x1) + x2))), some (.int 0), none, none, none] [] (sM mo G I J) Q)) :=
  (sm_blk X 277 12 (tt_lin 277 (by decide)) rfl rfl _ _ _ _).trans rfl
set_option maxRecDepth 100000 in
theorem bk_277_34 (X : (Nat → Int32) × Nat) (mo : Bool) (G : Nat × Nat) (I : Nat → Nat → Int32) (J : Nat → Nat → Int64) (Q : Option Value → sm_M → Prop) (x1 : Int32) (x2 : Int32) (x3 : Int32) (x4 : Int32) :
    sm_wp X 277 34 [some (.ref 81), some (.int x1), some (.int x2), some (.int x3), some (.int x4), none, none, none] [] (sM mo G I J) Q =
    (if (1200 : Int32) ≤ (x4 : Int32) then sm_wp X 277 58 [some (.ref 81), some (.int x1), some (.int x2), some (.int x3), some (.int x4), none, none, none] [] (sM mo G I J) Q else (vp_in (x3 + x4) 43200 ∧ (sm_wp X 277 34 [some (.ref 81), some (.int x1), some (.int x2), some (.int x3), some (.int (x4 + 1)), none, none, none] [] (sM mo G (up2 I 130 (x3 + x4).toNatClampNeg (-1)) J) Q))) :=
  (sm_blk X 277 34 (tt_lin 277 (by decide)) rfl rfl _ _ _ _).trans rfl
set_option maxRecDepth 100000 in
theorem bk_277_58 (X : (Nat → Int32) × Nat) (mo : Bool) (G : Nat × Nat) (I : Nat → Nat → Int32) (J : Nat → Nat → Int64) (Q : Option Value → sm_M → Prop) (x1 : Int32) (x2 : Int32) (x3 : Int32) (x4 : Int32) :
    sm_wp X 277 58 [some (.ref 81), some (.int x1), some (.int x2), some (.int x3), some (.int x4), none, none, none] [] (sM mo G I J) Q =
    (if (x1 : Int32) = (x2 : Int32) then sm_wp X 277 239 [some (.ref 81), some (.int x1), some (.int x2), some (.int x3), some (.int x4), none, none, none] [] (sM mo G I J) Q else (sm_wp X 215 0 [some (.ref 81), some (.int x1)] [] (sM mo G I J) (fun v M => sm_wp X 277 68 [some (.ref 81), some (.int x1), some (.int x2), some (.int x3), some (.int x4), none, none, none] (v.toList ++ []) M Q))) :=
  (sm_blk X 277 58 (tt_lin 277 (by decide)) rfl rfl _ _ _ _).trans rfl
set_option maxRecDepth 100000 in
theorem bk_277_68 (X : (Nat → Int32) × Nat) (mo : Bool) (G : Nat × Nat) (I : Nat → Nat → Int32) (J : Nat → Nat → Int64) (Q : Option Value → sm_M → Prop) (x1 : Int32) (x2 : Int32) (x3 : Int32) (x4 : Int32) (s0 : Int32) :
    sm_wp X 277 68 [some (.ref 81), some (.int x1), some (.int x2), some (.int x3), some (.int x4), none, none, none] [.int s0] (sM mo G I J) Q =
    (if (s0 : Int32) = 0 then sm_wp X 277 239 [some (.ref 81), some (.int x1), some (.int x2), some (.int x3), some (.int x4), none, none, none] [] (sM mo G I J) Q else (sm_wp X 215 0 [some (.ref 81), some (.int x2)] [] (sM mo G I J) (fun v M => sm_wp X 277 76 [some (.ref 81), some (.int x1), some (.int x2), some (.int x3), some (.int x4), none, none, none] (v.toList ++ []) M Q))) :=
  (sm_blk X 277 68 (tt_lin 277 (by decide)) rfl rfl _ _ _ _).trans rfl
set_option maxRecDepth 100000 in
theorem bk_277_76 (X : (Nat → Int32) × Nat) (mo : Bool) (G : Nat × Nat) (I : Nat → Nat → Int32) (J : Nat → Nat → Int64) (Q : Option Value → sm_M → Prop) (x1 : Int32) (x2 : Int32) (x3 : Int32) (x4 : Int32) (s0 : Int32) :
    sm_wp X 277 76 [some (.ref 81), some (.int x1), some (.int x2), some (.int x3), some (.int x4), none, none, none] [.int s0] (sM mo G I J) Q =
    (if ¬ (s0 : Int32) = 0 then sm_wp X 277 82 [some (.ref 81), some (.int x1), some (.int x2), some (.int x3), some (.int x4), none, none, none] [] (sM mo G I J) Q else (sm_wp X 277 239 [some (.ref 81), some (.int x1), some (.int x2), some (.int x3), some (.int x4), none, none, none] [] (sM mo G I J) Q)) :=
  (sm_blk X 277 76 (tt_lin 277 (by decide)) rfl rfl _ _ _ _).trans rfl
set_option maxRecDepth 100000 in
theorem bk_277_82 (X : (Nat → Int32) × Nat) (mo : Bool) (G : Nat × Nat) (I : Nat → Nat → Int32) (J : Nat → Nat → Int64) (Q : Option Value → sm_M → Prop) (x1 : Int32) (x2 : Int32) (x3 : Int32) (x4 : Int32) :
    sm_wp X 277 82 [some (.ref 81), some (.int x1), some (.int x2), some (.int x3), some (.int x4), none, none, none] [] (sM mo G I J) Q =
    (sm_wp X 223 0 [some (.ref 81), some (.int x1), none, none] [] (sM mo G I J) (fun v M => sm_wp X 277 87 [some (.ref 81), some (.int x1), some (.int x2), some (.int x3), some (.int x4), none, none, none] (v.toList ++ []) M Q)) :=
  (sm_blk X 277 82 (tt_lin 277 (by decide)) rfl rfl _ _ _ _).trans rfl
set_option maxRecDepth 100000 in
theorem bk_277_87 (X : (Nat → Int32) × Nat) (mo : Bool) (G : Nat × Nat) (I : Nat → Nat → Int32) (J : Nat → Nat → Int64) (Q : Option Value → sm_M → Prop) (x1 : Int32) (x2 : Int32) (x3 : Int32) (x4 : Int32) (s0 : Int32) :
    sm_wp X 277 87 [some (.ref 81), some (.int x1), some (.int x2), some (.int x3), some (.int x4), none, none, none] [.int s0] (sM mo G I J) Q =
    (sm_wp X 223 0 [some (.ref 81), some (.int x2), none, none] [] (sM mo G I J) (fun v M => sm_wp X 277 92 [some (.ref 81), some (.int x1), some (.int x2), some (.int x3), some (.int x4), none, none, none] (v.toList ++ [.int s0]) M Q)) :=
  (sm_blk X 277 87 (tt_lin 277 (by decide)) rfl rfl _ _ _ _).trans rfl
set_option maxRecDepth 100000 in
theorem bk_277_92 (X : (Nat → Int32) × Nat) (mo : Bool) (G : Nat × Nat) (I : Nat → Nat → Int32) (J : Nat → Nat → Int64) (Q : Option Value → sm_M → Prop) (x1 : Int32) (x2 : Int32) (x3 : Int32) (x4 : Int32) (s0 : Int32) (s1 : Int32) :
    sm_wp X 277 92 [some (.ref 81), some (.int x1), some (.int x2), some (.int x3), some (.int x4), none, none, none] [.int s1, .int s0] (sM mo G I J) Q =
    (sm_wp X 277 99 [some (.ref 81), some (.int x1), some (.int x2), some (.int x3), some (.int (s0 ||| s1)), some (.int (s0 ||| s1)), none, none] [] (sM mo G I J) Q) :=
  (sm_blk X 277 92 (tt_lin 277 (by decide)) rfl rfl _ _ _ _).trans rfl
set_option maxRecDepth 100000 in
theorem bk_277_99 (X : (Nat → Int32) × Nat) (mo : Bool) (G : Nat × Nat) (I : Nat → Nat → Int32) (J : Nat → Nat → Int64) (Q : Option Value → sm_M → Prop) (x1 : Int32) (x2 : Int32) (x3 : Int32) (x4 : Int32) (x5 : Int32) :
    sm_wp X 277 99 [some (.ref 81), some (.int x1), some (.int x2), some (.int x3), some (.int x4), some (.int x5), none, none] [] (sM mo G I J) Q =
    (if (x5 : Int32) < 0 then sm_wp X 277 180 [some (.ref 81), some (.int x1), some (.int x2), some (.int x3), some (.int x4), some (.int x5), none, none] [] (sM mo G I J) Q else (sm_wp X 224 0 [some (.ref 81), some (.int x1), some (.int x5), none, none] [] (sM mo G I J) (fun v M => sm_wp X 277 111 [some (.ref 81), some (.int x1), some (.int x2), some (.int x3), some (.int x4), some (.int x5), none, none] (v.toList ++ []) M Q))) :=
  (sm_blk X 277 99 (tt_lin 277 (by decide)) rfl rfl _ _ _ _).trans rfl
set_option maxRecDepth 100000 in
theorem bk_277_111 (X : (Nat → Int32) × Nat) (mo : Bool) (G : Nat × Nat) (I : Nat → Nat → Int32) (J : Nat → Nat → Int64) (Q : Option Value → sm_M → Prop) (x1 : Int32) (x2 : Int32) (x3 : Int32) (x4 : Int32) (x5 : Int32) (s0 : Int32) :
    sm_wp X 277 111 [some (.ref 81), some (.int x1), some (.int x2), some (.int x3), some (.int x4), some (.int x5), none, none] [.int s0] (sM mo G I J) Q =
    (sm_wp X 224 0 [some (.ref 81), some (.int x2), some (.int (x4 &&& (x5 ^^^ (-1)))), none, none] [] (sM mo G I J) (fun v M => sm_wp X 277 127 [some (.ref 81), some (.int x1), some (.int x2), some (.int x3), some (.int x4), some (.int x5), some (.int (s0 - 1)), none] (v.toList ++ []) M Q)) :=
  (sm_blk X 277 111 (tt_lin 277 (by decide)) rfl rfl _ _ _ _).trans rfl
set_option maxRecDepth 100000 in
theorem bk_277_127 (X : (Nat → Int32) × Nat) (mo : Bool) (G : Nat × Nat) (I : Nat → Nat → Int32) (J : Nat → Nat → Int64) (Q : Option Value → sm_M → Prop) (x1 : Int32) (x2 : Int32) (x3 : Int32) (x4 : Int32) (x5 : Int32) (x6 : Int32) (s0 : Int32) :
    sm_wp X 277 127 [some (.ref 81), some (.int x1), some (.int x2), some (.int x3), some (.int x4), some (.int x5), some (.int x6), none] [.int s0] (sM mo G I J) Q =
    (if (x6 : Int32) < 0 then sm_wp X 277 159 [some (.ref 81), some (.int x1), some (.int x2), some (.int x3), some (.int x4), some (.int x5), some (.int x6), some (.int s0)] [] (sM mo G I J) Q else (vp_in (x3 + x6) 43200 ∧ (if (s0 : Int32) ≤ (I 130 ((x3 + x6).toNatClampNeg) : Int32) then sm_wp X 277 159 [some (.ref 81), some (.int x1), some (.int x2), some (.int x3), some (.int x4), some (.int x5), some (.int x6), some (.int s0)] [] (sM mo G I J) Q else (vp_in (x3 + x6) 43200 ∧ (if ¬ (x5 : Int32) = 0 then sm_wp X 277 168 [some (.ref 81), some (.int x1), some (.int x2), some (.int x3), some (.int x4), some (.int x5), some (.int x6), some (.int s0)] [] (sM mo G (up2 I 130 (x3 + x6).toNatClampNeg s0) J) Q else (sm_wp X 277 175 [some (.ref 81), some (.int x1), some (.int x2), some (.int x3), some (.int x4), some (.int x5), some (.int x6), some (.int s0)] [.int (-1)] (sM mo G (up2 I 130 (x3 + x6).toNatClampNeg s0) J) Q)))))) :=
  (sm_blk X 277 127 (tt_lin 277 (by decide)) rfl rfl _ _ _ _).trans rfl
set_option maxRecDepth 100000 in
theorem bk_277_159 (X : (Nat → Int32) × Nat) (mo : Bool) (G : Nat × Nat) (I : Nat → Nat → Int32) (J : Nat → Nat → Int64) (Q : Option Value → sm_M → Prop) (x1 : Int32) (x2 : Int32) (x3 : Int32) (x4 : Int32) (x5 : Int32) (x6 : Int32) (x7 : Int32) :
    sm_wp X 277 159 [some (.ref 81), some (.int x1), some (.int x2), some (.int x3), some (.int x4), some (.int x5), some (.int x6), some (.int x7)] [] (sM mo G I J) Q =
    (if ¬ (x5 : Int32) = 0 then sm_wp X 277 168 [some (.ref 81), some (.int x1), some (.int x2), some (.int x3), some (.int x4), some (.int x5), some (.int x6), some (.int x7)] [] (sM mo G I J) Q else (sm_wp X 277 175 [some (.ref 81), some (.int x1), some (.int x2), some (.int x3), some (.int x4), some (.int x5), some (.int x6), some (.int x7)] [.int (-1)] (sM mo G I J) Q)) :=
  (sm_blk X 277 159 (tt_lin 277 (by decide)) rfl rfl _ _ _ _).trans rfl
set_option maxRecDepth 100000 in
theorem bk_277_168 (X : (Nat → Int32) × Nat) (mo : Bool) (G : Nat × Nat) (I : Nat → Nat → Int32) (J : Nat → Nat → Int64) (Q : Option Value → sm_M → Prop) (x1 : Int32) (x2 : Int32) (x3 : Int32) (x4 : Int32) (x5 : Int32) (x6 : Int32) (x7 : Int32) :
    sm_wp X 277 168 [some (.ref 81), some (.int x1), some (.int x2), some (.int x3), some (.int x4), some (.int x5), some (.int x6), some (.int x7)] [] (sM mo G I J) Q =
    (sm_wp X 277 99 [some (.ref 81), some (.int x1), some (.int x2), some (.int x3), some (.int x4), some (.int ((x5 - 1) &&& x4)), none, none] [] (sM mo G I J) Q) :=
  (sm_blk X 277 168 (tt_lin 277 (by decide)) rfl rfl _ _ _ _).trans rfl
set_option maxRecDepth 100000 in
theorem bk_277_175 (X : (Nat → Int32) × Nat) (mo : Bool) (G : Nat × Nat) (I : Nat → Nat → Int32) (J : Nat → Nat → Int64) (Q : Option Value → sm_M → Prop) (x1 : Int32) (x2 : Int32) (x3 : Int32) (x4 : Int32) (x5 : Int32) (x6 : Int32) (x7 : Int32) (s0 : Int32) :
    sm_wp X 277 175 [some (.ref 81), some (.int x1), some (.int x2), some (.int x3), some (.int x4), some (.int x5), some (.int x6), some (.int x7)] [.int s0] (sM mo G I J) Q =
    (sm_wp X 277 99 [some (.ref 81), some (.int x1), some (.int x2), some (.int x3), some (.int x4), some (.int s0), none, none] [] (sM mo G I J) Q) :=
  (sm_blk X 277 175 (tt_lin 277 (by decide)) rfl rfl _ _ _ _).trans rfl
set_option maxRecDepth 100000 in
theorem bk_277_180 (X : (Nat → Int32) × Nat) (mo : Bool) (G : Nat × Nat) (I : Nat → Nat → Int32) (J : Nat → Nat → Int64) (Q : Option Value → sm_M → Prop) (x1 : Int32) (x2 : Int32) (x3 : Int32) (x4 : Int32) (x5 : Int32) :
    sm_wp X 277 180 [some (.ref 81), some (.int x1), some (.int x2), some (.int x3), some (.int x4), some (.int x5), none, none] [] (sM mo G I J) Q =
    (sm_wp X 277 185 [some (.ref 81), some (.int x1), some (.int x2), some (.int x3), none, some (.int 1198), none, none] [] (sM mo G I J) Q) :=
  (sm_blk X 277 180 (tt_lin 277 (by decide)) rfl rfl _ _ _ _).trans rfl
set_option maxRecDepth 100000 in
theorem bk_277_185 (X : (Nat → Int32) × Nat) (mo : Bool) (G : Nat × Nat) (I : Nat → Nat → Int32) (J : Nat → Nat → Int64) (Q : Option Value → sm_M → Prop) (x1 : Int32) (x2 : Int32) (x3 : Int32) (x5 : Int32) :
    sm_wp X 277 185 [some (.ref 81), some (.int x1), some (.int x2), some (.int x3), none, some (.int x5), none, none] [] (sM mo G I J) Q =
    (if (x5 : Int32) < 0 then sm_wp X 277 239 [some (.ref 81), some (.int x1), some (.int x2), some (.int x3), none, some (.int x5), none, none] [] (sM mo G I J) Q else (vp_in ((x3 + x5) + 1) 43200 ∧ (vp_in (x3 + x5) 43200 ∧ (if (I 130 (((x3 + x5) + 1).toNatClampNeg) : Int32) ≤ (I 130 ((x3 + x5).toNatClampNeg) : Int32) then sm_wp X 277 233 [some (.ref 81), some (.int x1), some (.int x2), some (.int x3), none, some (.int x5), none, none] [] (sM mo G I J) Q else (vp_in ((x3 + x5) + 1) 43200 ∧ (vp_in (x3 + x5) 43200 ∧ (sm_wp X 277 185 [some (.ref 81), some (.int x1), some (.int x2), some (.int x3), none, some (.int (x5 + (-1))), none, none] [] (sM mo G (up2 I 130 (x3 + x5).toNatClampNeg (I 130 (((x3 + x5) + 1).toNatClampNeg))) J) Q))))))) :=
  (sm_blk X 277 185 (tt_lin 277 (by decide)) rfl rfl _ _ _ _).trans rfl
set_option maxRecDepth 100000 in
theorem bk_277_233 (X : (Nat → Int32) × Nat) (mo : Bool) (G : Nat × Nat) (I : Nat → Nat → Int32) (J : Nat → Nat → Int64) (Q : Option Value → sm_M → Prop) (x1 : Int32) (x2 : Int32) (x3 : Int32) (x5 : Int32) :
    sm_wp X 277 233 [some (.ref 81), some (.int x1), some (.int x2), some (.int x3), none, some (.int x5), none, none] [] (sM mo G I J) Q =
    (sm_wp X 277 185 [some (.ref 81), some (.int x1), some (.int x2), some (.int x3), none, some (.int (x5 + (-1))), none, none] [] (sM mo G I J) Q) :=
  (sm_blk X 277 233 (tt_lin 277 (by decide)) rfl rfl _ _ _ _).trans rfl
set_option maxRecDepth 100000 in
theorem bk_277_239 (X : (Nat → Int32) × Nat) (mo : Bool) (G : Nat × Nat) (I : Nat → Nat → Int32) (J : Nat → Nat → Int64) (Q : Option Value → sm_M → Prop) (x1 : Int32) (x2 : Int32) (x3 : Int32) :
    sm_wp X 277 239 [some (.ref 81), some (.int x1), some (.int x2), some (.int x3), none, none, none, none] [] (sM mo G I J) Q =
    (sm_wp X 277 12 [some (.ref 81), some (.int x1), some (.int (x2 + 1)), none, none, none, none, none] [] (sM mo G I J) Q) :=
  (sm_blk X 277 239 (tt_lin 277 (by decide)) rfl rfl _ _ _ _).trans rfl
set_option maxRecDepth 100000 in
theorem bk_277_245 (X : (Nat → Int32) × Nat) (mo : Bool) (G : Nat × Nat) (I : Nat → Nat → Int32) (J : Nat → Nat → Int64) (Q : Option Value → sm_M → Prop) (x1 : Int32) (x2 : Int32) :
    sm_wp X 277 245 [some (.ref 81), some (.int x1), some (.int x2), none, none, none, none, none] [] (sM mo G I J) Q =
    (sm_wp X 277 2 [some (.ref 81), some (.int (x1 + 1)), none, none, none, none, none, none] [] (sM mo G I J) Q) :=
  (sm_blk X 277 245 (tt_lin 277 (by decide)) rfl rfl _ _ _ _).trans rfl
set_option maxRecDepth 100000 in
theorem bk_277_251 (X : (Nat → Int32) × Nat) (mo : Bool) (G : Nat × Nat) (I : Nat → Nat → Int32) (J : Nat → Nat → Int64) (Q : Option Value → sm_M → Prop) (x1 : Int32) :
    sm_wp X 277 251 [some (.ref 81), some (.int x1), none, none, none, none, none, none] [] (sM mo G I J) Q =
    (True ∧ Q none (sM mo G I J)) :=
  (sm_blk X 277 251 (tt_lin 277 (by decide)) rfl rfl _ _ _ _).trans rfl
end
section
set_option maxRecDepth 100000 in
theorem bk_278_0 (X : (Nat → Int32) × Nat) (mo : Bool) (G : Nat × Nat) (I : Nat → Nat → Int32) (J : Nat → Nat → Int64) (Q : Option Value → sm_M → Prop) (x1 : Int32) :
    sm_wp X 278 0 [some (.ref 81), some (.int x1), none, none] [] (sM mo G I J) Q =
    (sm_wp X 278 9 [some (.ref 81), none, some (.int x1), some (.int ((I 81 65) - 1))] [] (sM mo G I J) Q) :=
  (sm_blk X 278 0 (tt_lin 278 (by decide)) rfl rfl _ _ _ _).trans rfl
set_option maxRecDepth 100000 in
theorem bk_278_9 (X : (Nat → Int32) × Nat) (mo : Bool) (G : Nat × Nat) (I : Nat → Nat → Int32) (J : Nat → Nat → Int64) (Q : Option Value → sm_M → Prop) (x2 : Int32) (x3 : Int32) :
    sm_wp X 278 9 [some (.ref 81), none, some (.int x2), some (.int x3)] [] (sM mo G I J) Q =
    (if (x3 : Int32) < 0 then sm_wp X 278 51 [some (.ref 81), none, some (.int x2), some (.int x3)] [] (sM mo G I J) Q else (vp_in x3 8 ∧ (¬ (I 125 (x3.toNatClampNeg) : Int32) = 0 ∧ (vp_in ((3 * x3) + (x2 - x2 / (I 125 (x3.toNatClampNeg)) * (I 125 (x3.toNatClampNeg)))) 24 ∧ (vp_in x3 8 ∧ (vp_in x3 8 ∧ (¬ ((up2 I 129 x3.toNatClampNeg (I 124 (((3 * x3) + (x2 - x2 / (I 125 (x3.toNatClampNeg)) * (I 125 (x3.toNatClampNeg)))).toNatClampNeg))) 125 (x3.toNatClampNeg) : Int32) = 0 ∧ (sm_wp X 278 9 [some (.ref 81), none, some (.int (x2 / ((up2 I 129 x3.toNatClampNeg (I 124 (((3 * x3) + (x2 - x2 / (I 125 (x3.toNatClampNeg)) * (I 125 (x3.toNatClampNeg)))).toNatClampNeg))) 125 (x3.toNatClampNeg)))), some (.int (x3 + (-1)))] [] (sM mo G (up2 I 129 x3.toNatClampNeg (I 124 (((3 * x3) + (x2 - x2 / (I 125 (x3.toNatClampNeg)) * (I 125 (x3.toNatClampNeg)))).toNatClampNeg))) J) Q)))))))) :=
  (sm_blk X 278 9 (tt_lin 278 (by decide)) rfl rfl _ _ _ _).trans rfl
set_option maxRecDepth 100000 in
theorem bk_278_51 (X : (Nat → Int32) × Nat) (mo : Bool) (G : Nat × Nat) (I : Nat → Nat → Int32) (J : Nat → Nat → Int64) (Q : Option Value → sm_M → Prop) (x2 : Int32) (x3 : Int32) :
    sm_wp X 278 51 [some (.ref 81), none, some (.int x2), some (.int x3)] [] (sM mo G I J) Q =
    (sm_wp X 278 53 [some (.ref 81), none, none, some (.int 0)] [] (sM mo G I J) Q) :=
  (sm_blk X 278 51 (tt_lin 278 (by decide)) rfl rfl _ _ _ _).trans rfl
set_option maxRecDepth 100000 in
theorem bk_278_53 (X : (Nat → Int32) × Nat) (mo : Bool) (G : Nat × Nat) (I : Nat → Nat → Int32) (J : Nat → Nat → Int64) (Q : Option Value → sm_M → Prop) (x3 : Int32) :
    sm_wp X 278 53 [some (.ref 81), none, none, some (.int x3)] [] (sM mo G I J) Q =
    (if (6 : Int32) ≤ (x3 : Int32) then sm_wp X 278 77 [some (.ref 81), none, none, some (.int x3)] [] (sM mo G I J) Q else (vp_in x3 6 ∧ (vp_in x3 6 ∧ (sm_wp X 278 53 [some (.ref 81), none, none, some (.int (x3 + 1))] [] (sM mo G (up2 I 128 x3.toNatClampNeg (I 126 (x3.toNatClampNeg))) J) Q)))) :=
  (sm_blk X 278 53 (tt_lin 278 (by decide)) rfl rfl _ _ _ _).trans rfl
set_option maxRecDepth 100000 in
theorem bk_278_77 (X : (Nat → Int32) × Nat) (mo : Bool) (G : Nat × Nat) (I : Nat → Nat → Int32) (J : Nat → Nat → Int64) (Q : Option Value → sm_M → Prop) (x3 : Int32) :
    sm_wp X 278 77 [some (.ref 81), none, none, some (.int x3)] [] (sM mo G I J) Q =
    (sm_wp X 278 79 [some (.ref 81), none, none, some (.int 0)] [] (sM mo G I J) Q) :=
  (sm_blk X 278 77 (tt_lin 278 (by decide)) rfl rfl _ _ _ _).trans rfl
set_option maxRecDepth 100000 in
theorem bk_278_79 (X : (Nat → Int32) × Nat) (mo : Bool) (G : Nat × Nat) (I : Nat → Nat → Int32) (J : Nat → Nat → Int64) (Q : Option Value → sm_M → Prop) (x3 : Int32) :
    sm_wp X 278 79 [some (.ref 81), none, none, some (.int x3)] [] (sM mo G I J) Q =
    (if (I 81 65 : Int32) ≤ (x3 : Int32) then sm_wp X 278 128 [some (.ref 81), none, none, some (.int x3)] [] (sM mo G I J) Q else (vp_in x3 8 ∧ (vp_in (I 129 (x3.toNatClampNeg)) 6 ∧ (vp_in x3 8 ∧ (vp_in x3 12 ∧ (vp_in ((12 * (I 129 (x3.toNatClampNeg))) + (I 123 (x3.toNatClampNeg))) 72 ∧ (vp_in (I 129 (x3.toNatClampNeg)) 6 ∧ (sm_wp X 278 79 [some (.ref 81), none, none, some (.int (x3 + 1))] [] (sM mo G (up2 I 128 (I 129 (x3.toNatClampNeg)).toNatClampNeg ((I 128 ((I 129 (x3.toNatClampNeg)).toNatClampNeg)) + (I 91 (((12 * (I 129 (x3.toNatClampNeg))) + (I 123 (x3.toNatClampNeg))).toNatClampNeg)))) J) Q)))))))) :=
  (sm_blk X 278 79 (tt_lin 278 (by decide)) rfl rfl _ _ _ _).trans rfl
set_option maxRecDepth 100000 in
theorem bk_278_128 (X : (Nat → Int32) × Nat) (mo : Bool) (G : Nat × Nat) (I : Nat → Nat → Int32) (J : Nat → Nat → Int64) (Q : Option Value → sm_M → Prop) (x3 : Int32) :
    sm_wp X 278 128 [some (.ref 81), none, none, some (.int x3)] [] (sM mo G I J) Q =
    (True ∧ Q none (sM mo G I J)) :=
  (sm_blk X 278 128 (tt_lin 278 (by decide)) rfl rfl _ _ _ _).trans rfl
set_option maxRecDepth 100000 in
theorem bk_279_0 (X : (Nat → Int32) × Nat) (mo : Bool) (G : Nat × Nat) (I : Nat → Nat → Int32) (J : Nat → Nat → Int64) (Q : Option Value → sm_M → Prop)  :
    sm_wp X 279 0 [some (.ref 81), none] [] (sM mo G I J) Q =
    (sm_wp X 279 2 [some (.ref 81), some (.int 0)] [] (sM mo G I J) Q) :=
  (sm_blk X 279 0 (tt_lin 279 (by decide)) rfl rfl _ _ _ _).trans rfl
set_option maxRecDepth 100000 in
theorem bk_279_2 (X : (Nat → Int32) × Nat) (mo : Bool) (G : Nat × Nat) (I : Nat → Nat → Int32) (J : Nat → Nat → Int64) (Q : Option Value → sm_M → Prop) (x1 : Int32) :
    sm_wp X 279 2 [some (.ref 81), some (.int x1)] [] (sM mo G I J) Q =
    (if (I 81 10 : Int32) ≤ (x1 : Int32) then sm_wp X 279 41 [some (.ref 81), some (.int x1)] [] (sM mo G I J) Q else (sm_wp X 215 0 [some (.ref 81), some (.int x1)] [] (sM mo G I J) (fun v M => sm_wp X 279 15 [some (.ref 81), some (.int x1)] (v.toList ++ []) M Q))) :=
  (sm_blk X 279 2 (tt_lin 279 (by decide)) rfl rfl _ _ _ _).trans rfl
set_option maxRecDepth 100000 in
theorem bk_279_15 (X : (Nat → Int32) × Nat) (mo : Bool) (G : Nat × Nat) (I : Nat → Nat → Int32) (J : Nat → Nat → Int64) (Q : Option Value → sm_M → Prop) (x1 : Int32) (s0 : Int32) :
    sm_wp X 279 15 [some (.ref 81), some (.int x1)] [.int s0] (sM mo G I J) Q =
    (if (s0 : Int32) = 0 then sm_wp X 279 35 [some (.ref 81), some (.int x1)] [] (sM mo G I J) Q else (vp_in x1 6 ∧ (vp_in x1 6 ∧ (if (I 92 (x1.toNatClampNeg) : Int32) ≤ (I 128 (x1.toNatClampNeg) : Int32) then sm_wp X 279 35 [some (.ref 81), some (.int x1)] [] (sM mo G I J) Q else (sm_zb 0 ∧ Q (some (.int 0)) (sM mo G I J)))))) :=
  (sm_blk X 279 15 (tt_lin 279 (by decide)) rfl rfl _ _ _ _).trans rfl
set_option maxRecDepth 100000 in
theorem bk_279_35 (X : (Nat → Int32) × Nat) (mo : Bool) (G : Nat × Nat) (I : Nat → Nat → Int32) (J : Nat → Nat → Int64) (Q : Option Value → sm_M → Prop) (x1 : Int32) :
    sm_wp X 279 35 [some (.ref 81), some (.int x1)] [] (sM mo G I J) Q =
    (sm_wp X 279 2 [some (.ref 81), some (.int (x1 + 1))] [] (sM mo G I J) Q) :=
  (sm_blk X 279 35 (tt_lin 279 (by decide)) rfl rfl _ _ _ _).trans rfl
set_option maxRecDepth 100000 in
theorem bk_279_41 (X : (Nat → Int32) × Nat) (mo : Bool) (G : Nat × Nat) (I : Nat → Nat → Int32) (J : Nat → Nat → Int64) (Q : Option Value → sm_M → Prop) (x1 : Int32) :
    sm_wp X 279 41 [some (.ref 81), some (.int x1)] [] (sM mo G I J) Q =
    (sm_zb 1 ∧ Q (some (.int 1)) (sM mo G I J)) :=
  (sm_blk X 279 41 (tt_lin 279 (by decide)) rfl rfl _ _ _ _).trans rfl
set_option maxRecDepth 100000 in
theorem bk_280_0 (X : (Nat → Int32) × Nat) (mo : Bool) (G : Nat × Nat) (I : Nat → Nat → Int32) (J : Nat → Nat → Int64) (Q : Option Value → sm_M → Prop)  :
    sm_wp X 280 0 [some (.ref 81), none, none] [] (sM mo G I J) Q =
    (sm_wp X 280 2 [some (.ref 81), some (.int 0), none] [] (sM mo G I J) Q) :=
  (sm_blk X 280 0 (tt_lin 280 (by decide)) rfl rfl _ _ _ _).trans rfl
set_option maxRecDepth 100000 in
theorem bk_280_2 (X : (Nat → Int32) × Nat) (mo : Bool) (G : Nat × Nat) (I : Nat → Nat → Int32) (J : Nat → Nat → Int64) (Q : Option Value → sm_M → Prop) (x1 : Int32) :
    sm_wp X 280 2 [some (.ref 81), some (.int x1), none] [] (sM mo G I J) Q =
    (if (I 81 10 : Int32) ≤ (x1 : Int32) then sm_wp X 280 105 [some (.ref 81), some (.int x1), none] [] (sM mo G I J) Q else (sm_wp X 215 0 [some (.ref 81), some (.int x1)] [] (sM mo G I J) (fun v M => sm_wp X 280 15 [some (.ref 81), some (.int x1), none] (v.toList ++ []) M Q))) :=
  (sm_blk X 280 2 (tt_lin 280 (by decide)) rfl rfl _ _ _ _).trans rfl
set_option maxRecDepth 100000 in
theorem bk_280_15 (X : (Nat → Int32) × Nat) (mo : Bool) (G : Nat × Nat) (I : Nat → Nat → Int32) (J : Nat → Nat → Int64) (Q : Option Value → sm_M → Prop) (x1 : Int32) (s0 : Int32) :
    sm_wp X 280 15 [some (.ref 81), some (.int x1), none] [.int s0] (sM mo G I J) Q =
    (if ¬ (s0 : Int32) = 0 then sm_wp X 280 21 [some (.ref 81), some (.int x1), none] [] (sM mo G I J) Q else (sm_wp X 280 99 [some (.ref 81), some (.int x1), none] [] (sM mo G I J) Q)) :=
  (sm_blk X 280 15 (tt_lin 280 (by decide)) rfl rfl _ _ _ _).trans rfl
set_option maxRecDepth 100000 in
theorem bk_280_21 (X : (Nat → Int32) × Nat) (mo : Bool) (G : Nat × Nat) (I : Nat → Nat → Int32) (J : Nat → Nat → Int64) (Q : Option Value → sm_M → Prop) (x1 : Int32) :
    sm_wp X 280 21 [some (.ref 81), some (.int x1), none] [] (sM mo G I J) Q =
    (vp_in x1 6 ∧ (vp_in x1 6 ∧ (if (I 127 (x1.toNatClampNeg) : Int32) ≤ (I 128 (x1.toNatClampNeg) : Int32) then sm_wp X 280 38 [some (.ref 81), some (.int x1), none] [] (sM mo G I J) Q else (sm_zb 0 ∧ Q (some (.int 0)) (sM mo G I J))))) :=
  (sm_blk X 280 21 (tt_lin 280 (by decide)) rfl rfl _ _ _ _).trans rfl
set_option maxRecDepth 100000 in
theorem bk_280_38 (X : (Nat → Int32) × Nat) (mo : Bool) (G : Nat × Nat) (I : Nat → Nat → Int32) (J : Nat → Nat → Int64) (Q : Option Value → sm_M → Prop) (x1 : Int32) :
    sm_wp X 280 38 [some (.ref 81), some (.int x1), none] [] (sM mo G I J) Q =
    (sm_wp X 280 40 [some (.ref 81), some (.int x1), some (.int 0)] [] (sM mo G I J) Q) :=
  (sm_blk X 280 38 (tt_lin 280 (by decide)) rfl rfl _ _ _ _).trans rfl
set_option maxRecDepth 100000 in
theorem bk_280_40 (X : (Nat → Int32) × Nat) (mo : Bool) (G : Nat × Nat) (I : Nat → Nat → Int32) (J : Nat → Nat → Int64) (Q : Option Value → sm_M → Prop) (x1 : Int32) (x2 : Int32) :
    sm_wp X 280 40 [some (.ref 81), some (.int x1), some (.int x2)] [] (sM mo G I J) Q =
    (if (I 81 10 : Int32) ≤ (x2 : Int32) then sm_wp X 280 99 [some (.ref 81), some (.int x1), some (.int x2)] [] (sM mo G I J) Q else (vp_in x1 6 ∧ (if (1200 : Int32) ≤ (I 128 (x1.toNatClampNeg) : Int32) then sm_wp X 280 93 [some (.ref 81), some (.int x1), some (.int x2)] [] (sM mo G I J) Q else (vp_in x1 6 ∧ (vp_in ((1200 * ((6 * x1) + x2)) + (I 128 (x1.toNatClampNeg))) 43200 ∧ (vp_in x2 6 ∧ (if (I 130 (((1200 * ((6 * x1) + x2)) + (I 128 (x1.toNatClampNeg))).toNatClampNeg) : Int32) ≤ (I 128 (x2.toNatClampNeg) : Int32) then sm_wp X 280 93 [some (.ref 81), some (.int x1), some (.int x2)] [] (sM mo G I J) Q else (sm_zb 0 ∧ Q (some (.int 0)) (sM mo G I J))))))))) :=
  (sm_blk X 280 40 (tt_lin 280 (by decide)) rfl rfl _ _ _ _).trans rfl
set_option maxRecDepth 100000 in
theorem bk_280_93 (X : (Nat → Int32) × Nat) (mo : Bool) (G : Nat × Nat) (I : Nat → Nat → Int32) (J : Nat → Nat → Int64) (Q : Option Value → sm_M → Prop) (x1 : Int32) (x2 : Int32) :
    sm_wp X 280 93 [some (.ref 81), some (.int x1), some (.int x2)] [] (sM mo G I J) Q =
    (sm_wp X 280 40 [some (.ref 81), some (.int x1), some (.int (x2 + 1))] [] (sM mo G I J) Q) :=
  (sm_blk X 280 93 (tt_lin 280 (by decide)) rfl rfl _ _ _ _).trans rfl
set_option maxRecDepth 100000 in
theorem bk_280_99 (X : (Nat → Int32) × Nat) (mo : Bool) (G : Nat × Nat) (I : Nat → Nat → Int32) (J : Nat → Nat → Int64) (Q : Option Value → sm_M → Prop) (x1 : Int32) :
    sm_wp X 280 99 [some (.ref 81), some (.int x1), none] [] (sM mo G I J) Q =
    (sm_wp X 280 2 [some (.ref 81), some (.int (x1 + 1)), none] [] (sM mo G I J) Q) :=
  (sm_blk X 280 99 (tt_lin 280 (by decide)) rfl rfl _ _ _ _).trans rfl
set_option maxRecDepth 100000 in
theorem bk_280_105 (X : (Nat → Int32) × Nat) (mo : Bool) (G : Nat × Nat) (I : Nat → Nat → Int32) (J : Nat → Nat → Int64) (Q : Option Value → sm_M → Prop) (x1 : Int32) :
    sm_wp X 280 105 [some (.ref 81), some (.int x1), none] [] (sM mo G I J) Q =
    (sm_zb 1 ∧ Q (some (.int 1)) (sM mo G I J)) :=
  (sm_blk X 280 105 (tt_lin 280 (by decide)) rfl rfl _ _ _ _).trans rfl
set_option maxRecDepth 100000 in
theorem bk_281_0 (X : (Nat → Int32) × Nat) (mo : Bool) (G : Nat × Nat) (I : Nat → Nat → Int32) (J : Nat → Nat → Int64) (Q : Option Value → sm_M → Prop) (x1 : Int32) :
    sm_wp X 281 0 [some (.ref 81), some (.int x1)] [] (sM mo G I J) Q =
    (sm_wp X 282 0 [some (.ref 81), some (.int x1)] [] (sM mo G (up2 I 81 2 0) J) (fun v M => sm_wp X 281 10 [some (.ref 81), some (.int x1)] (v.toList ++ []) M Q)) :=
  (sm_blk X 281 0 (tt_lin 281 (by decide)) rfl rfl _ _ _ _).trans rfl
set_option maxRecDepth 100000 in
theorem bk_281_10 (X : (Nat → Int32) × Nat) (mo : Bool) (G : Nat × Nat) (I : Nat → Nat → Int32) (J : Nat → Nat → Int64) (Q : Option Value → sm_M → Prop) (x1 : Int32) (s0 : Int32) :
    sm_wp X 281 10 [some (.ref 81), some (.int x1)] [.int s0] (sM mo G I J) Q =
    (True ∧ Q (some (.int s0)) (sM mo G I J)) :=
  (sm_blk X 281 10 (tt_lin 281 (by decide)) rfl rfl _ _ _ _).trans rfl
set_option maxRecDepth 100000 in
theorem bk_282_0 (X : (Nat → Int32) × Nat) (mo : Bool) (G : Nat × Nat) (I : Nat → Nat → Int32) (J : Nat → Nat → Int64) (Q : Option Value → sm_M → Prop) (x1 : Int32) :
    sm_wp X 282 0 [some (.ref 81), some (.int x1)] [] (sM mo G I J) Q =
    (sm_wp X 210 0 [some (.int x1), some (.int 0), some (.int 13)] [] (sM mo G I J) (fun v M => sm_wp X 282 7 [some (.ref 81), some (.int x1)] (v.toList ++ []) M Q)) :=
  (sm_blk X 282 0 (tt_lin 282 (by decide)) rfl rfl _ _ _ _).trans rfl
set_option maxRecDepth 100000 in
theorem bk_282_7 (X : (Nat → Int32) × Nat) (mo : Bool) (G : Nat × Nat) (I : Nat → Nat → Int32) (J : Nat → Nat → Int64) (Q : Option Value → sm_M → Prop) (x1 : Int32) (s0 : Int32) :
    sm_wp X 282 7 [some (.ref 81), some (.int x1)] [.int s0] (sM mo G I J) Q =
    (if (s0 : Int32) = 0 then sm_wp X 282 31 [some (.ref 81), some (.int x1)] [] (sM mo G I J) Q else (if (12 : Int32) ≤ (x1 : Int32) then sm_wp X 282 24 [some (.ref 81), some (.int x1)] [] (sM mo G I J) Q else (sm_wp X 212 0 [some (.ref 81), some (.int x1)] [] (sM mo G I J) (fun v M => sm_wp X 282 21 [some (.ref 81), some (.int x1)] (v.toList ++ []) M Q)))) :=
  (sm_blk X 282 7 (tt_lin 282 (by decide)) rfl rfl _ _ _ _).trans rfl
set_option maxRecDepth 100000 in
theorem bk_282_21 (X : (Nat → Int32) × Nat) (mo : Bool) (G : Nat × Nat) (I : Nat → Nat → Int32) (J : Nat → Nat → Int64) (Q : Option Value → sm_M → Prop) (x1 : Int32) (s0 : Int32) :
    sm_wp X 282 21 [some (.ref 81), some (.int x1)] [.int s0] (sM mo G I J) Q =
    (if (s0 : Int32) = 0 then sm_wp X 282 31 [some (.ref 81), some (.int x1)] [] (sM mo G I J) Q else (sm_wp X 283 0 [some (.ref 81), none, none, none, none, none] [] (sM mo G I J) (fun v M => sm_wp X 282 28 [some (.ref 81), some (.int x1)] (v.toList ++ []) M Q))) :=
  (sm_blk X 282 21 (tt_lin 282 (by decide)) rfl rfl _ _ _ _).trans rfl
set_option maxRecDepth 100000 in
theorem bk_282_24 (X : (Nat → Int32) × Nat) (mo : Bool) (G : Nat × Nat) (I : Nat → Nat → Int32) (J : Nat → Nat → Int64) (Q : Option Value → sm_M → Prop) (x1 : Int32) :
    sm_wp X 282 24 [some (.ref 81), some (.int x1)] [] (sM mo G I J) Q =
    (sm_wp X 283 0 [some (.ref 81), none, none, none, none, none] [] (sM mo G I J) (fun v M => sm_wp X 282 28 [some (.ref 81), some (.int x1)] (v.toList ++ []) M Q)) :=
  (sm_blk X 282 24 (tt_lin 282 (by decide)) rfl rfl _ _ _ _).trans rfl
set_option maxRecDepth 100000 in
theorem bk_282_28 (X : (Nat → Int32) × Nat) (mo : Bool) (G : Nat × Nat) (I : Nat → Nat → Int32) (J : Nat → Nat → Int64) (Q : Option Value → sm_M → Prop) (x1 : Int32) (s0 : Int32) :
    sm_wp X 282 28 [some (.ref 81), some (.int x1)] [.int s0] (sM mo G I J) Q =
    (if ¬ (s0 : Int32) = 0 then sm_wp X 282 33 [some (.ref 81), some (.int x1)] [] (sM mo G I J) Q else (True ∧ Q (some (.int (-1))) (sM mo G I J))) :=
  (sm_blk X 282 28 (tt_lin 282 (by decide)) rfl rfl _ _ _ _).trans rfl
set_option maxRecDepth 100000 in
theorem bk_282_31 (X : (Nat → Int32) × Nat) (mo : Bool) (G : Nat × Nat) (I : Nat → Nat → Int32) (J : Nat → Nat → Int64) (Q : Option Value → sm_M → Prop) (x1 : Int32) :
    sm_wp X 282 31 [some (.ref 81), some (.int x1)] [] (sM mo G I J) Q =
    (True ∧ Q (some (.int (-1))) (sM mo G I J)) :=
  (sm_blk X 282 31 (tt_lin 282 (by decide)) rfl rfl _ _ _ _).trans rfl
set_option maxRecDepth 100000 in
theorem bk_282_33 (X : (Nat → Int32) × Nat) (mo : Bool) (G : Nat × Nat) (I : Nat → Nat → Int32) (J : Nat → Nat → Int64) (Q : Option Value → sm_M → Prop) (x1 : Int32) :
    sm_wp X 282 33 [some (.ref 81), some (.int x1)] [] (sM mo G I J) Q =
    (if (12 : Int32) ≤ (x1 : Int32) then sm_wp X 282 48 [some (.ref 81), some (.int x1)] [] (sM mo G I J) Q else (vp_in x1 12 ∧ (sm_wp X 282 65 [some (.ref 81), some (.int x1)] [.int (I 131 (x1.toNatClampNeg))] (sM mo G I J) Q))) :=
  (sm_blk X 282 33 (tt_lin 282 (by decide)) rfl rfl _ _ _ _).trans rfl
set_option maxRecDepth 100000 in
theorem bk_282_48 (X : (Nat → Int32) × Nat) (mo : Bool) (G : Nat × Nat) (I : Nat → Nat → Int32) (J : Nat → Nat → Int64) (Q : Option Value → sm_M → Prop) (x1 : Int32) :
    sm_wp X 282 48 [some (.ref 81), some (.int x1)] [] (sM mo G I J) Q =
    (if ¬ (x1 : Int32) = (12 : Int32) then sm_wp X 282 61 [some (.ref 81), some (.int x1)] [] (sM mo G I J) Q else (sm_wp X 282 65 [some (.ref 81), some (.int x1)] [.int (I 81 76)] (sM mo G I J) Q)) :=
  (sm_blk X 282 48 (tt_lin 282 (by decide)) rfl rfl _ _ _ _).trans rfl
set_option maxRecDepth 100000 in
theorem bk_282_61 (X : (Nat → Int32) × Nat) (mo : Bool) (G : Nat × Nat) (I : Nat → Nat → Int32) (J : Nat → Nat → Int64) (Q : Option Value → sm_M → Prop) (x1 : Int32) :
    sm_wp X 282 61 [some (.ref 81), some (.int x1)] [] (sM mo G I J) Q =
    (True ∧ Q (some (.int (I 81 77))) (sM mo G I J)) :=
  (sm_blk X 282 61 (tt_lin 282 (by decide)) rfl rfl _ _ _ _).trans rfl
set_option maxRecDepth 100000 in
theorem bk_282_65 (X : (Nat → Int32) × Nat) (mo : Bool) (G : Nat × Nat) (I : Nat → Nat → Int32) (J : Nat → Nat → Int64) (Q : Option Value → sm_M → Prop) (x1 : Int32) (s0 : Int32) :
    sm_wp X 282 65 [some (.ref 81), some (.int x1)] [.int s0] (sM mo G I J) Q =
    (True ∧ Q (some (.int s0)) (sM mo G I J)) :=
  (sm_blk X 282 65 (tt_lin 282 (by decide)) rfl rfl _ _ _ _).trans rfl
set_option maxRecDepth 100000 in
theorem bk_283_0 (X : (Nat → Int32) × Nat) (mo : Bool) (G : Nat × Nat) (I : Nat → Nat → Int32) (J : Nat → Nat → Int64) (Q : Option Value → sm_M → Prop)  :
    sm_wp X 283 0 [some (.ref 81), none, none, none, none, none] [] (sM mo G I J) Q =
    (sm_wp X 275 0 [some (.ref 81), none, none, none] [] (sM mo G I J) (fun v M => sm_wp X 283 4 [some (.ref 81), none, none, none, none, none] (v.toList ++ []) M Q)) :=
  (sm_blk X 283 0 (tt_lin 283 (by decide)) rfl rfl _ _ _ _).trans rfl
set_option maxRecDepth 100000 in
theorem bk_283_4 (X : (Nat → Int32) × Nat) (mo : Bool) (G : Nat × Nat) (I : Nat → Nat → Int32) (J : Nat → Nat → Int64) (Q : Option Value → sm_M → Prop)  :
    sm_wp X 283 4 [some (.ref 81), none, none, none, none, none] [] (sM mo G I J) Q =
    (sm_wp X 276 0 [some (.ref 81)] [] (sM mo G I J) (fun v M => sm_wp X 283 8 [some (.ref 81), none, none, none, none, none] (v.toList ++ []) M Q)) :=
  (sm_blk X 283 4 (tt_lin 283 (by decide)) rfl rfl _ _ _ _).trans rfl
set_option maxRecDepth 100000 in
theorem bk_283_8 (X : (Nat → Int32) × Nat) (mo : Bool) (G : Nat × Nat) (I : Nat → Nat → Int32) (J : Nat → Nat → Int64) (Q : Option Value → sm_M → Prop) (s0 : Int32) :
    sm_wp X 283 8 [some (.ref 81), none, none, none, none, none] [.int s0] (sM mo G I J) Q =
    (if ¬ (s0 : Int32) = 0 then sm_wp X 283 18 [some (.ref 81), none, none, none, none, none] [] (sM mo G I J) Q else (if ¬ (I 81 15 : Int32) = 0 then sm_wp X 283 20 [some (.ref 81), none, none, none, none, none] [] (sM mo G I J) Q else (sm_zb 0 ∧ Q (some (.int 0)) (sM mo G I J)))) :=
  (sm_blk X 283 8 (tt_lin 283 (by decide)) rfl rfl _ _ _ _).trans rfl
set_option maxRecDepth 100000 in
theorem bk_283_18 (X : (Nat → Int32) × Nat) (mo : Bool) (G : Nat × Nat) (I : Nat → Nat → Int32) (J : Nat → Nat → Int64) (Q : Option Value → sm_M → Prop)  :
    sm_wp X 283 18 [some (.ref 81), none, none, none, none, none] [] (sM mo G I J) Q =
    (sm_zb 0 ∧ Q (some (.int 0)) (sM mo G I J)) :=
  (sm_blk X 283 18 (tt_lin 283 (by decide)) rfl rfl _ _ _ _).trans rfl
set_option maxRecDepth 100000 in
theorem bk_283_20 (X : (Nat → Int32) × Nat) (mo : Bool) (G : Nat × Nat) (I : Nat → Nat → Int32) (J : Nat → Nat → Int64) (Q : Option Value → sm_M → Prop)  :
    sm_wp X 283 20 [some (.ref 81), none, none, none, none, none] [] (sM mo G I J) Q =
    (sm_wp X 277 0 [some (.ref 81), none, none, none, none, none, none, none] [] (sM mo G I J) (fun v M => sm_wp X 283 24 [some (.ref 81), none, none, none, none, none] (v.toList ++ []) M Q)) :=
  (sm_blk X 283 20 (tt_lin 283 (by decide)) rfl rfl _ _ _ _).trans rfl
set_option maxRecDepth 100000 in
theorem bk_283_24 (X : (Nat → Int32) × Nat) (mo : Bool) (G : Nat × Nat) (I : Nat → Nat → Int32) (J : Nat → Nat → Int64) (Q : Option Value → sm_M → Prop)  :
    sm_wp X 283 24 [some (.ref 81), none, none, none, none, none] [] (sM mo G I J) Q =
    (sm_wp X 283 28 [some (.ref 81), some (.int 0), some (.int 0), none, none, none] [] (sM mo G I J) Q) :=
  (sm_blk X 283 24 (tt_lin 283 (by decide)) rfl rfl _ _ _ _).trans rfl
set_option maxRecDepth 100000 in
theorem bk_283_28 (X : (Nat → Int32) × Nat) (mo : Bool) (G : Nat × Nat) (I : Nat → Nat → Int32) (J : Nat → Nat → Int64) (Q : Option Value → sm_M → Prop) (x1 : Int32) (x2 : Int32) :
    sm_wp X 283 28 [some (.ref 81), some (.int x1), some (.int x2), none, none, none] [] (sM mo G I J) Q =
    (if (I 81 69 : Int32) ≤ (x2 : Int32) then sm_wp X 283 266 [some (.ref 81), some (.int x1), some (.int x2), none, none, none] [] (sM mo G I J) Q else (sm_wp X 278 0 [some (.ref 81), some (.int x2), none, none] [] (sM mo G I J) (fun v M => sm_wp X 283 41 [some (.ref 81), some (.int x1), some (.int x2), none, none, none] (v.toList ++ []) M Q))) :=
  (sm_blk X 283 28 (tt_lin 283 (by decide)) rfl rfl _ _ _ _).trans rfl
set_option maxRecDepth 100000 in
theorem bk_283_41 (X : (Nat → Int32) × Nat) (mo : Bool) (G : Nat × Nat) (I : Nat → Nat → Int32) (J : Nat → Nat → Int64) (Q : Option Value → sm_M → Prop) (x1 : Int32) (x2 : Int32) :
    sm_wp X 283 41 [some (.ref 81), some (.int x1), some (.int x2), none, none, none] [] (sM mo G I J) Q =
    (sm_wp X 279 0 [some (.ref 81), none] [] (sM mo G I J) (fun v M => sm_wp X 283 45 [some (.ref 81), some (.int x1), some (.int x2), none, none, none] (v.toList ++ []) M Q)) :=
  (sm_blk X 283 41 (tt_lin 283 (by decide)) rfl rfl _ _ _ _).trans rfl
set_option maxRecDepth 100000 in
theorem bk_283_45 (X : (Nat → Int32) × Nat) (mo : Bool) (G : Nat × Nat) (I : Nat → Nat → Int32) (J : Nat → Nat → Int64) (Q : Option Value → sm_M → Prop) (x1 : Int32) (x2 : Int32) (s0 : Int32) :
    sm_wp X 283 45 [some (.ref 81), some (.int x1), some (.int x2), none, none, none] [.int s0] (sM mo G I J) Q =
    (if (s0 : Int32) = 0 then sm_wp X 283 260 [some (.ref 81), some (.int x1), some (.int x2), none, none, none] [] (sM mo G I J) Q else (sm_wp X 280 0 [some (.ref 81), none, none] [] (sM mo G I J) (fun v M => sm_wp X 283 52 [some (.ref 81), some (.int x1), some (.int x2), none, none, none] (v.toList ++ []) M Q))) :=
  (sm_blk X 283 45 (tt_lin 283 (by decide)) rfl rfl _ _ _ _).trans rfl
set_option maxRecDepth 100000 in
theorem bk_283_52 (X : (Nat → Int32) × Nat) (mo : Bool) (G : Nat × Nat) (I : Nat → Nat → Int32) (J : Nat → Nat → Int64) (Q : Option Value → sm_M → Prop) (x1 : Int32) (x2 : Int32) (s0 : Int32) :
    sm_wp X 283 52 [some (.ref 81), some (.int x1), some (.int x2), none, none, none] [.int s0] (sM mo G I J) Q =
    (if ¬ (s0 : Int32) = 0 then sm_wp X 283 58 [some (.ref 81), some (.int x1), some (.int x2), none, none, none] [] (sM mo G I J) Q else (sm_wp X 283 260 [some (.ref 81), some (.int x1), some (.int x2), none, none, none] [] (sM mo G I J) Q)) :=
  (sm_blk X 283 52 (tt_lin 283 (by decide)) rfl rfl _ _ _ _).trans rfl
set_option maxRecDepth 100000 in
theorem bk_283_58 (X : (Nat → Int32) × Nat) (mo : Bool) (G : Nat × Nat) (I : Nat → Nat → Int32) (J : Nat → Nat → Int64) (Q : Option Value → sm_M → Prop) (x1 : Int32) (x2 : Int32) :
    sm_wp X 283 58 [some (.ref 81), some (.int x1), some (.int x2), none, none, none] [] (sM mo G I J) Q =
    (sm_wp X 283 68 [some (.ref 81), some (.int x1), some (.int x2), some (.int 100000), some (.int 0), some (.int 0)] [] (sM mo G I J) Q) :=
  (sm_blk X 283 58 (tt_lin 283 (by decide)) rfl rfl _ _ _ _).trans rfl
set_option maxRecDepth 100000 in
theorem bk_283_68 (X : (Nat → Int32) × Nat) (mo : Bool) (G : Nat × Nat) (I : Nat → Nat → Int32) (J : Nat → Nat → Int64) (Q : Option Value → sm_M → Prop) (x1 : Int32) (x2 : Int32) (x3 : Int32) (x4 : Int32) (x5 : Int32) :
    sm_wp X 283 68 [some (.ref 81), some (.int x1), some (.int x2), some (.int x3), some (.int x4), some (.int x5)] [] (sM mo G I J) Q =
    (if (I 81 10 : Int32) ≤ (x5 : Int32) then sm_wp X 283 146 [some (.ref 81), some (.int x1), some (.int x2), some (.int x3), some (.int x4), some (.int x5)] [] (sM mo G I J) Q else (sm_wp X 215 0 [some (.ref 81), some (.int x5)] [] (sM mo G I J) (fun v M => sm_wp X 283 83 [some (.ref 81), some (.int x1), some (.int x2), some (.int x3), some (.int x4), some (.int x5)] (v.toList ++ []) M Q))) :=
  (sm_blk X 283 68 (tt_lin 283 (by decide)) rfl rfl _ _ _ _).trans rfl
set_option maxRecDepth 100000 in
theorem bk_283_83 (X : (Nat → Int32) × Nat) (mo : Bool) (G : Nat × Nat) (I : Nat → Nat → Int32) (J : Nat → Nat → Int64) (Q : Option Value → sm_M → Prop) (x1 : Int32) (x2 : Int32) (x3 : Int32) (x4 : Int32) (x5 : Int32) (s0 : Int32) :
    sm_wp X 283 83 [some (.ref 81), some (.int x1), some (.int x2), some (.int x3), some (.int x4), some (.int x5)] [.int s0] (sM mo G I J) Q =
    (if ¬ (s0 : Int32) = 0 then sm_wp X 283 89 [some (.ref 81), some (.int x1), some (.int x2), some (.int x3), some (.int x4), some (.int x5)] [] (sM mo G I J) Q else (sm_wp X 283 140 [some (.ref 81), some (.int x1), some (.int x2), some (.int x3), some (.int x4), some (.int x5)] [] (sM mo G I J) Q)) :=
  (sm_blk X 283 83 (tt_lin 283 (by decide)) rfl rfl _ _ _ _).trans rfl
set_option maxRecDepth 100000 in
theorem bk_283_89 (X : (Nat → Int32) × Nat) (mo : Bool) (G : Nat × Nat) (I : Nat → Nat → Int32) (J : Nat → Nat → Int64) (Q : Option Value → sm_M → Prop) (x1 : Int32) (x2 : Int32) (x3 : Int32) (x4 : Int32) (x5 : Int32) :
    sm_wp X 283 89 [some (.ref 81), some (.int x1), some (.int x2), some (.int x3), some (.int x4), some (.int x5)] [] (sM mo G I J) Q =
    (vp_in x5 6 ∧ (vp_in x5 6 ∧ (vp_in x5 6 ∧ (if (x3 : Int32) ≤ ((I 128 (x5.toNatClampNeg)) - (I 92 (x5.toNatClampNeg)) : Int32) then sm_wp X 283 138 [some (.ref 81), some (.int x1), some (.int x2), some (.int x3), some (.int (x4 + (I 128 (x5.toNatClampNeg)))), some (.int x5)] [] (sM mo G I J) Q else (vp_in x5 6 ∧ (vp_in x5 6 ∧ (sm_wp X 283 139 [some (.ref 81), some (.int x1), some (.int x2), some (.int x3), some (.int (x4 + (I 128 (x5.toNatClampNeg)))), some (.int x5)] [.int ((I 128 (x5.toNatClampNeg)) - (I 92 (x5.toNatClampNeg)))] (sM mo G I J) Q))))))) :=
  (sm_blk X 283 89 (tt_lin 283 (by decide)) rfl rfl _ _ _ _).trans rfl
set_option maxRecDepth 100000 in
theorem bk_283_138 (X : (Nat → Int32) × Nat) (mo : Bool) (G : Nat × Nat) (I : Nat → Nat → Int32) (J : Nat → Nat → Int64) (Q : Option Value → sm_M → Prop) (x1 : Int32) (x2 : Int32) (x3 : Int32) (x4 : Int32) (x5 : Int32) :
    sm_wp X 283 138 [some (.ref 81), some (.int x1), some (.int x2), some (.int x3), some (.int x4), some (.int x5)] [] (sM mo G I J) Q =
    (sm_wp X 283 68 [some (.ref 81), some (.int x1), some (.int x2), some (.int x3), some (.int x4), some (.int (x5 + 1))] [] (sM mo G I J) Q) :=
  (sm_blk X 283 138 (tt_lin 283 (by decide)) rfl rfl _ _ _ _).trans rfl
set_option maxRecDepth 100000 in
theorem bk_283_139 (X : (Nat → Int32) × Nat) (mo : Bool) (G : Nat × Nat) (I : Nat → Nat → Int32) (J : Nat → Nat → Int64) (Q : Option Value → sm_M → Prop) (x1 : Int32) (x2 : Int32) (x3 : Int32) (x4 : Int32) (x5 : Int32) (s0 : Int32) :
    sm_wp X 283 139 [some (.ref 81), some (.int x1), some (.int x2), some (.int x3), some (.int x4), some (.int x5)] [.int s0] (sM mo G I J) Q =
    (sm_wp X 283 68 [some (.ref 81), some (.int x1), some (.int x2), some (.int s0), some (.int x4), some (.int (x5 + 1))] [] (sM mo G I J) Q) :=
  (sm_blk X 283 139 (tt_lin 283 (by decide)) rfl rfl _ _ _ _).trans rfl
set_option maxRecDepth 100000 in
theorem bk_283_140 (X : (Nat → Int32) × Nat) (mo : Bool) (G : Nat × Nat) (I : Nat → Nat → Int32) (J : Nat → Nat → Int64) (Q : Option Value → sm_M → Prop) (x1 : Int32) (x2 : Int32) (x3 : Int32) (x4 : Int32) (x5 : Int32) :
    sm_wp X 283 140 [some (.ref 81), some (.int x1), some (.int x2), some (.int x3), some (.int x4), some (.int x5)] [] (sM mo G I J) Q =
    (sm_wp X 283 68 [some (.ref 81), some (.int x1), some (.int x2), some (.int x3), some (.int x4), some (.int (x5 + 1))] [] (sM mo G I J) Q) :=
  (sm_blk X 283 140 (tt_lin 283 (by decide)) rfl rfl _ _ _ _).trans rfl
set_option maxRecDepth 100000 in
theorem bk_283_146 (X : (Nat → Int32) × Nat) (mo : Bool) (G : Nat × Nat) (I : Nat → Nat → Int32) (J : Nat → Nat → Int64) (Q : Option Value → sm_M → Prop) (x1 : Int32) (x2 : Int32) (x3 : Int32) (x4 : Int32) (x5 : Int32) :
    sm_wp X 283 146 [some (.ref 81), some (.int x1), some (.int x2), some (.int x3), some (.int x4), some (.int x5)] [] (sM mo G I J) Q =
    (if (x1 : Int32) = 0 then sm_wp X 283 178 [some (.ref 81), some (.int x1), some (.int x2), some (.int x3), some (.int x4), some (.int x5)] [] (sM mo G I J) Q else (if (x3 : Int32) < (I 81 76 : Int32) then sm_wp X 283 260 [some (.ref 81), some (.int x1), some (.int x2), some (.int x3), some (.int x4), some (.int x5)] [] (sM mo G I J) Q else (if ¬ (x3 : Int32) = (I 81 76 : Int32) then sm_wp X 283 178 [some (.ref 81), some (.int x1), some (.int x2), some (.int x3), some (.int x4), some (.int x5)] [] (sM mo G I J) Q else (if (I 81 77 : Int32) < (x4 : Int32) then sm_wp X 283 178 [some (.ref 81), some (.int x1), some (.int x2), some (.int x3), some (.int x4), some (.int x5)] [] (sM mo G I J) Q else (sm_wp X 283 260 [some (.ref 81), some (.int x1), some (.int x2), some (.int x3), some (.int x4), some (.int x5)] [] (sM mo G I J) Q))))) :=
  (sm_blk X 283 146 (tt_lin 283 (by decide)) rfl rfl _ _ _ _).trans rfl
set_option maxRecDepth 100000 in
theorem bk_283_178 (X : (Nat → Int32) × Nat) (mo : Bool) (G : Nat × Nat) (I : Nat → Nat → Int32) (J : Nat → Nat → Int64) (Q : Option Value → sm_M → Prop) (x1 : Int32) (x2 : Int32) (x3 : Int32) (x4 : Int32) (x5 : Int32) :
    sm_wp X 283 178 [some (.ref 81), some (.int x1), some (.int x2), some (.int x3), some (.int x4), some (.int x5)] [] (sM mo G I J) Q =
    (sm_wp X 283 194 [some (.ref 81), some (.int 1), some (.int x2), none, none, some (.int 0)] [] (sM mo G (up2 (up2 I 81 76 x3) 81 77 x4) J) Q) :=
  (sm_blk X 283 178 (tt_lin 283 (by decide)) rfl rfl _ _ _ _).trans rfl
set_option maxRecDepth 100000 in
theorem bk_283_194 (X : (Nat → Int32) × Nat) (mo : Bool) (G : Nat × Nat) (I : Nat → Nat → Int32) (J : Nat → Nat → Int64) (Q : Option Value → sm_M → Prop) (x1 : Int32) (x2 : Int32) (x5 : Int32) :
    sm_wp X 283 194 [some (.ref 81), some (.int x1), some (.int x2), none, none, some (.int x5)] [] (sM mo G I J) Q =
    (if (I 81 3 : Int32) ≤ (x5 : Int32) then sm_wp X 283 223 [some (.ref 81), some (.int x1), some (.int x2), none, none, some (.int x5)] [] (sM mo G I J) Q else (vp_in x5 12 ∧ (vp_in x5 12 ∧ (sm_wp X 283 194 [some (.ref 81), some (.int x1), some (.int x2), none, none, some (.int (x5 + 1))] [] (sM mo G (up2 I 131 x5.toNatClampNeg (I 85 (x5.toNatClampNeg))) J) Q)))) :=
  (sm_blk X 283 194 (tt_lin 283 (by decide)) rfl rfl _ _ _ _).trans rfl
set_option maxRecDepth 100000 in
theorem bk_283_223 (X : (Nat → Int32) × Nat) (mo : Bool) (G : Nat × Nat) (I : Nat → Nat → Int32) (J : Nat → Nat → Int64) (Q : Option Value → sm_M → Prop) (x1 : Int32) (x2 : Int32) (x5 : Int32) :
    sm_wp X 283 223 [some (.ref 81), some (.int x1), some (.int x2), none, none, some (.int x5)] [] (sM mo G I J) Q =
    (sm_wp X 283 226 [some (.ref 81), some (.int x1), some (.int x2), none, none, some (.int 0)] [] (sM mo G I J) Q) :=
  (sm_blk X 283 223 (tt_lin 283 (by decide)) rfl rfl _ _ _ _).trans rfl
set_option maxRecDepth 100000 in
theorem bk_283_226 (X : (Nat → Int32) × Nat) (mo : Bool) (G : Nat × Nat) (I : Nat → Nat → Int32) (J : Nat → Nat → Int64) (Q : Option Value → sm_M → Prop) (x1 : Int32) (x2 : Int32) (x5 : Int32) :
    sm_wp X 283 226 [some (.ref 81), some (.int x1), some (.int x2), none, none, some (.int x5)] [] (sM mo G I J) Q =
    (if (I 81 65 : Int32) ≤ (x5 : Int32) then sm_wp X 283 260 [some (.ref 81), some (.int x1), some (.int x2), none, none, some (.int x5)] [] (sM mo G I J) Q else (vp_in x5 12 ∧ (vp_in x5 8 ∧ (vp_in (I 123 (x5.toNatClampNeg)) 12 ∧ (sm_wp X 283 226 [some (.ref 81), some (.int x1), some (.int x2), none, none, some (.int (x5 + 1))] [] (sM mo G (up2 I 131 (I 123 (x5.toNatClampNeg)).toNatClampNeg (I 129 (x5.toNatClampNeg))) J) Q))))) :=
  (sm_blk X 283 226 (tt_lin 283 (by decide)) rfl rfl _ _ _ _).trans rfl
set_option maxRecDepth 100000 in
theorem bk_283_260 (X : (Nat → Int32) × Nat) (mo : Bool) (G : Nat × Nat) (I : Nat → Nat → Int32) (J : Nat → Nat → Int64) (Q : Option Value → sm_M → Prop) (x1 : Int32) (x2 : Int32) :
    sm_wp X 283 260 [some (.ref 81), some (.int x1), some (.int x2), none, none, none] [] (sM mo G I J) Q =
    (sm_wp X 283 28 [some (.ref 81), some (.int x1), some (.int (x2 + 1)), none, none, none] [] (sM mo G I J) Q) :=
  (sm_blk X 283 260 (tt_lin 283 (by decide)) rfl rfl _ _ _ _).trans rfl
set_option maxRecDepth 100000 in
theorem bk_283_266 (X : (Nat → Int32) × Nat) (mo : Bool) (G : Nat × Nat) (I : Nat → Nat → Int32) (J : Nat → Nat → Int64) (Q : Option Value → sm_M → Prop) (x1 : Int32) (x2 : Int32) :
    sm_wp X 283 266 [some (.ref 81), some (.int x1), some (.int x2), none, none, none] [] (sM mo G I J) Q =
    (sm_zb x1 ∧ Q (some (.int x1)) (sM mo G I J)) :=
  (sm_blk X 283 266 (tt_lin 283 (by decide)) rfl rfl _ _ _ _).trans rfl
set_option maxRecDepth 100000 in
theorem bk_284_0 (X : (Nat → Int32) × Nat) (mo : Bool) (G : Nat × Nat) (I : Nat → Nat → Int32) (J : Nat → Nat → Int64) (Q : Option Value → sm_M → Prop) (x1 : Int32) (x2 : Int32) :
    sm_wp X 284 0 [some (.ref 81), some (.int x1), some (.int x2), none] [] (sM mo G I J) Q =
    (sm_wp X 215 0 [some (.ref 81), some (.int x1)] [] (sM mo G (up2 I 81 2 0) J) (fun v M => sm_wp X 284 10 [some (.ref 81), some (.int x1), some (.int x2), none] (v.toList ++ []) M Q)) :=
  (sm_blk X 284 0 (tt_lin 284 (by decide)) rfl rfl _ _ _ _).trans rfl
set_option maxRecDepth 100000 in
theorem bk_284_10 (X : (Nat → Int32) × Nat) (mo : Bool) (G : Nat × Nat) (I : Nat → Nat → Int32) (J : Nat → Nat → Int64) (Q : Option Value → sm_M → Prop) (x1 : Int32) (x2 : Int32) (s0 : Int32) :
    sm_wp X 284 10 [some (.ref 81), some (.int x1), some (.int x2), none] [.int s0] (sM mo G I J) Q =
    (if ¬ (s0 : Int32) = 0 then sm_wp X 284 15 [some (.ref 81), some (.int x1), some (.int x2), none] [] (sM mo G I J) Q else (True ∧ Q (some (.int (-1))) (sM mo G I J))) :=
  (sm_blk X 284 10 (tt_lin 284 (by decide)) rfl rfl _ _ _ _).trans rfl
set_option maxRecDepth 100000 in
theorem bk_284_15 (X : (Nat → Int32) × Nat) (mo : Bool) (G : Nat × Nat) (I : Nat → Nat → Int32) (J : Nat → Nat → Int64) (Q : Option Value → sm_M → Prop) (x1 : Int32) (x2 : Int32) :
    sm_wp X 284 15 [some (.ref 81), some (.int x1), some (.int x2), none] [] (sM mo G I J) Q =
    (sm_wp X 282 0 [some (.ref 81), some (.int x2)] [] (sM mo G (up2 I 81 15 ((I 81 15) ^^^ (1 <<< (x1 &&& 31)))) J) (fun v M => sm_wp X 284 32 [some (.ref 81), some (.int x1), some (.int x2), none] (v.toList ++ []) M Q)) :=
  (sm_blk X 284 15 (tt_lin 284 (by decide)) rfl rfl _ _ _ _).trans rfl
set_option maxRecDepth 100000 in
theorem bk_284_32 (X : (Nat → Int32) × Nat) (mo : Bool) (G : Nat × Nat) (I : Nat → Nat → Int32) (J : Nat → Nat → Int64) (Q : Option Value → sm_M → Prop) (x1 : Int32) (x2 : Int32) (s0 : Int32) :
    sm_wp X 284 32 [some (.ref 81), some (.int x1), some (.int x2), none] [.int s0] (sM mo G I J) Q =
    (True ∧ Q (some (.int s0)) (sM mo G (up2 I 81 15 ((I 81 15) ^^^ (1 <<< (x1 &&& 31)))) J)) :=
  (sm_blk X 284 32 (tt_lin 284 (by decide)) rfl rfl _ _ _ _).trans rfl
set_option maxRecDepth 100000 in
theorem bk_285_0 (X : (Nat → Int32) × Nat) (mo : Bool) (G : Nat × Nat) (I : Nat → Nat → Int32) (J : Nat → Nat → Int64) (Q : Option Value → sm_M → Prop)  :
    sm_wp X 285 0 [some (.ref 81), none, none, none, none] [] (sM mo G I J) Q =
    (sm_wp X 275 0 [some (.ref 81), none, none, none] [] (sM mo G (up2 I 81 2 0) J) (fun v M => sm_wp X 285 9 [some (.ref 81), none, none, none, none] (v.toList ++ []) M Q)) :=
  (sm_blk X 285 0 (tt_lin 285 (by decide)) rfl rfl _ _ _ _).trans rfl
set_option maxRecDepth 100000 in
theorem bk_285_9 (X : (Nat → Int32) × Nat) (mo : Bool) (G : Nat × Nat) (I : Nat → Nat → Int32) (J : Nat → Nat → Int64) (Q : Option Value → sm_M → Prop)  :
    sm_wp X 285 9 [some (.ref 81), none, none, none, none] [] (sM mo G I J) Q =
    (sm_wp X 276 0 [some (.ref 81)] [] (sM mo G I J) (fun v M => sm_wp X 285 13 [some (.ref 81), none, none, none, none] (v.toList ++ []) M Q)) :=
  (sm_blk X 285 9 (tt_lin 285 (by decide)) rfl rfl _ _ _ _).trans rfl
set_option maxRecDepth 100000 in
theorem bk_285_13 (X : (Nat → Int32) × Nat) (mo : Bool) (G : Nat × Nat) (I : Nat → Nat → Int32) (J : Nat → Nat → Int64) (Q : Option Value → sm_M → Prop) (s0 : Int32) :
    sm_wp X 285 13 [some (.ref 81), none, none, none, none] [.int s0] (sM mo G I J) Q =
    (if (s0 : Int32) = 0 then sm_wp X 285 18 [some (.ref 81), none, none, none, none] [] (sM mo G I J) Q else (True ∧ Q (some (.int (-1))) (sM mo G I J))) :=
  (sm_blk X 285 13 (tt_lin 285 (by decide)) rfl rfl _ _ _ _).trans rfl
set_option maxRecDepth 100000 in
theorem bk_285_18 (X : (Nat → Int32) × Nat) (mo : Bool) (G : Nat × Nat) (I : Nat → Nat → Int32) (J : Nat → Nat → Int64) (Q : Option Value → sm_M → Prop)  :
    sm_wp X 285 18 [some (.ref 81), none, none, none, none] [] (sM mo G I J) Q =
    (sm_wp X 285 20 [some (.ref 81), some (.int 0), none, none, none] [] (sM mo G I J) Q) :=
  (sm_blk X 285 18 (tt_lin 285 (by decide)) rfl rfl _ _ _ _).trans rfl
set_option maxRecDepth 100000 in
theorem bk_285_20 (X : (Nat → Int32) × Nat) (mo : Bool) (G : Nat × Nat) (I : Nat → Nat → Int32) (J : Nat → Nat → Int64) (Q : Option Value → sm_M → Prop) (x1 : Int32) :
    sm_wp X 285 20 [some (.ref 81), some (.int x1), none, none, none] [] (sM mo G I J) Q =
    (if (64 : Int32) ≤ (x1 : Int32) then sm_wp X 285 39 [some (.ref 81), some (.int x1), none, none, none] [] (sM mo G I J) Q else (vp_in x1 64 ∧ (sm_wp X 285 20 [some (.ref 81), some (.int (x1 + 1)), none, none, none] [] (sM mo G (up2 I 132 x1.toNatClampNeg (vp_nar .boolean 0)) J) Q))) :=
  (sm_blk X 285 20 (tt_lin 285 (by decide)) rfl rfl _ _ _ _).trans rfl
set_option maxRecDepth 100000 in
theorem bk_285_39 (X : (Nat → Int32) × Nat) (mo : Bool) (G : Nat × Nat) (I : Nat → Nat → Int32) (J : Nat → Nat → Int64) (Q : Option Value → sm_M → Prop) (x1 : Int32) :
    sm_wp X 285 39 [some (.ref 81), some (.int x1), none, none, none] [] (sM mo G I J) Q =
    (sm_wp X 285 41 [some (.ref 81), some (.int 0), none, none, none] [] (sM mo G I J) Q) :=
  (sm_blk X 285 39 (tt_lin 285 (by decide)) rfl rfl _ _ _ _).trans rfl
set_option maxRecDepth 100000 in
theorem bk_285_41 (X : (Nat → Int32) × Nat) (mo : Bool) (G : Nat × Nat) (I : Nat → Nat → Int32) (J : Nat → Nat → Int64) (Q : Option Value → sm_M → Prop) (x1 : Int32) :
    sm_wp X 285 41 [some (.ref 81), some (.int x1), none, none, none] [] (sM mo G I J) Q =
    (if (I 81 69 : Int32) ≤ (x1 : Int32) then sm_wp X 285 118 [some (.ref 81), some (.int x1), none, none, none] [] (sM mo G I J) Q else (sm_wp X 278 0 [some (.ref 81), some (.int x1), none, none] [] (sM mo G I J) (fun v M => sm_wp X 285 54 [some (.ref 81), some (.int x1), none, none, none] (v.toList ++ []) M Q))) :=
  (sm_blk X 285 41 (tt_lin 285 (by decide)) rfl rfl _ _ _ _).trans rfl
set_option maxRecDepth 100000 in
theorem bk_285_54 (X : (Nat → Int32) × Nat) (mo : Bool) (G : Nat × Nat) (I : Nat → Nat → Int32) (J : Nat → Nat → Int64) (Q : Option Value → sm_M → Prop) (x1 : Int32) :
    sm_wp X 285 54 [some (.ref 81), some (.int x1), none, none, none] [] (sM mo G I J) Q =
    (sm_wp X 285 58 [some (.ref 81), some (.int x1), some (.int 0), some (.int 0), none] [] (sM mo G I J) Q) :=
  (sm_blk X 285 54 (tt_lin 285 (by decide)) rfl rfl _ _ _ _).trans rfl
set_option maxRecDepth 100000 in
theorem bk_285_58 (X : (Nat → Int32) × Nat) (mo : Bool) (G : Nat × Nat) (I : Nat → Nat → Int32) (J : Nat → Nat → Int64) (Q : Option Value → sm_M → Prop) (x1 : Int32) (x2 : Int32) (x3 : Int32) :
    sm_wp X 285 58 [some (.ref 81), some (.int x1), some (.int x2), some (.int x3), none] [] (sM mo G I J) Q =
    (if (I 81 10 : Int32) ≤ (x3 : Int32) then sm_wp X 285 105 [some (.ref 81), some (.int x1), some (.int x2), some (.int x3), none] [] (sM mo G I J) Q else (sm_wp X 215 0 [some (.ref 81), some (.int x3)] [] (sM mo G I J) (fun v M => sm_wp X 285 72 [some (.ref 81), some (.int x1), some (.int x2), some (.int x3), none] (v.toList ++ [.int x2]) M Q))) :=
  (sm_blk X 285 58 (tt_lin 285 (by decide)) rfl rfl _ _ _ _).trans rfl
set_option maxRecDepth 100000 in
theorem bk_285_72 (X : (Nat → Int32) × Nat) (mo : Bool) (G : Nat × Nat) (I : Nat → Nat → Int32) (J : Nat → Nat → Int64) (Q : Option Value → sm_M → Prop) (x1 : Int32) (x2 : Int32) (x3 : Int32) (s0 : Int32) (s1 : Int32) :
    sm_wp X 285 72 [some (.ref 81), some (.int x1), some (.int x2), some (.int x3), none] [.int s1, .int s0] (sM mo G I J) Q =
    (if (s1 : Int32) = 0 then sm_wp X 285 96 [some (.ref 81), some (.int x1), some (.int x2), some (.int x3), none] [.int s0] (sM mo G I J) Q else (vp_in x3 6 ∧ (vp_in x3 6 ∧ (if (I 128 (x3.toNatClampNeg) : Int32) < (I 92 (x3.toNatClampNeg) : Int32) then sm_wp X 285 96 [some (.ref 81), some (.int x1), some (.int x2), some (.int x3), none] [.int s0] (sM mo G I J) Q else (sm_wp X 285 97 [some (.ref 81), some (.int x1), some (.int x2), some (.int x3), none] [.int (1 <<< (x3 &&& 31)), .int s0] (sM mo G I J) Q))))) :=
  (sm_blk X 285 72 (tt_lin 285 (by decide)) rfl rfl _ _ _ _).trans rfl
set_option maxRecDepth 100000 in
theorem bk_285_96 (X : (Nat → Int32) × Nat) (mo : Bool) (G : Nat × Nat) (I : Nat → Nat → Int32) (J : Nat → Nat → Int64) (Q : Option Value → sm_M → Prop) (x1 : Int32) (x2 : Int32) (x3 : Int32) (s0 : Int32) :
    sm_wp X 285 96 [some (.ref 81), some (.int x1), some (.int x2), some (.int x3), none] [.int s0] (sM mo G I J) Q =
    (sm_wp X 285 58 [some (.ref 81), some (.int x1), some (.int (s0 ||| 0)), some (.int (x3 + 1)), none] [] (sM mo G I J) Q) :=
  (sm_blk X 285 96 (tt_lin 285 (by decide)) rfl rfl _ _ _ _).trans rfl
set_option maxRecDepth 100000 in
theorem bk_285_97 (X : (Nat → Int32) × Nat) (mo : Bool) (G : Nat × Nat) (I : Nat → Nat → Int32) (J : Nat → Nat → Int64) (Q : Option Value → sm_M → Prop) (x1 : Int32) (x2 : Int32) (x3 : Int32) (s0 : Int32) (s1 : Int32) :
    sm_wp X 285 97 [some (.ref 81), some (.int x1), some (.int x2), some (.int x3), none] [.int s1, .int s0] (sM mo G I J) Q =
    (sm_wp X 285 58 [some (.ref 81), some (.int x1), some (.int (s0 ||| s1)), some (.int (x3 + 1)), none] [] (sM mo G I J) Q) :=
  (sm_blk X 285 97 (tt_lin 285 (by decide)) rfl rfl _ _ _ _).trans rfl
set_option maxRecDepth 100000 in
theorem bk_285_105 (X : (Nat → Int32) × Nat) (mo : Bool) (G : Nat × Nat) (I : Nat → Nat → Int32) (J : Nat → Nat → Int64) (Q : Option Value → sm_M → Prop) (x1 : Int32) (x2 : Int32) (x3 : Int32) :
    sm_wp X 285 105 [some (.ref 81), some (.int x1), some (.int x2), some (.int x3), none] [] (sM mo G I J) Q =
    (vp_in x2 64 ∧ (sm_wp X 285 41 [some (.ref 81), some (.int (x1 + 1)), none, none, none] [] (sM mo G (up2 I 132 x2.toNatClampNeg (vp_nar .boolean 1)) J) Q)) :=
  (sm_blk X 285 105 (tt_lin 285 (by decide)) rfl rfl _ _ _ _).trans rfl
set_option maxRecDepth 100000 in
theorem bk_285_118 (X : (Nat → Int32) × Nat) (mo : Bool) (G : Nat × Nat) (I : Nat → Nat → Int32) (J : Nat → Nat → Int64) (Q : Option Value → sm_M → Prop) (x1 : Int32) :
    sm_wp X 285 118 [some (.ref 81), some (.int x1), none, none, none] [] (sM mo G I J) Q =
    (sm_wp X 285 122 [some (.ref 81), some (.int 0), some (.int 1), none, none] [] (sM mo G I J) Q) :=
  (sm_blk X 285 118 (tt_lin 285 (by decide)) rfl rfl _ _ _ _).trans rfl
set_option maxRecDepth 100000 in
theorem bk_285_122 (X : (Nat → Int32) × Nat) (mo : Bool) (G : Nat × Nat) (I : Nat → Nat → Int32) (J : Nat → Nat → Int64) (Q : Option Value → sm_M → Prop) (x1 : Int32) (x2 : Int32) :
    sm_wp X 285 122 [some (.ref 81), some (.int x1), some (.int x2), none, none] [] (sM mo G I J) Q =
    (if (64 : Int32) ≤ (x2 : Int32) then sm_wp X 285 216 [some (.ref 81), some (.int x1), some (.int x2), none, none] [] (sM mo G I J) Q else (if (x2 &&& ((I 81 15) ^^^ (-1)) : Int32) = 0 then sm_wp X 285 142 [some (.ref 81), some (.int x1), some (.int x2), none, none] [] (sM mo G I J) Q else (sm_wp X 285 210 [some (.ref 81), some (.int x1), some (.int x2), none, none] [] (sM mo G I J) Q))) :=
  (sm_blk X 285 122 (tt_lin 285 (by decide)) rfl rfl _ _ _ _).trans rfl
set_option maxRecDepth 100000 in
theorem bk_285_142 (X : (Nat → Int32) × Nat) (mo : Bool) (G : Nat × Nat) (I : Nat → Nat → Int32) (J : Nat → Nat → Int64) (Q : Option Value → sm_M → Prop) (x1 : Int32) (x2 : Int32) :
    sm_wp X 285 142 [some (.ref 81), some (.int x1), some (.int x2), none, none] [] (sM mo G I J) Q =
    (sm_wp X 285 147 [some (.ref 81), some (.int x1), some (.int x2), some (.int 0), some (.int 0)] [] (sM mo G I J) Q) :=
  (sm_blk X 285 142 (tt_lin 285 (by decide)) rfl rfl _ _ _ _).trans rfl
set_option maxRecDepth 100000 in
theorem bk_285_147 (X : (Nat → Int32) × Nat) (mo : Bool) (G : Nat × Nat) (I : Nat → Nat → Int32) (J : Nat → Nat → Int64) (Q : Option Value → sm_M → Prop) (x1 : Int32) (x2 : Int32) (x3 : Int32) (x4 : Int32) :
    sm_wp X 285 147 [some (.ref 81), some (.int x1), some (.int x2), some (.int x3), some (.int x4)] [] (sM mo G I J) Q =
    (if (64 : Int32) ≤ (x4 : Int32) then sm_wp X 285 189 [some (.ref 81), some (.int x1), some (.int x2), some (.int x3), some (.int x4)] [] (sM mo G I J) Q else (if ¬ (x3 : Int32) = 0 then sm_wp X 285 177 [some (.ref 81), some (.int x1), some (.int x2), some (.int x3), some (.int x4)] [] (sM mo G I J) Q else (vp_in x4 64 ∧ (if (I 132 (x4.toNatClampNeg) : Int32) = 0 then sm_wp X 285 181 [some (.ref 81), some (.int x1), some (.int x2), some (.int x3), some (.int x4)] [] (sM mo G I J) Q else (if ¬ (x2 &&& (x4 ^^^ (-1)) : Int32) = 0 then sm_wp X 285 181 [some (.ref 81), some (.int x1), some (.int x2), some (.int x3), some (.int x4)] [] (sM mo G I J) Q else (sm_wp X 285 182 [some (.ref 81), some (.int x1), some (.int x2), some (.int x3), some (.int x4)] [.int 1] (sM mo G I J) Q)))))) :=
  (sm_blk X 285 147 (tt_lin 285 (by decide)) rfl rfl _ _ _ _).trans rfl
set_option maxRecDepth 100000 in
theorem bk_285_177 (X : (Nat → Int32) × Nat) (mo : Bool) (G : Nat × Nat) (I : Nat → Nat → Int32) (J : Nat → Nat → Int64) (Q : Option Value → sm_M → Prop) (x1 : Int32) (x2 : Int32) (x3 : Int32) (x4 : Int32) :
    sm_wp X 285 177 [some (.ref 81), some (.int x1), some (.int x2), some (.int x3), some (.int x4)] [] (sM mo G I J) Q =
    (sm_wp X 285 182 [some (.ref 81), some (.int x1), some (.int x2), some (.int x3), some (.int x4)] [.int 1] (sM mo G I J) Q) :=
  (sm_blk X 285 177 (tt_lin 285 (by decide)) rfl rfl _ _ _ _).trans rfl
set_option maxRecDepth 100000 in
theorem bk_285_181 (X : (Nat → Int32) × Nat) (mo : Bool) (G : Nat × Nat) (I : Nat → Nat → Int32) (J : Nat → Nat → Int64) (Q : Option Value → sm_M → Prop) (x1 : Int32) (x2 : Int32) (x3 : Int32) (x4 : Int32) :
    sm_wp X 285 181 [some (.ref 81), some (.int x1), some (.int x2), some (.int x3), some (.int x4)] [] (sM mo G I J) Q =
    (sm_wp X 285 147 [some (.ref 81), some (.int x1), some (.int x2), some (.int 0), some (.int (x4 + 1))] [] (sM mo G I J) Q) :=
  (sm_blk X 285 181 (tt_lin 285 (by decide)) rfl rfl _ _ _ _).trans rfl
set_option maxRecDepth 100000 in
theorem bk_285_182 (X : (Nat → Int32) × Nat) (mo : Bool) (G : Nat × Nat) (I : Nat → Nat → Int32) (J : Nat → Nat → Int64) (Q : Option Value → sm_M → Prop) (x1 : Int32) (x2 : Int32) (x3 : Int32) (x4 : Int32) (s0 : Int32) :
    sm_wp X 285 182 [some (.ref 81), some (.int x1), some (.int x2), some (.int x3), some (.int x4)] [.int s0] (sM mo G I J) Q =
    (sm_wp X 285 147 [some (.ref 81), some (.int x1), some (.int x2), some (.int s0), some (.int (x4 + 1))] [] (sM mo G I J) Q) :=
  (sm_blk X 285 182 (tt_lin 285 (by decide)) rfl rfl _ _ _ _).trans rfl
set_option maxRecDepth 100000 in
theorem bk_285_189 (X : (Nat → Int32) × Nat) (mo : Bool) (G : Nat × Nat) (I : Nat → Nat → Int32) (J : Nat → Nat → Int64) (Q : Option Value → sm_M → Prop) (x1 : Int32) (x2 : Int32) (x3 : Int32) (x4 : Int32) :
    sm_wp X 285 189 [some (.ref 81), some (.int x1), some (.int x2), some (.int x3), some (.int x4)] [] (sM mo G I J) Q =
    (if ¬ (x3 : Int32) = 0 then sm_wp X 285 210 [some (.ref 81), some (.int x1), some (.int x2), some (.int x3), some (.int x4)] [] (sM mo G I J) Q else (if (x1 : Int32) = 0 then sm_wp X 285 208 [some (.ref 81), some (.int x1), some (.int x2), some (.int x3), some (.int x4)] [] (sM mo G I J) Q else (sm_wp X 219 0 [some (.int x2), none, none] [] (sM mo G I J) (fun v M => sm_wp X 285 201 [some (.ref 81), some (.int x1), some (.int x2), some (.int x3), some (.int x4)] (v.toList ++ []) M Q)))) :=
  (sm_blk X 285 189 (tt_lin 285 (by decide)) rfl rfl _ _ _ _).trans rfl
set_option maxRecDepth 100000 in
theorem bk_285_201 (X : (Nat → Int32) × Nat) (mo : Bool) (G : Nat × Nat) (I : Nat → Nat → Int32) (J : Nat → Nat → Int64) (Q : Option Value → sm_M → Prop) (x1 : Int32) (x2 : Int32) (x3 : Int32) (x4 : Int32) (s0 : Int32) :
    sm_wp X 285 201 [some (.ref 81), some (.int x1), some (.int x2), some (.int x3), some (.int x4)] [.int s0] (sM mo G I J) Q =
    (sm_wp X 219 0 [some (.int x1), none, none] [] (sM mo G I J) (fun v M => sm_wp X 285 205 [some (.ref 81), some (.int x1), some (.int x2), some (.int x3), some (.int x4)] (v.toList ++ [.int s0]) M Q)) :=
  (sm_blk X 285 201 (tt_lin 285 (by decide)) rfl rfl _ _ _ _).trans rfl
set_option maxRecDepth 100000 in
theorem bk_285_205 (X : (Nat → Int32) × Nat) (mo : Bool) (G : Nat × Nat) (I : Nat → Nat → Int32) (J : Nat → Nat → Int64) (Q : Option Value → sm_M → Prop) (x1 : Int32) (x2 : Int32) (x3 : Int32) (x4 : Int32) (s0 : Int32) (s1 : Int32) :
    sm_wp X 285 205 [some (.ref 81), some (.int x1), some (.int x2), some (.int x3), some (.int x4)] [.int s1, .int s0] (sM mo G I J) Q =
    (if (s1 : Int32) ≤ (s0 : Int32) then sm_wp X 285 210 [some (.ref 81), some (.int x1), some (.int x2), some (.int x3), some (.int x4)] [] (sM mo G I J) Q else (sm_wp X 285 122 [some (.ref 81), some (.int x2), some (.int (x2 + 1)), none, none] [] (sM mo G I J) Q)) :=
  (sm_blk X 285 205 (tt_lin 285 (by decide)) rfl rfl _ _ _ _).trans rfl
set_option maxRecDepth 100000 in
theorem bk_285_208 (X : (Nat → Int32) × Nat) (mo : Bool) (G : Nat × Nat) (I : Nat → Nat → Int32) (J : Nat → Nat → Int64) (Q : Option Value → sm_M → Prop) (x1 : Int32) (x2 : Int32) (x3 : Int32) (x4 : Int32) :
    sm_wp X 285 208 [some (.ref 81), some (.int x1), some (.int x2), some (.int x3), some (.int x4)] [] (sM mo G I J) Q =
    (sm_wp X 285 122 [some (.ref 81), some (.int x2), some (.int (x2 + 1)), none, none] [] (sM mo G I J) Q) :=
  (sm_blk X 285 208 (tt_lin 285 (by decide)) rfl rfl _ _ _ _).trans rfl
set_option maxRecDepth 100000 in
theorem bk_285_210 (X : (Nat → Int32) × Nat) (mo : Bool) (G : Nat × Nat) (I : Nat → Nat → Int32) (J : Nat → Nat → Int64) (Q : Option Value → sm_M → Prop) (x1 : Int32) (x2 : Int32) :
    sm_wp X 285 210 [some (.ref 81), some (.int x1), some (.int x2), none, none] [] (sM mo G I J) Q =
    (sm_wp X 285 122 [some (.ref 81), some (.int x1), some (.int (x2 + 1)), none, none] [] (sM mo G I J) Q) :=
  (sm_blk X 285 210 (tt_lin 285 (by decide)) rfl rfl _ _ _ _).trans rfl
set_option maxRecDepth 100000 in
theorem bk_285_216 (X : (Nat → Int32) × Nat) (mo : Bool) (G : Nat × Nat) (I : Nat → Nat → Int32) (J : Nat → Nat → Int64) (Q : Option Value → sm_M → Prop) (x1 : Int32) (x2 : Int32) :
    sm_wp X 285 216 [some (.ref 81), some (.int x1), some (.int x2), none, none] [] (sM mo G I J) Q =
    (True ∧ Q (some (.int x1)) (sM mo G I J)) :=
  (sm_blk X 285 216 (tt_lin 285 (by decide)) rfl rfl _ _ _ _).trans rfl
set_option maxRecDepth 100000 in
theorem bk_286_0 (X : (Nat → Int32) × Nat) (mo : Bool) (G : Nat × Nat) (I : Nat → Nat → Int32) (J : Nat → Nat → Int64) (Q : Option Value → sm_M → Prop) (x1 : Int32) :
    sm_wp X 286 0 [some (.ref 81), some (.int x1), none, none] [] (sM mo G I J) Q =
    (sm_wp X 275 0 [some (.ref 81), none, none, none] [] (sM mo G (up2 I 81 2 0) J) (fun v M => sm_wp X 286 9 [some (.ref 81), some (.int x1), none, none] (v.toList ++ []) M Q)) :=
  (sm_blk X 286 0 (tt_lin 286 (by decide)) rfl rfl _ _ _ _).trans rfl
set_option maxRecDepth 100000 in
theorem bk_286_9 (X : (Nat → Int32) × Nat) (mo : Bool) (G : Nat × Nat) (I : Nat → Nat → Int32) (J : Nat → Nat → Int64) (Q : Option Value → sm_M → Prop) (x1 : Int32) :
    sm_wp X 286 9 [some (.ref 81), some (.int x1), none, none] [] (sM mo G I J) Q =
    (sm_wp X 276 0 [some (.ref 81)] [] (sM mo G I J) (fun v M => sm_wp X 286 13 [some (.ref 81), some (.int x1), none, none] (v.toList ++ []) M Q)) :=
  (sm_blk X 286 9 (tt_lin 286 (by decide)) rfl rfl _ _ _ _).trans rfl
set_option maxRecDepth 100000 in
theorem bk_286_13 (X : (Nat → Int32) × Nat) (mo : Bool) (G : Nat × Nat) (I : Nat → Nat → Int32) (J : Nat → Nat → Int64) (Q : Option Value → sm_M → Prop) (x1 : Int32) (s0 : Int32) :
    sm_wp X 286 13 [some (.ref 81), some (.int x1), none, none] [.int s0] (sM mo G I J) Q =
    (if (s0 : Int32) = 0 then sm_wp X 286 18 [some (.ref 81), some (.int x1), none, none] [] (sM mo G I J) Q else (True ∧ Q (some (.int (-1))) (sM mo G I J))) :=
  (sm_blk X 286 13 (tt_lin 286 (by decide)) rfl rfl _ _ _ _).trans rfl
set_option maxRecDepth 100000 in
theorem bk_286_18 (X : (Nat → Int32) × Nat) (mo : Bool) (G : Nat × Nat) (I : Nat → Nat → Int32) (J : Nat → Nat → Int64) (Q : Option Value → sm_M → Prop) (x1 : Int32) :
    sm_wp X 286 18 [some (.ref 81), some (.int x1), none, none] [] (sM mo G I J) Q =
    (sm_wp X 286 20 [some (.ref 81), some (.int x1), some (.int 0), none] [] (sM mo G I J) Q) :=
  (sm_blk X 286 18 (tt_lin 286 (by decide)) rfl rfl _ _ _ _).trans rfl
set_option maxRecDepth 100000 in
theorem bk_286_20 (X : (Nat → Int32) × Nat) (mo : Bool) (G : Nat × Nat) (I : Nat → Nat → Int32) (J : Nat → Nat → Int64) (Q : Option Value → sm_M → Prop) (x1 : Int32) (x2 : Int32) :
    sm_wp X 286 20 [some (.ref 81), some (.int x1), some (.int x2), none] [] (sM mo G I J) Q =
    (if (6 : Int32) ≤ (x2 : Int32) then sm_wp X 286 44 [some (.ref 81), some (.int x1), some (.int x2), none] [] (sM mo G I J) Q else (vp_in x2 6 ∧ (vp_in x2 6 ∧ (sm_wp X 286 20 [some (.ref 81), some (.int x1), some (.int (x2 + 1)), none] [] (sM mo G (up2 I 128 x2.toNatClampNeg (I 126 (x2.toNatClampNeg))) J) Q)))) :=
  (sm_blk X 286 20 (tt_lin 286 (by decide)) rfl rfl _ _ _ _).trans rfl
set_option maxRecDepth 100000 in
theorem bk_286_44 (X : (Nat → Int32) × Nat) (mo : Bool) (G : Nat × Nat) (I : Nat → Nat → Int32) (J : Nat → Nat → Int64) (Q : Option Value → sm_M → Prop) (x1 : Int32) (x2 : Int32) :
    sm_wp X 286 44 [some (.ref 81), some (.int x1), some (.int x2), none] [] (sM mo G I J) Q =
    (sm_wp X 286 46 [some (.ref 81), some (.int x1), some (.int 0), none] [] (sM mo G I J) Q) :=
  (sm_blk X 286 44 (tt_lin 286 (by decide)) rfl rfl _ _ _ _).trans rfl
set_option maxRecDepth 100000 in
theorem bk_286_46 (X : (Nat → Int32) × Nat) (mo : Bool) (G : Nat × Nat) (I : Nat → Nat → Int32) (J : Nat → Nat → Int64) (Q : Option Value → sm_M → Prop) (x1 : Int32) (x2 : Int32) :
    sm_wp X 286 46 [some (.ref 81), some (.int x1), some (.int x2), none] [] (sM mo G I J) Q =
    (if (I 81 65 : Int32) ≤ (x2 : Int32) then sm_wp X 286 122 [some (.ref 81), some (.int x1), some (.int x2), none] [] (sM mo G I J) Q else (sm_wp X 215 0 [some (.ref 81), some (.int ((x1 >>> ((3 * x2) &&& 31)) &&& 7))] [] (sM mo G I J) (fun v M => sm_wp X 286 68 [some (.ref 81), some (.int x1), some (.int x2), some (.int ((x1 >>> ((3 * x2) &&& 31)) &&& 7))] (v.toList ++ []) M Q))) :=
  (sm_blk X 286 46 (tt_lin 286 (by decide)) rfl rfl _ _ _ _).trans rfl
set_option maxRecDepth 100000 in
theorem bk_286_68 (X : (Nat → Int32) × Nat) (mo : Bool) (G : Nat × Nat) (I : Nat → Nat → Int32) (J : Nat → Nat → Int64) (Q : Option Value → sm_M → Prop) (x1 : Int32) (x2 : Int32) (x3 : Int32) (s0 : Int32) :
    sm_wp X 286 68 [some (.ref 81), some (.int x1), some (.int x2), some (.int x3)] [.int s0] (sM mo G I J) Q =
    (if (s0 : Int32) = 0 then sm_wp X 286 89 [some (.ref 81), some (.int x1), some (.int x2), some (.int x3)] [] (sM mo G I J) Q else (vp_in x2 12 ∧ (vp_in (I 123 (x2.toNatClampNeg)) 12 ∧ (if ¬ (((I 86 ((I 123 (x2.toNatClampNeg)).toNatClampNeg)) >>> (x3 &&& 31)) &&& 1 : Int32) = 0 then sm_wp X 286 91 [some (.ref 81), some (.int x1), some (.int x2), some (.int x3)] [] (sM mo G I J) Q else (True ∧ Q (some (.int 0)) (sM mo G I J)))))) :=
  (sm_blk X 286 68 (tt_lin 286 (by decide)) rfl rfl _ _ _ _).trans rfl
set_option maxRecDepth 100000 in
theorem bk_286_89 (X : (Nat → Int32) × Nat) (mo : Bool) (G : Nat × Nat) (I : Nat → Nat → Int32) (J : Nat → Nat → Int64) (Q : Option Value → sm_M → Prop) (x1 : Int32) (x2 : Int32) (x3 : Int32) :
    sm_wp X 286 89 [some (.ref 81), some (.int x1), some (.int x2), some (.int x3)] [] (sM mo G I J) Q =
    (True ∧ Q (some (.int 0)) (sM mo G I J)) :=
  (sm_blk X 286 89 (tt_lin 286 (by decide)) rfl rfl _ _ _ _).trans rfl
set_option maxRecDepth 100000 in
theorem bk_286_91 (X : (Nat → Int32) × Nat) (mo : Bool) (G : Nat × Nat) (I : Nat → Nat → Int32) (J : Nat → Nat → Int64) (Q : Option Value → sm_M → Prop) (x1 : Int32) (x2 : Int32) (x3 : Int32) :
    sm_wp X 286 91 [some (.ref 81), some (.int x1), some (.int x2), some (.int x3)] [] (sM mo G I J) Q =
    (vp_in x3 6 ∧ (vp_in x2 12 ∧ (vp_in ((12 * x3) + (I 123 (x2.toNatClampNeg))) 72 ∧ (vp_in x3 6 ∧ (sm_wp X 286 46 [some (.ref 81), some (.int x1), some (.int (x2 + 1)), none] [] (sM mo G (up2 I 128 x3.toNatClampNeg ((I 128 (x3.toNatClampNeg)) + (I 91 (((12 * x3) + (I 123 (x2.toNatClampNeg))).toNatClampNeg)))) J) Q))))) :=
  (sm_blk X 286 91 (tt_lin 286 (by decide)) rfl rfl _ _ _ _).trans rfl
set_option maxRecDepth 100000 in
theorem bk_286_122 (X : (Nat → Int32) × Nat) (mo : Bool) (G : Nat × Nat) (I : Nat → Nat → Int32) (J : Nat → Nat → Int64) (Q : Option Value → sm_M → Prop) (x1 : Int32) (x2 : Int32) :
    sm_wp X 286 122 [some (.ref 81), some (.int x1), some (.int x2), none] [] (sM mo G I J) Q =
    (sm_wp X 279 0 [some (.ref 81), none] [] (sM mo G I J) (fun v M => sm_wp X 286 126 [some (.ref 81), some (.int x1), some (.int x2), none] (v.toList ++ []) M Q)) :=
  (sm_blk X 286 122 (tt_lin 286 (by decide)) rfl rfl _ _ _ _).trans rfl
set_option maxRecDepth 100000 in
theorem bk_286_126 (X : (Nat → Int32) × Nat) (mo : Bool) (G : Nat × Nat) (I : Nat → Nat → Int32) (J : Nat → Nat → Int64) (Q : Option Value → sm_M → Prop) (x1 : Int32) (x2 : Int32) (s0 : Int32) :
    sm_wp X 286 126 [some (.ref 81), some (.int x1), some (.int x2), none] [.int s0] (sM mo G I J) Q =
    (if ¬ (s0 : Int32) = 0 then sm_wp X 286 131 [some (.ref 81), some (.int x1), some (.int x2), none] [] (sM mo G I J) Q else (True ∧ Q (some (.int 1)) (sM mo G I J))) :=
  (sm_blk X 286 126 (tt_lin 286 (by decide)) rfl rfl _ _ _ _).trans rfl
set_option maxRecDepth 100000 in
theorem bk_286_131 (X : (Nat → Int32) × Nat) (mo : Bool) (G : Nat × Nat) (I : Nat → Nat → Int32) (J : Nat → Nat → Int64) (Q : Option Value → sm_M → Prop) (x1 : Int32) (x2 : Int32) :
    sm_wp X 286 131 [some (.ref 81), some (.int x1), some (.int x2), none] [] (sM mo G I J) Q =
    (sm_wp X 277 0 [some (.ref 81), none, none, none, none, none, none, none] [] (sM mo G I J) (fun v M => sm_wp X 286 135 [some (.ref 81), some (.int x1), some (.int x2), none] (v.toList ++ []) M Q)) :=
  (sm_blk X 286 131 (tt_lin 286 (by decide)) rfl rfl _ _ _ _).trans rfl
set_option maxRecDepth 100000 in
theorem bk_286_135 (X : (Nat → Int32) × Nat) (mo : Bool) (G : Nat × Nat) (I : Nat → Nat → Int32) (J : Nat → Nat → Int64) (Q : Option Value → sm_M → Prop) (x1 : Int32) (x2 : Int32) :
    sm_wp X 286 135 [some (.ref 81), some (.int x1), some (.int x2), none] [] (sM mo G I J) Q =
    (sm_wp X 280 0 [some (.ref 81), none, none] [] (sM mo G I J) (fun v M => sm_wp X 286 139 [some (.ref 81), some (.int x1), some (.int x2), none] (v.toList ++ []) M Q)) :=
  (sm_blk X 286 135 (tt_lin 286 (by decide)) rfl rfl _ _ _ _).trans rfl
set_option maxRecDepth 100000 in
theorem bk_286_139 (X : (Nat → Int32) × Nat) (mo : Bool) (G : Nat × Nat) (I : Nat → Nat → Int32) (J : Nat → Nat → Int64) (Q : Option Value → sm_M → Prop) (x1 : Int32) (x2 : Int32) (s0 : Int32) :
    sm_wp X 286 139 [some (.ref 81), some (.int x1), some (.int x2), none] [.int s0] (sM mo G I J) Q =
    (if (s0 : Int32) = 0 then sm_wp X 286 146 [some (.ref 81), some (.int x1), some (.int x2), none] [] (sM mo G I J) Q else (sm_wp X 286 147 [some (.ref 81), some (.int x1), some (.int x2), none] [.int 3] (sM mo G I J) Q)) :=
  (sm_blk X 286 139 (tt_lin 286 (by decide)) rfl rfl _ _ _ _).trans rfl
set_option maxRecDepth 100000 in
theorem bk_286_146 (X : (Nat → Int32) × Nat) (mo : Bool) (G : Nat × Nat) (I : Nat → Nat → Int32) (J : Nat → Nat → Int64) (Q : Option Value → sm_M → Prop) (x1 : Int32) (x2 : Int32) :
    sm_wp X 286 146 [some (.ref 81), some (.int x1), some (.int x2), none] [] (sM mo G I J) Q =
    (True ∧ Q (some (.int 2)) (sM mo G I J)) :=
  (sm_blk X 286 146 (tt_lin 286 (by decide)) rfl rfl _ _ _ _).trans rfl
set_option maxRecDepth 100000 in
theorem bk_286_147 (X : (Nat → Int32) × Nat) (mo : Bool) (G : Nat × Nat) (I : Nat → Nat → Int32) (J : Nat → Nat → Int64) (Q : Option Value → sm_M → Prop) (x1 : Int32) (x2 : Int32) (s0 : Int32) :
    sm_wp X 286 147 [some (.ref 81), some (.int x1), some (.int x2), none] [.int s0] (sM mo G I J) Q =
    (True ∧ Q (some (.int s0)) (sM mo G I J)) :=
  (sm_blk X 286 147 (tt_lin 286 (by decide)) rfl rfl _ _ _ _).trans rfl
set_option maxRecDepth 100000 in
theorem bk_287_0 (X : (Nat → Int32) × Nat) (mo : Bool) (G : Nat × Nat) (I : Nat → Nat → Int32) (J : Nat → Nat → Int64) (Q : Option Value → sm_M → Prop) (x1 : Int32) :
    sm_wp X 287 0 [some (.ref 81), some (.int x1), none, none] [] (sM mo G I J) Q =
    (sm_wp X 210 0 [some (.int x1), some (.int 0), some (.int 8)] [] (sM mo G (up2 I 81 2 0) J) (fun v M => sm_wp X 287 12 [some (.ref 81), some (.int x1), none, none] (v.toList ++ []) M Q)) :=
  (sm_blk X 287 0 (tt_lin 287 (by decide)) rfl rfl _ _ _ _).trans rfl
set_option maxRecDepth 100000 in
theorem bk_287_12 (X : (Nat → Int32) × Nat) (mo : Bool) (G : Nat × Nat) (I : Nat → Nat → Int32) (J : Nat → Nat → Int64) (Q : Option Value → sm_M → Prop) (x1 : Int32) (s0 : Int32) :
    sm_wp X 287 12 [some (.ref 81), some (.int x1), none, none] [.int s0] (sM mo G I J) Q =
    (if ¬ (s0 : Int32) = 0 then sm_wp X 287 17 [some (.ref 81), some (.int x1), none, none] [] (sM mo G I J) Q else (True ∧ Q (some (.int (-1))) (sM mo G I J))) :=
  (sm_blk X 287 12 (tt_lin 287 (by decide)) rfl rfl _ _ _ _).trans rfl
set_option maxRecDepth 100000 in
theorem bk_287_17 (X : (Nat → Int32) × Nat) (mo : Bool) (G : Nat × Nat) (I : Nat → Nat → Int32) (J : Nat → Nat → Int64) (Q : Option Value → sm_M → Prop) (x1 : Int32) :
    sm_wp X 287 17 [some (.ref 81), some (.int x1), none, none] [] (sM mo G I J) Q =
    (sm_wp X 287 19 [some (.ref 81), some (.int x1), some (.int 2), none] [] (sM mo G I J) Q) :=
  (sm_blk X 287 17 (tt_lin 287 (by decide)) rfl rfl _ _ _ _).trans rfl
set_option maxRecDepth 100000 in
theorem bk_287_19 (X : (Nat → Int32) × Nat) (mo : Bool) (G : Nat × Nat) (I : Nat → Nat → Int32) (J : Nat → Nat → Int64) (Q : Option Value → sm_M → Prop) (x1 : Int32) (x2 : Int32) :
    sm_wp X 287 19 [some (.ref 81), some (.int x1), some (.int x2), none] [] (sM mo G I J) Q =
    (if (5 : Int32) ≤ (x2 : Int32) then sm_wp X 287 38 [some (.ref 81), some (.int x1), some (.int x2), none] [] (sM mo G I J) Q else (sm_wp X 288 0 [some (.ref 81), some (.int x2), none, none, none, none, none, none, none] [] (sM mo G I J) (fun v M => sm_wp X 287 29 [some (.ref 81), some (.int x1), some (.int x2), none] (v.toList ++ []) M Q))) :=
  (sm_blk X 287 19 (tt_lin 287 (by decide)) rfl rfl _ _ _ _).trans rfl
set_option maxRecDepth 100000 in
theorem bk_287_29 (X : (Nat → Int32) × Nat) (mo : Bool) (G : Nat × Nat) (I : Nat → Nat → Int32) (J : Nat → Nat → Int64) (Q : Option Value → sm_M → Prop) (x1 : Int32) (x2 : Int32) (s0 : Int32) :
    sm_wp X 287 29 [some (.ref 81), some (.int x1), some (.int x2), none] [.int s0] (sM mo G I J) Q =
    (if ¬ (s0 : Int32) = 0 then sm_wp X 287 38 [some (.ref 81), some (.int x1), some (.int x2), none] [] (sM mo G I J) Q else (sm_wp X 287 19 [some (.ref 81), some (.int x1), some (.int (x2 + 1)), none] [] (sM mo G I J) Q)) :=
  (sm_blk X 287 29 (tt_lin 287 (by decide)) rfl rfl _ _ _ _).trans rfl
set_option maxRecDepth 100000 in
theorem bk_287_38 (X : (Nat → Int32) × Nat) (mo : Bool) (G : Nat × Nat) (I : Nat → Nat → Int32) (J : Nat → Nat → Int64) (Q : Option Value → sm_M → Prop) (x1 : Int32) (x2 : Int32) :
    sm_wp X 287 38 [some (.ref 81), some (.int x1), some (.int x2), none] [] (sM mo G I J) Q =
    (if ¬ (x2 : Int32) = (5 : Int32) then sm_wp X 287 53 [some (.ref 81), some (.int x1), some (.int x2), none] [] (sM mo G I J) Q else (if ¬ (x1 : Int32) = 0 then sm_wp X 287 51 [some (.ref 81), some (.int x1), some (.int x2), none] [] (sM mo G I J) Q else (sm_wp X 287 52 [some (.ref 81), some (.int x1), some (.int x2), none] [.int 0] (sM mo G I J) Q))) :=
  (sm_blk X 287 38 (tt_lin 287 (by decide)) rfl rfl _ _ _ _).trans rfl
set_option maxRecDepth 100000 in
theorem bk_287_51 (X : (Nat → Int32) × Nat) (mo : Bool) (G : Nat × Nat) (I : Nat → Nat → Int32) (J : Nat → Nat → Int64) (Q : Option Value → sm_M → Prop) (x1 : Int32) (x2 : Int32) :
    sm_wp X 287 51 [some (.ref 81), some (.int x1), some (.int x2), none] [] (sM mo G I J) Q =
    (True ∧ Q (some (.int (-1))) (sM mo G I J)) :=
  (sm_blk X 287 51 (tt_lin 287 (by decide)) rfl rfl _ _ _ _).trans rfl
set_option maxRecDepth 100000 in
theorem bk_287_52 (X : (Nat → Int32) × Nat) (mo : Bool) (G : Nat × Nat) (I : Nat → Nat → Int32) (J : Nat → Nat → Int64) (Q : Option Value → sm_M → Prop) (x1 : Int32) (x2 : Int32) (s0 : Int32) :
    sm_wp X 287 52 [some (.ref 81), some (.int x1), some (.int x2), none] [.int s0] (sM mo G I J) Q =
    (True ∧ Q (some (.int s0)) (sM mo G I J)) :=
  (sm_blk X 287 52 (tt_lin 287 (by decide)) rfl rfl _ _ _ _).trans rfl
set_option maxRecDepth 100000 in
theorem bk_287_53 (X : (Nat → Int32) × Nat) (mo : Bool) (G : Nat × Nat) (I : Nat → Nat → Int32) (J : Nat → Nat → Int64) (Q : Option Value → sm_M → Prop) (x1 : Int32) (x2 : Int32) :
    sm_wp X 287 53 [some (.ref 81), some (.int x1), some (.int x2), none] [] (sM mo G I J) Q =
    (if ¬ (x1 : Int32) = 0 then sm_wp X 287 59 [some (.ref 81), some (.int x1), some (.int x2), none] [] (sM mo G I J) Q else (True ∧ Q (some (.int x2)) (sM mo G I J))) :=
  (sm_blk X 287 53 (tt_lin 287 (by decide)) rfl rfl _ _ _ _).trans rfl
set_option maxRecDepth 100000 in
theorem bk_287_59 (X : (Nat → Int32) × Nat) (mo : Bool) (G : Nat × Nat) (I : Nat → Nat → Int32) (J : Nat → Nat → Int64) (Q : Option Value → sm_M → Prop) (x1 : Int32) (x2 : Int32) :
    sm_wp X 287 59 [some (.ref 81), some (.int x1), some (.int x2), none] [] (sM mo G I J) Q =
    (if (5 : Int32) ≤ (x1 : Int32) then sm_wp X 287 70 [some (.ref 81), some (.int x1), some (.int x2), none] [] (sM mo G I J) Q else (sm_wp X 287 73 [some (.ref 81), some (.int x1), some (.int x2), none] [.int (x1 - 1)] (sM mo G I J) Q)) :=
  (sm_blk X 287 59 (tt_lin 287 (by decide)) rfl rfl _ _ _ _).trans rfl
set_option maxRecDepth 100000 in
theorem bk_287_70 (X : (Nat → Int32) × Nat) (mo : Bool) (G : Nat × Nat) (I : Nat → Nat → Int32) (J : Nat → Nat → Int64) (Q : Option Value → sm_M → Prop) (x1 : Int32) (x2 : Int32) :
    sm_wp X 287 70 [some (.ref 81), some (.int x1), some (.int x2), none] [] (sM mo G I J) Q =
    (if (x1 - 5 : Int32) < (x2 : Int32) then sm_wp X 287 81 [some (.ref 81), some (.int x1), some (.int x2), some (.int (x1 - 5))] [] (sM mo G I J) Q else (True ∧ Q (some (.int (-1))) (sM mo G I J))) :=
  (sm_blk X 287 70 (tt_lin 287 (by decide)) rfl rfl _ _ _ _).trans rfl
set_option maxRecDepth 100000 in
theorem bk_287_73 (X : (Nat → Int32) × Nat) (mo : Bool) (G : Nat × Nat) (I : Nat → Nat → Int32) (J : Nat → Nat → Int64) (Q : Option Value → sm_M → Prop) (x1 : Int32) (x2 : Int32) (s0 : Int32) :
    sm_wp X 287 73 [some (.ref 81), some (.int x1), some (.int x2), none] [.int s0] (sM mo G I J) Q =
    (if (s0 : Int32) < (x2 : Int32) then sm_wp X 287 81 [some (.ref 81), some (.int x1), some (.int x2), some (.int s0)] [] (sM mo G I J) Q else (True ∧ Q (some (.int (-1))) (sM mo G I J))) :=
  (sm_blk X 287 73 (tt_lin 287 (by decide)) rfl rfl _ _ _ _).trans rfl
set_option maxRecDepth 100000 in
theorem bk_287_81 (X : (Nat → Int32) × Nat) (mo : Bool) (G : Nat × Nat) (I : Nat → Nat → Int32) (J : Nat → Nat → Int64) (Q : Option Value → sm_M → Prop) (x1 : Int32) (x2 : Int32) (x3 : Int32) :
    sm_wp X 287 81 [some (.ref 81), some (.int x1), some (.int x2), some (.int x3)] [] (sM mo G I J) Q =
    (if (5 : Int32) ≤ (x1 : Int32) then sm_wp X 287 95 [some (.ref 81), some (.int x1), some (.int x2), some (.int x3)] [] (sM mo G I J) Q else (vp_in x3 4 ∧ (sm_wp X 287 101 [some (.ref 81), some (.int x1), some (.int x2), some (.int x3)] [.int (I 133 (x3.toNatClampNeg))] (sM mo G I J) Q))) :=
  (sm_blk X 287 81 (tt_lin 287 (by decide)) rfl rfl _ _ _ _).trans rfl
set_option maxRecDepth 100000 in
theorem bk_287_95 (X : (Nat → Int32) × Nat) (mo : Bool) (G : Nat × Nat) (I : Nat → Nat → Int32) (J : Nat → Nat → Int64) (Q : Option Value → sm_M → Prop) (x1 : Int32) (x2 : Int32) (x3 : Int32) :
    sm_wp X 287 95 [some (.ref 81), some (.int x1), some (.int x2), some (.int x3)] [] (sM mo G I J) Q =
    (vp_in x3 4 ∧ (True ∧ Q (some (.int (I 134 (x3.toNatClampNeg)))) (sM mo G I J))) :=
  (sm_blk X 287 95 (tt_lin 287 (by decide)) rfl rfl _ _ _ _).trans rfl
set_option maxRecDepth 100000 in
theorem bk_287_101 (X : (Nat → Int32) × Nat) (mo : Bool) (G : Nat × Nat) (I : Nat → Nat → Int32) (J : Nat → Nat → Int64) (Q : Option Value → sm_M → Prop) (x1 : Int32) (x2 : Int32) (x3 : Int32) (s0 : Int32) :
    sm_wp X 287 101 [some (.ref 81), some (.int x1), some (.int x2), some (.int x3)] [.int s0] (sM mo G I J) Q =
    (True ∧ Q (some (.int s0)) (sM mo G I J)) :=
  (sm_blk X 287 101 (tt_lin 287 (by decide)) rfl rfl _ _ _ _).trans rfl
set_option maxRecDepth 100000 in
theorem bk_288_0 (X : (Nat → Int32) × Nat) (mo : Bool) (G : Nat × Nat) (I : Nat → Nat → Int32) (J : Nat → Nat → Int64) (Q : Option Value → sm_M → Prop) (x1 : Int32) :
    sm_wp X 288 0 [some (.ref 81), some (.int x1), none, none, none, none, none, none, none] [] (sM mo G I J) Q =
    (sm_wp X 288 7 [some (.ref 81), some (.int x1), some (.int 1), some (.int 1), some (.int 0), none, none, none, none] [] (sM mo G I J) Q) :=
  (sm_blk X 288 0 (tt_lin 288 (by decide)) rfl rfl _ _ _ _).trans rfl
set_option maxRecDepth 100000 in
theorem bk_288_7 (X : (Nat → Int32) × Nat) (mo : Bool) (G : Nat × Nat) (I : Nat → Nat → Int32) (J : Nat → Nat → Int64) (Q : Option Value → sm_M → Prop) (x1 : Int32) (x2 : Int32) (x3 : Int32) (x4 : Int32) :
    sm_wp X 288 7 [some (.ref 81), some (.int x1), some (.int x2), some (.int x3), some (.int x4), none, none, none, none] [] (sM mo G I J) Q =
    (if (x1 : Int32) ≤ (x4 : Int32) then sm_wp X 288 31 [some (.ref 81), some (.int x1), some (.int x2), some (.int x3), some (.int x4), none, none, none, none] [] (sM mo G I J) Q else (sm_wp X 288 7 [some (.ref 81), some (.int x1), some (.int (x2 * 6)), some (.int (x3 * (I 81 3))), some (.int (x4 + 1)), none, none, none, none] [] (sM mo G I J) Q)) :=
  (sm_blk X 288 7 (tt_lin 288 (by decide)) rfl rfl _ _ _ _).trans rfl
set_option maxRecDepth 100000 in
theorem bk_288_31 (X : (Nat → Int32) × Nat) (mo : Bool) (G : Nat × Nat) (I : Nat → Nat → Int32) (J : Nat → Nat → Int64) (Q : Option Value → sm_M → Prop) (x1 : Int32) (x2 : Int32) (x3 : Int32) (x4 : Int32) :
    sm_wp X 288 31 [some (.ref 81), some (.int x1), some (.int x2), some (.int x3), some (.int x4), none, none, none, none] [] (sM mo G I J) Q =
    (sm_wp X 288 34 [some (.ref 81), some (.int x1), some (.int x2), some (.int x3), some (.int 0), none, none, none, none] [] (sM mo G I J) Q) :=
  (sm_blk X 288 31 (tt_lin 288 (by decide)) rfl rfl _ _ _ _).trans rfl
set_option maxRecDepth 100000 in
theorem bk_288_34 (X : (Nat → Int32) × Nat) (mo : Bool) (G : Nat × Nat) (I : Nat → Nat → Int32) (J : Nat → Nat → Int64) (Q : Option Value → sm_M → Prop) (x1 : Int32) (x2 : Int32) (x3 : Int32) (x4 : Int32) :
    sm_wp X 288 34 [some (.ref 81), some (.int x1), some (.int x2), some (.int x3), some (.int x4), none, none, none, none] [] (sM mo G I J) Q =
    (if (x2 : Int32) ≤ (x4 : Int32) then sm_wp X 288 164 [some (.ref 81), some (.int x1), some (.int x2), some (.int x3), some (.int x4), none, none, none, none] [] (sM mo G I J) Q else (sm_wp X 288 49 [some (.ref 81), some (.int x1), some (.int x2), some (.int x3), some (.int x4), some (.int x4), some (.int (x1 - 1)), none, none] [] (sM mo G I J) Q)) :=
  (sm_blk X 288 34 (tt_lin 288 (by decide)) rfl rfl _ _ _ _).trans rfl
set_option maxRecDepth 100000 in
theorem bk_288_49 (X : (Nat → Int32) × Nat) (mo : Bool) (G : Nat × Nat) (I : Nat → Nat → Int32) (J : Nat → Nat → Int64) (Q : Option Value → sm_M → Prop) (x1 : Int32) (x2 : Int32) (x3 : Int32) (x4 : Int32) (x5 : Int32) (x6 : Int32) :
    sm_wp X 288 49 [some (.ref 81), some (.int x1), some (.int x2), some (.int x3), some (.int x4), some (.int x5), some (.int x6), none, none] [] (sM mo G I J) Q =
    (if (x6 : Int32) < 0 then sm_wp X 288 79 [some (.ref 81), some (.int x1), some (.int x2), some (.int x3), some (.int x4), some (.int x5), some (.int x6), none, none] [] (sM mo G I J) Q else (¬ (6 : Int32) = 0 ∧ (vp_in x6 4 ∧ (¬ (6 : Int32) = 0 ∧ (sm_wp X 288 49 [some (.ref 81), some (.int x1), some (.int x2), some (.int x3), some (.int x4), some (.int (x5 / 6)), some (.int (x6 + (-1))), none, none] [] (sM mo G (up2 I 133 x6.toNatClampNeg (x5 - x5 / 6 * 6)) J) Q))))) :=
  (sm_blk X 288 49 (tt_lin 288 (by decide)) rfl rfl _ _ _ _).trans rfl
set_option maxRecDepth 100000 in
theorem bk_288_79 (X : (Nat → Int32) × Nat) (mo : Bool) (G : Nat × Nat) (I : Nat → Nat → Int32) (J : Nat → Nat → Int64) (Q : Option Value → sm_M → Prop) (x1 : Int32) (x2 : Int32) (x3 : Int32) (x4 : Int32) (x5 : Int32) (x6 : Int32) :
    sm_wp X 288 79 [some (.ref 81), some (.int x1), some (.int x2), some (.int x3), some (.int x4), some (.int x5), some (.int x6), none, none] [] (sM mo G I J) Q =
    (sm_wp X 289 0 [some (.ref 81), some (.int x1), none, none] [] (sM mo G I J) (fun v M => sm_wp X 288 84 [some (.ref 81), some (.int x1), some (.int x2), some (.int x3), some (.int x4), some (.int x5), some (.int x6), none, none] (v.toList ++ []) M Q)) :=
  (sm_blk X 288 79 (tt_lin 288 (by decide)) rfl rfl _ _ _ _).trans rfl
set_option maxRecDepth 100000 in
theorem bk_288_84 (X : (Nat → Int32) × Nat) (mo : Bool) (G : Nat × Nat) (I : Nat → Nat → Int32) (J : Nat → Nat → Int64) (Q : Option Value → sm_M → Prop) (x1 : Int32) (x2 : Int32) (x3 : Int32) (x4 : Int32) (x5 : Int32) (x6 : Int32) (s0 : Int32) :
    sm_wp X 288 84 [some (.ref 81), some (.int x1), some (.int x2), some (.int x3), some (.int x4), some (.int x5), some (.int x6), none, none] [.int s0] (sM mo G I J) Q =
    (if ¬ (s0 : Int32) = 0 then sm_wp X 288 90 [some (.ref 81), some (.int x1), some (.int x2), some (.int x3), some (.int x4), some (.int x5), some (.int x6), none, none] [] (sM mo G I J) Q else (sm_wp X 288 158 [some (.ref 81), some (.int x1), some (.int x2), some (.int x3), some (.int x4), some (.int x5), some (.int x6), none, none] [] (sM mo G I J) Q)) :=
  (sm_blk X 288 84 (tt_lin 288 (by decide)) rfl rfl _ _ _ _).trans rfl
set_option maxRecDepth 100000 in
theorem bk_288_90 (X : (Nat → Int32) × Nat) (mo : Bool) (G : Nat × Nat) (I : Nat → Nat → Int32) (J : Nat → Nat → Int64) (Q : Option Value → sm_M → Prop) (x1 : Int32) (x2 : Int32) (x3 : Int32) (x4 : Int32) (x5 : Int32) (x6 : Int32) :
    sm_wp X 288 90 [some (.ref 81), some (.int x1), some (.int x2), some (.int x3), some (.int x4), some (.int x5), some (.int x6), none, none] [] (sM mo G I J) Q =
    (sm_wp X 288 93 [some (.ref 81), some (.int x1), some (.int x2), some (.int x3), some (.int x4), none, some (.int 0), none, none] [] (sM mo G I J) Q) :=
  (sm_blk X 288 90 (tt_lin 288 (by decide)) rfl rfl _ _ _ _).trans rfl
set_option maxRecDepth 100000 in
theorem bk_288_93 (X : (Nat → Int32) × Nat) (mo : Bool) (G : Nat × Nat) (I : Nat → Nat → Int32) (J : Nat → Nat → Int64) (Q : Option Value → sm_M → Prop) (x1 : Int32) (x2 : Int32) (x3 : Int32) (x4 : Int32) (x6 : Int32) :
    sm_wp X 288 93 [some (.ref 81), some (.int x1), some (.int x2), some (.int x3), some (.int x4), none, some (.int x6), none, none] [] (sM mo G I J) Q =
    (if (x3 : Int32) ≤ (x6 : Int32) then sm_wp X 288 158 [some (.ref 81), some (.int x1), some (.int x2), some (.int x3), some (.int x4), none, some (.int x6), none, none] [] (sM mo G I J) Q else (sm_wp X 288 108 [some (.ref 81), some (.int x1), some (.int x2), some (.int x3), some (.int x4), none, some (.int x6), some (.int x6), some (.int (x1 - 1))] [] (sM mo G I J) Q)) :=
  (sm_blk X 288 93 (tt_lin 288 (by decide)) rfl rfl _ _ _ _).trans rfl
set_option maxRecDepth 100000 in
theorem bk_288_108 (X : (Nat → Int32) × Nat) (mo : Bool) (G : Nat × Nat) (I : Nat → Nat → Int32) (J : Nat → Nat → Int64) (Q : Option Value → sm_M → Prop) (x1 : Int32) (x2 : Int32) (x3 : Int32) (x4 : Int32) (x6 : Int32) (x7 : Int32) (x8 : Int32) :
    sm_wp X 288 108 [some (.ref 81), some (.int x1), some (.int x2), some (.int x3), some (.int x4), none, some (.int x6), some (.int x7), some (.int x8)] [] (sM mo G I J) Q =
    (if (x8 : Int32) < 0 then sm_wp X 288 142 [some (.ref 81), some (.int x1), some (.int x2), some (.int x3), some (.int x4), none, some (.int x6), some (.int x7), some (.int x8)] [] (sM mo G I J) Q else (¬ (I 81 3 : Int32) = 0 ∧ (vp_in x8 4 ∧ (¬ ((up2 I 134 x8.toNatClampNeg (x7 - x7 / (I 81 3) * (I 81 3))) 81 3 : Int32) = 0 ∧ (sm_wp X 288 108 [some (.ref 81), some (.int x1), some (.int x2), some (.int x3), some (.int x4), none, some (.int x6), some (.int (x7 / ((up2 I 134 x8.toNatClampNeg (x7 - x7 / (I 81 3) * (I 81 3))) 81 3))), some (.int (x8 + (-1)))] [] (sM mo G (up2 I 134 x8.toNatClampNeg (x7 - x7 / (I 81 3) * (I 81 3))) J) Q))))) :=
  (sm_blk X 288 108 (tt_lin 288 (by decide)) rfl rfl _ _ _ _).trans rfl
set_option maxRecDepth 100000 in
theorem bk_288_142 (X : (Nat → Int32) × Nat) (mo : Bool) (G : Nat × Nat) (I : Nat → Nat → Int32) (J : Nat → Nat → Int64) (Q : Option Value → sm_M → Prop) (x1 : Int32) (x2 : Int32) (x3 : Int32) (x4 : Int32) (x6 : Int32) (x7 : Int32) (x8 : Int32) :
    sm_wp X 288 142 [some (.ref 81), some (.int x1), some (.int x2), some (.int x3), some (.int x4), none, some (.int x6), some (.int x7), some (.int x8)] [] (sM mo G I J) Q =
    (sm_wp X 290 0 [some (.ref 81), some (.int x1), none, none, none] [] (sM mo G I J) (fun v M => sm_wp X 288 147 [some (.ref 81), some (.int x1), some (.int x2), some (.int x3), some (.int x4), none, some (.int x6), some (.int x7), some (.int x8)] (v.toList ++ []) M Q)) :=
  (sm_blk X 288 142 (tt_lin 288 (by decide)) rfl rfl _ _ _ _).trans rfl
set_option maxRecDepth 100000 in
theorem bk_288_147 (X : (Nat → Int32) × Nat) (mo : Bool) (G : Nat × Nat) (I : Nat → Nat → Int32) (J : Nat → Nat → Int64) (Q : Option Value → sm_M → Prop) (x1 : Int32) (x2 : Int32) (x3 : Int32) (x4 : Int32) (x6 : Int32) (x7 : Int32) (x8 : Int32) (s0 : Int32) :
    sm_wp X 288 147 [some (.ref 81), some (.int x1), some (.int x2), some (.int x3), some (.int x4), none, some (.int x6), some (.int x7), some (.int x8)] [.int s0] (sM mo G I J) Q =
    (if (s0 : Int32) = 0 then sm_wp X 288 152 [some (.ref 81), some (.int x1), some (.int x2), some (.int x3), some (.int x4), none, some (.int x6), some (.int x7), some (.int x8)] [] (sM mo G I J) Q else (sm_zb 1 ∧ Q (some (.int 1)) (sM mo G I J))) :=
  (sm_blk X 288 147 (tt_lin 288 (by decide)) rfl rfl _ _ _ _).trans rfl
set_option maxRecDepth 100000 in
theorem bk_288_152 (X : (Nat → Int32) × Nat) (mo : Bool) (G : Nat × Nat) (I : Nat → Nat → Int32) (J : Nat → Nat → Int64) (Q : Option Value → sm_M → Prop) (x1 : Int32) (x2 : Int32) (x3 : Int32) (x4 : Int32) (x6 : Int32) (x7 : Int32) (x8 : Int32) :
    sm_wp X 288 152 [some (.ref 81), some (.int x1), some (.int x2), some (.int x3), some (.int x4), none, some (.int x6), some (.int x7), some (.int x8)] [] (sM mo G I J) Q =
    (sm_wp X 288 93 [some (.ref 81), some (.int x1), some (.int x2), some (.int x3), some (.int x4), none, some (.int (x6 + 1)), none, none] [] (sM mo G I J) Q) :=
  (sm_blk X 288 152 (tt_lin 288 (by decide)) rfl rfl _ _ _ _).trans rfl
set_option maxRecDepth 100000 in
theorem bk_288_158 (X : (Nat → Int32) × Nat) (mo : Bool) (G : Nat × Nat) (I : Nat → Nat → Int32) (J : Nat → Nat → Int64) (Q : Option Value → sm_M → Prop) (x1 : Int32) (x2 : Int32) (x3 : Int32) (x4 : Int32) (x6 : Int32) :
    sm_wp X 288 158 [some (.ref 81), some (.int x1), some (.int x2), some (.int x3), some (.int x4), none, some (.int x6), none, none] [] (sM mo G I J) Q =
    (sm_wp X 288 34 [some (.ref 81), some (.int x1), some (.int x2), some (.int x3), some (.int (x4 + 1)), none, none, none, none] [] (sM mo G I J) Q) :=
  (sm_blk X 288 158 (tt_lin 288 (by decide)) rfl rfl _ _ _ _).trans rfl
set_option maxRecDepth 100000 in
theorem bk_288_164 (X : (Nat → Int32) × Nat) (mo : Bool) (G : Nat × Nat) (I : Nat → Nat → Int32) (J : Nat → Nat → Int64) (Q : Option Value → sm_M → Prop) (x1 : Int32) (x2 : Int32) (x3 : Int32) (x4 : Int32) :
    sm_wp X 288 164 [some (.ref 81), some (.int x1), some (.int x2), some (.int x3), some (.int x4), none, none, none, none] [] (sM mo G I J) Q =
    (sm_zb 0 ∧ Q (some (.int 0)) (sM mo G I J)) :=
  (sm_blk X 288 164 (tt_lin 288 (by decide)) rfl rfl _ _ _ _).trans rfl
set_option maxRecDepth 100000 in
theorem bk_289_0 (X : (Nat → Int32) × Nat) (mo : Bool) (G : Nat × Nat) (I : Nat → Nat → Int32) (J : Nat → Nat → Int64) (Q : Option Value → sm_M → Prop) (x1 : Int32) :
    sm_wp X 289 0 [some (.ref 81), some (.int x1), none, none] [] (sM mo G I J) Q =
    (sm_wp X 289 2 [some (.ref 81), some (.int x1), some (.int 0), none] [] (sM mo G I J) Q) :=
  (sm_blk X 289 0 (tt_lin 289 (by decide)) rfl rfl _ _ _ _).trans rfl
set_option maxRecDepth 100000 in
theorem bk_289_2 (X : (Nat → Int32) × Nat) (mo : Bool) (G : Nat × Nat) (I : Nat → Nat → Int32) (J : Nat → Nat → Int64) (Q : Option Value → sm_M → Prop) (x1 : Int32) (x2 : Int32) :
    sm_wp X 289 2 [some (.ref 81), some (.int x1), some (.int x2), none] [] (sM mo G I J) Q =
    (if (x1 : Int32) ≤ (x2 : Int32) then sm_wp X 289 77 [some (.ref 81), some (.int x1), some (.int x2), none] [] (sM mo G I J) Q else (vp_in x2 4 ∧ (sm_wp X 215 0 [some (.ref 81), some (.int (I 133 (x2.toNatClampNeg)))] [] (sM mo G I J) (fun v M => sm_wp X 289 17 [some (.ref 81), some (.int x1), some (.int x2), none] (v.toList ++ []) M Q)))) :=
  (sm_blk X 289 2 (tt_lin 289 (by decide)) rfl rfl _ _ _ _).trans rfl
set_option maxRecDepth 100000 in
theorem bk_289_17 (X : (Nat → Int32) × Nat) (mo : Bool) (G : Nat × Nat) (I : Nat → Nat → Int32) (J : Nat → Nat → Int64) (Q : Option Value → sm_M → Prop) (x1 : Int32) (x2 : Int32) (s0 : Int32) :
    sm_wp X 289 17 [some (.ref 81), some (.int x1), some (.int x2), none] [.int s0] (sM mo G I J) Q =
    (if (s0 : Int32) = 0 then sm_wp X 289 39 [some (.ref 81), some (.int x1), some (.int x2), none] [] (sM mo G I J) Q else (if (x2 : Int32) ≤ 0 then sm_wp X 289 41 [some (.ref 81), some (.int x1), some (.int x2), none] [] (sM mo G I J) Q else (vp_in x2 4 ∧ (vp_in 0 4 ∧ (if (I 133 ((0 : Int32).toNatClampNeg) : Int32) < (I 133 (x2.toNatClampNeg) : Int32) then sm_wp X 289 41 [some (.ref 81), some (.int x1), some (.int x2), none] [] (sM mo G I J) Q else (sm_zb 0 ∧ Q (some (.int 0)) (sM mo G I J))))))) :=
  (sm_blk X 289 17 (tt_lin 289 (by decide)) rfl rfl _ _ _ _).trans rfl
set_option maxRecDepth 100000 in
theorem bk_289_39 (X : (Nat → Int32) × Nat) (mo : Bool) (G : Nat × Nat) (I : Nat → Nat → Int32) (J : Nat → Nat → Int64) (Q : Option Value → sm_M → Prop) (x1 : Int32) (x2 : Int32) :
    sm_wp X 289 39 [some (.ref 81), some (.int x1), some (.int x2), none] [] (sM mo G I J) Q =
    (sm_zb 0 ∧ Q (some (.int 0)) (sM mo G I J)) :=
  (sm_blk X 289 39 (tt_lin 289 (by decide)) rfl rfl _ _ _ _).trans rfl
set_option maxRecDepth 100000 in
theorem bk_289_41 (X : (Nat → Int32) × Nat) (mo : Bool) (G : Nat × Nat) (I : Nat → Nat → Int32) (J : Nat → Nat → Int64) (Q : Option Value → sm_M → Prop) (x1 : Int32) (x2 : Int32) :
    sm_wp X 289 41 [some (.ref 81), some (.int x1), some (.int x2), none] [] (sM mo G I J) Q =
    (sm_wp X 289 43 [some (.ref 81), some (.int x1), some (.int x2), some (.int 0)] [] (sM mo G I J) Q) :=
  (sm_blk X 289 41 (tt_lin 289 (by decide)) rfl rfl _ _ _ _).trans rfl
set_option maxRecDepth 100000 in
theorem bk_289_43 (X : (Nat → Int32) × Nat) (mo : Bool) (G : Nat × Nat) (I : Nat → Nat → Int32) (J : Nat → Nat → Int64) (Q : Option Value → sm_M → Prop) (x1 : Int32) (x2 : Int32) (x3 : Int32) :
    sm_wp X 289 43 [some (.ref 81), some (.int x1), some (.int x2), some (.int x3)] [] (sM mo G I J) Q =
    (if (x2 : Int32) ≤ (x3 : Int32) then sm_wp X 289 71 [some (.ref 81), some (.int x1), some (.int x2), some (.int x3)] [] (sM mo G I J) Q else (vp_in x2 4 ∧ (vp_in x3 4 ∧ (if ¬ (I 133 (x2.toNatClampNeg) : Int32) = (I 133 (x3.toNatClampNeg) : Int32) then sm_wp X 289 65 [some (.ref 81), some (.int x1), some (.int x2), some (.int x3)] [] (sM mo G I J) Q else (sm_zb 0 ∧ Q (some (.int 0)) (sM mo G I J)))))) :=
  (sm_blk X 289 43 (tt_lin 289 (by decide)) rfl rfl _ _ _ _).trans rfl
set_option maxRecDepth 100000 in
theorem bk_289_65 (X : (Nat → Int32) × Nat) (mo : Bool) (G : Nat × Nat) (I : Nat → Nat → Int32) (J : Nat → Nat → Int64) (Q : Option Value → sm_M → Prop) (x1 : Int32) (x2 : Int32) (x3 : Int32) :
    sm_wp X 289 65 [some (.ref 81), some (.int x1), some (.int x2), some (.int x3)] [] (sM mo G I J) Q =
    (sm_wp X 289 43 [some (.ref 81), some (.int x1), some (.int x2), some (.int (x3 + 1))] [] (sM mo G I J) Q) :=
  (sm_blk X 289 65 (tt_lin 289 (by decide)) rfl rfl _ _ _ _).trans rfl
set_option maxRecDepth 100000 in
theorem bk_289_71 (X : (Nat → Int32) × Nat) (mo : Bool) (G : Nat × Nat) (I : Nat → Nat → Int32) (J : Nat → Nat → Int64) (Q : Option Value → sm_M → Prop) (x1 : Int32) (x2 : Int32) (x3 : Int32) :
    sm_wp X 289 71 [some (.ref 81), some (.int x1), some (.int x2), some (.int x3)] [] (sM mo G I J) Q =
    (sm_wp X 289 2 [some (.ref 81), some (.int x1), some (.int (x2 + 1)), none] [] (sM mo G I J) Q) :=
  (sm_blk X 289 71 (tt_lin 289 (by decide)) rfl rfl _ _ _ _).trans rfl
set_option maxRecDepth 100000 in
theorem bk_289_77 (X : (Nat → Int32) × Nat) (mo : Bool) (G : Nat × Nat) (I : Nat → Nat → Int32) (J : Nat → Nat → Int64) (Q : Option Value → sm_M → Prop) (x1 : Int32) (x2 : Int32) :
    sm_wp X 289 77 [some (.ref 81), some (.int x1), some (.int x2), none] [] (sM mo G I J) Q =
    (sm_zb 1 ∧ Q (some (.int 1)) (sM mo G I J)) :=
  (sm_blk X 289 77 (tt_lin 289 (by decide)) rfl rfl _ _ _ _).trans rfl
set_option maxRecDepth 100000 in
theorem bk_290_0 (X : (Nat → Int32) × Nat) (mo : Bool) (G : Nat × Nat) (I : Nat → Nat → Int32) (J : Nat → Nat → Int64) (Q : Option Value → sm_M → Prop) (x1 : Int32) :
    sm_wp X 290 0 [some (.ref 81), some (.int x1), none, none, none] [] (sM mo G I J) Q =
    (sm_wp X 290 2 [some (.ref 81), some (.int x1), some (.int 0), none, none] [] (sM mo G I J) Q) :=
  (sm_blk X 290 0 (tt_lin 290 (by decide)) rfl rfl _ _ _ _).trans rfl
set_option maxRecDepth 100000 in
theorem bk_290_2 (X : (Nat → Int32) × Nat) (mo : Bool) (G : Nat × Nat) (I : Nat → Nat → Int32) (J : Nat → Nat → Int64) (Q : Option Value → sm_M → Prop) (x1 : Int32) (x2 : Int32) :
    sm_wp X 290 2 [some (.ref 81), some (.int x1), some (.int x2), none, none] [] (sM mo G I J) Q =
    (if (x1 : Int32) ≤ (x2 : Int32) then sm_wp X 290 87 [some (.ref 81), some (.int x1), some (.int x2), none, none] [] (sM mo G I J) Q else (vp_in x2 4 ∧ (¬ (x1 : Int32) = 0 ∧ (vp_in (((x2 + x1) - 1) - ((x2 + x1) - 1) / x1 * x1) 4 ∧ (vp_in (I 134 (x2.toNatClampNeg)) 12 ∧ (vp_in x2 4 ∧ (if ¬ (I 85 ((I 134 (x2.toNatClampNeg)).toNatClampNeg) : Int32) = (I 133 (x2.toNatClampNeg) : Int32) then sm_wp X 290 79 [some (.ref 81), some (.int x1), some (.int x2), some (.int (I 134 (x2.toNatClampNeg))), some (.int (I 134 ((((x2 + x1) - 1) - ((x2 + x1) - 1) / x1 * x1).toNatClampNeg)))] [] (sM mo G I J) Q else (vp_in x2 4 ∧ (vp_in ((12 * (I 133 (x2.toNatClampNeg))) + (I 134 ((((x2 + x1) - 1) - ((x2 + x1) - 1) / x1 * x1).toNatClampNeg))) 72 ∧ (vp_in x2 4 ∧ (vp_in ((12 * (I 133 (x2.toNatClampNeg))) + (I 134 (x2.toNatClampNeg))) 72 ∧ (if (I 91 (((12 * (I 133 (x2.toNatClampNeg))) + (I 134 (x2.toNatClampNeg))).toNatClampNeg) : Int32) < (I 91 (((12 * (I 133 (x2.toNatClampNeg))) + (I 134 ((((x2 + x1) - 1) - ((x2 + x1) - 1) / x1 * x1).toNatClampNeg))).toNatClampNeg) : Int32) then sm_wp X 290 81 [some (.ref 81), some (.int x1), some (.int x2), some (.int (I 134 (x2.toNatClampNeg))), some (.int (I 134 ((((x2 + x1) - 1) - ((x2 + x1) - 1) / x1 * x1).toNatClampNeg)))] [] (sM mo G I J) Q else (sm_zb 0 ∧ Q (some (.int 0)) (sM mo G I J)))))))))))))) :=
  (sm_blk X 290 2 (tt_lin 290 (by decide)) rfl rfl _ _ _ _).trans rfl
set_option maxRecDepth 100000 in
theorem bk_290_79 (X : (Nat → Int32) × Nat) (mo : Bool) (G : Nat × Nat) (I : Nat → Nat → Int32) (J : Nat → Nat → Int64) (Q : Option Value → sm_M → Prop) (x1 : Int32) (x2 : Int32) (x3 : Int32) (x4 : Int32) :
    sm_wp X 290 79 [some (.ref 81), some (.int x1), some (.int x2), some (.int x3), some (.int x4)] [] (sM mo G I J) Q =
    (sm_zb 0 ∧ Q (some (.int 0)) (sM mo G I J)) :=
  (sm_blk X 290 79 (tt_lin 290 (by decide)) rfl rfl _ _ _ _).trans rfl
set_option maxRecDepth 100000 in
theorem bk_290_81 (X : (Nat → Int32) × Nat) (mo : Bool) (G : Nat × Nat) (I : Nat → Nat → Int32) (J : Nat → Nat → Int64) (Q : Option Value → sm_M → Prop) (x1 : Int32) (x2 : Int32) (x3 : Int32) (x4 : Int32) :
    sm_wp X 290 81 [some (.ref 81), some (.int x1), some (.int x2), some (.int x3), some (.int x4)] [] (sM mo G I J) Q =
    (sm_wp X 290 2 [some (.ref 81), some (.int x1), some (.int (x2 + 1)), none, none] [] (sM mo G I J) Q) :=
  (sm_blk X 290 81 (tt_lin 290 (by decide)) rfl rfl _ _ _ _).trans rfl
set_option maxRecDepth 100000 in
theorem bk_290_87 (X : (Nat → Int32) × Nat) (mo : Bool) (G : Nat × Nat) (I : Nat → Nat → Int32) (J : Nat → Nat → Int64) (Q : Option Value → sm_M → Prop) (x1 : Int32) (x2 : Int32) :
    sm_wp X 290 87 [some (.ref 81), some (.int x1), some (.int x2), none, none] [] (sM mo G I J) Q =
    (sm_zb 1 ∧ Q (some (.int 1)) (sM mo G I J)) :=
  (sm_blk X 290 87 (tt_lin 290 (by decide)) rfl rfl _ _ _ _).trans rfl
set_option maxRecDepth 100000 in
theorem bk_291_0 (X : (Nat → Int32) × Nat) (mo : Bool) (G : Nat × Nat) (I : Nat → Nat → Int32) (J : Nat → Nat → Int64) (Q : Option Value → sm_M → Prop)  :
    sm_wp X 291 0 [some (.ref 81)] [] (sM mo G I J) Q =
    (if ¬ ((up2 I 81 2 0) 81 81 : Int32) = (8 : Int32) then sm_wp X 291 16 [some (.ref 81)] [] (sM mo G (up2 I 81 2 0) J) Q else (True ∧ Q (some (.int (-1))) (sM mo G (up2 I 81 2 0) J))) :=
  (sm_blk X 291 0 (tt_lin 291 (by decide)) rfl rfl _ _ _ _).trans rfl
set_option maxRecDepth 100000 in
theorem bk_291_16 (X : (Nat → Int32) × Nat) (mo : Bool) (G : Nat × Nat) (I : Nat → Nat → Int32) (J : Nat → Nat → Int64) (Q : Option Value → sm_M → Prop)  :
    sm_wp X 291 16 [some (.ref 81)] [] (sM mo G I J) Q =
    (True ∧ Q (some (.int (((up2 I 81 81 ((I 81 81) + 1)) 81 81) - 1))) (sM mo G (up2 I 81 81 ((I 81 81) + 1)) J)) :=
  (sm_blk X 291 16 (tt_lin 291 (by decide)) rfl rfl _ _ _ _).trans rfl
set_option maxRecDepth 100000 in
theorem bk_292_0 (X : (Nat → Int32) × Nat) (mo : Bool) (G : Nat × Nat) (I : Nat → Nat → Int32) (J : Nat → Nat → Int64) (Q : Option Value → sm_M → Prop) (x1 : Int32) (x2 : Int32) (x3 : Int32) :
    sm_wp X 292 0 [some (.ref 81), some (.int x1), some (.int x2), some (.int x3), none] [] (sM mo G I J) Q =
    (sm_wp X 293 0 [some (.ref 81), some (.int x1)] [] (sM mo G (up2 I 81 2 0) J) (fun v M => sm_wp X 292 10 [some (.ref 81), some (.int x1), some (.int x2), some (.int x3), none] (v.toList ++ []) M Q)) :=
  (sm_blk X 292 0 (tt_lin 292 (by decide)) rfl rfl _ _ _ _).trans rfl
set_option maxRecDepth 100000 in
theorem bk_292_10 (X : (Nat → Int32) × Nat) (mo : Bool) (G : Nat × Nat) (I : Nat → Nat → Int32) (J : Nat → Nat → Int64) (Q : Option Value → sm_M → Prop) (x1 : Int32) (x2 : Int32) (x3 : Int32) (s0 : Int32) :
    sm_wp X 292 10 [some (.ref 81), some (.int x1), some (.int x2), some (.int x3), none] [.int s0] (sM mo G I J) Q =
    (if (s0 : Int32) = 0 then sm_wp X 292 31 [some (.ref 81), some (.int x1), some (.int x2), some (.int x3), none] [] (sM mo G I J) Q else (sm_wp X 215 0 [some (.ref 81), some (.int x2)] [] (sM mo G I J) (fun v M => sm_wp X 292 18 [some (.ref 81), some (.int x1), some (.int x2), some (.int x3), none] (v.toList ++ []) M Q))) :=
  (sm_blk X 292 10 (tt_lin 292 (by decide)) rfl rfl _ _ _ _).trans rfl
set_option maxRecDepth 100000 in
theorem bk_292_18 (X : (Nat → Int32) × Nat) (mo : Bool) (G : Nat × Nat) (I : Nat → Nat → Int32) (J : Nat → Nat → Int64) (Q : Option Value → sm_M → Prop) (x1 : Int32) (x2 : Int32) (x3 : Int32) (s0 : Int32) :
    sm_wp X 292 18 [some (.ref 81), some (.int x1), some (.int x2), some (.int x3), none] [.int s0] (sM mo G I J) Q =
    (if (s0 : Int32) = 0 then sm_wp X 292 31 [some (.ref 81), some (.int x1), some (.int x2), some (.int x3), none] [] (sM mo G I J) Q else (sm_wp X 210 0 [some (.int x3), some (.int 0), some (.int 99)] [] (sM mo G I J) (fun v M => sm_wp X 292 28 [some (.ref 81), some (.int x1), some (.int x2), some (.int x3), none] (v.toList ++ []) M Q))) :=
  (sm_blk X 292 18 (tt_lin 292 (by decide)) rfl rfl _ _ _ _).trans rfl
set_option maxRecDepth 100000 in
theorem bk_292_28 (X : (Nat → Int32) × Nat) (mo : Bool) (G : Nat × Nat) (I : Nat → Nat → Int32) (J : Nat → Nat → Int64) (Q : Option Value → sm_M → Prop) (x1 : Int32) (x2 : Int32) (x3 : Int32) (s0 : Int32) :
    sm_wp X 292 28 [some (.ref 81), some (.int x1), some (.int x2), some (.int x3), none] [.int s0] (sM mo G I J) Q =
    (if ¬ (s0 : Int32) = 0 then sm_wp X 292 33 [some (.ref 81), some (.int x1), some (.int x2), some (.int x3), none] [] (sM mo G I J) Q else (True ∧ Q (some (.int (-1))) (sM mo G I J))) :=
  (sm_blk X 292 28 (tt_lin 292 (by decide)) rfl rfl _ _ _ _).trans rfl
set_option maxRecDepth 100000 in
theorem bk_292_31 (X : (Nat → Int32) × Nat) (mo : Bool) (G : Nat × Nat) (I : Nat → Nat → Int32) (J : Nat → Nat → Int64) (Q : Option Value → sm_M → Prop) (x1 : Int32) (x2 : Int32) (x3 : Int32) :
    sm_wp X 292 31 [some (.ref 81), some (.int x1), some (.int x2), some (.int x3), none] [] (sM mo G I J) Q =
    (True ∧ Q (some (.int (-1))) (sM mo G I J)) :=
  (sm_blk X 292 31 (tt_lin 292 (by decide)) rfl rfl _ _ _ _).trans rfl
set_option maxRecDepth 100000 in
theorem bk_292_33 (X : (Nat → Int32) × Nat) (mo : Bool) (G : Nat × Nat) (I : Nat → Nat → Int32) (J : Nat → Nat → Int64) (Q : Option Value → sm_M → Prop) (x1 : Int32) (x2 : Int32) (x3 : Int32) :
    sm_wp X 292 33 [some (.ref 81), some (.int x1), some (.int x2), some (.int x3), none] [] (sM mo G I J) Q =
    (if ¬ (x3 : Int32) = 0 then sm_wp X 292 55 [some (.ref 81), some (.int x1), some (.int x2), some (.int x3), some (.int ((6 * x1) + x2))] [] (sM mo G I J) Q else (vp_in ((6 * x1) + x2) 48 ∧ (True ∧ Q (some (.int 0)) (sM mo G (up2 I 135 ((6 * x1) + x2).toNatClampNeg 0) J)))) :=
  (sm_blk X 292 33 (tt_lin 292 (by decide)) rfl rfl _ _ _ _).trans rfl
set_option maxRecDepth 100000 in
theorem bk_292_55 (X : (Nat → Int32) × Nat) (mo : Bool) (G : Nat × Nat) (I : Nat → Nat → Int32) (J : Nat → Nat → Int64) (Q : Option Value → sm_M → Prop) (x1 : Int32) (x2 : Int32) (x3 : Int32) (x4 : Int32) :
    sm_wp X 292 55 [some (.ref 81), some (.int x1), some (.int x2), some (.int x3), some (.int x4)] [] (sM mo G I J) Q =
    (vp_in x4 48 ∧ (if ¬ (I 135 (x4.toNatClampNeg) : Int32) = (8 : Int32) then sm_wp X 292 69 [some (.ref 81), some (.int x1), some (.int x2), some (.int x3), some (.int x4)] [] (sM mo G I J) Q else (True ∧ Q (some (.int (-1))) (sM mo G I J)))) :=
  (sm_blk X 292 55 (tt_lin 292 (by decide)) rfl rfl _ _ _ _).trans rfl
set_option maxRecDepth 100000 in
theorem bk_292_69 (X : (Nat → Int32) × Nat) (mo : Bool) (G : Nat × Nat) (I : Nat → Nat → Int32) (J : Nat → Nat → Int64) (Q : Option Value → sm_M → Prop) (x1 : Int32) (x2 : Int32) (x3 : Int32) (x4 : Int32) :
    sm_wp X 292 69 [some (.ref 81), some (.int x1), some (.int x2), some (.int x3), some (.int x4)] [] (sM mo G I J) Q =
    (vp_in x4 48 ∧ (vp_in ((8 * x4) + (I 135 (x4.toNatClampNeg))) 384 ∧ (vp_in x4 48 ∧ (vp_in x4 48 ∧ (vp_in x4 48 ∧ (True ∧ Q (some (.int ((up2 (up2 I 136 ((8 * x4) + (I 135 (x4.toNatClampNeg))).toNatClampNeg x3) 135 x4.toNatClampNeg (((up2 I 136 ((8 * x4) + (I 135 (x4.toNatClampNeg))).toNatClampNeg x3) 135 (x4.toNatClampNeg)) + 1)) 135 (x4.toNatClampNeg)))) (sM mo G (up2 (up2 I 136 ((8 * x4) + (I 135 (x4.toNatClampNeg))).toNatClampNeg x3) 135 x4.toNatClampNeg (((up2 I 136 ((8 * x4) + (I 135 (x4.toNatClampNeg))).toNatClampNeg x3) 135 (x4.toNatClampNeg)) + 1)) J))))))) :=
  (sm_blk X 292 69 (tt_lin 292 (by decide)) rfl rfl _ _ _ _).trans rfl
end
