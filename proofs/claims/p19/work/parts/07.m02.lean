section
-- Law_law 315 at 0: new
-- Law_law 315 at 7: new
-- Law_law 315 at 15: newarray
set_option maxRecDepth 100000 in
theorem bk_315_23 (X : (Nat → Int32) × Nat) (mo : Bool) (G : Nat × Nat) (I : Nat → Nat → Int32) (J : Nat → Nat → Int64) (Q : Option Value → sm_M → Prop) (x4 : Int32) :
    sm_wp X 315 23 [some (.retAddr 1), some (.ref 0), some (.ref 81), some (.ref 142), some (.int x4), none, none] [] (sM mo G I J) Q =
    (if ((Int32.ofNat X.2) - 7 : Int32) < (x4 : Int32) then sm_wp X 315 1680 [some (.retAddr 1), some (.ref 0), some (.ref 81), some (.ref 142), some (.int x4), none, none] [] (sM mo G I J) Q else (vp_in x4 X.2 ∧ (if ((X.1 x4.toNatClampNeg) &&& 63 : Int32) = 0 then sm_wp X 315 204 [some (.retAddr 1), some (.ref 0), some (.ref 81), some (.ref 142), some (.int x4), none, none] [] (sM mo G I J) Q else if ((X.1 x4.toNatClampNeg) &&& 63 : Int32) = 1 then sm_wp X 315 277 [some (.retAddr 1), some (.ref 0), some (.ref 81), some (.ref 142), some (.int x4), none, none] [] (sM mo G I J) Q else if ((X.1 x4.toNatClampNeg) &&& 63 : Int32) = 2 then sm_wp X 315 314 [some (.retAddr 1), some (.ref 0), some (.ref 81), some (.ref 142), some (.int x4), none, none] [] (sM mo G I J) Q else if ((X.1 x4.toNatClampNeg) &&& 63 : Int32) = 3 then sm_wp X 315 339 [some (.retAddr 1), some (.ref 0), some (.ref 81), some (.ref 142), some (.int x4), none, none] [] (sM mo G I J) Q else if ((X.1 x4.toNatClampNeg) &&& 63 : Int32) = 4 then sm_wp X 315 364 [some (.retAddr 1), some (.ref 0), some (.ref 81), some (.ref 142), some (.int x4), none, none] [] (sM mo G I J) Q else if ((X.1 x4.toNatClampNeg) &&& 63 : Int32) = 5 then sm_wp X 315 401 [some (.retAddr 1), some (.ref 0), some (.ref 81), some (.ref 142), some (.int x4), none, none] [] (sM mo G I J) Q else if ((X.1 x4.toNatClampNeg) &&& 63 : Int32) = 6 then sm_wp X 315 438 [some (.retAddr 1), some (.ref 0), some (.ref 81), some (.ref 142), some (.int x4), none, none] [] (sM mo G I J) Q else if ((X.1 x4.toNatClampNeg) &&& 63 : Int32) = 7 then sm_wp X 315 475 [some (.retAddr 1), some (.ref 0), some (.ref 81), some (.ref 142), some (.int x4), none, none] [] (sM mo G I J) Q else if ((X.1 x4.toNatClampNeg) &&& 63 : Int32) = 8 then sm_wp X 315 540 [some (.retAddr 1), some (.ref 0), some (.ref 81), some (.ref 142), some (.int x4), none, none] [] (sM mo G I J) Q else if ((X.1 x4.toNatClampNeg) &&& 63 : Int32) = 9 then sm_wp X 315 589 [some (.retAddr 1), some (.ref 0), some (.ref 81), some (.ref 142), some (.int x4), none, none] [] (sM mo G I J) Q else if ((X.1 x4.toNatClampNeg) &&& 63 : Int32) = 10 then sm_wp X 315 626 [some (.retAddr 1), some (.ref 0), some (.ref 81), some (.ref 142), some (.int x4), none, none] [] (sM mo G I J) Q else if ((X.1 x4.toNatClampNeg) &&& 63 : Int32) = 11 then sm_wp X 315 713 [some (.retAddr 1), some (.ref 0), some (.ref 81), some (.ref 142), some (.int x4), none, none] [] (sM mo G I J) Q else if ((X.1 x4.toNatClampNeg) &&& 63 : Int32) = 12 then sm_wp X 315 762 [some (.retAddr 1), some (.ref 0), some (.ref 81), some (.ref 142), some (.int x4), none, none] [] (sM mo G I J) Q else if ((X.1 x4.toNatClampNeg) &&& 63 : Int32) = 13 then sm_wp X 315 823 [some (.retAddr 1), some (.ref 0), some (.ref 81), some (.ref 142), some (.int x4), none, none] [] (sM mo G I J) Q else if ((X.1 x4.toNatClampNeg) &&& 63 : Int32) = 14 then sm_wp X 315 848 [some (.retAddr 1), some (.ref 0), some (.ref 81), some (.ref 142), some (.int x4), none, none] [] (sM mo G I J) Q else if ((X.1 x4.toNatClampNeg) &&& 63 : Int32) = 15 then sm_wp X 315 885 [some (.retAddr 1), some (.ref 0), some (.ref 81), some (.ref 142), some (.int x4), none, none] [] (sM mo G I J) Q else if ((X.1 x4.toNatClampNeg) &&& 63 : Int32) = 16 then sm_wp X 315 910 [some (.retAddr 1), some (.ref 0), some (.ref 81), some (.ref 142), some (.int x4), none, none] [] (sM mo G I J) Q else if ((X.1 x4.toNatClampNeg) &&& 63 : Int32) = 17 then sm_wp X 315 947 [some (.retAddr 1), some (.ref 0), some (.ref 81), some (.ref 142), some (.int x4), none, none] [] (sM mo G I J) Q else if ((X.1 x4.toNatClampNeg) &&& 63 : Int32) = 18 then sm_wp X 315 984 [some (.retAddr 1), some (.ref 0), some (.ref 81), some (.ref 142), some (.int x4), none, none] [] (sM mo G I J) Q else if ((X.1 x4.toNatClampNeg) &&& 63 : Int32) = 19 then sm_wp X 315 1033 [some (.retAddr 1), some (.ref 0), some (.ref 81), some (.ref 142), some (.int x4), none, none] [] (sM mo G I J) Q else if ((X.1 x4.toNatClampNeg) &&& 63 : Int32) = 20 then sm_wp X 315 1058 [some (.retAddr 1), some (.ref 0), some (.ref 81), some (.ref 142), some (.int x4), none, none] [] (sM mo G I J) Q else if ((X.1 x4.toNatClampNeg) &&& 63 : Int32) = 21 then sm_wp X 315 1083 [some (.retAddr 1), some (.ref 0), some (.ref 81), some (.ref 142), some (.int x4), none, none] [] (sM mo G I J) Q else if ((X.1 x4.toNatClampNeg) &&& 63 : Int32) = 22 then sm_wp X 315 1108 [some (.retAddr 1), some (.ref 0), some (.ref 81), some (.ref 142), some (.int x4), none, none] [] (sM mo G I J) Q else if ((X.1 x4.toNatClampNeg) &&& 63 : Int32) = 23 then sm_wp X 315 1145 [some (.retAddr 1), some (.ref 0), some (.ref 81), some (.ref 142), some (.int x4), none, none] [] (sM mo G I J) Q else if ((X.1 x4.toNatClampNeg) &&& 63 : Int32) = 24 then sm_wp X 315 1158 [some (.retAddr 1), some (.ref 0), some (.ref 81), some (.ref 142), some (.int x4), none, none] [] (sM mo G I J) Q else if ((X.1 x4.toNatClampNeg) &&& 63 : Int32) = 25 then sm_wp X 315 1183 [some (.retAddr 1), some (.ref 0), some (.ref 81), some (.ref 142), some (.int x4), none, none] [] (sM mo G I J) Q else if ((X.1 x4.toNatClampNeg) &&& 63 : Int32) = 26 then sm_wp X 315 1208 [some (.retAddr 1), some (.ref 0), some (.ref 81), some (.ref 142), some (.int x4), none, none] [] (sM mo G I J) Q else if ((X.1 x4.toNatClampNeg) &&& 63 : Int32) = 27 then sm_wp X 315 1221 [some (.retAddr 1), some (.ref 0), some (.ref 81), some (.ref 142), some (.int x4), none, none] [] (sM mo G I J) Q else if ((X.1 x4.toNatClampNeg) &&& 63 : Int32) = 28 then sm_wp X 315 1270 [some (.retAddr 1), some (.ref 0), some (.ref 81), some (.ref 142), some (.int x4), none, none] [] (sM mo G I J) Q else if ((X.1 x4.toNatClampNeg) &&& 63 : Int32) = 29 then sm_wp X 315 1335 [some (.retAddr 1), some (.ref 0), some (.ref 81), some (.ref 142), some (.int x4), none, none] [] (sM mo G I J) Q else if ((X.1 x4.toNatClampNeg) &&& 63 : Int32) = 30 then sm_wp X 315 1400 [some (.retAddr 1), some (.ref 0), some (.ref 81), some (.ref 142), some (.int x4), none, none] [] (sM mo G I J) Q else if ((X.1 x4.toNatClampNeg) &&& 63 : Int32) = 31 then sm_wp X 315 1449 [some (.retAddr 1), some (.ref 0), some (.ref 81), some (.ref 142), some (.int x4), none, none] [] (sM mo G I J) Q else if ((X.1 x4.toNatClampNeg) &&& 63 : Int32) = 32 then sm_wp X 315 1486 [some (.retAddr 1), some (.ref 0), some (.ref 81), some (.ref 142), some (.int x4), none, none] [] (sM mo G I J) Q else if ((X.1 x4.toNatClampNeg) &&& 63 : Int32) = 33 then sm_wp X 315 1535 [some (.retAddr 1), some (.ref 0), some (.ref 81), some (.ref 142), some (.int x4), none, none] [] (sM mo G I J) Q else if ((X.1 x4.toNatClampNeg) &&& 63 : Int32) = 34 then sm_wp X 315 1560 [some (.retAddr 1), some (.ref 0), some (.ref 81), some (.ref 142), some (.int x4), none, none] [] (sM mo G I J) Q else if ((X.1 x4.toNatClampNeg) &&& 63 : Int32) = 35 then sm_wp X 315 1609 [some (.retAddr 1), some (.ref 0), some (.ref 81), some (.ref 142), some (.int x4), none, none] [] (sM mo G I J) Q else if ((X.1 x4.toNatClampNeg) &&& 63 : Int32) = 36 then sm_wp X 315 1649 [some (.retAddr 1), some (.ref 0), some (.ref 81), some (.ref 142), some (.int x4), none, none] [] (sM mo G I J) Q else sm_wp X 315 1674 [some (.retAddr 1), some (.ref 0), some (.ref 81), some (.ref 142), some (.int x4), none, none] [] (sM mo G I J) Q))) :=
  (sm_blk X 315 23 (tt_lin 315 (by decide)) rfl rfl _ _ _ _).trans rfl
set_option maxRecDepth 100000 in
theorem bk_315_204 (X : (Nat → Int32) × Nat) (mo : Bool) (G : Nat × Nat) (I : Nat → Nat → Int32) (J : Nat → Nat → Int64) (Q : Option Value → sm_M → Prop) (x4 : Int32) :
    sm_wp X 315 204 [some (.retAddr 1), some (.ref 0), some (.ref 81), some (.ref 142), some (.int x4), none, none] [] (sM mo G I J) Q =
    (vp_in (x4 + 1) X.2 ∧ (vp_in (x4 + 2) X.2 ∧ (vp_in (x4 + 3) X.2 ∧ (vp_in (x4 + 4) X.2 ∧ (vp_in (x4 + 5) X.2 ∧ (sm_wp X 167 0 [some (.ref 0), some (.int (X.1 (x4 + 1).toNatClampNeg)), some (.int (X.1 (x4 + 2).toNatClampNeg)), some (.int (X.1 (x4 + 3).toNatClampNeg)), some (.int (X.1 (x4 + 4).toNatClampNeg)), some (.int (X.1 (x4 + 5).toNatClampNeg))] [] (sM mo G I J) (fun v M => sm_wp X 315 238 [some (.retAddr 1), some (.ref 0), some (.ref 81), some (.ref 142), some (.int x4), none, none] (v.toList ++ []) M Q))))))) :=
  (sm_blk X 315 204 (tt_lin 315 (by decide)) rfl rfl _ _ _ _).trans rfl
set_option maxRecDepth 100000 in
theorem bk_315_238 (X : (Nat → Int32) × Nat) (mo : Bool) (G : Nat × Nat) (I : Nat → Nat → Int32) (J : Nat → Nat → Int64) (Q : Option Value → sm_M → Prop) (x4 : Int32) (s0 : Int32) :
    sm_wp X 315 238 [some (.retAddr 1), some (.ref 0), some (.ref 81), some (.ref 142), some (.int x4), none, none] [.int s0] (sM mo G I J) Q =
    (vp_in (x4 + 1) X.2 ∧ (vp_in (x4 + 2) X.2 ∧ (vp_in (x4 + 3) X.2 ∧ (vp_in (x4 + 4) X.2 ∧ (vp_in (x4 + 5) X.2 ∧ (sm_wp X 208 0 [some (.ref 81), some (.int (X.1 (x4 + 1).toNatClampNeg)), some (.int (X.1 (x4 + 2).toNatClampNeg)), some (.int (X.1 (x4 + 3).toNatClampNeg)), some (.int (X.1 (x4 + 4).toNatClampNeg)), some (.int (X.1 (x4 + 5).toNatClampNeg)), none, none] [] (sM mo G I J) (fun v M => sm_wp X 315 273 [some (.retAddr 1), some (.ref 0), some (.ref 81), some (.ref 142), some (.int x4), none, none] (v.toList ++ []) M Q))))))) :=
  (sm_blk X 315 238 (tt_lin 315 (by decide)) rfl rfl _ _ _ _).trans rfl
set_option maxRecDepth 100000 in
theorem bk_315_273 (X : (Nat → Int32) × Nat) (mo : Bool) (G : Nat × Nat) (I : Nat → Nat → Int32) (J : Nat → Nat → Int64) (Q : Option Value → sm_M → Prop) (x4 : Int32) (s0 : Int32) :
    sm_wp X 315 273 [some (.retAddr 1), some (.ref 0), some (.ref 81), some (.ref 142), some (.int x4), none, none] [.int s0] (sM mo G I J) Q =
    (sm_wp X 315 1674 [some (.retAddr 1), some (.ref 0), some (.ref 81), some (.ref 142), some (.int x4), none, none] [] (sM mo G I J) Q) :=
  (sm_blk X 315 273 (tt_lin 315 (by decide)) rfl rfl _ _ _ _).trans rfl
set_option maxRecDepth 100000 in
theorem bk_315_277 (X : (Nat → Int32) × Nat) (mo : Bool) (G : Nat × Nat) (I : Nat → Nat → Int32) (J : Nat → Nat → Int64) (Q : Option Value → sm_M → Prop) (x4 : Int32) :
    sm_wp X 315 277 [some (.retAddr 1), some (.ref 0), some (.ref 81), some (.ref 142), some (.int x4), none, none] [] (sM mo G I J) Q =
    (vp_in (x4 + 1) X.2 ∧ (vp_in (x4 + 2) X.2 ∧ (sm_wp X 168 0 [some (.ref 0), some (.int (X.1 (x4 + 1).toNatClampNeg)), some (.int (X.1 (x4 + 2).toNatClampNeg))] [] (sM mo G I J) (fun v M => sm_wp X 315 293 [some (.retAddr 1), some (.ref 0), some (.ref 81), some (.ref 142), some (.int x4), none, none] (v.toList ++ []) M Q)))) :=
  (sm_blk X 315 277 (tt_lin 315 (by decide)) rfl rfl _ _ _ _).trans rfl
set_option maxRecDepth 100000 in
theorem bk_315_293 (X : (Nat → Int32) × Nat) (mo : Bool) (G : Nat × Nat) (I : Nat → Nat → Int32) (J : Nat → Nat → Int64) (Q : Option Value → sm_M → Prop) (x4 : Int32) (s0 : Int32) :
    sm_wp X 315 293 [some (.retAddr 1), some (.ref 0), some (.ref 81), some (.ref 142), some (.int x4), none, none] [.int s0] (sM mo G I J) Q =
    (vp_in (x4 + 1) X.2 ∧ (vp_in (x4 + 2) X.2 ∧ (sm_wp X 225 0 [some (.ref 81), some (.int (X.1 (x4 + 1).toNatClampNeg)), some (.int (X.1 (x4 + 2).toNatClampNeg)), none, none] [] (sM mo G I J) (fun v M => sm_wp X 315 310 [some (.retAddr 1), some (.ref 0), some (.ref 81), some (.ref 142), some (.int x4), none, none] (v.toList ++ []) M Q)))) :=
  (sm_blk X 315 293 (tt_lin 315 (by decide)) rfl rfl _ _ _ _).trans rfl
set_option maxRecDepth 100000 in
theorem bk_315_310 (X : (Nat → Int32) × Nat) (mo : Bool) (G : Nat × Nat) (I : Nat → Nat → Int32) (J : Nat → Nat → Int64) (Q : Option Value → sm_M → Prop) (x4 : Int32) (s0 : Int32) :
    sm_wp X 315 310 [some (.retAddr 1), some (.ref 0), some (.ref 81), some (.ref 142), some (.int x4), none, none] [.int s0] (sM mo G I J) Q =
    (sm_wp X 315 1674 [some (.retAddr 1), some (.ref 0), some (.ref 81), some (.ref 142), some (.int x4), none, none] [] (sM mo G I J) Q) :=
  (sm_blk X 315 310 (tt_lin 315 (by decide)) rfl rfl _ _ _ _).trans rfl
set_option maxRecDepth 100000 in
theorem bk_315_314 (X : (Nat → Int32) × Nat) (mo : Bool) (G : Nat × Nat) (I : Nat → Nat → Int32) (J : Nat → Nat → Int64) (Q : Option Value → sm_M → Prop) (x4 : Int32) :
    sm_wp X 315 314 [some (.retAddr 1), some (.ref 0), some (.ref 81), some (.ref 142), some (.int x4), none, none] [] (sM mo G I J) Q =
    (vp_in (x4 + 1) X.2 ∧ (sm_wp X 170 0 [some (.ref 0), some (.int (X.1 (x4 + 1).toNatClampNeg))] [] (sM mo G I J) (fun v M => sm_wp X 315 324 [some (.retAddr 1), some (.ref 0), some (.ref 81), some (.ref 142), some (.int x4), none, none] (v.toList ++ []) M Q))) :=
  (sm_blk X 315 314 (tt_lin 315 (by decide)) rfl rfl _ _ _ _).trans rfl
set_option maxRecDepth 100000 in
theorem bk_315_324 (X : (Nat → Int32) × Nat) (mo : Bool) (G : Nat × Nat) (I : Nat → Nat → Int32) (J : Nat → Nat → Int64) (Q : Option Value → sm_M → Prop) (x4 : Int32) (s0 : Int32) :
    sm_wp X 315 324 [some (.retAddr 1), some (.ref 0), some (.ref 81), some (.ref 142), some (.int x4), none, none] [.int s0] (sM mo G I J) Q =
    (vp_in (x4 + 1) X.2 ∧ (sm_wp X 246 0 [some (.ref 81), some (.int (X.1 (x4 + 1).toNatClampNeg))] [] (sM mo G I J) (fun v M => sm_wp X 315 335 [some (.retAddr 1), some (.ref 0), some (.ref 81), some (.ref 142), some (.int x4), none, none] (v.toList ++ []) M Q))) :=
  (sm_blk X 315 324 (tt_lin 315 (by decide)) rfl rfl _ _ _ _).trans rfl
set_option maxRecDepth 100000 in
theorem bk_315_335 (X : (Nat → Int32) × Nat) (mo : Bool) (G : Nat × Nat) (I : Nat → Nat → Int32) (J : Nat → Nat → Int64) (Q : Option Value → sm_M → Prop) (x4 : Int32) (s0 : Int32) :
    sm_wp X 315 335 [some (.retAddr 1), some (.ref 0), some (.ref 81), some (.ref 142), some (.int x4), none, none] [.int s0] (sM mo G I J) Q =
    (sm_wp X 315 1674 [some (.retAddr 1), some (.ref 0), some (.ref 81), some (.ref 142), some (.int x4), none, none] [] (sM mo G I J) Q) :=
  (sm_blk X 315 335 (tt_lin 315 (by decide)) rfl rfl _ _ _ _).trans rfl
set_option maxRecDepth 100000 in
theorem bk_315_339 (X : (Nat → Int32) × Nat) (mo : Bool) (G : Nat × Nat) (I : Nat → Nat → Int32) (J : Nat → Nat → Int64) (Q : Option Value → sm_M → Prop) (x4 : Int32) :
    sm_wp X 315 339 [some (.retAddr 1), some (.ref 0), some (.ref 81), some (.ref 142), some (.int x4), none, none] [] (sM mo G I J) Q =
    (vp_in (x4 + 1) X.2 ∧ (sm_wp X 171 0 [some (.ref 0), some (.int (X.1 (x4 + 1).toNatClampNeg))] [] (sM mo G I J) (fun v M => sm_wp X 315 349 [some (.retAddr 1), some (.ref 0), some (.ref 81), some (.ref 142), some (.int x4), none, none] (v.toList ++ []) M Q))) :=
  (sm_blk X 315 339 (tt_lin 315 (by decide)) rfl rfl _ _ _ _).trans rfl
set_option maxRecDepth 100000 in
theorem bk_315_349 (X : (Nat → Int32) × Nat) (mo : Bool) (G : Nat × Nat) (I : Nat → Nat → Int32) (J : Nat → Nat → Int64) (Q : Option Value → sm_M → Prop) (x4 : Int32) (s0 : Int32) :
    sm_wp X 315 349 [some (.retAddr 1), some (.ref 0), some (.ref 81), some (.ref 142), some (.int x4), none, none] [.int s0] (sM mo G I J) Q =
    (vp_in (x4 + 1) X.2 ∧ (sm_wp X 209 0 [some (.ref 81), some (.int (X.1 (x4 + 1).toNatClampNeg))] [] (sM mo G I J) (fun v M => sm_wp X 315 360 [some (.retAddr 1), some (.ref 0), some (.ref 81), some (.ref 142), some (.int x4), none, none] (v.toList ++ []) M Q))) :=
  (sm_blk X 315 349 (tt_lin 315 (by decide)) rfl rfl _ _ _ _).trans rfl
set_option maxRecDepth 100000 in
theorem bk_315_360 (X : (Nat → Int32) × Nat) (mo : Bool) (G : Nat × Nat) (I : Nat → Nat → Int32) (J : Nat → Nat → Int64) (Q : Option Value → sm_M → Prop) (x4 : Int32) (s0 : Int32) :
    sm_wp X 315 360 [some (.retAddr 1), some (.ref 0), some (.ref 81), some (.ref 142), some (.int x4), none, none] [.int s0] (sM mo G I J) Q =
    (sm_wp X 315 1674 [some (.retAddr 1), some (.ref 0), some (.ref 81), some (.ref 142), some (.int x4), none, none] [] (sM mo G I J) Q) :=
  (sm_blk X 315 360 (tt_lin 315 (by decide)) rfl rfl _ _ _ _).trans rfl
set_option maxRecDepth 100000 in
theorem bk_315_364 (X : (Nat → Int32) × Nat) (mo : Bool) (G : Nat × Nat) (I : Nat → Nat → Int32) (J : Nat → Nat → Int64) (Q : Option Value → sm_M → Prop) (x4 : Int32) :
    sm_wp X 315 364 [some (.retAddr 1), some (.ref 0), some (.ref 81), some (.ref 142), some (.int x4), none, none] [] (sM mo G I J) Q =
    (vp_in (x4 + 1) X.2 ∧ (vp_in (x4 + 2) X.2 ∧ (sm_wp X 172 0 [some (.ref 0), some (.int (X.1 (x4 + 1).toNatClampNeg)), some (.int (X.1 (x4 + 2).toNatClampNeg))] [] (sM mo G I J) (fun v M => sm_wp X 315 380 [some (.retAddr 1), some (.ref 0), some (.ref 81), some (.ref 142), some (.int x4), none, none] (v.toList ++ []) M Q)))) :=
  (sm_blk X 315 364 (tt_lin 315 (by decide)) rfl rfl _ _ _ _).trans rfl
set_option maxRecDepth 100000 in
theorem bk_315_380 (X : (Nat → Int32) × Nat) (mo : Bool) (G : Nat × Nat) (I : Nat → Nat → Int32) (J : Nat → Nat → Int64) (Q : Option Value → sm_M → Prop) (x4 : Int32) (s0 : Int32) :
    sm_wp X 315 380 [some (.retAddr 1), some (.ref 0), some (.ref 81), some (.ref 142), some (.int x4), none, none] [.int s0] (sM mo G I J) Q =
    (vp_in (x4 + 1) X.2 ∧ (vp_in (x4 + 2) X.2 ∧ (sm_wp X 211 0 [some (.ref 81), some (.int (X.1 (x4 + 1).toNatClampNeg)), some (.int (X.1 (x4 + 2).toNatClampNeg))] [] (sM mo G I J) (fun v M => sm_wp X 315 397 [some (.retAddr 1), some (.ref 0), some (.ref 81), some (.ref 142), some (.int x4), none, none] (v.toList ++ []) M Q)))) :=
  (sm_blk X 315 380 (tt_lin 315 (by decide)) rfl rfl _ _ _ _).trans rfl
set_option maxRecDepth 100000 in
theorem bk_315_397 (X : (Nat → Int32) × Nat) (mo : Bool) (G : Nat × Nat) (I : Nat → Nat → Int32) (J : Nat → Nat → Int64) (Q : Option Value → sm_M → Prop) (x4 : Int32) (s0 : Int32) :
    sm_wp X 315 397 [some (.retAddr 1), some (.ref 0), some (.ref 81), some (.ref 142), some (.int x4), none, none] [.int s0] (sM mo G I J) Q =
    (sm_wp X 315 1674 [some (.retAddr 1), some (.ref 0), some (.ref 81), some (.ref 142), some (.int x4), none, none] [] (sM mo G I J) Q) :=
  (sm_blk X 315 397 (tt_lin 315 (by decide)) rfl rfl _ _ _ _).trans rfl
set_option maxRecDepth 100000 in
theorem bk_315_401 (X : (Nat → Int32) × Nat) (mo : Bool) (G : Nat × Nat) (I : Nat → Nat → Int32) (J : Nat → Nat → Int64) (Q : Option Value → sm_M → Prop) (x4 : Int32) :
    sm_wp X 315 401 [some (.retAddr 1), some (.ref 0), some (.ref 81), some (.ref 142), some (.int x4), none, none] [] (sM mo G I J) Q =
    (vp_in (x4 + 1) X.2 ∧ (vp_in (x4 + 2) X.2 ∧ (sm_wp X 173 0 [some (.ref 0), some (.int (X.1 (x4 + 1).toNatClampNeg)), some (.int (X.1 (x4 + 2).toNatClampNeg))] [] (sM mo G I J) (fun v M => sm_wp X 315 417 [some (.retAddr 1), some (.ref 0), some (.ref 81), some (.ref 142), some (.int x4), none, none] (v.toList ++ []) M Q)))) :=
  (sm_blk X 315 401 (tt_lin 315 (by decide)) rfl rfl _ _ _ _).trans rfl
set_option maxRecDepth 100000 in
theorem bk_315_417 (X : (Nat → Int32) × Nat) (mo : Bool) (G : Nat × Nat) (I : Nat → Nat → Int32) (J : Nat → Nat → Int64) (Q : Option Value → sm_M → Prop) (x4 : Int32) (s0 : Int32) :
    sm_wp X 315 417 [some (.retAddr 1), some (.ref 0), some (.ref 81), some (.ref 142), some (.int x4), none, none] [.int s0] (sM mo G I J) Q =
    (vp_in (x4 + 1) X.2 ∧ (vp_in (x4 + 2) X.2 ∧ (sm_wp X 213 0 [some (.ref 81), some (.int (X.1 (x4 + 1).toNatClampNeg)), some (.int (X.1 (x4 + 2).toNatClampNeg))] [] (sM mo G I J) (fun v M => sm_wp X 315 434 [some (.retAddr 1), some (.ref 0), some (.ref 81), some (.ref 142), some (.int x4), none, none] (v.toList ++ []) M Q)))) :=
  (sm_blk X 315 417 (tt_lin 315 (by decide)) rfl rfl _ _ _ _).trans rfl
set_option maxRecDepth 100000 in
theorem bk_315_434 (X : (Nat → Int32) × Nat) (mo : Bool) (G : Nat × Nat) (I : Nat → Nat → Int32) (J : Nat → Nat → Int64) (Q : Option Value → sm_M → Prop) (x4 : Int32) (s0 : Int32) :
    sm_wp X 315 434 [some (.retAddr 1), some (.ref 0), some (.ref 81), some (.ref 142), some (.int x4), none, none] [.int s0] (sM mo G I J) Q =
    (sm_wp X 315 1674 [some (.retAddr 1), some (.ref 0), some (.ref 81), some (.ref 142), some (.int x4), none, none] [] (sM mo G I J) Q) :=
  (sm_blk X 315 434 (tt_lin 315 (by decide)) rfl rfl _ _ _ _).trans rfl
set_option maxRecDepth 100000 in
theorem bk_315_438 (X : (Nat → Int32) × Nat) (mo : Bool) (G : Nat × Nat) (I : Nat → Nat → Int32) (J : Nat → Nat → Int64) (Q : Option Value → sm_M → Prop) (x4 : Int32) :
    sm_wp X 315 438 [some (.retAddr 1), some (.ref 0), some (.ref 81), some (.ref 142), some (.int x4), none, none] [] (sM mo G I J) Q =
    (vp_in (x4 + 1) X.2 ∧ (vp_in (x4 + 2) X.2 ∧ (sm_wp X 174 0 [some (.ref 0), some (.int (X.1 (x4 + 1).toNatClampNeg)), some (.int (X.1 (x4 + 2).toNatClampNeg))] [] (sM mo G I J) (fun v M => sm_wp X 315 454 [some (.retAddr 1), some (.ref 0), some (.ref 81), some (.ref 142), some (.int x4), none, none] (v.toList ++ []) M Q)))) :=
  (sm_blk X 315 438 (tt_lin 315 (by decide)) rfl rfl _ _ _ _).trans rfl
set_option maxRecDepth 100000 in
theorem bk_315_454 (X : (Nat → Int32) × Nat) (mo : Bool) (G : Nat × Nat) (I : Nat → Nat → Int32) (J : Nat → Nat → Int64) (Q : Option Value → sm_M → Prop) (x4 : Int32) (s0 : Int32) :
    sm_wp X 315 454 [some (.retAddr 1), some (.ref 0), some (.ref 81), some (.ref 142), some (.int x4), none, none] [.int s0] (sM mo G I J) Q =
    (vp_in (x4 + 1) X.2 ∧ (vp_in (x4 + 2) X.2 ∧ (sm_wp X 214 0 [some (.ref 81), some (.int (X.1 (x4 + 1).toNatClampNeg)), some (.int (X.1 (x4 + 2).toNatClampNeg))] [] (sM mo G I J) (fun v M => sm_wp X 315 471 [some (.retAddr 1), some (.ref 0), some (.ref 81), some (.ref 142), some (.int x4), none, none] (v.toList ++ []) M Q)))) :=
  (sm_blk X 315 454 (tt_lin 315 (by decide)) rfl rfl _ _ _ _).trans rfl
set_option maxRecDepth 100000 in
theorem bk_315_471 (X : (Nat → Int32) × Nat) (mo : Bool) (G : Nat × Nat) (I : Nat → Nat → Int32) (J : Nat → Nat → Int64) (Q : Option Value → sm_M → Prop) (x4 : Int32) (s0 : Int32) :
    sm_wp X 315 471 [some (.retAddr 1), some (.ref 0), some (.ref 81), some (.ref 142), some (.int x4), none, none] [.int s0] (sM mo G I J) Q =
    (sm_wp X 315 1674 [some (.retAddr 1), some (.ref 0), some (.ref 81), some (.ref 142), some (.int x4), none, none] [] (sM mo G I J) Q) :=
  (sm_blk X 315 471 (tt_lin 315 (by decide)) rfl rfl _ _ _ _).trans rfl
set_option maxRecDepth 100000 in
theorem bk_315_475 (X : (Nat → Int32) × Nat) (mo : Bool) (G : Nat × Nat) (I : Nat → Nat → Int32) (J : Nat → Nat → Int64) (Q : Option Value → sm_M → Prop) (x4 : Int32) :
    sm_wp X 315 475 [some (.retAddr 1), some (.ref 0), some (.ref 81), some (.ref 142), some (.int x4), none, none] [] (sM mo G I J) Q =
    (vp_in (x4 + 1) X.2 ∧ (vp_in (x4 + 2) X.2 ∧ (vp_in (x4 + 3) X.2 ∧ (if (X.1 (x4 + 3).toNatClampNeg : Int32) = 0 then sm_wp X 315 501 [some (.retAddr 1), some (.ref 0), some (.ref 81), some (.ref 142), some (.int x4), none, none] [.int (X.1 (x4 + 2).toNatClampNeg), .int (X.1 (x4 + 1).toNatClampNeg), .ref 0] (sM mo G I J) Q else (sm_wp X 315 502 [some (.retAddr 1), some (.ref 0), some (.ref 81), some (.ref 142), some (.int x4), none, none] [.int 1, .int (X.1 (x4 + 2).toNatClampNeg), .int (X.1 (x4 + 1).toNatClampNeg), .ref 0] (sM mo G I J) Q))))) :=
  (sm_blk X 315 475 (tt_lin 315 (by decide)) rfl rfl _ _ _ _).trans rfl
set_option maxRecDepth 100000 in
theorem bk_315_501 (X : (Nat → Int32) × Nat) (mo : Bool) (G : Nat × Nat) (I : Nat → Nat → Int32) (J : Nat → Nat → Int64) (Q : Option Value → sm_M → Prop) (x4 : Int32) (s1 : Int32) (s2 : Int32) :
    sm_wp X 315 501 [some (.retAddr 1), some (.ref 0), some (.ref 81), some (.ref 142), some (.int x4), none, none] [.int s2, .int s1, .ref 0] (sM mo G I J) Q =
    (sm_wp X 175 0 [some (.ref 0), some (.int s1), some (.int s2), some (.int 0), none] [] (sM mo G I J) (fun v M => sm_wp X 315 505 [some (.retAddr 1), some (.ref 0), some (.ref 81), some (.ref 142), some (.int x4), none, none] (v.toList ++ []) M Q)) :=
  (sm_blk X 315 501 (tt_lin 315 (by decide)) rfl rfl _ _ _ _).trans rfl
set_option maxRecDepth 100000 in
theorem bk_315_502 (X : (Nat → Int32) × Nat) (mo : Bool) (G : Nat × Nat) (I : Nat → Nat → Int32) (J : Nat → Nat → Int64) (Q : Option Value → sm_M → Prop) (x4 : Int32) (s1 : Int32) (s2 : Int32) (s3 : Int32) :
    sm_wp X 315 502 [some (.retAddr 1), some (.ref 0), some (.ref 81), some (.ref 142), some (.int x4), none, none] [.int s3, .int s2, .int s1, .ref 0] (sM mo G I J) Q =
    (sm_wp X 175 0 [some (.ref 0), some (.int s1), some (.int s2), some (.int s3), none] [] (sM mo G I J) (fun v M => sm_wp X 315 505 [some (.retAddr 1), some (.ref 0), some (.ref 81), some (.ref 142), some (.int x4), none, none] (v.toList ++ []) M Q)) :=
  (sm_blk X 315 502 (tt_lin 315 (by decide)) rfl rfl _ _ _ _).trans rfl
set_option maxRecDepth 100000 in
theorem bk_315_505 (X : (Nat → Int32) × Nat) (mo : Bool) (G : Nat × Nat) (I : Nat → Nat → Int32) (J : Nat → Nat → Int64) (Q : Option Value → sm_M → Prop) (x4 : Int32) (s0 : Int32) :
    sm_wp X 315 505 [some (.retAddr 1), some (.ref 0), some (.ref 81), some (.ref 142), some (.int x4), none, none] [.int s0] (sM mo G I J) Q =
    (vp_in (x4 + 1) X.2 ∧ (vp_in (x4 + 2) X.2 ∧ (vp_in (x4 + 3) X.2 ∧ (if (X.1 (x4 + 3).toNatClampNeg : Int32) = 0 then sm_wp X 315 532 [some (.retAddr 1), some (.ref 0), some (.ref 81), some (.ref 142), some (.int x4), none, none] [.int (X.1 (x4 + 2).toNatClampNeg), .int (X.1 (x4 + 1).toNatClampNeg), .ref 81] (sM mo G I J) Q else (sm_wp X 315 533 [some (.retAddr 1), some (.ref 0), some (.ref 81), some (.ref 142), some (.int x4), none, none] [.int 1, .int (X.1 (x4 + 2).toNatClampNeg), .int (X.1 (x4 + 1).toNatClampNeg), .ref 81] (sM mo G I J) Q))))) :=
  (sm_blk X 315 505 (tt_lin 315 (by decide)) rfl rfl _ _ _ _).trans rfl
set_option maxRecDepth 100000 in
theorem bk_315_532 (X : (Nat → Int32) × Nat) (mo : Bool) (G : Nat × Nat) (I : Nat → Nat → Int32) (J : Nat → Nat → Int64) (Q : Option Value → sm_M → Prop) (x4 : Int32) (s1 : Int32) (s2 : Int32) :
    sm_wp X 315 532 [some (.retAddr 1), some (.ref 0), some (.ref 81), some (.ref 142), some (.int x4), none, none] [.int s2, .int s1, .ref 81] (sM mo G I J) Q =
    (sm_wp X 218 0 [some (.ref 81), some (.int s1), some (.int s2), some (.int 0)] [] (sM mo G I J) (fun v M => sm_wp X 315 536 [some (.retAddr 1), some (.ref 0), some (.ref 81), some (.ref 142), some (.int x4), none, none] (v.toList ++ []) M Q)) :=
  (sm_blk X 315 532 (tt_lin 315 (by decide)) rfl rfl _ _ _ _).trans rfl
set_option maxRecDepth 100000 in
theorem bk_315_533 (X : (Nat → Int32) × Nat) (mo : Bool) (G : Nat × Nat) (I : Nat → Nat → Int32) (J : Nat → Nat → Int64) (Q : Option Value → sm_M → Prop) (x4 : Int32) (s1 : Int32) (s2 : Int32) (s3 : Int32) :
    sm_wp X 315 533 [some (.retAddr 1), some (.ref 0), some (.ref 81), some (.ref 142), some (.int x4), none, none] [.int s3, .int s2, .int s1, .ref 81] (sM mo G I J) Q =
    (sm_wp X 218 0 [some (.ref 81), some (.int s1), some (.int s2), some (.int s3)] [] (sM mo G I J) (fun v M => sm_wp X 315 536 [some (.retAddr 1), some (.ref 0), some (.ref 81), some (.ref 142), some (.int x4), none, none] (v.toList ++ []) M Q)) :=
  (sm_blk X 315 533 (tt_lin 315 (by decide)) rfl rfl _ _ _ _).trans rfl
set_option maxRecDepth 100000 in
theorem bk_315_536 (X : (Nat → Int32) × Nat) (mo : Bool) (G : Nat × Nat) (I : Nat → Nat → Int32) (J : Nat → Nat → Int64) (Q : Option Value → sm_M → Prop) (x4 : Int32) (s0 : Int32) :
    sm_wp X 315 536 [some (.retAddr 1), some (.ref 0), some (.ref 81), some (.ref 142), some (.int x4), none, none] [.int s0] (sM mo G I J) Q =
    (sm_wp X 315 1674 [some (.retAddr 1), some (.ref 0), some (.ref 81), some (.ref 142), some (.int x4), none, none] [] (sM mo G I J) Q) :=
  (sm_blk X 315 536 (tt_lin 315 (by decide)) rfl rfl _ _ _ _).trans rfl
set_option maxRecDepth 100000 in
theorem bk_315_540 (X : (Nat → Int32) × Nat) (mo : Bool) (G : Nat × Nat) (I : Nat → Nat → Int32) (J : Nat → Nat → Int64) (Q : Option Value → sm_M → Prop) (x4 : Int32) :
    sm_wp X 315 540 [some (.retAddr 1), some (.ref 0), some (.ref 81), some (.ref 142), some (.int x4), none, none] [] (sM mo G I J) Q =
    (vp_in (x4 + 1) X.2 ∧ (vp_in (x4 + 2) X.2 ∧ (vp_in (x4 + 3) X.2 ∧ (sm_wp X 176 0 [some (.ref 0), some (.int (X.1 (x4 + 1).toNatClampNeg)), some (.int (X.1 (x4 + 2).toNatClampNeg)), some (.int (X.1 (x4 + 3).toNatClampNeg))] [] (sM mo G I J) (fun v M => sm_wp X 315 562 [some (.retAddr 1), some (.ref 0), some (.ref 81), some (.ref 142), some (.int x4), none, none] (v.toList ++ []) M Q))))) :=
  (sm_blk X 315 540 (tt_lin 315 (by decide)) rfl rfl _ _ _ _).trans rfl
set_option maxRecDepth 100000 in
theorem bk_315_562 (X : (Nat → Int32) × Nat) (mo : Bool) (G : Nat × Nat) (I : Nat → Nat → Int32) (J : Nat → Nat → Int64) (Q : Option Value → sm_M → Prop) (x4 : Int32) (s0 : Int32) :
    sm_wp X 315 562 [some (.retAddr 1), some (.ref 0), some (.ref 81), some (.ref 142), some (.int x4), none, none] [.int s0] (sM mo G I J) Q =
    (vp_in (x4 + 1) X.2 ∧ (vp_in (x4 + 2) X.2 ∧ (vp_in (x4 + 3) X.2 ∧ (sm_wp X 220 0 [some (.ref 81), some (.int (X.1 (x4 + 1).toNatClampNeg)), some (.int (X.1 (x4 + 2).toNatClampNeg)), some (.int (X.1 (x4 + 3).toNatClampNeg))] [] (sM mo G I J) (fun v M => sm_wp X 315 585 [some (.retAddr 1), some (.ref 0), some (.ref 81), some (.ref 142), some (.int x4), none, none] (v.toList ++ []) M Q))))) :=
  (sm_blk X 315 562 (tt_lin 315 (by decide)) rfl rfl _ _ _ _).trans rfl
set_option maxRecDepth 100000 in
theorem bk_315_585 (X : (Nat → Int32) × Nat) (mo : Bool) (G : Nat × Nat) (I : Nat → Nat → Int32) (J : Nat → Nat → Int64) (Q : Option Value → sm_M → Prop) (x4 : Int32) (s0 : Int32) :
    sm_wp X 315 585 [some (.retAddr 1), some (.ref 0), some (.ref 81), some (.ref 142), some (.int x4), none, none] [.int s0] (sM mo G I J) Q =
    (sm_wp X 315 1674 [some (.retAddr 1), some (.ref 0), some (.ref 81), some (.ref 142), some (.int x4), none, none] [] (sM mo G I J) Q) :=
  (sm_blk X 315 585 (tt_lin 315 (by decide)) rfl rfl _ _ _ _).trans rfl
set_option maxRecDepth 100000 in
theorem bk_315_589 (X : (Nat → Int32) × Nat) (mo : Bool) (G : Nat × Nat) (I : Nat → Nat → Int32) (J : Nat → Nat → Int64) (Q : Option Value → sm_M → Prop) (x4 : Int32) :
    sm_wp X 315 589 [some (.retAddr 1), some (.ref 0), some (.ref 81), some (.ref 142), some (.int x4), none, none] [] (sM mo G I J) Q =
    (vp_in (x4 + 1) X.2 ∧ (vp_in (x4 + 2) X.2 ∧ (sm_wp X 177 0 [some (.ref 0), some (.int (X.1 (x4 + 1).toNatClampNeg)), some (.int (X.1 (x4 + 2).toNatClampNeg))] [] (sM mo G I J) (fun v M => sm_wp X 315 605 [some (.retAddr 1), some (.ref 0), some (.ref 81), some (.ref 142), some (.int x4), none, none] (v.toList ++ []) M Q)))) :=
  (sm_blk X 315 589 (tt_lin 315 (by decide)) rfl rfl _ _ _ _).trans rfl
set_option maxRecDepth 100000 in
theorem bk_315_605 (X : (Nat → Int32) × Nat) (mo : Bool) (G : Nat × Nat) (I : Nat → Nat → Int32) (J : Nat → Nat → Int64) (Q : Option Value → sm_M → Prop) (x4 : Int32) (s0 : Int32) :
    sm_wp X 315 605 [some (.retAddr 1), some (.ref 0), some (.ref 81), some (.ref 142), some (.int x4), none, none] [.int s0] (sM mo G I J) Q =
    (vp_in (x4 + 1) X.2 ∧ (vp_in (x4 + 2) X.2 ∧ (sm_wp X 221 0 [some (.ref 81), some (.int (X.1 (x4 + 1).toNatClampNeg)), some (.int (X.1 (x4 + 2).toNatClampNeg))] [] (sM mo G I J) (fun v M => sm_wp X 315 622 [some (.retAddr 1), some (.ref 0), some (.ref 81), some (.ref 142), some (.int x4), none, none] (v.toList ++ []) M Q)))) :=
  (sm_blk X 315 605 (tt_lin 315 (by decide)) rfl rfl _ _ _ _).trans rfl
set_option maxRecDepth 100000 in
theorem bk_315_622 (X : (Nat → Int32) × Nat) (mo : Bool) (G : Nat × Nat) (I : Nat → Nat → Int32) (J : Nat → Nat → Int64) (Q : Option Value → sm_M → Prop) (x4 : Int32) (s0 : Int32) :
    sm_wp X 315 622 [some (.retAddr 1), some (.ref 0), some (.ref 81), some (.ref 142), some (.int x4), none, none] [.int s0] (sM mo G I J) Q =
    (sm_wp X 315 1674 [some (.retAddr 1), some (.ref 0), some (.ref 81), some (.ref 142), some (.int x4), none, none] [] (sM mo G I J) Q) :=
  (sm_blk X 315 622 (tt_lin 315 (by decide)) rfl rfl _ _ _ _).trans rfl
set_option maxRecDepth 100000 in
theorem bk_315_626 (X : (Nat → Int32) × Nat) (mo : Bool) (G : Nat × Nat) (I : Nat → Nat → Int32) (J : Nat → Nat → Int64) (Q : Option Value → sm_M → Prop) (x4 : Int32) :
    sm_wp X 315 626 [some (.retAddr 1), some (.ref 0), some (.ref 81), some (.ref 142), some (.int x4), none, none] [] (sM mo G I J) Q =
    (vp_in (x4 + 1) X.2 ∧ (vp_in (x4 + 2) X.2 ∧ (vp_in (x4 + 3) X.2 ∧ (vp_in (x4 + 4) X.2 ∧ (vp_in (x4 + 5) X.2 ∧ (vp_in (x4 + 6) X.2 ∧ (sm_wp X 178 0 [some (.ref 0), some (.int (X.1 (x4 + 1).toNatClampNeg)), some (.int (X.1 (x4 + 2).toNatClampNeg)), some (.int (X.1 (x4 + 3).toNatClampNeg)), some (.int (X.1 (x4 + 4).toNatClampNeg)), some (.int (X.1 (x4 + 5).toNatClampNeg)), some (.int (X.1 (x4 + 6).toNatClampNeg)), none, none] [] (sM mo G I J) (fun v M => sm_wp X 315 667 [some (.retAddr 1), some (.ref 0), some (.ref 81), some (.ref 142), some (.int x4), none, none] (v.toList ++ []) M Q)))))))) :=
  (sm_blk X 315 626 (tt_lin 315 (by decide)) rfl rfl _ _ _ _).trans rfl
set_option maxRecDepth 100000 in
theorem bk_315_667 (X : (Nat → Int32) × Nat) (mo : Bool) (G : Nat × Nat) (I : Nat → Nat → Int32) (J : Nat → Nat → Int64) (Q : Option Value → sm_M → Prop) (x4 : Int32) (s0 : Int32) :
    sm_wp X 315 667 [some (.retAddr 1), some (.ref 0), some (.ref 81), some (.ref 142), some (.int x4), none, none] [.int s0] (sM mo G I J) Q =
    (vp_in (x4 + 1) X.2 ∧ (vp_in (x4 + 2) X.2 ∧ (vp_in (x4 + 3) X.2 ∧ (vp_in (x4 + 4) X.2 ∧ (vp_in (x4 + 5) X.2 ∧ (vp_in (x4 + 6) X.2 ∧ (sm_wp X 247 0 [some (.ref 81), some (.int (X.1 (x4 + 1).toNatClampNeg)), some (.int (X.1 (x4 + 2).toNatClampNeg)), some (.int (X.1 (x4 + 3).toNatClampNeg)), some (.int (X.1 (x4 + 4).toNatClampNeg)), some (.int (X.1 (x4 + 5).toNatClampNeg)), some (.int (X.1 (x4 + 6).toNatClampNeg))] [] (sM mo G I J) (fun v M => sm_wp X 315 709 [some (.retAddr 1), some (.ref 0), some (.ref 81), some (.ref 142), some (.int x4), none, none] (v.toList ++ []) M Q)))))))) :=
  (sm_blk X 315 667 (tt_lin 315 (by decide)) rfl rfl _ _ _ _).trans rfl
set_option maxRecDepth 100000 in
theorem bk_315_709 (X : (Nat → Int32) × Nat) (mo : Bool) (G : Nat × Nat) (I : Nat → Nat → Int32) (J : Nat → Nat → Int64) (Q : Option Value → sm_M → Prop) (x4 : Int32) (s0 : Int32) :
    sm_wp X 315 709 [some (.retAddr 1), some (.ref 0), some (.ref 81), some (.ref 142), some (.int x4), none, none] [.int s0] (sM mo G I J) Q =
    (sm_wp X 315 1674 [some (.retAddr 1), some (.ref 0), some (.ref 81), some (.ref 142), some (.int x4), none, none] [] (sM mo G I J) Q) :=
  (sm_blk X 315 709 (tt_lin 315 (by decide)) rfl rfl _ _ _ _).trans rfl
set_option maxRecDepth 100000 in
theorem bk_315_713 (X : (Nat → Int32) × Nat) (mo : Bool) (G : Nat × Nat) (I : Nat → Nat → Int32) (J : Nat → Nat → Int64) (Q : Option Value → sm_M → Prop) (x4 : Int32) :
    sm_wp X 315 713 [some (.retAddr 1), some (.ref 0), some (.ref 81), some (.ref 142), some (.int x4), none, none] [] (sM mo G I J) Q =
    (vp_in (x4 + 1) X.2 ∧ (vp_in (x4 + 2) X.2 ∧ (vp_in (x4 + 3) X.2 ∧ (sm_wp X 179 0 [some (.ref 0), some (.int (X.1 (x4 + 1).toNatClampNeg)), some (.int (X.1 (x4 + 2).toNatClampNeg)), some (.int (X.1 (x4 + 3).toNatClampNeg)), none] [] (sM mo G I J) (fun v M => sm_wp X 315 735 [some (.retAddr 1), some (.ref 0), some (.ref 81), some (.ref 142), some (.int x4), none, none] (v.toList ++ []) M Q))))) :=
  (sm_blk X 315 713 (tt_lin 315 (by decide)) rfl rfl _ _ _ _).trans rfl
set_option maxRecDepth 100000 in
theorem bk_315_735 (X : (Nat → Int32) × Nat) (mo : Bool) (G : Nat × Nat) (I : Nat → Nat → Int32) (J : Nat → Nat → Int64) (Q : Option Value → sm_M → Prop) (x4 : Int32) (s0 : Int32) :
    sm_wp X 315 735 [some (.retAddr 1), some (.ref 0), some (.ref 81), some (.ref 142), some (.int x4), none, none] [.int s0] (sM mo G I J) Q =
    (vp_in (x4 + 1) X.2 ∧ (vp_in (x4 + 2) X.2 ∧ (vp_in (x4 + 3) X.2 ∧ (sm_wp X 249 0 [some (.ref 81), some (.int (X.1 (x4 + 1).toNatClampNeg)), some (.int (X.1 (x4 + 2).toNatClampNeg)), some (.int (X.1 (x4 + 3).toNatClampNeg)), none, none] [] (sM mo G I J) (fun v M => sm_wp X 315 758 [some (.retAddr 1), some (.ref 0), some (.ref 81), some (.ref 142), some (.int x4), none, none] (v.toList ++ []) M Q))))) :=
  (sm_blk X 315 735 (tt_lin 315 (by decide)) rfl rfl _ _ _ _).trans rfl
set_option maxRecDepth 100000 in
theorem bk_315_758 (X : (Nat → Int32) × Nat) (mo : Bool) (G : Nat × Nat) (I : Nat → Nat → Int32) (J : Nat → Nat → Int64) (Q : Option Value → sm_M → Prop) (x4 : Int32) (s0 : Int32) :
    sm_wp X 315 758 [some (.retAddr 1), some (.ref 0), some (.ref 81), some (.ref 142), some (.int x4), none, none] [.int s0] (sM mo G I J) Q =
    (sm_wp X 315 1674 [some (.retAddr 1), some (.ref 0), some (.ref 81), some (.ref 142), some (.int x4), none, none] [] (sM mo G I J) Q) :=
  (sm_blk X 315 758 (tt_lin 315 (by decide)) rfl rfl _ _ _ _).trans rfl
set_option maxRecDepth 100000 in
theorem bk_315_762 (X : (Nat → Int32) × Nat) (mo : Bool) (G : Nat × Nat) (I : Nat → Nat → Int32) (J : Nat → Nat → Int64) (Q : Option Value → sm_M → Prop) (x4 : Int32) :
    sm_wp X 315 762 [some (.retAddr 1), some (.ref 0), some (.ref 81), some (.ref 142), some (.int x4), none, none] [] (sM mo G I J) Q =
    (vp_in (x4 + 1) X.2 ∧ (vp_in (x4 + 2) X.2 ∧ (vp_in (x4 + 3) X.2 ∧ (vp_in (x4 + 4) X.2 ∧ (sm_wp X 181 0 [some (.ref 0), some (.int (X.1 (x4 + 1).toNatClampNeg)), some (.int (X.1 (x4 + 2).toNatClampNeg)), some (.int (X.1 (x4 + 3).toNatClampNeg)), some (.int (X.1 (x4 + 4).toNatClampNeg))] [] (sM mo G I J) (fun v M => sm_wp X 315 790 [some (.retAddr 1), some (.ref 0), some (.ref 81), some (.ref 142), some (.int x4), none, none] (v.toList ++ []) M Q)))))) :=
  (sm_blk X 315 762 (tt_lin 315 (by decide)) rfl rfl _ _ _ _).trans rfl
set_option maxRecDepth 100000 in
theorem bk_315_790 (X : (Nat → Int32) × Nat) (mo : Bool) (G : Nat × Nat) (I : Nat → Nat → Int32) (J : Nat → Nat → Int64) (Q : Option Value → sm_M → Prop) (x4 : Int32) (s0 : Int32) :
    sm_wp X 315 790 [some (.retAddr 1), some (.ref 0), some (.ref 81), some (.ref 142), some (.int x4), none, none] [.int s0] (sM mo G I J) Q =
    (vp_in (x4 + 1) X.2 ∧ (vp_in (x4 + 2) X.2 ∧ (vp_in (x4 + 3) X.2 ∧ (vp_in (x4 + 4) X.2 ∧ (sm_wp X 250 0 [some (.ref 81), some (.int (X.1 (x4 + 1).toNatClampNeg)), some (.int (X.1 (x4 + 2).toNatClampNeg)), some (.int (X.1 (x4 + 3).toNatClampNeg)), some (.int (X.1 (x4 + 4).toNatClampNeg))] [] (sM mo G I J) (fun v M => sm_wp X 315 819 [some (.retAddr 1), some (.ref 0), some (.ref 81), some (.ref 142), some (.int x4), none, none] (v.toList ++ []) M Q)))))) :=
  (sm_blk X 315 790 (tt_lin 315 (by decide)) rfl rfl _ _ _ _).trans rfl
set_option maxRecDepth 100000 in
theorem bk_315_819 (X : (Nat → Int32) × Nat) (mo : Bool) (G : Nat × Nat) (I : Nat → Nat → Int32) (J : Nat → Nat → Int64) (Q : Option Value → sm_M → Prop) (x4 : Int32) (s0 : Int32) :
    sm_wp X 315 819 [some (.retAddr 1), some (.ref 0), some (.ref 81), some (.ref 142), some (.int x4), none, none] [.int s0] (sM mo G I J) Q =
    (sm_wp X 315 1674 [some (.retAddr 1), some (.ref 0), some (.ref 81), some (.ref 142), some (.int x4), none, none] [] (sM mo G I J) Q) :=
  (sm_blk X 315 819 (tt_lin 315 (by decide)) rfl rfl _ _ _ _).trans rfl
set_option maxRecDepth 100000 in
theorem bk_315_823 (X : (Nat → Int32) × Nat) (mo : Bool) (G : Nat × Nat) (I : Nat → Nat → Int32) (J : Nat → Nat → Int64) (Q : Option Value → sm_M → Prop) (x4 : Int32) :
    sm_wp X 315 823 [some (.retAddr 1), some (.ref 0), some (.ref 81), some (.ref 142), some (.int x4), none, none] [] (sM mo G I J) Q =
    (vp_in (x4 + 1) X.2 ∧ (sm_wp X 182 0 [some (.ref 0), some (.int (X.1 (x4 + 1).toNatClampNeg)), none] [] (sM mo G I J) (fun v M => sm_wp X 315 833 [some (.retAddr 1), some (.ref 0), some (.ref 81), some (.ref 142), some (.int x4), none, none] (v.toList ++ []) M Q))) :=
  (sm_blk X 315 823 (tt_lin 315 (by decide)) rfl rfl _ _ _ _).trans rfl
set_option maxRecDepth 100000 in
theorem bk_315_833 (X : (Nat → Int32) × Nat) (mo : Bool) (G : Nat × Nat) (I : Nat → Nat → Int32) (J : Nat → Nat → Int64) (Q : Option Value → sm_M → Prop) (x4 : Int32) (s0 : Int32) :
    sm_wp X 315 833 [some (.retAddr 1), some (.ref 0), some (.ref 81), some (.ref 142), some (.int x4), none, none] [.int s0] (sM mo G I J) Q =
    (vp_in (x4 + 1) X.2 ∧ (sm_wp X 251 0 [some (.ref 81), some (.int (X.1 (x4 + 1).toNatClampNeg)), none, none] [] (sM mo G I J) (fun v M => sm_wp X 315 844 [some (.retAddr 1), some (.ref 0), some (.ref 81), some (.ref 142), some (.int x4), none, none] (v.toList ++ []) M Q))) :=
  (sm_blk X 315 833 (tt_lin 315 (by decide)) rfl rfl _ _ _ _).trans rfl
set_option maxRecDepth 100000 in
theorem bk_315_844 (X : (Nat → Int32) × Nat) (mo : Bool) (G : Nat × Nat) (I : Nat → Nat → Int32) (J : Nat → Nat → Int64) (Q : Option Value → sm_M → Prop) (x4 : Int32) (s0 : Int32) :
    sm_wp X 315 844 [some (.retAddr 1), some (.ref 0), some (.ref 81), some (.ref 142), some (.int x4), none, none] [.int s0] (sM mo G I J) Q =
    (sm_wp X 315 1674 [some (.retAddr 1), some (.ref 0), some (.ref 81), some (.ref 142), some (.int x4), none, none] [] (sM mo G I J) Q) :=
  (sm_blk X 315 844 (tt_lin 315 (by decide)) rfl rfl _ _ _ _).trans rfl
set_option maxRecDepth 100000 in
theorem bk_315_848 (X : (Nat → Int32) × Nat) (mo : Bool) (G : Nat × Nat) (I : Nat → Nat → Int32) (J : Nat → Nat → Int64) (Q : Option Value → sm_M → Prop) (x4 : Int32) :
    sm_wp X 315 848 [some (.retAddr 1), some (.ref 0), some (.ref 81), some (.ref 142), some (.int x4), none, none] [] (sM mo G I J) Q =
    (vp_in (x4 + 1) X.2 ∧ (vp_in (x4 + 2) X.2 ∧ (sm_wp X 183 0 [some (.ref 0), some (.int (X.1 (x4 + 1).toNatClampNeg)), some (.int (X.1 (x4 + 2).toNatClampNeg))] [] (sM mo G I J) (fun v M => sm_wp X 315 864 [some (.retAddr 1), some (.ref 0), some (.ref 81), some (.ref 142), some (.int x4), none, none] (v.toList ++ []) M Q)))) :=
  (sm_blk X 315 848 (tt_lin 315 (by decide)) rfl rfl _ _ _ _).trans rfl
set_option maxRecDepth 100000 in
theorem bk_315_864 (X : (Nat → Int32) × Nat) (mo : Bool) (G : Nat × Nat) (I : Nat → Nat → Int32) (J : Nat → Nat → Int64) (Q : Option Value → sm_M → Prop) (x4 : Int32) (s0 : Int32) :
    sm_wp X 315 864 [some (.retAddr 1), some (.ref 0), some (.ref 81), some (.ref 142), some (.int x4), none, none] [.int s0] (sM mo G I J) Q =
    (vp_in (x4 + 1) X.2 ∧ (vp_in (x4 + 2) X.2 ∧ (sm_wp X 268 0 [some (.ref 81), some (.int (X.1 (x4 + 1).toNatClampNeg)), some (.int (X.1 (x4 + 2).toNatClampNeg))] [] (sM mo G I J) (fun v M => sm_wp X 315 881 [some (.retAddr 1), some (.ref 0), some (.ref 81), some (.ref 142), some (.int x4), none, none] (v.toList ++ []) M Q)))) :=
  (sm_blk X 315 864 (tt_lin 315 (by decide)) rfl rfl _ _ _ _).trans rfl
set_option maxRecDepth 100000 in
theorem bk_315_881 (X : (Nat → Int32) × Nat) (mo : Bool) (G : Nat × Nat) (I : Nat → Nat → Int32) (J : Nat → Nat → Int64) (Q : Option Value → sm_M → Prop) (x4 : Int32) (s0 : Int32) :
    sm_wp X 315 881 [some (.retAddr 1), some (.ref 0), some (.ref 81), some (.ref 142), some (.int x4), none, none] [.int s0] (sM mo G I J) Q =
    (sm_wp X 315 1674 [some (.retAddr 1), some (.ref 0), some (.ref 81), some (.ref 142), some (.int x4), none, none] [] (sM mo G I J) Q) :=
  (sm_blk X 315 881 (tt_lin 315 (by decide)) rfl rfl _ _ _ _).trans rfl
set_option maxRecDepth 100000 in
theorem bk_315_885 (X : (Nat → Int32) × Nat) (mo : Bool) (G : Nat × Nat) (I : Nat → Nat → Int32) (J : Nat → Nat → Int64) (Q : Option Value → sm_M → Prop) (x4 : Int32) :
    sm_wp X 315 885 [some (.retAddr 1), some (.ref 0), some (.ref 81), some (.ref 142), some (.int x4), none, none] [] (sM mo G I J) Q =
    (vp_in (x4 + 1) X.2 ∧ (sm_wp X 184 0 [some (.ref 0), some (.int (X.1 (x4 + 1).toNatClampNeg))] [] (sM mo G I J) (fun v M => sm_wp X 315 895 [some (.retAddr 1), some (.ref 0), some (.ref 81), some (.ref 142), some (.int x4), none, none] (v.toList ++ []) M Q))) :=
  (sm_blk X 315 885 (tt_lin 315 (by decide)) rfl rfl _ _ _ _).trans rfl
set_option maxRecDepth 100000 in
theorem bk_315_895 (X : (Nat → Int32) × Nat) (mo : Bool) (G : Nat × Nat) (I : Nat → Nat → Int32) (J : Nat → Nat → Int64) (Q : Option Value → sm_M → Prop) (x4 : Int32) (s0 : Int32) :
    sm_wp X 315 895 [some (.retAddr 1), some (.ref 0), some (.ref 81), some (.ref 142), some (.int x4), none, none] [.int s0] (sM mo G I J) Q =
    (vp_in (x4 + 1) X.2 ∧ (sm_wp X 269 0 [some (.ref 81), some (.int (X.1 (x4 + 1).toNatClampNeg))] [] (sM mo G I J) (fun v M => sm_wp X 315 906 [some (.retAddr 1), some (.ref 0), some (.ref 81), some (.ref 142), some (.int x4), none, none] (v.toList ++ []) M Q))) :=
  (sm_blk X 315 895 (tt_lin 315 (by decide)) rfl rfl _ _ _ _).trans rfl
set_option maxRecDepth 100000 in
theorem bk_315_906 (X : (Nat → Int32) × Nat) (mo : Bool) (G : Nat × Nat) (I : Nat → Nat → Int32) (J : Nat → Nat → Int64) (Q : Option Value → sm_M → Prop) (x4 : Int32) (s0 : Int32) :
    sm_wp X 315 906 [some (.retAddr 1), some (.ref 0), some (.ref 81), some (.ref 142), some (.int x4), none, none] [.int s0] (sM mo G I J) Q =
    (sm_wp X 315 1674 [some (.retAddr 1), some (.ref 0), some (.ref 81), some (.ref 142), some (.int x4), none, none] [] (sM mo G I J) Q) :=
  (sm_blk X 315 906 (tt_lin 315 (by decide)) rfl rfl _ _ _ _).trans rfl
set_option maxRecDepth 100000 in
theorem bk_315_910 (X : (Nat → Int32) × Nat) (mo : Bool) (G : Nat × Nat) (I : Nat → Nat → Int32) (J : Nat → Nat → Int64) (Q : Option Value → sm_M → Prop) (x4 : Int32) :
    sm_wp X 315 910 [some (.retAddr 1), some (.ref 0), some (.ref 81), some (.ref 142), some (.int x4), none, none] [] (sM mo G I J) Q =
    (vp_in (x4 + 1) X.2 ∧ (vp_in (x4 + 2) X.2 ∧ (sm_wp X 185 0 [some (.ref 0), some (.int (X.1 (x4 + 1).toNatClampNeg)), some (.int (X.1 (x4 + 2).toNatClampNeg))] [] (sM mo G I J) (fun v M => sm_wp X 315 926 [some (.retAddr 1), some (.ref 0), some (.ref 81), some (.ref 142), some (.int x4), none, none] (v.toList ++ []) M Q)))) :=
  (sm_blk X 315 910 (tt_lin 315 (by decide)) rfl rfl _ _ _ _).trans rfl
set_option maxRecDepth 100000 in
theorem bk_315_926 (X : (Nat → Int32) × Nat) (mo : Bool) (G : Nat × Nat) (I : Nat → Nat → Int32) (J : Nat → Nat → Int64) (Q : Option Value → sm_M → Prop) (x4 : Int32) (s0 : Int64) :
    sm_wp X 315 926 [some (.retAddr 1), some (.ref 0), some (.ref 81), some (.ref 142), some (.int x4), none, none] [.long s0] (sM mo G I J) Q =
    (vp_in (x4 + 1) X.2 ∧ (vp_in (x4 + 2) X.2 ∧ (sm_wp X 270 0 [some (.ref 81), some (.int (X.1 (x4 + 1).toNatClampNeg)), some (.int (X.1 (x4 + 2).toNatClampNeg))] [] (sM mo G I J) (fun v M => sm_wp X 315 943 [some (.retAddr 1), some (.ref 0), some (.ref 81), some (.ref 142), some (.int x4), none, none] (v.toList ++ []) M Q)))) :=
  (sm_blk X 315 926 (tt_lin 315 (by decide)) rfl rfl _ _ _ _).trans rfl
set_option maxRecDepth 100000 in
theorem bk_315_943 (X : (Nat → Int32) × Nat) (mo : Bool) (G : Nat × Nat) (I : Nat → Nat → Int32) (J : Nat → Nat → Int64) (Q : Option Value → sm_M → Prop) (x4 : Int32) (s0 : Int64) :
    sm_wp X 315 943 [some (.retAddr 1), some (.ref 0), some (.ref 81), some (.ref 142), some (.int x4), none, none] [.long s0] (sM mo G I J) Q =
    (sm_wp X 315 1674 [some (.retAddr 1), some (.ref 0), some (.ref 81), some (.ref 142), some (.int x4), none, none] [] (sM mo G I J) Q) :=
  (sm_blk X 315 943 (tt_lin 315 (by decide)) rfl rfl _ _ _ _).trans rfl
set_option maxRecDepth 100000 in
theorem bk_315_947 (X : (Nat → Int32) × Nat) (mo : Bool) (G : Nat × Nat) (I : Nat → Nat → Int32) (J : Nat → Nat → Int64) (Q : Option Value → sm_M → Prop) (x4 : Int32) :
    sm_wp X 315 947 [some (.retAddr 1), some (.ref 0), some (.ref 81), some (.ref 142), some (.int x4), none, none] [] (sM mo G I J) Q =
    (vp_in (x4 + 1) X.2 ∧ (vp_in (x4 + 2) X.2 ∧ (sm_wp X 186 0 [some (.ref 0), some (.int (X.1 (x4 + 1).toNatClampNeg)), some (.int (X.1 (x4 + 2).toNatClampNeg)), none] [] (sM mo G I J) (fun v M => sm_wp X 315 963 [some (.retAddr 1), some (.ref 0), some (.ref 81), some (.ref 142), some (.int x4), none, none] (v.toList ++ []) M Q)))) :=
  (sm_blk X 315 947 (tt_lin 315 (by decide)) rfl rfl _ _ _ _).trans rfl
set_option maxRecDepth 100000 in
theorem bk_315_963 (X : (Nat → Int32) × Nat) (mo : Bool) (G : Nat × Nat) (I : Nat → Nat → Int32) (J : Nat → Nat → Int64) (Q : Option Value → sm_M → Prop) (x4 : Int32) (s0 : Int32) :
    sm_wp X 315 963 [some (.retAddr 1), some (.ref 0), some (.ref 81), some (.ref 142), some (.int x4), none, none] [.int s0] (sM mo G I J) Q =
    (vp_in (x4 + 1) X.2 ∧ (vp_in (x4 + 2) X.2 ∧ (sm_wp X 271 0 [some (.ref 81), some (.int (X.1 (x4 + 1).toNatClampNeg)), some (.int (X.1 (x4 + 2).toNatClampNeg)), none] [] (sM mo G I J) (fun v M => sm_wp X 315 979 [some (.retAddr 1), some (.ref 0), some (.ref 81), some (.ref 142), some (.int x4), none, none] (v.toList ++ [.int s0]) M Q)))) :=
  (sm_blk X 315 963 (tt_lin 315 (by decide)) rfl rfl _ _ _ _).trans rfl
set_option maxRecDepth 100000 in
theorem bk_315_979 (X : (Nat → Int32) × Nat) (mo : Bool) (G : Nat × Nat) (I : Nat → Nat → Int32) (J : Nat → Nat → Int64) (Q : Option Value → sm_M → Prop) (x4 : Int32) (s0 : Int32) (s1 : Int32) :
    sm_wp X 315 979 [some (.retAddr 1), some (.ref 0), some (.ref 81), some (.ref 142), some (.int x4), none, none] [.int s1, .int s0] (sM mo G I J) Q =
    (if (s0 : Int32) = (s1 : Int32) then sm_wp X 315 1674 [some (.retAddr 1), some (.ref 0), some (.ref 81), some (.ref 142), some (.int x4), none, none] [] (sM mo G I J) Q else (sm_zb 0 ∧ Q (some (.int 0)) (sM mo G I J))) :=
  (sm_blk X 315 979 (tt_lin 315 (by decide)) rfl rfl _ _ _ _).trans rfl
set_option maxRecDepth 100000 in
theorem bk_315_984 (X : (Nat → Int32) × Nat) (mo : Bool) (G : Nat × Nat) (I : Nat → Nat → Int32) (J : Nat → Nat → Int64) (Q : Option Value → sm_M → Prop) (x4 : Int32) :
    sm_wp X 315 984 [some (.retAddr 1), some (.ref 0), some (.ref 81), some (.ref 142), some (.int x4), none, none] [] (sM mo G I J) Q =
    (vp_in (x4 + 1) X.2 ∧ (vp_in (x4 + 2) X.2 ∧ (vp_in (x4 + 3) X.2 ∧ (sm_wp X 187 0 [some (.ref 0), some (.int (X.1 (x4 + 1).toNatClampNeg)), some (.int (X.1 (x4 + 2).toNatClampNeg)), some (.int (X.1 (x4 + 3).toNatClampNeg))] [] (sM mo G I J) (fun v M => sm_wp X 315 1006 [some (.retAddr 1), some (.ref 0), some (.ref 81), some (.ref 142), some (.int x4), none, none] (v.toList ++ []) M Q))))) :=
  (sm_blk X 315 984 (tt_lin 315 (by decide)) rfl rfl _ _ _ _).trans rfl
set_option maxRecDepth 100000 in
theorem bk_315_1006 (X : (Nat → Int32) × Nat) (mo : Bool) (G : Nat × Nat) (I : Nat → Nat → Int32) (J : Nat → Nat → Int64) (Q : Option Value → sm_M → Prop) (x4 : Int32) (s0 : Int32) :
    sm_wp X 315 1006 [some (.retAddr 1), some (.ref 0), some (.ref 81), some (.ref 142), some (.int x4), none, none] [.int s0] (sM mo G I J) Q =
    (vp_in (x4 + 1) X.2 ∧ (vp_in (x4 + 2) X.2 ∧ (vp_in (x4 + 3) X.2 ∧ (sm_wp X 273 0 [some (.ref 81), some (.int (X.1 (x4 + 1).toNatClampNeg)), some (.int (X.1 (x4 + 2).toNatClampNeg)), some (.int (X.1 (x4 + 3).toNatClampNeg)), none, none, none] [] (sM mo G I J) (fun v M => sm_wp X 315 1029 [some (.retAddr 1), some (.ref 0), some (.ref 81), some (.ref 142), some (.int x4), none, none] (v.toList ++ []) M Q))))) :=
  (sm_blk X 315 1006 (tt_lin 315 (by decide)) rfl rfl _ _ _ _).trans rfl
set_option maxRecDepth 100000 in
theorem bk_315_1029 (X : (Nat → Int32) × Nat) (mo : Bool) (G : Nat × Nat) (I : Nat → Nat → Int32) (J : Nat → Nat → Int64) (Q : Option Value → sm_M → Prop) (x4 : Int32) (s0 : Int32) :
    sm_wp X 315 1029 [some (.retAddr 1), some (.ref 0), some (.ref 81), some (.ref 142), some (.int x4), none, none] [.int s0] (sM mo G I J) Q =
    (sm_wp X 315 1674 [some (.retAddr 1), some (.ref 0), some (.ref 81), some (.ref 142), some (.int x4), none, none] [] (sM mo G I J) Q) :=
  (sm_blk X 315 1029 (tt_lin 315 (by decide)) rfl rfl _ _ _ _).trans rfl
set_option maxRecDepth 100000 in
theorem bk_315_1033 (X : (Nat → Int32) × Nat) (mo : Bool) (G : Nat × Nat) (I : Nat → Nat → Int32) (J : Nat → Nat → Int64) (Q : Option Value → sm_M → Prop) (x4 : Int32) :
    sm_wp X 315 1033 [some (.retAddr 1), some (.ref 0), some (.ref 81), some (.ref 142), some (.int x4), none, none] [] (sM mo G I J) Q =
    (vp_in (x4 + 1) X.2 ∧ (sm_wp X 188 0 [some (.ref 0), some (.int (X.1 (x4 + 1).toNatClampNeg))] [] (sM mo G I J) (fun v M => sm_wp X 315 1043 [some (.retAddr 1), some (.ref 0), some (.ref 81), some (.ref 142), some (.int x4), none, none] (v.toList ++ []) M Q))) :=
  (sm_blk X 315 1033 (tt_lin 315 (by decide)) rfl rfl _ _ _ _).trans rfl
set_option maxRecDepth 100000 in
theorem bk_315_1043 (X : (Nat → Int32) × Nat) (mo : Bool) (G : Nat × Nat) (I : Nat → Nat → Int32) (J : Nat → Nat → Int64) (Q : Option Value → sm_M → Prop) (x4 : Int32) (s0 : Int32) :
    sm_wp X 315 1043 [some (.retAddr 1), some (.ref 0), some (.ref 81), some (.ref 142), some (.int x4), none, none] [.int s0] (sM mo G I J) Q =
    (vp_in (x4 + 1) X.2 ∧ (sm_wp X 222 0 [some (.ref 81), some (.int (X.1 (x4 + 1).toNatClampNeg))] [] (sM mo G I J) (fun v M => sm_wp X 315 1054 [some (.retAddr 1), some (.ref 0), some (.ref 81), some (.ref 142), some (.int x4), none, none] (v.toList ++ []) M Q))) :=
  (sm_blk X 315 1043 (tt_lin 315 (by decide)) rfl rfl _ _ _ _).trans rfl
set_option maxRecDepth 100000 in
theorem bk_315_1054 (X : (Nat → Int32) × Nat) (mo : Bool) (G : Nat × Nat) (I : Nat → Nat → Int32) (J : Nat → Nat → Int64) (Q : Option Value → sm_M → Prop) (x4 : Int32) (s0 : Int32) :
    sm_wp X 315 1054 [some (.retAddr 1), some (.ref 0), some (.ref 81), some (.ref 142), some (.int x4), none, none] [.int s0] (sM mo G I J) Q =
    (sm_wp X 315 1674 [some (.retAddr 1), some (.ref 0), some (.ref 81), some (.ref 142), some (.int x4), none, none] [] (sM mo G I J) Q) :=
  (sm_blk X 315 1054 (tt_lin 315 (by decide)) rfl rfl _ _ _ _).trans rfl
set_option maxRecDepth 100000 in
theorem bk_315_1058 (X : (Nat → Int32) × Nat) (mo : Bool) (G : Nat × Nat) (I : Nat → Nat → Int32) (J : Nat → Nat → Int64) (Q : Option Value → sm_M → Prop) (x4 : Int32) :
    sm_wp X 315 1058 [some (.retAddr 1), some (.ref 0), some (.ref 81), some (.ref 142), some (.int x4), none, none] [] (sM mo G I J) Q =
    (vp_in (x4 + 1) X.2 ∧ (sm_wp X 189 0 [some (.ref 0), some (.int (X.1 (x4 + 1).toNatClampNeg))] [] (sM mo G I J) (fun v M => sm_wp X 315 1068 [some (.retAddr 1), some (.ref 0), some (.ref 81), some (.ref 142), some (.int x4), none, none] (v.toList ++ []) M Q))) :=
  (sm_blk X 315 1058 (tt_lin 315 (by decide)) rfl rfl _ _ _ _).trans rfl
set_option maxRecDepth 100000 in
theorem bk_315_1068 (X : (Nat → Int32) × Nat) (mo : Bool) (G : Nat × Nat) (I : Nat → Nat → Int32) (J : Nat → Nat → Int64) (Q : Option Value → sm_M → Prop) (x4 : Int32) (s0 : Int32) :
    sm_wp X 315 1068 [some (.retAddr 1), some (.ref 0), some (.ref 81), some (.ref 142), some (.int x4), none, none] [.int s0] (sM mo G I J) Q =
    (vp_in (x4 + 1) X.2 ∧ (sm_wp X 274 0 [some (.ref 81), some (.int (X.1 (x4 + 1).toNatClampNeg)), none, none] [] (sM mo G I J) (fun v M => sm_wp X 315 1079 [some (.retAddr 1), some (.ref 0), some (.ref 81), some (.ref 142), some (.int x4), none, none] (v.toList ++ []) M Q))) :=
  (sm_blk X 315 1068 (tt_lin 315 (by decide)) rfl rfl _ _ _ _).trans rfl
set_option maxRecDepth 100000 in
theorem bk_315_1079 (X : (Nat → Int32) × Nat) (mo : Bool) (G : Nat × Nat) (I : Nat → Nat → Int32) (J : Nat → Nat → Int64) (Q : Option Value → sm_M → Prop) (x4 : Int32) (s0 : Int32) :
    sm_wp X 315 1079 [some (.retAddr 1), some (.ref 0), some (.ref 81), some (.ref 142), some (.int x4), none, none] [.int s0] (sM mo G I J) Q =
    (sm_wp X 315 1674 [some (.retAddr 1), some (.ref 0), some (.ref 81), some (.ref 142), some (.int x4), none, none] [] (sM mo G I J) Q) :=
  (sm_blk X 315 1079 (tt_lin 315 (by decide)) rfl rfl _ _ _ _).trans rfl
set_option maxRecDepth 100000 in
theorem bk_315_1083 (X : (Nat → Int32) × Nat) (mo : Bool) (G : Nat × Nat) (I : Nat → Nat → Int32) (J : Nat → Nat → Int64) (Q : Option Value → sm_M → Prop) (x4 : Int32) :
    sm_wp X 315 1083 [some (.retAddr 1), some (.ref 0), some (.ref 81), some (.ref 142), some (.int x4), none, none] [] (sM mo G I J) Q =
    (vp_in (x4 + 1) X.2 ∧ (sm_wp X 190 0 [some (.ref 0), some (.int (X.1 (x4 + 1).toNatClampNeg))] [] (sM mo G I J) (fun v M => sm_wp X 315 1093 [some (.retAddr 1), some (.ref 0), some (.ref 81), some (.ref 142), some (.int x4), none, none] (v.toList ++ []) M Q))) :=
  (sm_blk X 315 1083 (tt_lin 315 (by decide)) rfl rfl _ _ _ _).trans rfl
set_option maxRecDepth 100000 in
theorem bk_315_1093 (X : (Nat → Int32) × Nat) (mo : Bool) (G : Nat × Nat) (I : Nat → Nat → Int32) (J : Nat → Nat → Int64) (Q : Option Value → sm_M → Prop) (x4 : Int32) (s0 : Int32) :
    sm_wp X 315 1093 [some (.retAddr 1), some (.ref 0), some (.ref 81), some (.ref 142), some (.int x4), none, none] [.int s0] (sM mo G I J) Q =
    (vp_in (x4 + 1) X.2 ∧ (sm_wp X 281 0 [some (.ref 81), some (.int (X.1 (x4 + 1).toNatClampNeg))] [] (sM mo G I J) (fun v M => sm_wp X 315 1104 [some (.retAddr 1), some (.ref 0), some (.ref 81), some (.ref 142), some (.int x4), none, none] (v.toList ++ []) M Q))) :=
  (sm_blk X 315 1093 (tt_lin 315 (by decide)) rfl rfl _ _ _ _).trans rfl
set_option maxRecDepth 100000 in
theorem bk_315_1104 (X : (Nat → Int32) × Nat) (mo : Bool) (G : Nat × Nat) (I : Nat → Nat → Int32) (J : Nat → Nat → Int64) (Q : Option Value → sm_M → Prop) (x4 : Int32) (s0 : Int32) :
    sm_wp X 315 1104 [some (.retAddr 1), some (.ref 0), some (.ref 81), some (.ref 142), some (.int x4), none, none] [.int s0] (sM mo G I J) Q =
    (sm_wp X 315 1674 [some (.retAddr 1), some (.ref 0), some (.ref 81), some (.ref 142), some (.int x4), none, none] [] (sM mo G I J) Q) :=
  (sm_blk X 315 1104 (tt_lin 315 (by decide)) rfl rfl _ _ _ _).trans rfl
set_option maxRecDepth 100000 in
theorem bk_315_1108 (X : (Nat → Int32) × Nat) (mo : Bool) (G : Nat × Nat) (I : Nat → Nat → Int32) (J : Nat → Nat → Int64) (Q : Option Value → sm_M → Prop) (x4 : Int32) :
    sm_wp X 315 1108 [some (.retAddr 1), some (.ref 0), some (.ref 81), some (.ref 142), some (.int x4), none, none] [] (sM mo G I J) Q =
    (vp_in (x4 + 1) X.2 ∧ (vp_in (x4 + 2) X.2 ∧ (sm_wp X 191 0 [some (.ref 0), some (.int (X.1 (x4 + 1).toNatClampNeg)), some (.int (X.1 (x4 + 2).toNatClampNeg))] [] (sM mo G I J) (fun v M => sm_wp X 315 1124 [some (.retAddr 1), some (.ref 0), some (.ref 81), some (.ref 142), some (.int x4), none, none] (v.toList ++ []) M Q)))) :=
  (sm_blk X 315 1108 (tt_lin 315 (by decide)) rfl rfl _ _ _ _).trans rfl
set_option maxRecDepth 100000 in
theorem bk_315_1124 (X : (Nat → Int32) × Nat) (mo : Bool) (G : Nat × Nat) (I : Nat → Nat → Int32) (J : Nat → Nat → Int64) (Q : Option Value → sm_M → Prop) (x4 : Int32) (s0 : Int32) :
    sm_wp X 315 1124 [some (.retAddr 1), some (.ref 0), some (.ref 81), some (.ref 142), some (.int x4), none, none] [.int s0] (sM mo G I J) Q =
    (vp_in (x4 + 1) X.2 ∧ (vp_in (x4 + 2) X.2 ∧ (sm_wp X 284 0 [some (.ref 81), some (.int (X.1 (x4 + 1).toNatClampNeg)), some (.int (X.1 (x4 + 2).toNatClampNeg)), none] [] (sM mo G I J) (fun v M => sm_wp X 315 1141 [some (.retAddr 1), some (.ref 0), some (.ref 81), some (.ref 142), some (.int x4), none, none] (v.toList ++ []) M Q)))) :=
  (sm_blk X 315 1124 (tt_lin 315 (by decide)) rfl rfl _ _ _ _).trans rfl
set_option maxRecDepth 100000 in
theorem bk_315_1141 (X : (Nat → Int32) × Nat) (mo : Bool) (G : Nat × Nat) (I : Nat → Nat → Int32) (J : Nat → Nat → Int64) (Q : Option Value → sm_M → Prop) (x4 : Int32) (s0 : Int32) :
    sm_wp X 315 1141 [some (.retAddr 1), some (.ref 0), some (.ref 81), some (.ref 142), some (.int x4), none, none] [.int s0] (sM mo G I J) Q =
    (sm_wp X 315 1674 [some (.retAddr 1), some (.ref 0), some (.ref 81), some (.ref 142), some (.int x4), none, none] [] (sM mo G I J) Q) :=
  (sm_blk X 315 1141 (tt_lin 315 (by decide)) rfl rfl _ _ _ _).trans rfl
set_option maxRecDepth 100000 in
theorem bk_315_1145 (X : (Nat → Int32) × Nat) (mo : Bool) (G : Nat × Nat) (I : Nat → Nat → Int32) (J : Nat → Nat → Int64) (Q : Option Value → sm_M → Prop) (x4 : Int32) :
    sm_wp X 315 1145 [some (.retAddr 1), some (.ref 0), some (.ref 81), some (.ref 142), some (.int x4), none, none] [] (sM mo G I J) Q =
    (sm_wp X 192 0 [some (.ref 0)] [] (sM mo G I J) (fun v M => sm_wp X 315 1149 [some (.retAddr 1), some (.ref 0), some (.ref 81), some (.ref 142), some (.int x4), none, none] (v.toList ++ []) M Q)) :=
  (sm_blk X 315 1145 (tt_lin 315 (by decide)) rfl rfl _ _ _ _).trans rfl
set_option maxRecDepth 100000 in
theorem bk_315_1149 (X : (Nat → Int32) × Nat) (mo : Bool) (G : Nat × Nat) (I : Nat → Nat → Int32) (J : Nat → Nat → Int64) (Q : Option Value → sm_M → Prop) (x4 : Int32) (s0 : Int32) :
    sm_wp X 315 1149 [some (.retAddr 1), some (.ref 0), some (.ref 81), some (.ref 142), some (.int x4), none, none] [.int s0] (sM mo G I J) Q =
    (sm_wp X 285 0 [some (.ref 81), none, none, none, none] [] (sM mo G I J) (fun v M => sm_wp X 315 1154 [some (.retAddr 1), some (.ref 0), some (.ref 81), some (.ref 142), some (.int x4), none, none] (v.toList ++ []) M Q)) :=
  (sm_blk X 315 1149 (tt_lin 315 (by decide)) rfl rfl _ _ _ _).trans rfl
set_option maxRecDepth 100000 in
theorem bk_315_1154 (X : (Nat → Int32) × Nat) (mo : Bool) (G : Nat × Nat) (I : Nat → Nat → Int32) (J : Nat → Nat → Int64) (Q : Option Value → sm_M → Prop) (x4 : Int32) (s0 : Int32) :
    sm_wp X 315 1154 [some (.retAddr 1), some (.ref 0), some (.ref 81), some (.ref 142), some (.int x4), none, none] [.int s0] (sM mo G I J) Q =
    (sm_wp X 315 1674 [some (.retAddr 1), some (.ref 0), some (.ref 81), some (.ref 142), some (.int x4), none, none] [] (sM mo G I J) Q) :=
  (sm_blk X 315 1154 (tt_lin 315 (by decide)) rfl rfl _ _ _ _).trans rfl
set_option maxRecDepth 100000 in
theorem bk_315_1158 (X : (Nat → Int32) × Nat) (mo : Bool) (G : Nat × Nat) (I : Nat → Nat → Int32) (J : Nat → Nat → Int64) (Q : Option Value → sm_M → Prop) (x4 : Int32) :
    sm_wp X 315 1158 [some (.retAddr 1), some (.ref 0), some (.ref 81), some (.ref 142), some (.int x4), none, none] [] (sM mo G I J) Q =
    (vp_in (x4 + 1) X.2 ∧ (sm_wp X 193 0 [some (.ref 0), some (.int (X.1 (x4 + 1).toNatClampNeg))] [] (sM mo G I J) (fun v M => sm_wp X 315 1168 [some (.retAddr 1), some (.ref 0), some (.ref 81), some (.ref 142), some (.int x4), none, none] (v.toList ++ []) M Q))) :=
  (sm_blk X 315 1158 (tt_lin 315 (by decide)) rfl rfl _ _ _ _).trans rfl
set_option maxRecDepth 100000 in
theorem bk_315_1168 (X : (Nat → Int32) × Nat) (mo : Bool) (G : Nat × Nat) (I : Nat → Nat → Int32) (J : Nat → Nat → Int64) (Q : Option Value → sm_M → Prop) (x4 : Int32) (s0 : Int32) :
    sm_wp X 315 1168 [some (.retAddr 1), some (.ref 0), some (.ref 81), some (.ref 142), some (.int x4), none, none] [.int s0] (sM mo G I J) Q =
    (vp_in (x4 + 1) X.2 ∧ (sm_wp X 286 0 [some (.ref 81), some (.int (X.1 (x4 + 1).toNatClampNeg)), none, none] [] (sM mo G I J) (fun v M => sm_wp X 315 1179 [some (.retAddr 1), some (.ref 0), some (.ref 81), some (.ref 142), some (.int x4), none, none] (v.toList ++ []) M Q))) :=
  (sm_blk X 315 1168 (tt_lin 315 (by decide)) rfl rfl _ _ _ _).trans rfl
set_option maxRecDepth 100000 in
theorem bk_315_1179 (X : (Nat → Int32) × Nat) (mo : Bool) (G : Nat × Nat) (I : Nat → Nat → Int32) (J : Nat → Nat → Int64) (Q : Option Value → sm_M → Prop) (x4 : Int32) (s0 : Int32) :
    sm_wp X 315 1179 [some (.retAddr 1), some (.ref 0), some (.ref 81), some (.ref 142), some (.int x4), none, none] [.int s0] (sM mo G I J) Q =
    (sm_wp X 315 1674 [some (.retAddr 1), some (.ref 0), some (.ref 81), some (.ref 142), some (.int x4), none, none] [] (sM mo G I J) Q) :=
  (sm_blk X 315 1179 (tt_lin 315 (by decide)) rfl rfl _ _ _ _).trans rfl
set_option maxRecDepth 100000 in
theorem bk_315_1183 (X : (Nat → Int32) × Nat) (mo : Bool) (G : Nat × Nat) (I : Nat → Nat → Int32) (J : Nat → Nat → Int64) (Q : Option Value → sm_M → Prop) (x4 : Int32) :
    sm_wp X 315 1183 [some (.retAddr 1), some (.ref 0), some (.ref 81), some (.ref 142), some (.int x4), none, none] [] (sM mo G I J) Q =
    (vp_in (x4 + 1) X.2 ∧ (sm_wp X 194 0 [some (.ref 0), some (.int (X.1 (x4 + 1).toNatClampNeg))] [] (sM mo G I J) (fun v M => sm_wp X 315 1193 [some (.retAddr 1), some (.ref 0), some (.ref 81), some (.ref 142), some (.int x4), none, none] (v.toList ++ []) M Q))) :=
  (sm_blk X 315 1183 (tt_lin 315 (by decide)) rfl rfl _ _ _ _).trans rfl
set_option maxRecDepth 100000 in
theorem bk_315_1193 (X : (Nat → Int32) × Nat) (mo : Bool) (G : Nat × Nat) (I : Nat → Nat → Int32) (J : Nat → Nat → Int64) (Q : Option Value → sm_M → Prop) (x4 : Int32) (s0 : Int32) :
    sm_wp X 315 1193 [some (.retAddr 1), some (.ref 0), some (.ref 81), some (.ref 142), some (.int x4), none, none] [.int s0] (sM mo G I J) Q =
    (vp_in (x4 + 1) X.2 ∧ (sm_wp X 287 0 [some (.ref 81), some (.int (X.1 (x4 + 1).toNatClampNeg)), none, none] [] (sM mo G I J) (fun v M => sm_wp X 315 1204 [some (.retAddr 1), some (.ref 0), some (.ref 81), some (.ref 142), some (.int x4), none, none] (v.toList ++ []) M Q))) :=
  (sm_blk X 315 1193 (tt_lin 315 (by decide)) rfl rfl _ _ _ _).trans rfl
set_option maxRecDepth 100000 in
theorem bk_315_1204 (X : (Nat → Int32) × Nat) (mo : Bool) (G : Nat × Nat) (I : Nat → Nat → Int32) (J : Nat → Nat → Int64) (Q : Option Value → sm_M → Prop) (x4 : Int32) (s0 : Int32) :
    sm_wp X 315 1204 [some (.retAddr 1), some (.ref 0), some (.ref 81), some (.ref 142), some (.int x4), none, none] [.int s0] (sM mo G I J) Q =
    (sm_wp X 315 1674 [some (.retAddr 1), some (.ref 0), some (.ref 81), some (.ref 142), some (.int x4), none, none] [] (sM mo G I J) Q) :=
  (sm_blk X 315 1204 (tt_lin 315 (by decide)) rfl rfl _ _ _ _).trans rfl
set_option maxRecDepth 100000 in
theorem bk_315_1208 (X : (Nat → Int32) × Nat) (mo : Bool) (G : Nat × Nat) (I : Nat → Nat → Int32) (J : Nat → Nat → Int64) (Q : Option Value → sm_M → Prop) (x4 : Int32) :
    sm_wp X 315 1208 [some (.retAddr 1), some (.ref 0), some (.ref 81), some (.ref 142), some (.int x4), none, none] [] (sM mo G I J) Q =
    (sm_wp X 195 0 [some (.ref 0)] [] (sM mo G I J) (fun v M => sm_wp X 315 1212 [some (.retAddr 1), some (.ref 0), some (.ref 81), some (.ref 142), some (.int x4), none, none] (v.toList ++ []) M Q)) :=
  (sm_blk X 315 1208 (tt_lin 315 (by decide)) rfl rfl _ _ _ _).trans rfl
set_option maxRecDepth 100000 in
theorem bk_315_1212 (X : (Nat → Int32) × Nat) (mo : Bool) (G : Nat × Nat) (I : Nat → Nat → Int32) (J : Nat → Nat → Int64) (Q : Option Value → sm_M → Prop) (x4 : Int32) (s0 : Int32) :
    sm_wp X 315 1212 [some (.retAddr 1), some (.ref 0), some (.ref 81), some (.ref 142), some (.int x4), none, none] [.int s0] (sM mo G I J) Q =
    (sm_wp X 291 0 [some (.ref 81)] [] (sM mo G I J) (fun v M => sm_wp X 315 1217 [some (.retAddr 1), some (.ref 0), some (.ref 81), some (.ref 142), some (.int x4), none, none] (v.toList ++ []) M Q)) :=
  (sm_blk X 315 1212 (tt_lin 315 (by decide)) rfl rfl _ _ _ _).trans rfl
set_option maxRecDepth 100000 in
theorem bk_315_1217 (X : (Nat → Int32) × Nat) (mo : Bool) (G : Nat × Nat) (I : Nat → Nat → Int32) (J : Nat → Nat → Int64) (Q : Option Value → sm_M → Prop) (x4 : Int32) (s0 : Int32) :
    sm_wp X 315 1217 [some (.retAddr 1), some (.ref 0), some (.ref 81), some (.ref 142), some (.int x4), none, none] [.int s0] (sM mo G I J) Q =
    (sm_wp X 315 1674 [some (.retAddr 1), some (.ref 0), some (.ref 81), some (.ref 142), some (.int x4), none, none] [] (sM mo G I J) Q) :=
  (sm_blk X 315 1217 (tt_lin 315 (by decide)) rfl rfl _ _ _ _).trans rfl
set_option maxRecDepth 100000 in
theorem bk_315_1221 (X : (Nat → Int32) × Nat) (mo : Bool) (G : Nat × Nat) (I : Nat → Nat → Int32) (J : Nat → Nat → Int64) (Q : Option Value → sm_M → Prop) (x4 : Int32) :
    sm_wp X 315 1221 [some (.retAddr 1), some (.ref 0), some (.ref 81), some (.ref 142), some (.int x4), none, none] [] (sM mo G I J) Q =
    (vp_in (x4 + 1) X.2 ∧ (vp_in (x4 + 2) X.2 ∧ (vp_in (x4 + 3) X.2 ∧ (sm_wp X 196 0 [some (.ref 0), some (.int (X.1 (x4 + 1).toNatClampNeg)), some (.int (X.1 (x4 + 2).toNatClampNeg)), some (.int (X.1 (x4 + 3).toNatClampNeg))] [] (sM mo G I J) (fun v M => sm_wp X 315 1243 [some (.retAddr 1), some (.ref 0), some (.ref 81), some (.ref 142), some (.int x4), none, none] (v.toList ++ []) M Q))))) :=
  (sm_blk X 315 1221 (tt_lin 315 (by decide)) rfl rfl _ _ _ _).trans rfl
set_option maxRecDepth 100000 in
theorem bk_315_1243 (X : (Nat → Int32) × Nat) (mo : Bool) (G : Nat × Nat) (I : Nat → Nat → Int32) (J : Nat → Nat → Int64) (Q : Option Value → sm_M → Prop) (x4 : Int32) (s0 : Int32) :
    sm_wp X 315 1243 [some (.retAddr 1), some (.ref 0), some (.ref 81), some (.ref 142), some (.int x4), none, none] [.int s0] (sM mo G I J) Q =
    (vp_in (x4 + 1) X.2 ∧ (vp_in (x4 + 2) X.2 ∧ (vp_in (x4 + 3) X.2 ∧ (sm_wp X 292 0 [some (.ref 81), some (.int (X.1 (x4 + 1).toNatClampNeg)), some (.int (X.1 (x4 + 2).toNatClampNeg)), some (.int (X.1 (x4 + 3).toNatClampNeg)), none] [] (sM mo G I J) (fun v M => sm_wp X 315 1266 [some (.retAddr 1), some (.ref 0), some (.ref 81), some (.ref 142), some (.int x4), none, none] (v.toList ++ []) M Q))))) :=
  (sm_blk X 315 1243 (tt_lin 315 (by decide)) rfl rfl _ _ _ _).trans rfl
set_option maxRecDepth 100000 in
theorem bk_315_1266 (X : (Nat → Int32) × Nat) (mo : Bool) (G : Nat × Nat) (I : Nat → Nat → Int32) (J : Nat → Nat → Int64) (Q : Option Value → sm_M → Prop) (x4 : Int32) (s0 : Int32) :
    sm_wp X 315 1266 [some (.retAddr 1), some (.ref 0), some (.ref 81), some (.ref 142), some (.int x4), none, none] [.int s0] (sM mo G I J) Q =
    (sm_wp X 315 1674 [some (.retAddr 1), some (.ref 0), some (.ref 81), some (.ref 142), some (.int x4), none, none] [] (sM mo G I J) Q) :=
  (sm_blk X 315 1266 (tt_lin 315 (by decide)) rfl rfl _ _ _ _).trans rfl
set_option maxRecDepth 100000 in
theorem bk_315_1270 (X : (Nat → Int32) × Nat) (mo : Bool) (G : Nat × Nat) (I : Nat → Nat → Int32) (J : Nat → Nat → Int64) (Q : Option Value → sm_M → Prop) (x4 : Int32) :
    sm_wp X 315 1270 [some (.retAddr 1), some (.ref 0), some (.ref 81), some (.ref 142), some (.int x4), none, none] [] (sM mo G I J) Q =
    (vp_in (x4 + 1) X.2 ∧ (vp_in (x4 + 2) X.2 ∧ (vp_in (x4 + 3) X.2 ∧ (if (X.1 (x4 + 3).toNatClampNeg : Int32) = 0 then sm_wp X 315 1296 [some (.retAddr 1), some (.ref 0), some (.ref 81), some (.ref 142), some (.int x4), none, none] [.int (X.1 (x4 + 2).toNatClampNeg), .int (X.1 (x4 + 1).toNatClampNeg), .ref 0] (sM mo G I J) Q else (sm_wp X 315 1297 [some (.retAddr 1), some (.ref 0), some (.ref 81), some (.ref 142), some (.int x4), none, none] [.int 1, .int (X.1 (x4 + 2).toNatClampNeg), .int (X.1 (x4 + 1).toNatClampNeg), .ref 0] (sM mo G I J) Q))))) :=
  (sm_blk X 315 1270 (tt_lin 315 (by decide)) rfl rfl _ _ _ _).trans rfl
set_option maxRecDepth 100000 in
theorem bk_315_1296 (X : (Nat → Int32) × Nat) (mo : Bool) (G : Nat × Nat) (I : Nat → Nat → Int32) (J : Nat → Nat → Int64) (Q : Option Value → sm_M → Prop) (x4 : Int32) (s1 : Int32) (s2 : Int32) :
    sm_wp X 315 1296 [some (.retAddr 1), some (.ref 0), some (.ref 81), some (.ref 142), some (.int x4), none, none] [.int s2, .int s1, .ref 0] (sM mo G I J) Q =
    (sm_wp X 197 0 [some (.ref 0), some (.int s1), some (.int s2), some (.int 0)] [] (sM mo G I J) (fun v M => sm_wp X 315 1300 [some (.retAddr 1), some (.ref 0), some (.ref 81), some (.ref 142), some (.int x4), none, none] (v.toList ++ []) M Q)) :=
  (sm_blk X 315 1296 (tt_lin 315 (by decide)) rfl rfl _ _ _ _).trans rfl
set_option maxRecDepth 100000 in
theorem bk_315_1297 (X : (Nat → Int32) × Nat) (mo : Bool) (G : Nat × Nat) (I : Nat → Nat → Int32) (J : Nat → Nat → Int64) (Q : Option Value → sm_M → Prop) (x4 : Int32) (s1 : Int32) (s2 : Int32) (s3 : Int32) :
    sm_wp X 315 1297 [some (.retAddr 1), some (.ref 0), some (.ref 81), some (.ref 142), some (.int x4), none, none] [.int s3, .int s2, .int s1, .ref 0] (sM mo G I J) Q =
    (sm_wp X 197 0 [some (.ref 0), some (.int s1), some (.int s2), some (.int s3)] [] (sM mo G I J) (fun v M => sm_wp X 315 1300 [some (.retAddr 1), some (.ref 0), some (.ref 81), some (.ref 142), some (.int x4), none, none] (v.toList ++ []) M Q)) :=
  (sm_blk X 315 1297 (tt_lin 315 (by decide)) rfl rfl _ _ _ _).trans rfl
set_option maxRecDepth 100000 in
theorem bk_315_1300 (X : (Nat → Int32) × Nat) (mo : Bool) (G : Nat × Nat) (I : Nat → Nat → Int32) (J : Nat → Nat → Int64) (Q : Option Value → sm_M → Prop) (x4 : Int32) (s0 : Int32) :
    sm_wp X 315 1300 [some (.retAddr 1), some (.ref 0), some (.ref 81), some (.ref 142), some (.int x4), none, none] [.int s0] (sM mo G I J) Q =
    (vp_in (x4 + 1) X.2 ∧ (vp_in (x4 + 2) X.2 ∧ (vp_in (x4 + 3) X.2 ∧ (if (X.1 (x4 + 3).toNatClampNeg : Int32) = 0 then sm_wp X 315 1327 [some (.retAddr 1), some (.ref 0), some (.ref 81), some (.ref 142), some (.int x4), none, none] [.int (X.1 (x4 + 2).toNatClampNeg), .int (X.1 (x4 + 1).toNatClampNeg), .ref 81] (sM mo G I J) Q else (sm_wp X 315 1328 [some (.retAddr 1), some (.ref 0), some (.ref 81), some (.ref 142), some (.int x4), none, none] [.int 1, .int (X.1 (x4 + 2).toNatClampNeg), .int (X.1 (x4 + 1).toNatClampNeg), .ref 81] (sM mo G I J) Q))))) :=
  (sm_blk X 315 1300 (tt_lin 315 (by decide)) rfl rfl _ _ _ _).trans rfl
set_option maxRecDepth 100000 in
theorem bk_315_1327 (X : (Nat → Int32) × Nat) (mo : Bool) (G : Nat × Nat) (I : Nat → Nat → Int32) (J : Nat → Nat → Int64) (Q : Option Value → sm_M → Prop) (x4 : Int32) (s1 : Int32) (s2 : Int32) :
    sm_wp X 315 1327 [some (.retAddr 1), some (.ref 0), some (.ref 81), some (.ref 142), some (.int x4), none, none] [.int s2, .int s1, .ref 81] (sM mo G I J) Q =
    (sm_wp X 294 0 [some (.ref 81), some (.int s1), some (.int s2), some (.int 0)] [] (sM mo G I J) (fun v M => sm_wp X 315 1331 [some (.retAddr 1), some (.ref 0), some (.ref 81), some (.ref 142), some (.int x4), none, none] (v.toList ++ []) M Q)) :=
  (sm_blk X 315 1327 (tt_lin 315 (by decide)) rfl rfl _ _ _ _).trans rfl
set_option maxRecDepth 100000 in
theorem bk_315_1328 (X : (Nat → Int32) × Nat) (mo : Bool) (G : Nat × Nat) (I : Nat → Nat → Int32) (J : Nat → Nat → Int64) (Q : Option Value → sm_M → Prop) (x4 : Int32) (s1 : Int32) (s2 : Int32) (s3 : Int32) :
    sm_wp X 315 1328 [some (.retAddr 1), some (.ref 0), some (.ref 81), some (.ref 142), some (.int x4), none, none] [.int s3, .int s2, .int s1, .ref 81] (sM mo G I J) Q =
    (sm_wp X 294 0 [some (.ref 81), some (.int s1), some (.int s2), some (.int s3)] [] (sM mo G I J) (fun v M => sm_wp X 315 1331 [some (.retAddr 1), some (.ref 0), some (.ref 81), some (.ref 142), some (.int x4), none, none] (v.toList ++ []) M Q)) :=
  (sm_blk X 315 1328 (tt_lin 315 (by decide)) rfl rfl _ _ _ _).trans rfl
set_option maxRecDepth 100000 in
theorem bk_315_1331 (X : (Nat → Int32) × Nat) (mo : Bool) (G : Nat × Nat) (I : Nat → Nat → Int32) (J : Nat → Nat → Int64) (Q : Option Value → sm_M → Prop) (x4 : Int32) (s0 : Int32) :
    sm_wp X 315 1331 [some (.retAddr 1), some (.ref 0), some (.ref 81), some (.ref 142), some (.int x4), none, none] [.int s0] (sM mo G I J) Q =
    (sm_wp X 315 1674 [some (.retAddr 1), some (.ref 0), some (.ref 81), some (.ref 142), some (.int x4), none, none] [] (sM mo G I J) Q) :=
  (sm_blk X 315 1331 (tt_lin 315 (by decide)) rfl rfl _ _ _ _).trans rfl
set_option maxRecDepth 100000 in
theorem bk_315_1335 (X : (Nat → Int32) × Nat) (mo : Bool) (G : Nat × Nat) (I : Nat → Nat → Int32) (J : Nat → Nat → Int64) (Q : Option Value → sm_M → Prop) (x4 : Int32) :
    sm_wp X 315 1335 [some (.retAddr 1), some (.ref 0), some (.ref 81), some (.ref 142), some (.int x4), none, none] [] (sM mo G I J) Q =
    (vp_in (x4 + 1) X.2 ∧ (vp_in (x4 + 2) X.2 ∧ (vp_in (x4 + 3) X.2 ∧ (if (X.1 (x4 + 3).toNatClampNeg : Int32) = 0 then sm_wp X 315 1361 [some (.retAddr 1), some (.ref 0), some (.ref 81), some (.ref 142), some (.int x4), none, none] [.int (X.1 (x4 + 2).toNatClampNeg), .int (X.1 (x4 + 1).toNatClampNeg), .ref 0] (sM mo G I J) Q else (sm_wp X 315 1362 [some (.retAddr 1), some (.ref 0), some (.ref 81), some (.ref 142), some (.int x4), none, none] [.int 1, .int (X.1 (x4 + 2).toNatClampNeg), .int (X.1 (x4 + 1).toNatClampNeg), .ref 0] (sM mo G I J) Q))))) :=
  (sm_blk X 315 1335 (tt_lin 315 (by decide)) rfl rfl _ _ _ _).trans rfl
set_option maxRecDepth 100000 in
theorem bk_315_1361 (X : (Nat → Int32) × Nat) (mo : Bool) (G : Nat × Nat) (I : Nat → Nat → Int32) (J : Nat → Nat → Int64) (Q : Option Value → sm_M → Prop) (x4 : Int32) (s1 : Int32) (s2 : Int32) :
    sm_wp X 315 1361 [some (.retAddr 1), some (.ref 0), some (.ref 81), some (.ref 142), some (.int x4), none, none] [.int s2, .int s1, .ref 0] (sM mo G I J) Q =
    (sm_wp X 198 0 [some (.ref 0), some (.int s1), some (.int s2), some (.int 0)] [] (sM mo G I J) (fun v M => sm_wp X 315 1365 [some (.retAddr 1), some (.ref 0), some (.ref 81), some (.ref 142), some (.int x4), none, none] (v.toList ++ []) M Q)) :=
  (sm_blk X 315 1361 (tt_lin 315 (by decide)) rfl rfl _ _ _ _).trans rfl
set_option maxRecDepth 100000 in
theorem bk_315_1362 (X : (Nat → Int32) × Nat) (mo : Bool) (G : Nat × Nat) (I : Nat → Nat → Int32) (J : Nat → Nat → Int64) (Q : Option Value → sm_M → Prop) (x4 : Int32) (s1 : Int32) (s2 : Int32) (s3 : Int32) :
    sm_wp X 315 1362 [some (.retAddr 1), some (.ref 0), some (.ref 81), some (.ref 142), some (.int x4), none, none] [.int s3, .int s2, .int s1, .ref 0] (sM mo G I J) Q =
    (sm_wp X 198 0 [some (.ref 0), some (.int s1), some (.int s2), some (.int s3)] [] (sM mo G I J) (fun v M => sm_wp X 315 1365 [some (.retAddr 1), some (.ref 0), some (.ref 81), some (.ref 142), some (.int x4), none, none] (v.toList ++ []) M Q)) :=
  (sm_blk X 315 1362 (tt_lin 315 (by decide)) rfl rfl _ _ _ _).trans rfl
set_option maxRecDepth 100000 in
theorem bk_315_1365 (X : (Nat → Int32) × Nat) (mo : Bool) (G : Nat × Nat) (I : Nat → Nat → Int32) (J : Nat → Nat → Int64) (Q : Option Value → sm_M → Prop) (x4 : Int32) (s0 : Int32) :
    sm_wp X 315 1365 [some (.retAddr 1), some (.ref 0), some (.ref 81), some (.ref 142), some (.int x4), none, none] [.int s0] (sM mo G I J) Q =
    (vp_in (x4 + 1) X.2 ∧ (vp_in (x4 + 2) X.2 ∧ (vp_in (x4 + 3) X.2 ∧ (if (X.1 (x4 + 3).toNatClampNeg : Int32) = 0 then sm_wp X 315 1392 [some (.retAddr 1), some (.ref 0), some (.ref 81), some (.ref 142), some (.int x4), none, none] [.int (X.1 (x4 + 2).toNatClampNeg), .int (X.1 (x4 + 1).toNatClampNeg), .ref 81] (sM mo G I J) Q else (sm_wp X 315 1393 [some (.retAddr 1), some (.ref 0), some (.ref 81), some (.ref 142), some (.int x4), none, none] [.int 1, .int (X.1 (x4 + 2).toNatClampNeg), .int (X.1 (x4 + 1).toNatClampNeg), .ref 81] (sM mo G I J) Q))))) :=
  (sm_blk X 315 1365 (tt_lin 315 (by decide)) rfl rfl _ _ _ _).trans rfl
set_option maxRecDepth 100000 in
theorem bk_315_1392 (X : (Nat → Int32) × Nat) (mo : Bool) (G : Nat × Nat) (I : Nat → Nat → Int32) (J : Nat → Nat → Int64) (Q : Option Value → sm_M → Prop) (x4 : Int32) (s1 : Int32) (s2 : Int32) :
    sm_wp X 315 1392 [some (.retAddr 1), some (.ref 0), some (.ref 81), some (.ref 142), some (.int x4), none, none] [.int s2, .int s1, .ref 81] (sM mo G I J) Q =
    (sm_wp X 295 0 [some (.ref 81), some (.int s1), some (.int s2), some (.int 0)] [] (sM mo G I J) (fun v M => sm_wp X 315 1396 [some (.retAddr 1), some (.ref 0), some (.ref 81), some (.ref 142), some (.int x4), none, none] (v.toList ++ []) M Q)) :=
  (sm_blk X 315 1392 (tt_lin 315 (by decide)) rfl rfl _ _ _ _).trans rfl
set_option maxRecDepth 100000 in
theorem bk_315_1393 (X : (Nat → Int32) × Nat) (mo : Bool) (G : Nat × Nat) (I : Nat → Nat → Int32) (J : Nat → Nat → Int64) (Q : Option Value → sm_M → Prop) (x4 : Int32) (s1 : Int32) (s2 : Int32) (s3 : Int32) :
    sm_wp X 315 1393 [some (.retAddr 1), some (.ref 0), some (.ref 81), some (.ref 142), some (.int x4), none, none] [.int s3, .int s2, .int s1, .ref 81] (sM mo G I J) Q =
    (sm_wp X 295 0 [some (.ref 81), some (.int s1), some (.int s2), some (.int s3)] [] (sM mo G I J) (fun v M => sm_wp X 315 1396 [some (.retAddr 1), some (.ref 0), some (.ref 81), some (.ref 142), some (.int x4), none, none] (v.toList ++ []) M Q)) :=
  (sm_blk X 315 1393 (tt_lin 315 (by decide)) rfl rfl _ _ _ _).trans rfl
set_option maxRecDepth 100000 in
theorem bk_315_1396 (X : (Nat → Int32) × Nat) (mo : Bool) (G : Nat × Nat) (I : Nat → Nat → Int32) (J : Nat → Nat → Int64) (Q : Option Value → sm_M → Prop) (x4 : Int32) (s0 : Int32) :
    sm_wp X 315 1396 [some (.retAddr 1), some (.ref 0), some (.ref 81), some (.ref 142), some (.int x4), none, none] [.int s0] (sM mo G I J) Q =
    (sm_wp X 315 1674 [some (.retAddr 1), some (.ref 0), some (.ref 81), some (.ref 142), some (.int x4), none, none] [] (sM mo G I J) Q) :=
  (sm_blk X 315 1396 (tt_lin 315 (by decide)) rfl rfl _ _ _ _).trans rfl
set_option maxRecDepth 100000 in
theorem bk_315_1400 (X : (Nat → Int32) × Nat) (mo : Bool) (G : Nat × Nat) (I : Nat → Nat → Int32) (J : Nat → Nat → Int64) (Q : Option Value → sm_M → Prop) (x4 : Int32) :
    sm_wp X 315 1400 [some (.retAddr 1), some (.ref 0), some (.ref 81), some (.ref 142), some (.int x4), none, none] [] (sM mo G I J) Q =
    (vp_in (x4 + 1) X.2 ∧ (vp_in (x4 + 2) X.2 ∧ (vp_in (x4 + 3) X.2 ∧ (sm_wp X 199 0 [some (.ref 0), some (.int (X.1 (x4 + 1).toNatClampNeg)), some (.int (X.1 (x4 + 2).toNatClampNeg)), some (.int (X.1 (x4 + 3).toNatClampNeg))] [] (sM mo G I J) (fun v M => sm_wp X 315 1422 [some (.retAddr 1), some (.ref 0), some (.ref 81), some (.ref 142), some (.int x4), none, none] (v.toList ++ []) M Q))))) :=
  (sm_blk X 315 1400 (tt_lin 315 (by decide)) rfl rfl _ _ _ _).trans rfl
set_option maxRecDepth 100000 in
theorem bk_315_1422 (X : (Nat → Int32) × Nat) (mo : Bool) (G : Nat × Nat) (I : Nat → Nat → Int32) (J : Nat → Nat → Int64) (Q : Option Value → sm_M → Prop) (x4 : Int32) (s0 : Int32) :
    sm_wp X 315 1422 [some (.retAddr 1), some (.ref 0), some (.ref 81), some (.ref 142), some (.int x4), none, none] [.int s0] (sM mo G I J) Q =
    (vp_in (x4 + 1) X.2 ∧ (vp_in (x4 + 2) X.2 ∧ (vp_in (x4 + 3) X.2 ∧ (sm_wp X 296 0 [some (.ref 81), some (.int (X.1 (x4 + 1).toNatClampNeg)), some (.int (X.1 (x4 + 2).toNatClampNeg)), some (.int (X.1 (x4 + 3).toNatClampNeg))] [] (sM mo G I J) (fun v M => sm_wp X 315 1445 [some (.retAddr 1), some (.ref 0), some (.ref 81), some (.ref 142), some (.int x4), none, none] (v.toList ++ []) M Q))))) :=
  (sm_blk X 315 1422 (tt_lin 315 (by decide)) rfl rfl _ _ _ _).trans rfl
set_option maxRecDepth 100000 in
theorem bk_315_1445 (X : (Nat → Int32) × Nat) (mo : Bool) (G : Nat × Nat) (I : Nat → Nat → Int32) (J : Nat → Nat → Int64) (Q : Option Value → sm_M → Prop) (x4 : Int32) (s0 : Int32) :
    sm_wp X 315 1445 [some (.retAddr 1), some (.ref 0), some (.ref 81), some (.ref 142), some (.int x4), none, none] [.int s0] (sM mo G I J) Q =
    (sm_wp X 315 1674 [some (.retAddr 1), some (.ref 0), some (.ref 81), some (.ref 142), some (.int x4), none, none] [] (sM mo G I J) Q) :=
  (sm_blk X 315 1445 (tt_lin 315 (by decide)) rfl rfl _ _ _ _).trans rfl
set_option maxRecDepth 100000 in
theorem bk_315_1449 (X : (Nat → Int32) × Nat) (mo : Bool) (G : Nat × Nat) (I : Nat → Nat → Int32) (J : Nat → Nat → Int64) (Q : Option Value → sm_M → Prop) (x4 : Int32) :
    sm_wp X 315 1449 [some (.retAddr 1), some (.ref 0), some (.ref 81), some (.ref 142), some (.int x4), none, none] [] (sM mo G I J) Q =
    (vp_in (x4 + 1) X.2 ∧ (vp_in (x4 + 2) X.2 ∧ (sm_wp X 200 0 [some (.ref 0), some (.int (X.1 (x4 + 1).toNatClampNeg)), some (.int (X.1 (x4 + 2).toNatClampNeg))] [] (sM mo G I J) (fun v M => sm_wp X 315 1465 [some (.retAddr 1), some (.ref 0), some (.ref 81), some (.ref 142), some (.int x4), none, none] (v.toList ++ []) M Q)))) :=
  (sm_blk X 315 1449 (tt_lin 315 (by decide)) rfl rfl _ _ _ _).trans rfl
set_option maxRecDepth 100000 in
theorem bk_315_1465 (X : (Nat → Int32) × Nat) (mo : Bool) (G : Nat × Nat) (I : Nat → Nat → Int32) (J : Nat → Nat → Int64) (Q : Option Value → sm_M → Prop) (x4 : Int32) (s0 : Int32) :
    sm_wp X 315 1465 [some (.retAddr 1), some (.ref 0), some (.ref 81), some (.ref 142), some (.int x4), none, none] [.int s0] (sM mo G I J) Q =
    (vp_in (x4 + 1) X.2 ∧ (vp_in (x4 + 2) X.2 ∧ (sm_wp X 298 0 [some (.ref 81), some (.int (X.1 (x4 + 1).toNatClampNeg)), some (.int (X.1 (x4 + 2).toNatClampNeg)), none, none, none] [] (sM mo G I J) (fun v M => sm_wp X 315 1482 [some (.retAddr 1), some (.ref 0), some (.ref 81), some (.ref 142), some (.int x4), none, none] (v.toList ++ []) M Q)))) :=
  (sm_blk X 315 1465 (tt_lin 315 (by decide)) rfl rfl _ _ _ _).trans rfl
set_option maxRecDepth 100000 in
theorem bk_315_1482 (X : (Nat → Int32) × Nat) (mo : Bool) (G : Nat × Nat) (I : Nat → Nat → Int32) (J : Nat → Nat → Int64) (Q : Option Value → sm_M → Prop) (x4 : Int32) (s0 : Int32) :
    sm_wp X 315 1482 [some (.retAddr 1), some (.ref 0), some (.ref 81), some (.ref 142), some (.int x4), none, none] [.int s0] (sM mo G I J) Q =
    (sm_wp X 315 1674 [some (.retAddr 1), some (.ref 0), some (.ref 81), some (.ref 142), some (.int x4), none, none] [] (sM mo G I J) Q) :=
  (sm_blk X 315 1482 (tt_lin 315 (by decide)) rfl rfl _ _ _ _).trans rfl
set_option maxRecDepth 100000 in
theorem bk_315_1486 (X : (Nat → Int32) × Nat) (mo : Bool) (G : Nat × Nat) (I : Nat → Nat → Int32) (J : Nat → Nat → Int64) (Q : Option Value → sm_M → Prop) (x4 : Int32) :
    sm_wp X 315 1486 [some (.retAddr 1), some (.ref 0), some (.ref 81), some (.ref 142), some (.int x4), none, none] [] (sM mo G I J) Q =
    (vp_in (x4 + 1) X.2 ∧ (vp_in (x4 + 2) X.2 ∧ (vp_in (x4 + 3) X.2 ∧ (sm_wp X 201 0 [some (.ref 0), some (.int (X.1 (x4 + 1).toNatClampNeg)), some (.int (X.1 (x4 + 2).toNatClampNeg)), some (.int (X.1 (x4 + 3).toNatClampNeg))] [] (sM mo G I J) (fun v M => sm_wp X 315 1508 [some (.retAddr 1), some (.ref 0), some (.ref 81), some (.ref 142), some (.int x4), none, none] (v.toList ++ []) M Q))))) :=
  (sm_blk X 315 1486 (tt_lin 315 (by decide)) rfl rfl _ _ _ _).trans rfl
set_option maxRecDepth 100000 in
theorem bk_315_1508 (X : (Nat → Int32) × Nat) (mo : Bool) (G : Nat × Nat) (I : Nat → Nat → Int32) (J : Nat → Nat → Int64) (Q : Option Value → sm_M → Prop) (x4 : Int32) (s0 : Int32) :
    sm_wp X 315 1508 [some (.retAddr 1), some (.ref 0), some (.ref 81), some (.ref 142), some (.int x4), none, none] [.int s0] (sM mo G I J) Q =
    (vp_in (x4 + 1) X.2 ∧ (vp_in (x4 + 2) X.2 ∧ (vp_in (x4 + 3) X.2 ∧ (sm_wp X 305 0 [some (.ref 81), some (.int (X.1 (x4 + 1).toNatClampNeg)), some (.int (X.1 (x4 + 2).toNatClampNeg)), some (.int (X.1 (x4 + 3).toNatClampNeg)), none] [] (sM mo G I J) (fun v M => sm_wp X 315 1531 [some (.retAddr 1), some (.ref 0), some (.ref 81), some (.ref 142), some (.int x4), none, none] (v.toList ++ []) M Q))))) :=
  (sm_blk X 315 1508 (tt_lin 315 (by decide)) rfl rfl _ _ _ _).trans rfl
set_option maxRecDepth 100000 in
theorem bk_315_1531 (X : (Nat → Int32) × Nat) (mo : Bool) (G : Nat × Nat) (I : Nat → Nat → Int32) (J : Nat → Nat → Int64) (Q : Option Value → sm_M → Prop) (x4 : Int32) (s0 : Int32) :
    sm_wp X 315 1531 [some (.retAddr 1), some (.ref 0), some (.ref 81), some (.ref 142), some (.int x4), none, none] [.int s0] (sM mo G I J) Q =
    (sm_wp X 315 1674 [some (.retAddr 1), some (.ref 0), some (.ref 81), some (.ref 142), some (.int x4), none, none] [] (sM mo G I J) Q) :=
  (sm_blk X 315 1531 (tt_lin 315 (by decide)) rfl rfl _ _ _ _).trans rfl
set_option maxRecDepth 100000 in
theorem bk_315_1535 (X : (Nat → Int32) × Nat) (mo : Bool) (G : Nat × Nat) (I : Nat → Nat → Int32) (J : Nat → Nat → Int64) (Q : Option Value → sm_M → Prop) (x4 : Int32) :
    sm_wp X 315 1535 [some (.retAddr 1), some (.ref 0), some (.ref 81), some (.ref 142), some (.int x4), none, none] [] (sM mo G I J) Q =
    (vp_in (x4 + 1) X.2 ∧ (sm_wp X 202 0 [some (.ref 0), some (.int (X.1 (x4 + 1).toNatClampNeg))] [] (sM mo G I J) (fun v M => sm_wp X 315 1545 [some (.retAddr 1), some (.ref 0), some (.ref 81), some (.ref 142), some (.int x4), none, none] (v.toList ++ []) M Q))) :=
  (sm_blk X 315 1535 (tt_lin 315 (by decide)) rfl rfl _ _ _ _).trans rfl
set_option maxRecDepth 100000 in
theorem bk_315_1545 (X : (Nat → Int32) × Nat) (mo : Bool) (G : Nat × Nat) (I : Nat → Nat → Int32) (J : Nat → Nat → Int64) (Q : Option Value → sm_M → Prop) (x4 : Int32) (s0 : Int32) :
    sm_wp X 315 1545 [some (.retAddr 1), some (.ref 0), some (.ref 81), some (.ref 142), some (.int x4), none, none] [.int s0] (sM mo G I J) Q =
    (vp_in (x4 + 1) X.2 ∧ (sm_wp X 306 0 [some (.ref 81), some (.int (X.1 (x4 + 1).toNatClampNeg)), none, none] [] (sM mo G I J) (fun v M => sm_wp X 315 1556 [some (.retAddr 1), some (.ref 0), some (.ref 81), some (.ref 142), some (.int x4), none, none] (v.toList ++ []) M Q))) :=
  (sm_blk X 315 1545 (tt_lin 315 (by decide)) rfl rfl _ _ _ _).trans rfl
set_option maxRecDepth 100000 in
theorem bk_315_1556 (X : (Nat → Int32) × Nat) (mo : Bool) (G : Nat × Nat) (I : Nat → Nat → Int32) (J : Nat → Nat → Int64) (Q : Option Value → sm_M → Prop) (x4 : Int32) (s0 : Int32) :
    sm_wp X 315 1556 [some (.retAddr 1), some (.ref 0), some (.ref 81), some (.ref 142), some (.int x4), none, none] [.int s0] (sM mo G I J) Q =
    (sm_wp X 315 1674 [some (.retAddr 1), some (.ref 0), some (.ref 81), some (.ref 142), some (.int x4), none, none] [] (sM mo G I J) Q) :=
  (sm_blk X 315 1556 (tt_lin 315 (by decide)) rfl rfl _ _ _ _).trans rfl
set_option maxRecDepth 100000 in
theorem bk_315_1560 (X : (Nat → Int32) × Nat) (mo : Bool) (G : Nat × Nat) (I : Nat → Nat → Int32) (J : Nat → Nat → Int64) (Q : Option Value → sm_M → Prop) (x4 : Int32) :
    sm_wp X 315 1560 [some (.retAddr 1), some (.ref 0), some (.ref 81), some (.ref 142), some (.int x4), none, none] [] (sM mo G I J) Q =
    (vp_in (x4 + 1) X.2 ∧ (vp_in (x4 + 2) X.2 ∧ (vp_in (x4 + 3) X.2 ∧ (sm_wp X 203 0 [some (.ref 0), some (.int (X.1 (x4 + 1).toNatClampNeg)), some (.int (X.1 (x4 + 2).toNatClampNeg)), some (.int (X.1 (x4 + 3).toNatClampNeg))] [] (sM mo G I J) (fun v M => sm_wp X 315 1582 [some (.retAddr 1), some (.ref 0), some (.ref 81), some (.ref 142), some (.int x4), none, none] (v.toList ++ []) M Q))))) :=
  (sm_blk X 315 1560 (tt_lin 315 (by decide)) rfl rfl _ _ _ _).trans rfl
set_option maxRecDepth 100000 in
theorem bk_315_1582 (X : (Nat → Int32) × Nat) (mo : Bool) (G : Nat × Nat) (I : Nat → Nat → Int32) (J : Nat → Nat → Int64) (Q : Option Value → sm_M → Prop) (x4 : Int32) (s0 : Int32) :
    sm_wp X 315 1582 [some (.retAddr 1), some (.ref 0), some (.ref 81), some (.ref 142), some (.int x4), none, none] [.int s0] (sM mo G I J) Q =
    (vp_in (x4 + 1) X.2 ∧ (vp_in (x4 + 2) X.2 ∧ (vp_in (x4 + 3) X.2 ∧ (sm_wp X 307 0 [some (.ref 81), some (.int (X.1 (x4 + 1).toNatClampNeg)), some (.int (X.1 (x4 + 2).toNatClampNeg)), some (.int (X.1 (x4 + 3).toNatClampNeg))] [] (sM mo G I J) (fun v M => sm_wp X 315 1605 [some (.retAddr 1), some (.ref 0), some (.ref 81), some (.ref 142), some (.int x4), none, none] (v.toList ++ []) M Q))))) :=
  (sm_blk X 315 1582 (tt_lin 315 (by decide)) rfl rfl _ _ _ _).trans rfl
set_option maxRecDepth 100000 in
theorem bk_315_1605 (X : (Nat → Int32) × Nat) (mo : Bool) (G : Nat × Nat) (I : Nat → Nat → Int32) (J : Nat → Nat → Int64) (Q : Option Value → sm_M → Prop) (x4 : Int32) (s0 : Int32) :
    sm_wp X 315 1605 [some (.retAddr 1), some (.ref 0), some (.ref 81), some (.ref 142), some (.int x4), none, none] [.int s0] (sM mo G I J) Q =
    (sm_wp X 315 1674 [some (.retAddr 1), some (.ref 0), some (.ref 81), some (.ref 142), some (.int x4), none, none] [] (sM mo G I J) Q) :=
  (sm_blk X 315 1605 (tt_lin 315 (by decide)) rfl rfl _ _ _ _).trans rfl
-- Law_law 315 at 1609: prim
set_option maxRecDepth 100000 in
theorem bk_315_1644 (X : (Nat → Int32) × Nat) (mo : Bool) (G : Nat × Nat) (I : Nat → Nat → Int32) (J : Nat → Nat → Int64) (Q : Option Value → sm_M → Prop) (x4 : Int32) (x5 : Int32) (s0 : Int32) :
    sm_wp X 315 1644 [some (.retAddr 1), some (.ref 0), some (.ref 81), some (.ref 142), some (.int x4), some (.int x5), none] [.int s0] (sM mo G I J) Q =
    (sm_wp X 315 1674 [some (.retAddr 1), some (.ref 0), some (.ref 81), some (.ref 142), some (.int x4), some (.int x5), some (.int s0)] [] (sM mo G I J) Q) :=
  (sm_blk X 315 1644 (tt_lin 315 (by decide)) rfl rfl _ _ _ _).trans rfl
set_option maxRecDepth 100000 in
theorem bk_315_1649 (X : (Nat → Int32) × Nat) (mo : Bool) (G : Nat × Nat) (I : Nat → Nat → Int32) (J : Nat → Nat → Int64) (Q : Option Value → sm_M → Prop) (x4 : Int32) :
    sm_wp X 315 1649 [some (.retAddr 1), some (.ref 0), some (.ref 81), some (.ref 142), some (.int x4), none, none] [] (sM mo G I J) Q =
    (vp_in (x4 + 1) X.2 ∧ (sm_wp X 204 0 [some (.ref 0), some (.int (X.1 (x4 + 1).toNatClampNeg))] [] (sM mo G I J) (fun v M => sm_wp X 315 1659 [some (.retAddr 1), some (.ref 0), some (.ref 81), some (.ref 142), some (.int x4), none, none] (v.toList ++ []) M Q))) :=
  (sm_blk X 315 1649 (tt_lin 315 (by decide)) rfl rfl _ _ _ _).trans rfl
set_option maxRecDepth 100000 in
theorem bk_315_1659 (X : (Nat → Int32) × Nat) (mo : Bool) (G : Nat × Nat) (I : Nat → Nat → Int32) (J : Nat → Nat → Int64) (Q : Option Value → sm_M → Prop) (x4 : Int32) (s0 : Int32) :
    sm_wp X 315 1659 [some (.retAddr 1), some (.ref 0), some (.ref 81), some (.ref 142), some (.int x4), none, none] [.int s0] (sM mo G I J) Q =
    (vp_in (x4 + 1) X.2 ∧ (sm_wp X 310 0 [some (.ref 81), some (.int (X.1 (x4 + 1).toNatClampNeg)), none, none] [] (sM mo G I J) (fun v M => sm_wp X 315 1670 [some (.retAddr 1), some (.ref 0), some (.ref 81), some (.ref 142), some (.int x4), none, none] (v.toList ++ []) M Q))) :=
  (sm_blk X 315 1659 (tt_lin 315 (by decide)) rfl rfl _ _ _ _).trans rfl
set_option maxRecDepth 100000 in
theorem bk_315_1670 (X : (Nat → Int32) × Nat) (mo : Bool) (G : Nat × Nat) (I : Nat → Nat → Int32) (J : Nat → Nat → Int64) (Q : Option Value → sm_M → Prop) (x4 : Int32) (s0 : Int32) :
    sm_wp X 315 1670 [some (.retAddr 1), some (.ref 0), some (.ref 81), some (.ref 142), some (.int x4), none, none] [.int s0] (sM mo G I J) Q =
    (sm_wp X 315 1674 [some (.retAddr 1), some (.ref 0), some (.ref 81), some (.ref 142), some (.int x4), none, none] [] (sM mo G I J) Q) :=
  (sm_blk X 315 1670 (tt_lin 315 (by decide)) rfl rfl _ _ _ _).trans rfl
set_option maxRecDepth 100000 in
theorem bk_315_1674 (X : (Nat → Int32) × Nat) (mo : Bool) (G : Nat × Nat) (I : Nat → Nat → Int32) (J : Nat → Nat → Int64) (Q : Option Value → sm_M → Prop) (x4 : Int32) :
    sm_wp X 315 1674 [some (.retAddr 1), some (.ref 0), some (.ref 81), some (.ref 142), some (.int x4), none, none] [] (sM mo G I J) Q =
    (sm_wp X 315 23 [some (.retAddr 1), some (.ref 0), some (.ref 81), some (.ref 142), some (.int (x4 + 7)), none, none] [] (sM mo G I J) Q) :=
  (sm_blk X 315 1674 (tt_lin 315 (by decide)) rfl rfl _ _ _ _).trans rfl
set_option maxRecDepth 100000 in
theorem bk_315_1680 (X : (Nat → Int32) × Nat) (mo : Bool) (G : Nat × Nat) (I : Nat → Nat → Int32) (J : Nat → Nat → Int64) (Q : Option Value → sm_M → Prop) (x4 : Int32) :
    sm_wp X 315 1680 [some (.retAddr 1), some (.ref 0), some (.ref 81), some (.ref 142), some (.int x4), none, none] [] (sM mo G I J) Q =
    (sm_zb 1 ∧ Q (some (.int 1)) (sM mo G I J)) :=
  (sm_blk X 315 1680 (tt_lin 315 (by decide)) rfl rfl _ _ _ _).trans rfl
end
section
set_option maxRecDepth 100000 in
theorem bk_207_0 (X : (Nat → Int32) × Nat) (mo : Bool) (G : Nat × Nat) (I : Nat → Nat → Int32) (J : Nat → Nat → Int64) (Q : Option Value → sm_M → Prop) (x1 : Int32) :
    sm_wp X 207 0 [some (.ref 81), some (.int x1)] [] (sM mo G I J) Q =
    (if (x1 : Int32) < 0 then sm_wp X 207 16 [some (.ref 81), some (.int x1)] [] (sM mo G I J) Q else (if (I 81 3 : Int32) ≤ (x1 : Int32) then sm_wp X 207 16 [some (.ref 81), some (.int x1)] [] (sM mo G I J) Q else (sm_wp X 207 17 [some (.ref 81), some (.int x1)] [.int 1] (sM mo G I J) Q))) :=
  (sm_blk X 207 0 (tt_lin 207 (by decide)) rfl rfl _ _ _ _).trans rfl
set_option maxRecDepth 100000 in
theorem bk_207_16 (X : (Nat → Int32) × Nat) (mo : Bool) (G : Nat × Nat) (I : Nat → Nat → Int32) (J : Nat → Nat → Int64) (Q : Option Value → sm_M → Prop) (x1 : Int32) :
    sm_wp X 207 16 [some (.ref 81), some (.int x1)] [] (sM mo G I J) Q =
    (sm_zb 0 ∧ Q (some (.int 0)) (sM mo G I J)) :=
  (sm_blk X 207 16 (tt_lin 207 (by decide)) rfl rfl _ _ _ _).trans rfl
set_option maxRecDepth 100000 in
theorem bk_207_17 (X : (Nat → Int32) × Nat) (mo : Bool) (G : Nat × Nat) (I : Nat → Nat → Int32) (J : Nat → Nat → Int64) (Q : Option Value → sm_M → Prop) (x1 : Int32) (s0 : Int32) :
    sm_wp X 207 17 [some (.ref 81), some (.int x1)] [.int s0] (sM mo G I J) Q =
    (sm_zb s0 ∧ Q (some (.int s0)) (sM mo G I J)) :=
  (sm_blk X 207 17 (tt_lin 207 (by decide)) rfl rfl _ _ _ _).trans rfl
set_option maxRecDepth 100000 in
theorem bk_208_0 (X : (Nat → Int32) × Nat) (mo : Bool) (G : Nat × Nat) (I : Nat → Nat → Int32) (J : Nat → Nat → Int64) (Q : Option Value → sm_M → Prop) (x1 : Int32) (x2 : Int32) (x3 : Int32) (x4 : Int32) (x5 : Int32) :
    sm_wp X 208 0 [some (.ref 81), some (.int x1), some (.int x2), some (.int x3), some (.int x4), some (.int x5), none, none] [] (sM mo G I J) Q =
    (if (((up2 I 81 2 0) 81 1) + 20 : Int32) ≤ (400 : Int32) then sm_wp X 208 20 [some (.ref 81), some (.int x1), some (.int x2), some (.int x3), some (.int x4), some (.int x5), none, none] [] (sM mo G (up2 I 81 2 0) J) Q else (True ∧ Q (some (.int (-1))) (sM mo G (up2 I 81 2 0) J))) :=
  (sm_blk X 208 0 (tt_lin 208 (by decide)) rfl rfl _ _ _ _).trans rfl
set_option maxRecDepth 100000 in
theorem bk_208_20 (X : (Nat → Int32) × Nat) (mo : Bool) (G : Nat × Nat) (I : Nat → Nat → Int32) (J : Nat → Nat → Int64) (Q : Option Value → sm_M → Prop) (x1 : Int32) (x2 : Int32) (x3 : Int32) (x4 : Int32) (x5 : Int32) :
    sm_wp X 208 20 [some (.ref 81), some (.int x1), some (.int x2), some (.int x3), some (.int x4), some (.int x5), none, none] [] (sM mo G I J) Q =
    (sm_wp X 208 23 [some (.ref 81), some (.int x1), some (.int x2), some (.int x3), some (.int x4), some (.int x5), some (.int 0), none] [] (sM mo G I J) Q) :=
  (sm_blk X 208 20 (tt_lin 208 (by decide)) rfl rfl _ _ _ _).trans rfl
set_option maxRecDepth 100000 in
theorem bk_208_23 (X : (Nat → Int32) × Nat) (mo : Bool) (G : Nat × Nat) (I : Nat → Nat → Int32) (J : Nat → Nat → Int64) (Q : Option Value → sm_M → Prop) (x1 : Int32) (x2 : Int32) (x3 : Int32) (x4 : Int32) (x5 : Int32) (x6 : Int32) :
    sm_wp X 208 23 [some (.ref 81), some (.int x1), some (.int x2), some (.int x3), some (.int x4), some (.int x5), some (.int x6), none] [] (sM mo G I J) Q =
    (if (20 : Int32) ≤ (x6 : Int32) then sm_wp X 208 113 [some (.ref 81), some (.int x1), some (.int x2), some (.int x3), some (.int x4), some (.int x5), some (.int x6), none] [] (sM mo G I J) Q else (if (4 : Int32) ≤ (x6 : Int32) then sm_wp X 208 40 [some (.ref 81), some (.int x1), some (.int x2), some (.int x3), some (.int x4), some (.int x5), some (.int x6), none] [] (sM mo G I J) Q else (sm_wp X 208 76 [some (.ref 81), some (.int x1), some (.int x2), some (.int x3), some (.int x4), some (.int x5), some (.int x6), none] [.int x1] (sM mo G I J) Q))) :=
  (sm_blk X 208 23 (tt_lin 208 (by decide)) rfl rfl _ _ _ _).trans rfl
set_option maxRecDepth 100000 in
theorem bk_208_40 (X : (Nat → Int32) × Nat) (mo : Bool) (G : Nat × Nat) (I : Nat → Nat → Int32) (J : Nat → Nat → Int64) (Q : Option Value → sm_M → Prop) (x1 : Int32) (x2 : Int32) (x3 : Int32) (x4 : Int32) (x5 : Int32) (x6 : Int32) :
    sm_wp X 208 40 [some (.ref 81), some (.int x1), some (.int x2), some (.int x3), some (.int x4), some (.int x5), some (.int x6), none] [] (sM mo G I J) Q =
    (if (8 : Int32) ≤ (x6 : Int32) then sm_wp X 208 51 [some (.ref 81), some (.int x1), some (.int x2), some (.int x3), some (.int x4), some (.int x5), some (.int x6), none] [] (sM mo G I J) Q else (sm_wp X 208 76 [some (.ref 81), some (.int x1), some (.int x2), some (.int x3), some (.int x4), some (.int x5), some (.int x6), none] [.int x2] (sM mo G I J) Q)) :=
  (sm_blk X 208 40 (tt_lin 208 (by decide)) rfl rfl _ _ _ _).trans rfl
set_option maxRecDepth 100000 in
theorem bk_208_51 (X : (Nat → Int32) × Nat) (mo : Bool) (G : Nat × Nat) (I : Nat → Nat → Int32) (J : Nat → Nat → Int64) (Q : Option Value → sm_M → Prop) (x1 : Int32) (x2 : Int32) (x3 : Int32) (x4 : Int32) (x5 : Int32) (x6 : Int32) :
    sm_wp X 208 51 [some (.ref 81), some (.int x1), some (.int x2), some (.int x3), some (.int x4), some (.int x5), some (.int x6), none] [] (sM mo G I J) Q =
    (if (12 : Int32) ≤ (x6 : Int32) then sm_wp X 208 62 [some (.ref 81), some (.int x1), some (.int x2), some (.int x3), some (.int x4), some (.int x5), some (.int x6), none] [] (sM mo G I J) Q else (sm_wp X 208 76 [some (.ref 81), some (.int x1), some (.int x2), some (.int x3), some (.int x4), some (.int x5), some (.int x6), none] [.int x3] (sM mo G I J) Q)) :=
  (sm_blk X 208 51 (tt_lin 208 (by decide)) rfl rfl _ _ _ _).trans rfl
set_option maxRecDepth 100000 in
theorem bk_208_62 (X : (Nat → Int32) × Nat) (mo : Bool) (G : Nat × Nat) (I : Nat → Nat → Int32) (J : Nat → Nat → Int64) (Q : Option Value → sm_M → Prop) (x1 : Int32) (x2 : Int32) (x3 : Int32) (x4 : Int32) (x5 : Int32) (x6 : Int32) :
    sm_wp X 208 62 [some (.ref 81), some (.int x1), some (.int x2), some (.int x3), some (.int x4), some (.int x5), some (.int x6), none] [] (sM mo G I J) Q =
    (if (16 : Int32) ≤ (x6 : Int32) then sm_wp X 208 74 [some (.ref 81), some (.int x1), some (.int x2), some (.int x3), some (.int x4), some (.int x5), some (.int x6), none] [] (sM mo G I J) Q else (sm_wp X 208 76 [some (.ref 81), some (.int x1), some (.int x2), some (.int x3), some (.int x4), some (.int x5), some (.int x6), none] [.int x4] (sM mo G I J) Q)) :=
  (sm_blk X 208 62 (tt_lin 208 (by decide)) rfl rfl _ _ _ _).trans rfl
set_option maxRecDepth 100000 in
theorem bk_208_74 (X : (Nat → Int32) × Nat) (mo : Bool) (G : Nat × Nat) (I : Nat → Nat → Int32) (J : Nat → Nat → Int64) (Q : Option Value → sm_M → Prop) (x1 : Int32) (x2 : Int32) (x3 : Int32) (x4 : Int32) (x5 : Int32) (x6 : Int32) :
    sm_wp X 208 74 [some (.ref 81), some (.int x1), some (.int x2), some (.int x3), some (.int x4), some (.int x5), some (.int x6), none] [] (sM mo G I J) Q =
    (¬ (4 : Int32) = 0 ∧ (vp_in ((I 81 1) + x6) 400 ∧ (sm_wp X 208 23 [some (.ref 81), some (.int x1), some (.int x2), some (.int x3), some (.int x4), some (.int x5), some (.int (x6 + 1)), none] [] (sM mo G (up2 I 82 ((I 81 1) + x6).toNatClampNeg ((x5 >>> ((24 - (8 * (x6 - x6 / 4 * 4))) &&& 31)) &&& 255)) J) Q))) :=
  (sm_blk X 208 74 (tt_lin 208 (by decide)) rfl rfl _ _ _ _).trans rfl
set_option maxRecDepth 100000 in
theorem bk_208_76 (X : (Nat → Int32) × Nat) (mo : Bool) (G : Nat × Nat) (I : Nat → Nat → Int32) (J : Nat → Nat → Int64) (Q : Option Value → sm_M → Prop) (x1 : Int32) (x2 : Int32) (x3 : Int32) (x4 : Int32) (x5 : Int32) (x6 : Int32) (s0 : Int32) :
    sm_wp X 208 76 [some (.ref 81), some (.int x1), some (.int x2), some (.int x3), some (.int x4), some (.int x5), some (.int x6), none] [.int s0] (sM mo G I J) Q =
    (¬ (4 : Int32) = 0 ∧ (vp_in ((I 81 1) + x6) 400 ∧ (sm_wp X 208 23 [some (.ref 81), some (.int x1), some (.int x2), some (.int x3), some (.int x4), some (.int x5), some (.int (x6 + 1)), none] [] (sM mo G (up2 I 82 ((I 81 1) + x6).toNatClampNeg ((s0 >>> ((24 - (8 * (x6 - x6 / 4 * 4))) &&& 31)) &&& 255)) J) Q))) :=
  (sm_blk X 208 76 (tt_lin 208 (by decide)) rfl rfl _ _ _ _).trans rfl
set_option maxRecDepth 100000 in
theorem bk_208_113 (X : (Nat → Int32) × Nat) (mo : Bool) (G : Nat × Nat) (I : Nat → Nat → Int32) (J : Nat → Nat → Int64) (Q : Option Value → sm_M → Prop) (x1 : Int32) (x2 : Int32) (x3 : Int32) (x4 : Int32) (x5 : Int32) (x6 : Int32) :
    sm_wp X 208 113 [some (.ref 81), some (.int x1), some (.int x2), some (.int x3), some (.int x4), some (.int x5), some (.int x6), none] [] (sM mo G I J) Q =
    (True ∧ Q (some (.int ((up2 I 81 1 ((I 81 1) + 20)) 81 1))) (sM mo G (up2 I 81 1 ((I 81 1) + 20)) J)) :=
  (sm_blk X 208 113 (tt_lin 208 (by decide)) rfl rfl _ _ _ _).trans rfl
set_option maxRecDepth 100000 in
theorem bk_209_0 (X : (Nat → Int32) × Nat) (mo : Bool) (G : Nat × Nat) (I : Nat → Nat → Int32) (J : Nat → Nat → Int64) (Q : Option Value → sm_M → Prop) (x1 : Int32) :
    sm_wp X 209 0 [some (.ref 81), some (.int x1)] [] (sM mo G I J) Q =
    (if ((up2 I 81 2 0) 81 3 : Int32) = (12 : Int32) then sm_wp X 209 25 [some (.ref 81), some (.int x1)] [] (sM mo G (up2 I 81 2 0) J) Q else (sm_wp X 210 0 [some (.int x1), some (.int 1), some (.int 9999)] [] (sM mo G (up2 I 81 2 0) J) (fun v M => sm_wp X 209 22 [some (.ref 81), some (.int x1)] (v.toList ++ []) M Q))) :=
  (sm_blk X 209 0 (tt_lin 209 (by decide)) rfl rfl _ _ _ _).trans rfl
set_option maxRecDepth 100000 in
theorem bk_209_22 (X : (Nat → Int32) × Nat) (mo : Bool) (G : Nat × Nat) (I : Nat → Nat → Int32) (J : Nat → Nat → Int64) (Q : Option Value → sm_M → Prop) (x1 : Int32) (s0 : Int32) :
    sm_wp X 209 22 [some (.ref 81), some (.int x1)] [.int s0] (sM mo G I J) Q =
    (if ¬ (s0 : Int32) = 0 then sm_wp X 209 27 [some (.ref 81), some (.int x1)] [] (sM mo G I J) Q else (True ∧ Q (some (.int (-1))) (sM mo G I J))) :=
  (sm_blk X 209 22 (tt_lin 209 (by decide)) rfl rfl _ _ _ _).trans rfl
set_option maxRecDepth 100000 in
theorem bk_209_25 (X : (Nat → Int32) × Nat) (mo : Bool) (G : Nat × Nat) (I : Nat → Nat → Int32) (J : Nat → Nat → Int64) (Q : Option Value → sm_M → Prop) (x1 : Int32) :
    sm_wp X 209 25 [some (.ref 81), some (.int x1)] [] (sM mo G I J) Q =
    (True ∧ Q (some (.int (-1))) (sM mo G I J)) :=
  (sm_blk X 209 25 (tt_lin 209 (by decide)) rfl rfl _ _ _ _).trans rfl
set_option maxRecDepth 100000 in
theorem bk_209_27 (X : (Nat → Int32) × Nat) (mo : Bool) (G : Nat × Nat) (I : Nat → Nat → Int32) (J : Nat → Nat → Int64) (Q : Option Value → sm_M → Prop) (x1 : Int32) :
    sm_wp X 209 27 [some (.ref 81), some (.int x1)] [] (sM mo G I J) Q =
    (vp_in (I 81 3) 12 ∧ (vp_in ((up2 I 83 (I 81 3).toNatClampNeg x1) 81 3) 12 ∧ (vp_in ((up2 (up2 I 83 (I 81 3).toNatClampNeg x1) 85 ((up2 I 83 (I 81 3).toNatClampNeg x1) 81 3).toNatClampNeg (-1)) 81 3) 12 ∧ (vp_in ((up2 (up2 (up2 I 83 (I 81 3).toNatClampNeg x1) 85 ((up2 I 83 (I 81 3).toNatClampNeg x1) 81 3).toNatClampNeg (-1)) 86 ((up2 (up2 I 83 (I 81 3).toNatClampNeg x1) 85 ((up2 I 83 (I 81 3).toNatClampNeg x1) 81 3).toNatClampNeg (-1)) 81 3).toNatClampNeg 0) 81 3) 12 ∧ (True ∧ Q (some (.int (((up2 (up2 (up2 (up2 (up2 I 83 (I 81 3).toNatClampNeg x1) 85 ((up2 I 83 (I 81 3).toNatClampNeg x1) 81 3).toNatClampNeg (-1)) 86 ((up2 (up2 I 83 (I 81 3).toNatClampNeg x1) 85 ((up2 I 83 (I 81 3).toNatClampNeg x1) 81 3).toNatClampNeg (-1)) 81 3).toNatClampNeg 0) 87 ((up2 (up2 (up2 I 83 (I 81 3).toNatClampNeg x1) 85 ((up2 I 83 (I 81 3).toNatClampNeg x1) 81 3).toNatClampNeg (-1)) 86 ((up2 (up2 I 83 (I 81 3).toNatClampNeg x1) 85 ((up2 I 83 (I 81 3).toNatClampNeg x1) 81 3).toNatClampNeg (-1)) 81 3).toNatClampNeg 0) 81 3).toNatClampNeg 0) 81 3 (((up2 (up2 (up2 (up2 I 83 (I 81 3).toNatClampNeg x1) 85 ((up2 I 83 (I 81 3).toNatClampNeg x1) 81 3).toNatClampNeg (-1)) 86 ((up2 (up2 I 83 (I 81 3).toNatClampNeg x1) 85 ((up2 I 83 (I 81 3).toNatClampNeg x1) 81 3).toNatClampNeg (-1)) 81 3).toNatClampNeg 0) 87 ((up2 (up2 (up2 I 83 (I 81 3).toNatClampNeg x1) 85 ((up2 I 83 (I 81 3).toNatClampNeg x1) 81 3).toNatClampNeg (-1)) 86 ((up2 (up2 I 83 (I 81 3).toNatClampNeg x1) 85 ((up2 I 83 (I 81 3).toNatClampNeg x1) 81 3).toNatClampNeg (-1)) 81 3).toNatClampNeg 0) 81 3).toNatClampNeg 0) 81 3) + 1)) 81 3) - 1))) (sM mo G (up2 (up2 (up2 (up2 (up2 I 83 (I 81 3).toNatClampNeg x1) 85 ((up2 I 83 (I 81 3).toNatClampNeg x1) 81 3).toNatClampNeg (-1)) 86 ((up2 (up2 I 83 (I 81 3).toNatClampNeg x1) 85 ((up2 I 83 (I 81 3).toNatClampNeg x1) 81 3).toNatClampNeg (-1)) 81 3).toNatClampNeg 0) 87 ((up2 (up2 (up2 I 83 (I 81 3).toNatClampNeg x1) 85 ((up2 I 83 (I 81 3).toNatClampNeg x1) 81 3).toNatClampNeg (-1)) 86 ((up2 (up2 I 83 (I 81 3).toNatClampNeg x1) 85 ((up2 I 83 (I 81 3).toNatClampNeg x1) 81 3).toNatClampNeg (-1)) 81 3).toNatClampNeg 0) 81 3).toNatClampNeg 0) 81 3 (((up2 (up2 (up2 (up2 I 83 (I 81 3).toNatClampNeg x1) 85 ((up2 I 83 (I 81 3).toNatClampNeg x1) 81 3).toNatClampNeg (-1)) 86 ((up2 (up2 I 83 (I 81 3).toNatClampNeg x1) 85 ((up2 I 83 (I 81 3).toNatClampNeg x1) 81 3).toNatClampNeg (-1)) 81 3).toNatClampNeg 0) 87 ((up2 (up2 (up2 I 83 (I 81 3).toNatClampNeg x1) 85 ((up2 I 83 (I 81 3).toNatClampNeg x1) 81 3).toNatClampNeg (-1)) 86 ((up2 (up2 I 83 (I 81 3).toNatClampNeg x1) 85 ((up2 I 83 (I 81 3).toNatClampNeg x1) 81 3).toNatClampNeg (-1)) 81 3).toNatClampNeg 0) 81 3).toNatClampNeg 0) 81 3) + 1)) J)))))) :=
  (sm_blk X 209 27 (tt_lin 209 (by decide)) rfl rfl _ _ _ _).trans rfl
set_option maxRecDepth 100000 in
theorem bk_210_0 (X : (Nat → Int32) × Nat) (mo : Bool) (G : Nat × Nat) (I : Nat → Nat → Int32) (J : Nat → Nat → Int64) (Q : Option Value → sm_M → Prop) (x0 : Int32) (x1 : Int32) (x2 : Int32) :
    sm_wp X 210 0 [some (.int x0), some (.int x1), some (.int x2)] [] (sM mo G I J) Q =
    (if (x0 : Int32) < (x1 : Int32) then sm_wp X 210 14 [some (.int x0), some (.int x1), some (.int x2)] [] (sM mo G I J) Q else (if (x2 : Int32) < (x0 : Int32) then sm_wp X 210 14 [some (.int x0), some (.int x1), some (.int x2)] [] (sM mo G I J) Q else (sm_wp X 210 15 [some (.int x0), some (.int x1), some (.int x2)] [.int 1] (sM mo G I J) Q))) :=
  (sm_blk X 210 0 (tt_lin 210 (by decide)) rfl rfl _ _ _ _).trans rfl
set_option maxRecDepth 100000 in
theorem bk_210_14 (X : (Nat → Int32) × Nat) (mo : Bool) (G : Nat × Nat) (I : Nat → Nat → Int32) (J : Nat → Nat → Int64) (Q : Option Value → sm_M → Prop) (x0 : Int32) (x1 : Int32) (x2 : Int32) :
    sm_wp X 210 14 [some (.int x0), some (.int x1), some (.int x2)] [] (sM mo G I J) Q =
    (sm_zb 0 ∧ Q (some (.int 0)) (sM mo G I J)) :=
  (sm_blk X 210 14 (tt_lin 210 (by decide)) rfl rfl _ _ _ _).trans rfl
set_option maxRecDepth 100000 in
theorem bk_210_15 (X : (Nat → Int32) × Nat) (mo : Bool) (G : Nat × Nat) (I : Nat → Nat → Int32) (J : Nat → Nat → Int64) (Q : Option Value → sm_M → Prop) (x0 : Int32) (x1 : Int32) (x2 : Int32) (s0 : Int32) :
    sm_wp X 210 15 [some (.int x0), some (.int x1), some (.int x2)] [.int s0] (sM mo G I J) Q =
    (sm_zb s0 ∧ Q (some (.int s0)) (sM mo G I J)) :=
  (sm_blk X 210 15 (tt_lin 210 (by decide)) rfl rfl _ _ _ _).trans rfl
set_option maxRecDepth 100000 in
theorem bk_211_0 (X : (Nat → Int32) × Nat) (mo : Bool) (G : Nat × Nat) (I : Nat → Nat → Int32) (J : Nat → Nat → Int64) (Q : Option Value → sm_M → Prop) (x1 : Int32) (x2 : Int32) :
    sm_wp X 211 0 [some (.ref 81), some (.int x1), some (.int x2)] [] (sM mo G I J) Q =
    (sm_wp X 212 0 [some (.ref 81), some (.int x1)] [] (sM mo G (up2 I 81 2 0) J) (fun v M => sm_wp X 211 10 [some (.ref 81), some (.int x1), some (.int x2)] (v.toList ++ []) M Q)) :=
  (sm_blk X 211 0 (tt_lin 211 (by decide)) rfl rfl _ _ _ _).trans rfl
set_option maxRecDepth 100000 in
theorem bk_211_10 (X : (Nat → Int32) × Nat) (mo : Bool) (G : Nat × Nat) (I : Nat → Nat → Int32) (J : Nat → Nat → Int64) (Q : Option Value → sm_M → Prop) (x1 : Int32) (x2 : Int32) (s0 : Int32) :
    sm_wp X 211 10 [some (.ref 81), some (.int x1), some (.int x2)] [.int s0] (sM mo G I J) Q =
    (if (s0 : Int32) = 0 then sm_wp X 211 40 [some (.ref 81), some (.int x1), some (.int x2)] [] (sM mo G I J) Q else (sm_wp X 212 0 [some (.ref 81), some (.int x2)] [] (sM mo G I J) (fun v M => sm_wp X 211 18 [some (.ref 81), some (.int x1), some (.int x2)] (v.toList ++ []) M Q))) :=
  (sm_blk X 211 10 (tt_lin 211 (by decide)) rfl rfl _ _ _ _).trans rfl
set_option maxRecDepth 100000 in
theorem bk_211_18 (X : (Nat → Int32) × Nat) (mo : Bool) (G : Nat × Nat) (I : Nat → Nat → Int32) (J : Nat → Nat → Int64) (Q : Option Value → sm_M → Prop) (x1 : Int32) (x2 : Int32) (s0 : Int32) :
    sm_wp X 211 18 [some (.ref 81), some (.int x1), some (.int x2)] [.int s0] (sM mo G I J) Q =
    (if (s0 : Int32) = 0 then sm_wp X 211 40 [some (.ref 81), some (.int x1), some (.int x2)] [] (sM mo G I J) Q else (if (x1 : Int32) = (x2 : Int32) then sm_wp X 211 40 [some (.ref 81), some (.int x1), some (.int x2)] [] (sM mo G I J) Q else (vp_in ((12 * x1) + x2) 144 ∧ (if (I 84 (((12 * x1) + x2).toNatClampNeg) : Int32) = 0 then sm_wp X 211 42 [some (.ref 81), some (.int x1), some (.int x2)] [] (sM mo G I J) Q else (sm_zb 0 ∧ Q (some (.int 0)) (sM mo G I J)))))) :=
  (sm_blk X 211 18 (tt_lin 211 (by decide)) rfl rfl _ _ _ _).trans rfl
set_option maxRecDepth 100000 in
theorem bk_211_40 (X : (Nat → Int32) × Nat) (mo : Bool) (G : Nat × Nat) (I : Nat → Nat → Int32) (J : Nat → Nat → Int64) (Q : Option Value → sm_M → Prop) (x1 : Int32) (x2 : Int32) :
    sm_wp X 211 40 [some (.ref 81), some (.int x1), some (.int x2)] [] (sM mo G I J) Q =
    (sm_zb 0 ∧ Q (some (.int 0)) (sM mo G I J)) :=
  (sm_blk X 211 40 (tt_lin 211 (by decide)) rfl rfl _ _ _ _).trans rfl
set_option maxRecDepth 100000 in
theorem bk_211_42 (X : (Nat → Int32) × Nat) (mo : Bool) (G : Nat × Nat) (I : Nat → Nat → Int32) (J : Nat → Nat → Int64) (Q : Option Value → sm_M → Prop) (x1 : Int32) (x2 : Int32) :
    sm_wp X 211 42 [some (.ref 81), some (.int x1), some (.int x2)] [] (sM mo G I J) Q =
    (vp_in ((12 * x1) + x2) 144 ∧ (vp_in ((12 * x2) + x1) 144 ∧ (sm_zb 1 ∧ Q (some (.int 1)) (sM mo G (up2 (up2 I 84 ((12 * x1) + x2).toNatClampNeg (vp_nar .boolean 1)) 84 ((12 * x2) + x1).toNatClampNeg (vp_nar .boolean 1)) J)))) :=
  (sm_blk X 211 42 (tt_lin 211 (by decide)) rfl rfl _ _ _ _).trans rfl
set_option maxRecDepth 100000 in
theorem bk_212_0 (X : (Nat → Int32) × Nat) (mo : Bool) (G : Nat × Nat) (I : Nat → Nat → Int32) (J : Nat → Nat → Int64) (Q : Option Value → sm_M → Prop) (x1 : Int32) :
    sm_wp X 212 0 [some (.ref 81), some (.int x1)] [] (sM mo G I J) Q =
    (if (x1 : Int32) < 0 then sm_wp X 212 16 [some (.ref 81), some (.int x1)] [] (sM mo G I J) Q else (if (I 81 3 : Int32) ≤ (x1 : Int32) then sm_wp X 212 16 [some (.ref 81), some (.int x1)] [] (sM mo G I J) Q else (sm_wp X 212 17 [some (.ref 81), some (.int x1)] [.int 1] (sM mo G I J) Q))) :=
  (sm_blk X 212 0 (tt_lin 212 (by decide)) rfl rfl _ _ _ _).trans rfl
set_option maxRecDepth 100000 in
theorem bk_212_16 (X : (Nat → Int32) × Nat) (mo : Bool) (G : Nat × Nat) (I : Nat → Nat → Int32) (J : Nat → Nat → Int64) (Q : Option Value → sm_M → Prop) (x1 : Int32) :
    sm_wp X 212 16 [some (.ref 81), some (.int x1)] [] (sM mo G I J) Q =
    (sm_zb 0 ∧ Q (some (.int 0)) (sM mo G I J)) :=
  (sm_blk X 212 16 (tt_lin 212 (by decide)) rfl rfl _ _ _ _).trans rfl
set_option maxRecDepth 100000 in
theorem bk_212_17 (X : (Nat → Int32) × Nat) (mo : Bool) (G : Nat × Nat) (I : Nat → Nat → Int32) (J : Nat → Nat → Int64) (Q : Option Value → sm_M → Prop) (x1 : Int32) (s0 : Int32) :
    sm_wp X 212 17 [some (.ref 81), some (.int x1)] [.int s0] (sM mo G I J) Q =
    (sm_zb s0 ∧ Q (some (.int s0)) (sM mo G I J)) :=
  (sm_blk X 212 17 (tt_lin 212 (by decide)) rfl rfl _ _ _ _).trans rfl
set_option maxRecDepth 100000 in
theorem bk_213_0 (X : (Nat → Int32) × Nat) (mo : Bool) (G : Nat × Nat) (I : Nat → Nat → Int32) (J : Nat → Nat → Int64) (Q : Option Value → sm_M → Prop) (x1 : Int32) (x2 : Int32) :
    sm_wp X 213 0 [some (.ref 81), some (.int x1), some (.int x2)] [] (sM mo G I J) Q =
    (if ((up2 I 81 2 0) 81 10 : Int32) = (6 : Int32) then sm_wp X 213 34 [some (.ref 81), some (.int x1), some (.int x2)] [] (sM mo G (up2 I 81 2 0) J) Q else (sm_wp X 210 0 [some (.int x1), some (.int 0), some (.int 99)] [] (sM mo G (up2 I 81 2 0) J) (fun v M => sm_wp X 213 21 [some (.ref 81), some (.int x1), some (.int x2)] (v.toList ++ []) M Q))) :=
  (sm_blk X 213 0 (tt_lin 213 (by decide)) rfl rfl _ _ _ _).trans rfl
set_option maxRecDepth 100000 in
theorem bk_213_21 (X : (Nat → Int32) × Nat) (mo : Bool) (G : Nat × Nat) (I : Nat → Nat → Int32) (J : Nat → Nat → Int64) (Q : Option Value → sm_M → Prop) (x1 : Int32) (x2 : Int32) (s0 : Int32) :
    sm_wp X 213 21 [some (.ref 81), some (.int x1), some (.int x2)] [.int s0] (sM mo G I J) Q =
    (if (s0 : Int32) = 0 then sm_wp X 213 34 [some (.ref 81), some (.int x1), some (.int x2)] [] (sM mo G I J) Q else (sm_wp X 210 0 [some (.int x2), some (.int 0), some (.int 9)] [] (sM mo G I J) (fun v M => sm_wp X 213 31 [some (.ref 81), some (.int x1), some (.int x2)] (v.toList ++ []) M Q))) :=
  (sm_blk X 213 21 (tt_lin 213 (by decide)) rfl rfl _ _ _ _).trans rfl
set_option maxRecDepth 100000 in
theorem bk_213_31 (X : (Nat → Int32) × Nat) (mo : Bool) (G : Nat × Nat) (I : Nat → Nat → Int32) (J : Nat → Nat → Int64) (Q : Option Value → sm_M → Prop) (x1 : Int32) (x2 : Int32) (s0 : Int32) :
    sm_wp X 213 31 [some (.ref 81), some (.int x1), some (.int x2)] [.int s0] (sM mo G I J) Q =
    (if ¬ (s0 : Int32) = 0 then sm_wp X 213 36 [some (.ref 81), some (.int x1), some (.int x2)] [] (sM mo G I J) Q else (True ∧ Q (some (.int (-1))) (sM mo G I J))) :=
  (sm_blk X 213 31 (tt_lin 213 (by decide)) rfl rfl _ _ _ _).trans rfl
set_option maxRecDepth 100000 in
theorem bk_213_34 (X : (Nat → Int32) × Nat) (mo : Bool) (G : Nat × Nat) (I : Nat → Nat → Int32) (J : Nat → Nat → Int64) (Q : Option Value → sm_M → Prop) (x1 : Int32) (x2 : Int32) :
    sm_wp X 213 34 [some (.ref 81), some (.int x1), some (.int x2)] [] (sM mo G I J) Q =
    (True ∧ Q (some (.int (-1))) (sM mo G I J)) :=
  (sm_blk X 213 34 (tt_lin 213 (by decide)) rfl rfl _ _ _ _).trans rfl
set_option maxRecDepth 100000 in
theorem bk_213_36 (X : (Nat → Int32) × Nat) (mo : Bool) (G : Nat × Nat) (I : Nat → Nat → Int32) (J : Nat → Nat → Int64) (Q : Option Value → sm_M → Prop) (x1 : Int32) (x2 : Int32) :
    sm_wp X 213 36 [some (.ref 81), some (.int x1), some (.int x2)] [] (sM mo G I J) Q =
    (vp_in (I 81 10) 6 ∧ (vp_in ((up2 I 89 (I 81 10).toNatClampNeg x1) 81 10) 6 ∧ (True ∧ Q (some (.int (((up2 (up2 (up2 (up2 I 89 (I 81 10).toNatClampNeg x1) 90 ((up2 I 89 (I 81 10).toNatClampNeg x1) 81 10).toNatClampNeg x2) 81 15 (((up2 (up2 I 89 (I 81 10).toNatClampNeg x1) 90 ((up2 I 89 (I 81 10).toNatClampNeg x1) 81 10).toNatClampNeg x2) 81 15) ||| (1 <<< (((up2 (up2 I 89 (I 81 10).toNatClampNeg x1) 90 ((up2 I 89 (I 81 10).toNatClampNeg x1) 81 10).toNatClampNeg x2) 81 10) &&& 31)))) 81 10 (((up2 (up2 (up2 I 89 (I 81 10).toNatClampNeg x1) 90 ((up2 I 89 (I 81 10).toNatClampNeg x1) 81 10).toNatClampNeg x2) 81 15 (((up2 (up2 I 89 (I 81 10).toNatClampNeg x1) 90 ((up2 I 89 (I 81 10).toNatClampNeg x1) 81 10).toNatClampNeg x2) 81 15) ||| (1 <<< (((up2 (up2 I 89 (I 81 10).toNatClampNeg x1) 90 ((up2 I 89 (I 81 10).toNatClampNeg x1) 81 10).toNatClampNeg x2) 81 10) &&& 31)))) 81 10) + 1)) 81 10) - 1))) (sM mo G (up2 (up2 (up2 (up2 I 89 (I 81 10).toNatClampNeg x1) 90 ((up2 I 89 (I 81 10).toNatClampNeg x1) 81 10).toNatClampNeg x2) 81 15 (((up2 (up2 I 89 (I 81 10).toNatClampNeg x1) 90 ((up2 I 89 (I 81 10).toNatClampNeg x1) 81 10).toNatClampNeg x2) 81 15) ||| (1 <<< (((up2 (up2 I 89 (I 81 10).toNatClampNeg x1) 90 ((up2 I 89 (I 81 10).toNatClampNeg x1) 81 10).toNatClampNeg x2) 81 10) &&& 31)))) 81 10 (((up2 (up2 (up2 I 89 (I 81 10).toNatClampNeg x1) 90 ((up2 I 89 (I 81 10).toNatClampNeg x1) 81 10).toNatClampNeg x2) 81 15 (((up2 (up2 I 89 (I 81 10).toNatClampNeg x1) 90 ((up2 I 89 (I 81 10).toNatClampNeg x1) 81 10).toNatClampNeg x2) 81 15) ||| (1 <<< (((up2 (up2 I 89 (I 81 10).toNatClampNeg x1) 90 ((up2 I 89 (I 81 10).toNatClampNeg x1) 81 10).toNatClampNeg x2) 81 10) &&& 31)))) 81 10) + 1)) J)))) :=
  (sm_blk X 213 36 (tt_lin 213 (by decide)) rfl rfl _ _ _ _).trans rfl
set_option maxRecDepth 100000 in
theorem bk_214_0 (X : (Nat → Int32) × Nat) (mo : Bool) (G : Nat × Nat) (I : Nat → Nat → Int32) (J : Nat → Nat → Int64) (Q : Option Value → sm_M → Prop) (x1 : Int32) (x2 : Int32) :
    sm_wp X 214 0 [some (.ref 81), some (.int x1), some (.int x2)] [] (sM mo G I J) Q =
    (sm_wp X 212 0 [some (.ref 81), some (.int x1)] [] (sM mo G (up2 I 81 2 0) J) (fun v M => sm_wp X 214 10 [some (.ref 81), some (.int x1), some (.int x2)] (v.toList ++ []) M Q)) :=
  (sm_blk X 214 0 (tt_lin 214 (by decide)) rfl rfl _ _ _ _).trans rfl
set_option maxRecDepth 100000 in
theorem bk_214_10 (X : (Nat → Int32) × Nat) (mo : Bool) (G : Nat × Nat) (I : Nat → Nat → Int32) (J : Nat → Nat → Int64) (Q : Option Value → sm_M → Prop) (x1 : Int32) (x2 : Int32) (s0 : Int32) :
    sm_wp X 214 10 [some (.ref 81), some (.int x1), some (.int x2)] [.int s0] (sM mo G I J) Q =
    (if (s0 : Int32) = 0 then sm_wp X 214 47 [some (.ref 81), some (.int x1), some (.int x2)] [] (sM mo G I J) Q else (if (x2 : Int32) = ((-1) : Int32) then sm_wp X 214 26 [some (.ref 81), some (.int x1), some (.int x2)] [] (sM mo G I J) Q else (sm_wp X 215 0 [some (.ref 81), some (.int x2)] [] (sM mo G I J) (fun v M => sm_wp X 214 23 [some (.ref 81), some (.int x1), some (.int x2)] (v.toList ++ []) M Q)))) :=
  (sm_blk X 214 10 (tt_lin 214 (by decide)) rfl rfl _ _ _ _).trans rfl
set_option maxRecDepth 100000 in
theorem bk_214_23 (X : (Nat → Int32) × Nat) (mo : Bool) (G : Nat × Nat) (I : Nat → Nat → Int32) (J : Nat → Nat → Int64) (Q : Option Value → sm_M → Prop) (x1 : Int32) (x2 : Int32) (s0 : Int32) :
    sm_wp X 214 23 [some (.ref 81), some (.int x1), some (.int x2)] [.int s0] (sM mo G I J) Q =
    (if (s0 : Int32) = 0 then sm_wp X 214 47 [some (.ref 81), some (.int x1), some (.int x2)] [] (sM mo G I J) Q else (vp_in x1 12 ∧ (if (I 85 (x1.toNatClampNeg) : Int32) = (x2 : Int32) then sm_wp X 214 47 [some (.ref 81), some (.int x1), some (.int x2)] [] (sM mo G I J) Q else (vp_in x1 12 ∧ (if (I 87 (x1.toNatClampNeg) : Int32) < (20 : Int32) then sm_wp X 214 49 [some (.ref 81), some (.int x1), some (.int x2)] [] (sM mo G I J) Q else (sm_zb 0 ∧ Q (some (.int 0)) (sM mo G I J))))))) :=
  (sm_blk X 214 23 (tt_lin 214 (by decide)) rfl rfl _ _ _ _).trans rfl
set_option maxRecDepth 100000 in
theorem bk_214_26 (X : (Nat → Int32) × Nat) (mo : Bool) (G : Nat × Nat) (I : Nat → Nat → Int32) (J : Nat → Nat → Int64) (Q : Option Value → sm_M → Prop) (x1 : Int32) (x2 : Int32) :
    sm_wp X 214 26 [some (.ref 81), some (.int x1), some (.int x2)] [] (sM mo G I J) Q =
    (vp_in x1 12 ∧ (if (I 85 (x1.toNatClampNeg) : Int32) = (x2 : Int32) then sm_wp X 214 47 [some (.ref 81), some (.int x1), some (.int x2)] [] (sM mo G I J) Q else (vp_in x1 12 ∧ (if (I 87 (x1.toNatClampNeg) : Int32) < (20 : Int32) then sm_wp X 214 49 [some (.ref 81), some (.int x1), some (.int x2)] [] (sM mo G I J) Q else (sm_zb 0 ∧ Q (some (.int 0)) (sM mo G I J)))))) :=
  (sm_blk X 214 26 (tt_lin 214 (by decide)) rfl rfl _ _ _ _).trans rfl
set_option maxRecDepth 100000 in
theorem bk_214_47 (X : (Nat → Int32) × Nat) (mo : Bool) (G : Nat × Nat) (I : Nat → Nat → Int32) (J : Nat → Nat → Int64) (Q : Option Value → sm_M → Prop) (x1 : Int32) (x2 : Int32) :
    sm_wp X 214 47 [some (.ref 81), some (.int x1), some (.int x2)] [] (sM mo G I J) Q =
    (sm_zb 0 ∧ Q (some (.int 0)) (sM mo G I J)) :=
  (sm_blk X 214 47 (tt_lin 214 (by decide)) rfl rfl _ _ _ _).trans rfl
set_option maxRecDepth 100000 in
theorem bk_214_49 (X : (Nat → Int32) × Nat) (mo : Bool) (G : Nat × Nat) (I : Nat → Nat → Int32) (J : Nat → Nat → Int64) (Q : Option Value → sm_M → Prop) (x1 : Int32) (x2 : Int32) :
    sm_wp X 214 49 [some (.ref 81), some (.int x1), some (.int x2)] [] (sM mo G I J) Q =
    (sm_wp X 217 0 [some (.ref 81), some (.int x1), some (.int x2), some (.int (-1)), none] [] (sM mo G I J) (fun v M => sm_wp X 214 56 [some (.ref 81), some (.int x1), some (.int x2)] (v.toList ++ []) M Q)) :=
  (sm_blk X 214 49 (tt_lin 214 (by decide)) rfl rfl _ _ _ _).trans rfl
set_option maxRecDepth 100000 in
theorem bk_214_56 (X : (Nat → Int32) × Nat) (mo : Bool) (G : Nat × Nat) (I : Nat → Nat → Int32) (J : Nat → Nat → Int64) (Q : Option Value → sm_M → Prop) (x1 : Int32) (x2 : Int32) :
    sm_wp X 214 56 [some (.ref 81), some (.int x1), some (.int x2)] [] (sM mo G I J) Q =
    (sm_zb 1 ∧ Q (some (.int 1)) (sM mo G I J)) :=
  (sm_blk X 214 56 (tt_lin 214 (by decide)) rfl rfl _ _ _ _).trans rfl
set_option maxRecDepth 100000 in
theorem bk_215_0 (X : (Nat → Int32) × Nat) (mo : Bool) (G : Nat × Nat) (I : Nat → Nat → Int32) (J : Nat → Nat → Int64) (Q : Option Value → sm_M → Prop) (x1 : Int32) :
    sm_wp X 215 0 [some (.ref 81), some (.int x1)] [] (sM mo G I J) Q =
    (sm_wp X 216 0 [some (.ref 81), some (.int x1)] [] (sM mo G I J) (fun v M => sm_wp X 215 5 [some (.ref 81), some (.int x1)] (v.toList ++ []) M Q)) :=
  (sm_blk X 215 0 (tt_lin 215 (by decide)) rfl rfl _ _ _ _).trans rfl
set_option maxRecDepth 100000 in
theorem bk_215_5 (X : (Nat → Int32) × Nat) (mo : Bool) (G : Nat × Nat) (I : Nat → Nat → Int32) (J : Nat → Nat → Int64) (Q : Option Value → sm_M → Prop) (x1 : Int32) (s0 : Int32) :
    sm_wp X 215 5 [some (.ref 81), some (.int x1)] [.int s0] (sM mo G I J) Q =
    (if (s0 : Int32) = 0 then sm_wp X 215 24 [some (.ref 81), some (.int x1)] [] (sM mo G I J) Q else (if ¬ (((I 81 15) >>> (x1 &&& 31)) &&& 1 : Int32) = (1 : Int32) then sm_wp X 215 24 [some (.ref 81), some (.int x1)] [] (sM mo G I J) Q else (sm_wp X 215 25 [some (.ref 81), some (.int x1)] [.int 1] (sM mo G I J) Q))) :=
  (sm_blk X 215 5 (tt_lin 215 (by decide)) rfl rfl _ _ _ _).trans rfl
set_option maxRecDepth 100000 in
theorem bk_215_24 (X : (Nat → Int32) × Nat) (mo : Bool) (G : Nat × Nat) (I : Nat → Nat → Int32) (J : Nat → Nat → Int64) (Q : Option Value → sm_M → Prop) (x1 : Int32) :
    sm_wp X 215 24 [some (.ref 81), some (.int x1)] [] (sM mo G I J) Q =
    (sm_zb 0 ∧ Q (some (.int 0)) (sM mo G I J)) :=
  (sm_blk X 215 24 (tt_lin 215 (by decide)) rfl rfl _ _ _ _).trans rfl
set_option maxRecDepth 100000 in
theorem bk_215_25 (X : (Nat → Int32) × Nat) (mo : Bool) (G : Nat × Nat) (I : Nat → Nat → Int32) (J : Nat → Nat → Int64) (Q : Option Value → sm_M → Prop) (x1 : Int32) (s0 : Int32) :
    sm_wp X 215 25 [some (.ref 81), some (.int x1)] [.int s0] (sM mo G I J) Q =
    (sm_zb s0 ∧ Q (some (.int s0)) (sM mo G I J)) :=
  (sm_blk X 215 25 (tt_lin 215 (by decide)) rfl rfl _ _ _ _).trans rfl
set_option maxRecDepth 100000 in
theorem bk_216_0 (X : (Nat → Int32) × Nat) (mo : Bool) (G : Nat × Nat) (I : Nat → Nat → Int32) (J : Nat → Nat → Int64) (Q : Option Value → sm_M → Prop) (x1 : Int32) :
    sm_wp X 216 0 [some (.ref 81), some (.int x1)] [] (sM mo G I J) Q =
    (if (x1 : Int32) < 0 then sm_wp X 216 16 [some (.ref 81), some (.int x1)] [] (sM mo G I J) Q else (if (I 81 10 : Int32) ≤ (x1 : Int32) then sm_wp X 216 16 [some (.ref 81), some (.int x1)] [] (sM mo G I J) Q else (sm_wp X 216 17 [some (.ref 81), some (.int x1)] [.int 1] (sM mo G I J) Q))) :=
  (sm_blk X 216 0 (tt_lin 216 (by decide)) rfl rfl _ _ _ _).trans rfl
set_option maxRecDepth 100000 in
theorem bk_216_16 (X : (Nat → Int32) × Nat) (mo : Bool) (G : Nat × Nat) (I : Nat → Nat → Int32) (J : Nat → Nat → Int64) (Q : Option Value → sm_M → Prop) (x1 : Int32) :
    sm_wp X 216 16 [some (.ref 81), some (.int x1)] [] (sM mo G I J) Q =
    (sm_zb 0 ∧ Q (some (.int 0)) (sM mo G I J)) :=
  (sm_blk X 216 16 (tt_lin 216 (by decide)) rfl rfl _ _ _ _).trans rfl
set_option maxRecDepth 100000 in
theorem bk_216_17 (X : (Nat → Int32) × Nat) (mo : Bool) (G : Nat × Nat) (I : Nat → Nat → Int32) (J : Nat → Nat → Int64) (Q : Option Value → sm_M → Prop) (x1 : Int32) (s0 : Int32) :
    sm_wp X 216 17 [some (.ref 81), some (.int x1)] [.int s0] (sM mo G I J) Q =
    (sm_zb s0 ∧ Q (some (.int s0)) (sM mo G I J)) :=
  (sm_blk X 216 17 (tt_lin 216 (by decide)) rfl rfl _ _ _ _).trans rfl
set_option maxRecDepth 100000 in
theorem bk_217_0 (X : (Nat → Int32) × Nat) (mo : Bool) (G : Nat × Nat) (I : Nat → Nat → Int32) (J : Nat → Nat → Int64) (Q : Option Value → sm_M → Prop) (x1 : Int32) (x2 : Int32) (x3 : Int32) :
    sm_wp X 217 0 [some (.ref 81), some (.int x1), some (.int x2), some (.int x3), none] [] (sM mo G I J) Q =
    (vp_in x1 12 ∧ (vp_in x1 12 ∧ (vp_in ((300 * x1) + (3 * ((up2 I 85 x1.toNatClampNeg x2) 87 (x1.toNatClampNeg)))) 3600 ∧ (vp_in (((300 * x1) + (3 * ((up2 I 85 x1.toNatClampNeg x2) 87 (x1.toNatClampNeg)))) + 1) 3600 ∧ (vp_in (((300 * x1) + (3 * ((up2 I 85 x1.toNatClampNeg x2) 87 (x1.toNatClampNeg)))) + 2) 3600 ∧ (vp_in x1 12 ∧ (vp_in x1 12 ∧ (True ∧ Q none (sM mo G (up2 (up2 (up2 (up2 (up2 I 85 x1.toNatClampNeg x2) 88 ((300 * x1) + (3 * ((up2 I 85 x1.toNatClampNeg x2) 87 (x1.toNatClampNeg)))).toNatClampNeg x2) 88 (((300 * x1) + (3 * ((up2 I 85 x1.toNatClampNeg x2) 87 (x1.toNatClampNeg)))) + 1).toNatClampNeg ((up2 (up2 I 85 x1.toNatClampNeg x2) 88 ((300 * x1) + (3 * ((up2 I 85 x1.toNatClampNeg x2) 87 (x1.toNatClampNeg)))).toNatClampNeg x2) 81 16)) 88 (((300 * x1) + (3 * ((up2 I 85 x1.toNatClampNeg x2) 87 (x1.toNatClampNeg)))) + 2).toNatClampNeg x3) 87 x1.toNatClampNeg (((up2 (up2 (up2 (up2 I 85 x1.toNatClampNeg x2) 88 ((300 * x1) + (3 * ((up2 I 85 x1.toNatClampNeg x2) 87 (x1.toNatClampNeg)))).toNatClampNeg x2) 88 (((300 * x1) + (3 * ((up2 I 85 x1.toNatClampNeg x2) 87 (x1.toNatClampNeg)))) + 1).toNatClampNeg ((up2 (up2 I 85 x1.toNatClampNeg x2) 88 ((300 * x1) + (3 * ((up2 I 85 x1.toNatClampNeg x2) 87 (x1.toNatClampNeg)))).toNatClampNeg x2) 81 16)) 88 (((300 * x1) + (3 * ((up2 I 85 x1.toNatClampNeg x2) 87 (x1.toNatClampNeg)))) + 2).toNatClampNeg x3) 87 (x1.toNatClampNeg)) + 1)) J))))))))) :=
  (sm_blk X 217 0 (tt_lin 217 (by decide)) rfl rfl _ _ _ _).trans rfl
set_option maxRecDepth 100000 in
theorem bk_218_0 (X : (Nat → Int32) × Nat) (mo : Bool) (G : Nat × Nat) (I : Nat → Nat → Int32) (J : Nat → Nat → Int64) (Q : Option Value → sm_M → Prop) (x1 : Int32) (x2 : Int32) (x3 : Int32) :
    sm_wp X 218 0 [some (.ref 81), some (.int x1), some (.int x2), some (.int x3)] [] (sM mo G I J) Q =
    (sm_wp X 212 0 [some (.ref 81), some (.int x1)] [] (sM mo G (up2 I 81 2 0) J) (fun v M => sm_wp X 218 10 [some (.ref 81), some (.int x1), some (.int x2), some (.int x3)] (v.toList ++ []) M Q)) :=
  (sm_blk X 218 0 (tt_lin 218 (by decide)) rfl rfl _ _ _ _).trans rfl
set_option maxRecDepth 100000 in
theorem bk_218_10 (X : (Nat → Int32) × Nat) (mo : Bool) (G : Nat × Nat) (I : Nat → Nat → Int32) (J : Nat → Nat → Int64) (Q : Option Value → sm_M → Prop) (x1 : Int32) (x2 : Int32) (x3 : Int32) (s0 : Int32) :
    sm_wp X 218 10 [some (.ref 81), some (.int x1), some (.int x2), some (.int x3)] [.int s0] (sM mo G I J) Q =
    (if (s0 : Int32) = 0 then sm_wp X 218 61 [some (.ref 81), some (.int x1), some (.int x2), some (.int x3)] [] (sM mo G I J) Q else (sm_wp X 216 0 [some (.ref 81), some (.int x2)] [] (sM mo G I J) (fun v M => sm_wp X 218 18 [some (.ref 81), some (.int x1), some (.int x2), some (.int x3)] (v.toList ++ []) M Q))) :=
  (sm_blk X 218 10 (tt_lin 218 (by decide)) rfl rfl _ _ _ _).trans rfl
set_option maxRecDepth 100000 in
theorem bk_218_18 (X : (Nat → Int32) × Nat) (mo : Bool) (G : Nat × Nat) (I : Nat → Nat → Int32) (J : Nat → Nat → Int64) (Q : Option Value → sm_M → Prop) (x1 : Int32) (x2 : Int32) (x3 : Int32) (s0 : Int32) :
    sm_wp X 218 18 [some (.ref 81), some (.int x1), some (.int x2), some (.int x3)] [.int s0] (sM mo G I J) Q =
    (if (s0 : Int32) = 0 then sm_wp X 218 61 [some (.ref 81), some (.int x1), some (.int x2), some (.int x3)] [] (sM mo G I J) Q else (vp_in x1 12 ∧ (if ¬ (((I 86 (x1.toNatClampNeg)) >>> (x2 &&& 31)) &&& 1 : Int32) = (1 : Int32) then sm_wp X 218 39 [some (.ref 81), some (.int x1), some (.int x2), some (.int x3)] [] (sM mo G I J) Q else (sm_wp X 218 40 [some (.ref 81), some (.int x1), some (.int x2), some (.int x3)] [.int 1] (sM mo G I J) Q)))) :=
  (sm_blk X 218 18 (tt_lin 218 (by decide)) rfl rfl _ _ _ _).trans rfl
set_option maxRecDepth 100000 in
theorem bk_218_39 (X : (Nat → Int32) × Nat) (mo : Bool) (G : Nat × Nat) (I : Nat → Nat → Int32) (J : Nat → Nat → Int64) (Q : Option Value → sm_M → Prop) (x1 : Int32) (x2 : Int32) (x3 : Int32) :
    sm_wp X 218 39 [some (.ref 81), some (.int x1), some (.int x2), some (.int x3)] [] (sM mo G I J) Q =
    (if (0 : Int32) = (x3 : Int32) then sm_wp X 218 61 [some (.ref 81), some (.int x1), some (.int x2), some (.int x3)] [] (sM mo G I J) Q else (if (x3 : Int32) = 0 then sm_wp X 218 63 [some (.ref 81), some (.int x1), some (.int x2), some (.int x3)] [] (sM mo G I J) Q else (vp_in x1 12 ∧ (sm_wp X 219 0 [some (.int (I 86 (x1.toNatClampNeg))), none, none] [] (sM mo G I J) (fun v M => sm_wp X 218 57 [some (.ref 81), some (.int x1), some (.int x2), some (.int x3)] (v.toList ++ []) M Q))))) :=
  (sm_blk X 218 39 (tt_lin 218 (by decide)) rfl rfl _ _ _ _).trans rfl
set_option maxRecDepth 100000 in
theorem bk_218_40 (X : (Nat → Int32) × Nat) (mo : Bool) (G : Nat × Nat) (I : Nat → Nat → Int32) (J : Nat → Nat → Int64) (Q : Option Value → sm_M → Prop) (x1 : Int32) (x2 : Int32) (x3 : Int32) (s0 : Int32) :
    sm_wp X 218 40 [some (.ref 81), some (.int x1), some (.int x2), some (.int x3)] [.int s0] (sM mo G I J) Q =
    (if (s0 : Int32) = (x3 : Int32) then sm_wp X 218 61 [some (.ref 81), some (.int x1), some (.int x2), some (.int x3)] [] (sM mo G I J) Q else (if (x3 : Int32) = 0 then sm_wp X 218 63 [some (.ref 81), some (.int x1), some (.int x2), some (.int x3)] [] (sM mo G I J) Q else (vp_in x1 12 ∧ (sm_wp X 219 0 [some (.int (I 86 (x1.toNatClampNeg))), none, none] [] (sM mo G I J) (fun v M => sm_wp X 218 57 [some (.ref 81), some (.int x1), some (.int x2), some (.int x3)] (v.toList ++ []) M Q))))) :=
  (sm_blk X 218 40 (tt_lin 218 (by decide)) rfl rfl _ _ _ _).trans rfl
set_option maxRecDepth 100000 in
theorem bk_218_57 (X : (Nat → Int32) × Nat) (mo : Bool) (G : Nat × Nat) (I : Nat → Nat → Int32) (J : Nat → Nat → Int64) (Q : Option Value → sm_M → Prop) (x1 : Int32) (x2 : Int32) (x3 : Int32) (s0 : Int32) :
    sm_wp X 218 57 [some (.ref 81), some (.int x1), some (.int x2), some (.int x3)] [.int s0] (sM mo G I J) Q =
    (if ¬ (s0 : Int32) = (3 : Int32) then sm_wp X 218 63 [some (.ref 81), some (.int x1), some (.int x2), some (.int x3)] [] (sM mo G I J) Q else (sm_zb 0 ∧ Q (some (.int 0)) (sM mo G I J))) :=
  (sm_blk X 218 57 (tt_lin 218 (by decide)) rfl rfl _ _ _ _).trans rfl
set_option maxRecDepth 100000 in
theorem bk_218_61 (X : (Nat → Int32) × Nat) (mo : Bool) (G : Nat × Nat) (I : Nat → Nat → Int32) (J : Nat → Nat → Int64) (Q : Option Value → sm_M → Prop) (x1 : Int32) (x2 : Int32) (x3 : Int32) :
    sm_wp X 218 61 [some (.ref 81), some (.int x1), some (.int x2), some (.int x3)] [] (sM mo G I J) Q =
    (sm_zb 0 ∧ Q (some (.int 0)) (sM mo G I J)) :=
  (sm_blk X 218 61 (tt_lin 218 (by decide)) rfl rfl _ _ _ _).trans rfl
set_option maxRecDepth 100000 in
theorem bk_218_63 (X : (Nat → Int32) × Nat) (mo : Bool) (G : Nat × Nat) (I : Nat → Nat → Int32) (J : Nat → Nat → Int64) (Q : Option Value → sm_M → Prop) (x1 : Int32) (x2 : Int32) (x3 : Int32) :
    sm_wp X 218 63 [some (.ref 81), some (.int x1), some (.int x2), some (.int x3)] [] (sM mo G I J) Q =
    (vp_in x1 12 ∧ (vp_in x1 12 ∧ (sm_zb 1 ∧ Q (some (.int 1)) (sM mo G (up2 I 86 x1.toNatClampNeg ((I 86 (x1.toNatClampNeg)) ^^^ (1 <<< (x2 &&& 31)))) J)))) :=
  (sm_blk X 218 63 (tt_lin 218 (by decide)) rfl rfl _ _ _ _).trans rfl
set_option maxRecDepth 100000 in
theorem bk_219_0 (X : (Nat → Int32) × Nat) (mo : Bool) (G : Nat × Nat) (I : Nat → Nat → Int32) (J : Nat → Nat → Int64) (Q : Option Value → sm_M → Prop) (x0 : Int32) :
    sm_wp X 219 0 [some (.int x0), none, none] [] (sM mo G I J) Q =
    (sm_wp X 219 4 [some (.int x0), some (.int 0), some (.int 0)] [] (sM mo G I J) Q) :=
  (sm_blk X 219 0 (tt_lin 219 (by decide)) rfl rfl _ _ _ _).trans rfl
set_option maxRecDepth 100000 in
theorem bk_219_4 (X : (Nat → Int32) × Nat) (mo : Bool) (G : Nat × Nat) (I : Nat → Nat → Int32) (J : Nat → Nat → Int64) (Q : Option Value → sm_M → Prop) (x0 : Int32) (x1 : Int32) (x2 : Int32) :
    sm_wp X 219 4 [some (.int x0), some (.int x1), some (.int x2)] [] (sM mo G I J) Q =
    (if (12 : Int32) ≤ (x2 : Int32) then sm_wp X 219 24 [some (.int x0), some (.int x1), some (.int x2)] [] (sM mo G I J) Q else (sm_wp X 219 4 [some (.int x0), some (.int (x1 + ((x0 >>> (x2 &&& 31)) &&& 1))), some (.int (x2 + 1))] [] (sM mo G I J) Q)) :=
  (sm_blk X 219 4 (tt_lin 219 (by decide)) rfl rfl _ _ _ _).trans rfl
set_option maxRecDepth 100000 in
theorem bk_219_24 (X : (Nat → Int32) × Nat) (mo : Bool) (G : Nat × Nat) (I : Nat → Nat → Int32) (J : Nat → Nat → Int64) (Q : Option Value → sm_M → Prop) (x0 : Int32) (x1 : Int32) (x2 : Int32) :
    sm_wp X 219 24 [some (.int x0), some (.int x1), some (.int x2)] [] (sM mo G I J) Q =
    (True ∧ Q (some (.int x1)) (sM mo G I J)) :=
  (sm_blk X 219 24 (tt_lin 219 (by decide)) rfl rfl _ _ _ _).trans rfl
set_option maxRecDepth 100000 in
theorem bk_220_0 (X : (Nat → Int32) × Nat) (mo : Bool) (G : Nat × Nat) (I : Nat → Nat → Int32) (J : Nat → Nat → Int64) (Q : Option Value → sm_M → Prop) (x1 : Int32) (x2 : Int32) (x3 : Int32) :
    sm_wp X 220 0 [some (.ref 81), some (.int x1), some (.int x2), some (.int x3)] [] (sM mo G I J) Q =
    (sm_wp X 216 0 [some (.ref 81), some (.int x1)] [] (sM mo G (up2 I 81 2 0) J) (fun v M => sm_wp X 220 10 [some (.ref 81), some (.int x1), some (.int x2), some (.int x3)] (v.toList ++ []) M Q)) :=
  (sm_blk X 220 0 (tt_lin 220 (by decide)) rfl rfl _ _ _ _).trans rfl
set_option maxRecDepth 100000 in
theorem bk_220_10 (X : (Nat → Int32) × Nat) (mo : Bool) (G : Nat × Nat) (I : Nat → Nat → Int32) (J : Nat → Nat → Int64) (Q : Option Value → sm_M → Prop) (x1 : Int32) (x2 : Int32) (x3 : Int32) (s0 : Int32) :
    sm_wp X 220 10 [some (.ref 81), some (.int x1), some (.int x2), some (.int x3)] [.int s0] (sM mo G I J) Q =
    (if (s0 : Int32) = 0 then sm_wp X 220 31 [some (.ref 81), some (.int x1), some (.int x2), some (.int x3)] [] (sM mo G I J) Q else (sm_wp X 212 0 [some (.ref 81), some (.int x2)] [] (sM mo G I J) (fun v M => sm_wp X 220 18 [some (.ref 81), some (.int x1), some (.int x2), some (.int x3)] (v.toList ++ []) M Q))) :=
  (sm_blk X 220 10 (tt_lin 220 (by decide)) rfl rfl _ _ _ _).trans rfl
set_option maxRecDepth 100000 in
theorem bk_220_18 (X : (Nat → Int32) × Nat) (mo : Bool) (G : Nat × Nat) (I : Nat → Nat → Int32) (J : Nat → Nat → Int64) (Q : Option Value → sm_M → Prop) (x1 : Int32) (x2 : Int32) (x3 : Int32) (s0 : Int32) :
    sm_wp X 220 18 [some (.ref 81), some (.int x1), some (.int x2), some (.int x3)] [.int s0] (sM mo G I J) Q =
    (if (s0 : Int32) = 0 then sm_wp X 220 31 [some (.ref 81), some (.int x1), some (.int x2), some (.int x3)] [] (sM mo G I J) Q else (sm_wp X 210 0 [some (.int x3), some (.int 0), some (.int 99)] [] (sM mo G I J) (fun v M => sm_wp X 220 28 [some (.ref 81), some (.int x1), some (.int x2), some (.int x3)] (v.toList ++ []) M Q))) :=
  (sm_blk X 220 18 (tt_lin 220 (by decide)) rfl rfl _ _ _ _).trans rfl
set_option maxRecDepth 100000 in
theorem bk_220_28 (X : (Nat → Int32) × Nat) (mo : Bool) (G : Nat × Nat) (I : Nat → Nat → Int32) (J : Nat → Nat → Int64) (Q : Option Value → sm_M → Prop) (x1 : Int32) (x2 : Int32) (x3 : Int32) (s0 : Int32) :
    sm_wp X 220 28 [some (.ref 81), some (.int x1), some (.int x2), some (.int x3)] [.int s0] (sM mo G I J) Q =
    (if ¬ (s0 : Int32) = 0 then sm_wp X 220 33 [some (.ref 81), some (.int x1), some (.int x2), some (.int x3)] [] (sM mo G I J) Q else (sm_zb 0 ∧ Q (some (.int 0)) (sM mo G I J))) :=
  (sm_blk X 220 28 (tt_lin 220 (by decide)) rfl rfl _ _ _ _).trans rfl
set_option maxRecDepth 100000 in
theorem bk_220_31 (X : (Nat → Int32) × Nat) (mo : Bool) (G : Nat × Nat) (I : Nat → Nat → Int32) (J : Nat → Nat → Int64) (Q : Option Value → sm_M → Prop) (x1 : Int32) (x2 : Int32) (x3 : Int32) :
    sm_wp X 220 31 [some (.ref 81), some (.int x1), some (.int x2), some (.int x3)] [] (sM mo G I J) Q =
    (sm_zb 0 ∧ Q (some (.int 0)) (sM mo G I J)) :=
  (sm_blk X 220 31 (tt_lin 220 (by decide)) rfl rfl _ _ _ _).trans rfl
set_option maxRecDepth 100000 in
theorem bk_220_33 (X : (Nat → Int32) × Nat) (mo : Bool) (G : Nat × Nat) (I : Nat → Nat → Int32) (J : Nat → Nat → Int64) (Q : Option Value → sm_M → Prop) (x1 : Int32) (x2 : Int32) (x3 : Int32) :
    sm_wp X 220 33 [some (.ref 81), some (.int x1), some (.int x2), some (.int x3)] [] (sM mo G I J) Q =
    (vp_in ((12 * x1) + x2) 72 ∧ (sm_zb 1 ∧ Q (some (.int 1)) (sM mo G (up2 I 91 ((12 * x1) + x2).toNatClampNeg x3) J))) :=
  (sm_blk X 220 33 (tt_lin 220 (by decide)) rfl rfl _ _ _ _).trans rfl
set_option maxRecDepth 100000 in
theorem bk_221_0 (X : (Nat → Int32) × Nat) (mo : Bool) (G : Nat × Nat) (I : Nat → Nat → Int32) (J : Nat → Nat → Int64) (Q : Option Value → sm_M → Prop) (x1 : Int32) (x2 : Int32) :
    sm_wp X 221 0 [some (.ref 81), some (.int x1), some (.int x2)] [] (sM mo G I J) Q =
    (sm_wp X 216 0 [some (.ref 81), some (.int x1)] [] (sM mo G (up2 I 81 2 0) J) (fun v M => sm_wp X 221 10 [some (.ref 81), some (.int x1), some (.int x2)] (v.toList ++ []) M Q)) :=
  (sm_blk X 221 0 (tt_lin 221 (by decide)) rfl rfl _ _ _ _).trans rfl
set_option maxRecDepth 100000 in
theorem bk_221_10 (X : (Nat → Int32) × Nat) (mo : Bool) (G : Nat × Nat) (I : Nat → Nat → Int32) (J : Nat → Nat → Int64) (Q : Option Value → sm_M → Prop) (x1 : Int32) (x2 : Int32) (s0 : Int32) :
    sm_wp X 221 10 [some (.ref 81), some (.int x1), some (.int x2)] [.int s0] (sM mo G I J) Q =
    (if (s0 : Int32) = 0 then sm_wp X 221 24 [some (.ref 81), some (.int x1), some (.int x2)] [] (sM mo G I J) Q else (sm_wp X 210 0 [some (.int x2), some (.int 0), some (.int 999)] [] (sM mo G I J) (fun v M => sm_wp X 221 21 [some (.ref 81), some (.int x1), some (.int x2)] (v.toList ++ []) M Q))) :=
  (sm_blk X 221 10 (tt_lin 221 (by decide)) rfl rfl _ _ _ _).trans rfl
set_option maxRecDepth 100000 in
theorem bk_221_21 (X : (Nat → Int32) × Nat) (mo : Bool) (G : Nat × Nat) (I : Nat → Nat → Int32) (J : Nat → Nat → Int64) (Q : Option Value → sm_M → Prop) (x1 : Int32) (x2 : Int32) (s0 : Int32) :
    sm_wp X 221 21 [some (.ref 81), some (.int x1), some (.int x2)] [.int s0] (sM mo G I J) Q =
    (if ¬ (s0 : Int32) = 0 then sm_wp X 221 26 [some (.ref 81), some (.int x1), some (.int x2)] [] (sM mo G I J) Q else (sm_zb 0 ∧ Q (some (.int 0)) (sM mo G I J))) :=
  (sm_blk X 221 21 (tt_lin 221 (by decide)) rfl rfl _ _ _ _).trans rfl
set_option maxRecDepth 100000 in
theorem bk_221_24 (X : (Nat → Int32) × Nat) (mo : Bool) (G : Nat × Nat) (I : Nat → Nat → Int32) (J : Nat → Nat → Int64) (Q : Option Value → sm_M → Prop) (x1 : Int32) (x2 : Int32) :
    sm_wp X 221 24 [some (.ref 81), some (.int x1), some (.int x2)] [] (sM mo G I J) Q =
    (sm_zb 0 ∧ Q (some (.int 0)) (sM mo G I J)) :=
  (sm_blk X 221 24 (tt_lin 221 (by decide)) rfl rfl _ _ _ _).trans rfl
set_option maxRecDepth 100000 in
theorem bk_221_26 (X : (Nat → Int32) × Nat) (mo : Bool) (G : Nat × Nat) (I : Nat → Nat → Int32) (J : Nat → Nat → Int64) (Q : Option Value → sm_M → Prop) (x1 : Int32) (x2 : Int32) :
    sm_wp X 221 26 [some (.ref 81), some (.int x1), some (.int x2)] [] (sM mo G I J) Q =
    (vp_in x1 6 ∧ (sm_zb 1 ∧ Q (some (.int 1)) (sM mo G (up2 I 92 x1.toNatClampNeg x2) J))) :=
  (sm_blk X 221 26 (tt_lin 221 (by decide)) rfl rfl _ _ _ _).trans rfl
set_option maxRecDepth 100000 in
theorem bk_222_0 (X : (Nat → Int32) × Nat) (mo : Bool) (G : Nat × Nat) (I : Nat → Nat → Int32) (J : Nat → Nat → Int64) (Q : Option Value → sm_M → Prop) (x1 : Int32) :
    sm_wp X 222 0 [some (.ref 81), some (.int x1)] [] (sM mo G I J) Q =
    (sm_wp X 216 0 [some (.ref 81), some (.int x1)] [] (sM mo G (up2 I 81 2 0) J) (fun v M => sm_wp X 222 10 [some (.ref 81), some (.int x1)] (v.toList ++ []) M Q)) :=
  (sm_blk X 222 0 (tt_lin 222 (by decide)) rfl rfl _ _ _ _).trans rfl
set_option maxRecDepth 100000 in
theorem bk_222_10 (X : (Nat → Int32) × Nat) (mo : Bool) (G : Nat × Nat) (I : Nat → Nat → Int32) (J : Nat → Nat → Int64) (Q : Option Value → sm_M → Prop) (x1 : Int32) (s0 : Int32) :
    sm_wp X 222 10 [some (.ref 81), some (.int x1)] [.int s0] (sM mo G I J) Q =
    (if (s0 : Int32) = 0 then sm_wp X 222 26 [some (.ref 81), some (.int x1)] [] (sM mo G I J) Q else (sm_wp X 223 0 [some (.ref 81), some (.int x1), none, none] [] (sM mo G I J) (fun v M => sm_wp X 222 20 [some (.ref 81), some (.int x1)] (v.toList ++ [.int x1, .ref 81]) M Q))) :=
  (sm_blk X 222 10 (tt_lin 222 (by decide)) rfl rfl _ _ _ _).trans rfl
set_option maxRecDepth 100000 in
theorem bk_222_20 (X : (Nat → Int32) × Nat) (mo : Bool) (G : Nat × Nat) (I : Nat → Nat → Int32) (J : Nat → Nat → Int64) (Q : Option Value → sm_M → Prop) (x1 : Int32) (s1 : Int32) (s2 : Int32) :
    sm_wp X 222 20 [some (.ref 81), some (.int x1)] [.int s2, .int s1, .ref 81] (sM mo G I J) Q =
    (sm_wp X 224 0 [some (.ref 81), some (.int s1), some (.int s2), none, none] [] (sM mo G I J) (fun v M => sm_wp X 222 23 [some (.ref 81), some (.int x1)] (v.toList ++ []) M Q)) :=
  (sm_blk X 222 20 (tt_lin 222 (by decide)) rfl rfl _ _ _ _).trans rfl
set_option maxRecDepth 100000 in
theorem bk_222_23 (X : (Nat → Int32) × Nat) (mo : Bool) (G : Nat × Nat) (I : Nat → Nat → Int32) (J : Nat → Nat → Int64) (Q : Option Value → sm_M → Prop) (x1 : Int32) (s0 : Int32) :
    sm_wp X 222 23 [some (.ref 81), some (.int x1)] [.int s0] (sM mo G I J) Q =
    (sm_wp X 222 27 [some (.ref 81), some (.int x1)] [.int s0] (sM mo G I J) Q) :=
  (sm_blk X 222 23 (tt_lin 222 (by decide)) rfl rfl _ _ _ _).trans rfl
set_option maxRecDepth 100000 in
theorem bk_222_26 (X : (Nat → Int32) × Nat) (mo : Bool) (G : Nat × Nat) (I : Nat → Nat → Int32) (J : Nat → Nat → Int64) (Q : Option Value → sm_M → Prop) (x1 : Int32) :
    sm_wp X 222 26 [some (.ref 81), some (.int x1)] [] (sM mo G I J) Q =
    (True ∧ Q (some (.int (-1))) (sM mo G I J)) :=
  (sm_blk X 222 26 (tt_lin 222 (by decide)) rfl rfl _ _ _ _).trans rfl
set_option maxRecDepth 100000 in
theorem bk_222_27 (X : (Nat → Int32) × Nat) (mo : Bool) (G : Nat × Nat) (I : Nat → Nat → Int32) (J : Nat → Nat → Int64) (Q : Option Value → sm_M → Prop) (x1 : Int32) (s0 : Int32) :
    sm_wp X 222 27 [some (.ref 81), some (.int x1)] [.int s0] (sM mo G I J) Q =
    (True ∧ Q (some (.int s0)) (sM mo G I J)) :=
  (sm_blk X 222 27 (tt_lin 222 (by decide)) rfl rfl _ _ _ _).trans rfl
set_option maxRecDepth 100000 in
theorem bk_223_0 (X : (Nat → Int32) × Nat) (mo : Bool) (G : Nat × Nat) (I : Nat → Nat → Int32) (J : Nat → Nat → Int64) (Q : Option Value → sm_M → Prop) (x1 : Int32) :
    sm_wp X 223 0 [some (.ref 81), some (.int x1), none, none] [] (sM mo G I J) Q =
    (sm_wp X 223 4 [some (.ref 81), some (.int x1), some (.int 0), some (.int 0)] [] (sM mo G I J) Q) :=
  (sm_blk X 223 0 (tt_lin 223 (by decide)) rfl rfl _ _ _ _).trans rfl
set_option maxRecDepth 100000 in
theorem bk_223_4 (X : (Nat → Int32) × Nat) (mo : Bool) (G : Nat × Nat) (I : Nat → Nat → Int32) (J : Nat → Nat → Int64) (Q : Option Value → sm_M → Prop) (x1 : Int32) (x2 : Int32) (x3 : Int32) :
    sm_wp X 223 4 [some (.ref 81), some (.int x1), some (.int x2), some (.int x3)] [] (sM mo G I J) Q =
    (if (I 81 3 : Int32) ≤ (x3 : Int32) then sm_wp X 223 38 [some (.ref 81), some (.int x1), some (.int x2), some (.int x3)] [] (sM mo G I J) Q else (vp_in x3 12 ∧ (if ¬ (I 85 (x3.toNatClampNeg) : Int32) = (x1 : Int32) then sm_wp X 223 29 [some (.ref 81), some (.int x1), some (.int x2), some (.int x3)] [.int x2] (sM mo G I J) Q else (sm_wp X 223 30 [some (.ref 81), some (.int x1), some (.int x2), some (.int x3)] [.int (1 <<< (x3 &&& 31)), .int x2] (sM mo G I J) Q)))) :=
  (sm_blk X 223 4 (tt_lin 223 (by decide)) rfl rfl _ _ _ _).trans rfl
set_option maxRecDepth 100000 in
theorem bk_223_29 (X : (Nat → Int32) × Nat) (mo : Bool) (G : Nat × Nat) (I : Nat → Nat → Int32) (J : Nat → Nat → Int64) (Q : Option Value → sm_M → Prop) (x1 : Int32) (x2 : Int32) (x3 : Int32) (s0 : Int32) :
    sm_wp X 223 29 [some (.ref 81), some (.int x1), some (.int x2), some (.int x3)] [.int s0] (sM mo G I J) Q =
    (sm_wp X 223 4 [some (.ref 81), some (.int x1), some (.int (s0 ||| 0)), some (.int (x3 + 1))] [] (sM mo G I J) Q) :=
  (sm_blk X 223 29 (tt_lin 223 (by decide)) rfl rfl _ _ _ _).trans rfl
set_option maxRecDepth 100000 in
theorem bk_223_30 (X : (Nat → Int32) × Nat) (mo : Bool) (G : Nat × Nat) (I : Nat → Nat → Int32) (J : Nat → Nat → Int64) (Q : Option Value → sm_M → Prop) (x1 : Int32) (x2 : Int32) (x3 : Int32) (s0 : Int32) (s1 : Int32) :
    sm_wp X 223 30 [some (.ref 81), some (.int x1), some (.int x2), some (.int x3)] [.int s1, .int s0] (sM mo G I J) Q =
    (sm_wp X 223 4 [some (.ref 81), some (.int x1), some (.int (s0 ||| s1)), some (.int (x3 + 1))] [] (sM mo G I J) Q) :=
  (sm_blk X 223 30 (tt_lin 223 (by decide)) rfl rfl _ _ _ _).trans rfl
set_option maxRecDepth 100000 in
theorem bk_223_38 (X : (Nat → Int32) × Nat) (mo : Bool) (G : Nat × Nat) (I : Nat → Nat → Int32) (J : Nat → Nat → Int64) (Q : Option Value → sm_M → Prop) (x1 : Int32) (x2 : Int32) (x3 : Int32) :
    sm_wp X 223 38 [some (.ref 81), some (.int x1), some (.int x2), some (.int x3)] [] (sM mo G I J) Q =
    (True ∧ Q (some (.int x2)) (sM mo G I J)) :=
  (sm_blk X 223 38 (tt_lin 223 (by decide)) rfl rfl _ _ _ _).trans rfl
set_option maxRecDepth 100000 in
theorem bk_224_0 (X : (Nat → Int32) × Nat) (mo : Bool) (G : Nat × Nat) (I : Nat → Nat → Int32) (J : Nat → Nat → Int64) (Q : Option Value → sm_M → Prop) (x1 : Int32) (x2 : Int32) :
    sm_wp X 224 0 [some (.ref 81), some (.int x1), some (.int x2), none, none] [] (sM mo G I J) Q =
    (sm_wp X 224 5 [some (.ref 81), some (.int x1), some (.int x2), some (.int 0), some (.int 0)] [] (sM mo G I J) Q) :=
  (sm_blk X 224 0 (tt_lin 224 (by decide)) rfl rfl _ _ _ _).trans rfl
set_option maxRecDepth 100000 in
theorem bk_224_5 (X : (Nat → Int32) × Nat) (mo : Bool) (G : Nat × Nat) (I : Nat → Nat → Int32) (J : Nat → Nat → Int64) (Q : Option Value → sm_M → Prop) (x1 : Int32) (x2 : Int32) (x3 : Int32) (x4 : Int32) :
    sm_wp X 224 5 [some (.ref 81), some (.int x1), some (.int x2), some (.int x3), some (.int x4)] [] (sM mo G I J) Q =
    (if (I 81 3 : Int32) ≤ (x4 : Int32) then sm_wp X 224 49 [some (.ref 81), some (.int x1), some (.int x2), some (.int x3), some (.int x4)] [] (sM mo G I J) Q else (if ¬ ((x2 >>> (x4 &&& 31)) &&& 1 : Int32) = (1 : Int32) then sm_wp X 224 40 [some (.ref 81), some (.int x1), some (.int x2), some (.int x3), some (.int x4)] [.int x3] (sM mo G I J) Q else (vp_in ((12 * x1) + x4) 72 ∧ (sm_wp X 224 41 [some (.ref 81), some (.int x1), some (.int x2), some (.int x3), some (.int x4)] [.int (I 91 (((12 * x1) + x4).toNatClampNeg)), .int x3] (sM mo G I J) Q)))) :=
  (sm_blk X 224 5 (tt_lin 224 (by decide)) rfl rfl _ _ _ _).trans rfl
set_option maxRecDepth 100000 in
theorem bk_224_40 (X : (Nat → Int32) × Nat) (mo : Bool) (G : Nat × Nat) (I : Nat → Nat → Int32) (J : Nat → Nat → Int64) (Q : Option Value → sm_M → Prop) (x1 : Int32) (x2 : Int32) (x3 : Int32) (x4 : Int32) (s0 : Int32) :
    sm_wp X 224 40 [some (.ref 81), some (.int x1), some (.int x2), some (.int x3), some (.int x4)] [.int s0] (sM mo G I J) Q =
    (sm_wp X 224 5 [some (.ref 81), some (.int x1), some (.int x2), some (.int (s0 + 0)), some (.int (x4 + 1))] [] (sM mo G I J) Q) :=
  (sm_blk X 224 40 (tt_lin 224 (by decide)) rfl rfl _ _ _ _).trans rfl
set_option maxRecDepth 100000 in
theorem bk_224_41 (X : (Nat → Int32) × Nat) (mo : Bool) (G : Nat × Nat) (I : Nat → Nat → Int32) (J : Nat → Nat → Int64) (Q : Option Value → sm_M → Prop) (x1 : Int32) (x2 : Int32) (x3 : Int32) (x4 : Int32) (s0 : Int32) (s1 : Int32) :
    sm_wp X 224 41 [some (.ref 81), some (.int x1), some (.int x2), some (.int x3), some (.int x4)] [.int s1, .int s0] (sM mo G I J) Q =
    (sm_wp X 224 5 [some (.ref 81), some (.int x1), some (.int x2), some (.int (s0 + s1)), some (.int (x4 + 1))] [] (sM mo G I J) Q) :=
  (sm_blk X 224 41 (tt_lin 224 (by decide)) rfl rfl _ _ _ _).trans rfl
set_option maxRecDepth 100000 in
theorem bk_224_49 (X : (Nat → Int32) × Nat) (mo : Bool) (G : Nat × Nat) (I : Nat → Nat → Int32) (J : Nat → Nat → Int64) (Q : Option Value → sm_M → Prop) (x1 : Int32) (x2 : Int32) (x3 : Int32) (x4 : Int32) :
    sm_wp X 224 49 [some (.ref 81), some (.int x1), some (.int x2), some (.int x3), some (.int x4)] [] (sM mo G I J) Q =
    (True ∧ Q (some (.int x3)) (sM mo G I J)) :=
  (sm_blk X 224 49 (tt_lin 224 (by decide)) rfl rfl _ _ _ _).trans rfl
set_option maxRecDepth 100000 in
theorem bk_225_0 (X : (Nat → Int32) × Nat) (mo : Bool) (G : Nat × Nat) (I : Nat → Nat → Int32) (J : Nat → Nat → Int64) (Q : Option Value → sm_M → Prop) (x1 : Int32) (x2 : Int32) :
    sm_wp X 225 0 [some (.ref 81), some (.int x1), some (.int x2), none, none] [] (sM mo G I J) Q =
    (if (x1 : Int32) < 0 then sm_wp X 225 25 [some (.ref 81), some (.int x1), some (.int x2), none, none] [] (sM mo G (up2 I 81 2 0) J) Q else (if ((up2 I 81 2 0) 81 1 : Int32) < (x1 : Int32) then sm_wp X 225 25 [some (.ref 81), some (.int x1), some (.int x2), none, none] [] (sM mo G (up2 I 81 2 0) J) Q else (sm_wp X 216 0 [some (.ref 81), some (.int x2)] [] (sM mo G (up2 I 81 2 0) J) (fun v M => sm_wp X 225 22 [some (.ref 81), some (.int x1), some (.int x2), none, none] (v.toList ++ []) M Q)))) :=
  (sm_blk X 225 0 (tt_lin 225 (by decide)) rfl rfl _ _ _ _).trans rfl
set_option maxRecDepth 100000 in
theorem bk_225_22 (X : (Nat → Int32) × Nat) (mo : Bool) (G : Nat × Nat) (I : Nat → Nat → Int32) (J : Nat → Nat → Int64) (Q : Option Value → sm_M → Prop) (x1 : Int32) (x2 : Int32) (s0 : Int32) :
    sm_wp X 225 22 [some (.ref 81), some (.int x1), some (.int x2), none, none] [.int s0] (sM mo G I J) Q =
    (if ¬ (s0 : Int32) = 0 then sm_wp X 225 28 [some (.ref 81), some (.int x1), some (.int x2), none, none] [] (sM mo G I J) Q else (True ∧ Q (some (.int (-2))) (sM mo G I J))) :=
  (sm_blk X 225 22 (tt_lin 225 (by decide)) rfl rfl _ _ _ _).trans rfl
set_option maxRecDepth 100000 in
theorem bk_225_25 (X : (Nat → Int32) × Nat) (mo : Bool) (G : Nat × Nat) (I : Nat → Nat → Int32) (J : Nat → Nat → Int64) (Q : Option Value → sm_M → Prop) (x1 : Int32) (x2 : Int32) :
    sm_wp X 225 25 [some (.ref 81), some (.int x1), some (.int x2), none, none] [] (sM mo G I J) Q =
    (True ∧ Q (some (.int (-2))) (sM mo G I J)) :=
  (sm_blk X 225 25 (tt_lin 225 (by decide)) rfl rfl _ _ _ _).trans rfl
set_option maxRecDepth 100000 in
theorem bk_225_28 (X : (Nat → Int32) × Nat) (mo : Bool) (G : Nat × Nat) (I : Nat → Nat → Int32) (J : Nat → Nat → Int64) (Q : Option Value → sm_M → Prop) (x1 : Int32) (x2 : Int32) :
    sm_wp X 225 28 [some (.ref 81), some (.int x1), some (.int x2), none, none] [] (sM mo G I J) Q =
    (vp_in 6 7 ∧ (sm_wp X 226 0 [some (.ref 81), none] [] (sM mo G (up2 (up2 (up2 (up2 (up2 (up2 (up2 (up2 I 81 20 x1) 81 1 0) 81 18 0) 81 19 (-1)) 81 21 0) 102 (6 : Int32).toNatClampNeg 0) 81 34 0) 81 35 0) J) (fun v M => sm_wp X 225 75 [some (.ref 81), none, some (.int x2), none, none] (v.toList ++ []) M Q))) :=
  (sm_blk X 225 28 (tt_lin 225 (by decide)) rfl rfl _ _ _ _).trans rfl
set_option maxRecDepth 100000 in
theorem bk_225_75 (X : (Nat → Int32) × Nat) (mo : Bool) (G : Nat × Nat) (I : Nat → Nat → Int32) (J : Nat → Nat → Int64) (Q : Option Value → sm_M → Prop) (x2 : Int32) :
    sm_wp X 225 75 [some (.ref 81), none, some (.int x2), none, none] [] (sM mo G I J) Q =
    (if (I 81 22 : Int32) = 0 then sm_wp X 225 91 [some (.ref 81), none, some (.int x2), none, none] [] (sM mo G I J) Q else (sm_wp X 232 0 [some (.ref 81), none] [] (sM mo G I J) (fun v M => sm_wp X 225 86 [some (.ref 81), none, some (.int x2), none, none] (v.toList ++ []) M Q))) :=
  (sm_blk X 225 75 (tt_lin 225 (by decide)) rfl rfl _ _ _ _).trans rfl
set_option maxRecDepth 100000 in
theorem bk_225_86 (X : (Nat → Int32) × Nat) (mo : Bool) (G : Nat × Nat) (I : Nat → Nat → Int32) (J : Nat → Nat → Int64) (Q : Option Value → sm_M → Prop) (x2 : Int32) (s0 : Int32) :
    sm_wp X 225 86 [some (.ref 81), none, some (.int x2), none, none] [.int s0] (sM mo G I J) Q =
    (if ¬ (s0 : Int32) = 0 then sm_wp X 225 75 [some (.ref 81), none, some (.int x2), none, none] [] (sM mo G I J) Q else (True ∧ Q (some (.int (-1))) (sM mo G I J))) :=
  (sm_blk X 225 86 (tt_lin 225 (by decide)) rfl rfl _ _ _ _).trans rfl
set_option maxRecDepth 100000 in
theorem bk_225_91 (X : (Nat → Int32) × Nat) (mo : Bool) (G : Nat × Nat) (I : Nat → Nat → Int32) (J : Nat → Nat → Int64) (Q : Option Value → sm_M → Prop) (x2 : Int32) :
    sm_wp X 225 91 [some (.ref 81), none, some (.int x2), none, none] [] (sM mo G I J) Q =
    (sm_wp X 225 106 [some (.ref 81), none, some (.int x2), some (.int (384 - (64 * x2))), some (.int (64 * x2))] [] (sM mo G I J) Q) :=
  (sm_blk X 225 91 (tt_lin 225 (by decide)) rfl rfl _ _ _ _).trans rfl
set_option maxRecDepth 100000 in
theorem bk_225_106 (X : (Nat → Int32) × Nat) (mo : Bool) (G : Nat × Nat) (I : Nat → Nat → Int32) (J : Nat → Nat → Int64) (Q : Option Value → sm_M → Prop) (x2 : Int32) (x3 : Int32) (x4 : Int32) :
    sm_wp X 225 106 [some (.ref 81), none, some (.int x2), some (.int x3), some (.int x4)] [] (sM mo G I J) Q =
    (if ((64 * x2) + (I 81 34) : Int32) ≤ (x4 : Int32) then sm_wp X 225 212 [some (.ref 81), none, some (.int x2), some (.int x3), some (.int x4)] [] (sM mo G I J) Q else (vp_in (x4 + x3) 448 ∧ (vp_in x4 448 ∧ (vp_in (x4 + x3) 448 ∧ (vp_in x4 448 ∧ (vp_in (x4 + x3) 448 ∧ (vp_in x4 448 ∧ (vp_in (x4 + x3) 448 ∧ (vp_in x4 448 ∧ (vp_in (x4 + x3) 448 ∧ (vp_in x4 448 ∧ (sm_wp X 225 106 [some (.ref 81), none, some (.int x2), some (.int x3), some (.int (x4 + 1))] [] (sM mo G (up2 (up2 (up2 (up2 (up2 I 94 x4.toNatClampNeg (I 94 ((x4 + x3).toNatClampNeg))) 95 x4.toNatClampNeg (((up2 I 94 x4.toNatClampNeg (I 94 ((x4 + x3).toNatClampNeg))) 95 ((x4 + x3).toNatClampNeg)) - x3)) 96 x4.toNatClampNeg (((up2 (up2 I 94 x4.toNatClampNeg (I 94 ((x4 + x3).toNatClampNeg))) 95 x4.toNatClampNeg (((up2 I 94 x4.toNatClampNeg (I 94 ((x4 + x3).toNatClampNeg))) 95 ((x4 + x3).toNatClampNeg)) - x3)) 96 ((x4 + x3).toNatClampNeg)) - x3)) 97 x4.toNatClampNeg ((up2 (up2 (up2 I 94 x4.toNatClampNeg (I 94 ((x4 + x3).toNatClampNeg))) 95 x4.toNatClampNeg (((up2 I 94 x4.toNatClampNeg (I 94 ((x4 + x3).toNatClampNeg))) 95 ((x4 + x3).toNatClampNeg)) - x3)) 96 x4.toNatClampNeg (((up2 (up2 I 94 x4.toNatClampNeg (I 94 ((x4 + x3).toNatClampNeg))) 95 x4.toNatClampNeg (((up2 I 94 x4.toNatClampNeg (I 94 ((x4 + x3).toNatClampNeg))) 95 ((x4 + x3).toNatClampNeg)) - x3)) 96 ((x4 + x3).toNatClampNeg)) - x3)) 97 ((x4 + x3).toNatClampNeg))) 98 x4.toNatClampNeg (((up2 (up2 (up2 (up2 I 94 x4.toNatClampNeg (I 94 ((x4 + x3).toNatClampNeg))) 95 x4.toNatClampNeg (((up2 I 94 x4.toNatClampNeg (I 94 ((x4 + x3).toNatClampNeg))) 95 ((x4 + x3).toNatClampNeg)) - x3)) 96 x4.toNatClampNeg (((up2 (up2 I 94 x4.toNatClampNeg (I 94 ((x4 + x3).toNatClampNeg))) 95 x4.toNatClampNeg (((up2 I 94 x4.toNatClampNeg (I 94 ((x4 + x3).toNatClampNeg))) 95 ((x4 + x3).toNatClampNeg)) - x3)) 96 ((x4 + x3).toNatClampNeg)) - x3)) 97 x4.toNatClampNeg ((up2 (up2 (up2 I 94 x4.toNatClampNeg (I 94 ((x4 + x3).toNatClampNeg))) 95 x4.toNatClampNeg (((up2 I 94 x4.toNatClampNeg (I 94 ((x4 + x3).toNatClampNeg))) 95 ((x4 + x3).toNatClampNeg)) - x3)) 96 x4.toNatClampNeg (((up2 (up2 I 94 x4.toNatClampNeg (I 94 ((x4 + x3).toNatClampNeg))) 95 x4.toNatClampNeg (((up2 I 94 x4.toNatClampNeg (I 94 ((x4 + x3).toNatClampNeg))) 95 ((x4 + x3).toNatClampNeg)) - x3)) 96 ((x4 + x3).toNatClampNeg)) - x3)) 97 ((x4 + x3).toNatClampNeg))) 98 ((x4 + x3).toNatClampNeg)) - x3)) J) Q)))))))))))) :=
  (sm_blk X 225 106 (tt_lin 225 (by decide)) rfl rfl _ _ _ _).trans rfl
set_option maxRecDepth 100000 in
theorem bk_225_212 (X : (Nat → Int32) × Nat) (mo : Bool) (G : Nat × Nat) (I : Nat → Nat → Int32) (J : Nat → Nat → Int64) (Q : Option Value → sm_M → Prop) (x2 : Int32) (x3 : Int32) (x4 : Int32) :
    sm_wp X 225 212 [some (.ref 81), none, some (.int x2), some (.int x3), some (.int x4)] [] (sM mo G I J) Q =
    (vp_in 6 7 ∧ (vp_in x2 7 ∧ (sm_wp X 225 228 [some (.ref 81), none, some (.int x2), none, some (.int 0)] [] (sM mo G (up2 I 102 x2.toNatClampNeg (I 102 ((6 : Int32).toNatClampNeg))) J) Q))) :=
  (sm_blk X 225 212 (tt_lin 225 (by decide)) rfl rfl _ _ _ _).trans rfl
set_option maxRecDepth 100000 in
theorem bk_225_228 (X : (Nat → Int32) × Nat) (mo : Bool) (G : Nat × Nat) (I : Nat → Nat → Int32) (J : Nat → Nat → Int64) (Q : Option Value → sm_M → Prop) (x2 : Int32) (x4 : Int32) :
    sm_wp X 225 228 [some (.ref 81), none, some (.int x2), none, some (.int x4)] [] (sM mo G I J) Q =
    (vp_in x2 7 ∧ (if (I 102 (x2.toNatClampNeg) : Int32) ≤ (x4 : Int32) then sm_wp X 225 311 [some (.ref 81), none, some (.int x2), none, some (.int x4)] [] (sM mo G I J) Q else (vp_in (96 + x4) 112 ∧ (vp_in ((16 * x2) + x4) 112 ∧ (vp_in (96 + x4) 112 ∧ (vp_in ((16 * x2) + x4) 112 ∧ (vp_in (96 + x4) 112 ∧ (vp_in ((16 * x2) + x4) 112 ∧ (sm_wp X 225 228 [some (.ref 81), none, some (.int x2), none, some (.int (x4 + 1))] [] (sM mo G (up2 (up2 (up2 I 99 ((16 * x2) + x4).toNatClampNeg (I 99 ((96 + x4).toNatClampNeg))) 100 ((16 * x2) + x4).toNatClampNeg ((up2 I 99 ((16 * x2) + x4).toNatClampNeg (I 99 ((96 + x4).toNatClampNeg))) 100 ((96 + x4).toNatClampNeg))) 101 ((16 * x2) + x4).toNatClampNeg ((up2 (up2 I 99 ((16 * x2) + x4).toNatClampNeg (I 99 ((96 + x4).toNatClampNeg))) 100 ((16 * x2) + x4).toNatClampNeg ((up2 I 99 ((16 * x2) + x4).toNatClampNeg (I 99 ((96 + x4).toNatClampNeg))) 100 ((96 + x4).toNatClampNeg))) 101 ((96 + x4).toNatClampNeg))) J) Q))))))))) :=
  (sm_blk X 225 228 (tt_lin 225 (by decide)) rfl rfl _ _ _ _).trans rfl
set_option maxRecDepth 100000 in
theorem bk_225_311 (X : (Nat → Int32) × Nat) (mo : Bool) (G : Nat × Nat) (I : Nat → Nat → Int32) (J : Nat → Nat → Int64) (Q : Option Value → sm_M → Prop) (x2 : Int32) (x4 : Int32) :
    sm_wp X 225 311 [some (.ref 81), none, some (.int x2), none, some (.int x4)] [] (sM mo G I J) Q =
    (vp_in x2 7 ∧ (True ∧ Q (some (.int (I 102 (x2.toNatClampNeg)))) (sM mo G I J))) :=
  (sm_blk X 225 311 (tt_lin 225 (by decide)) rfl rfl _ _ _ _).trans rfl
set_option maxRecDepth 100000 in
theorem bk_226_0 (X : (Nat → Int32) × Nat) (mo : Bool) (G : Nat × Nat) (I : Nat → Nat → Int32) (J : Nat → Nat → Int64) (Q : Option Value → sm_M → Prop)  :
    sm_wp X 226 0 [some (.ref 81), none] [] (sM mo G I J) Q =
    (if (I 81 20 : Int32) ≤ (I 81 21 : Int32) then sm_wp X 226 52 [some (.ref 81), none] [] (sM mo G I J) Q else (vp_in (I 81 21) 400 ∧ (if (I 82 ((I 81 21).toNatClampNeg) : Int32) = (10 : Int32) then sm_wp X 226 39 [some (.ref 81), none] [] (sM mo G I J) Q else (vp_in (I 81 21) 400 ∧ (if ¬ (I 82 ((I 81 21).toNatClampNeg) : Int32) = (32 : Int32) then sm_wp X 226 52 [some (.ref 81), none] [] (sM mo G I J) Q else (sm_wp X 226 0 [some (.ref 81), none] [] (sM mo G (up2 I 81 21 ((I 81 21) + 1)) J) Q)))))) :=
  (sm_blk X 226 0 (tt_lin 226 (by decide)) rfl rfl _ _ _ _).trans rfl
set_option maxRecDepth 100000 in
theorem bk_226_39 (X : (Nat → Int32) × Nat) (mo : Bool) (G : Nat × Nat) (I : Nat → Nat → Int32) (J : Nat → Nat → Int64) (Q : Option Value → sm_M → Prop)  :
    sm_wp X 226 39 [some (.ref 81), none] [] (sM mo G I J) Q =
    (sm_wp X 226 0 [some (.ref 81), none] [] (sM mo G (up2 I 81 21 ((I 81 21) + 1)) J) Q) :=
  (sm_blk X 226 39 (tt_lin 226 (by decide)) rfl rfl _ _ _ _).trans rfl
set_option maxRecDepth 100000 in
theorem bk_226_52 (X : (Nat → Int32) × Nat) (mo : Bool) (G : Nat × Nat) (I : Nat → Nat → Int32) (J : Nat → Nat → Int64) (Q : Option Value → sm_M → Prop)  :
    sm_wp X 226 52 [some (.ref 81), none] [] (sM mo G I J) Q =
    (if ¬ ((up2 I 81 24 (I 81 21)) 81 21 : Int32) = ((up2 I 81 24 (I 81 21)) 81 20 : Int32) then sm_wp X 226 79 [some (.ref 81), none] [] (sM mo G (up2 I 81 24 (I 81 21)) J) Q else (sm_wp X 226 314 [some (.ref 81), none] [] (sM mo G (up2 (up2 I 81 24 (I 81 21)) 81 22 0) J) Q)) :=
  (sm_blk X 226 52 (tt_lin 226 (by decide)) rfl rfl _ _ _ _).trans rfl
set_option maxRecDepth 100000 in
theorem bk_226_79 (X : (Nat → Int32) × Nat) (mo : Bool) (G : Nat × Nat) (I : Nat → Nat → Int32) (J : Nat → Nat → Int64) (Q : Option Value → sm_M → Prop)  :
    sm_wp X 226 79 [some (.ref 81), none] [] (sM mo G I J) Q =
    (sm_wp X 227 0 [some (.ref 81), some (.int (I 81 21))] [] (sM mo G I J) (fun v M => sm_wp X 226 87 [some (.ref 81), none] (v.toList ++ []) M Q)) :=
  (sm_blk X 226 79 (tt_lin 226 (by decide)) rfl rfl _ _ _ _).trans rfl
set_option maxRecDepth 100000 in
theorem bk_226_87 (X : (Nat → Int32) × Nat) (mo : Bool) (G : Nat × Nat) (I : Nat → Nat → Int32) (J : Nat → Nat → Int64) (Q : Option Value → sm_M → Prop) (s0 : Int32) :
    sm_wp X 226 87 [some (.ref 81), none] [.int s0] (sM mo G I J) Q =
    (if (s0 : Int32) = 0 then sm_wp X 226 149 [some (.ref 81), none] [] (sM mo G I J) Q else (sm_wp X 226 90 [some (.ref 81), none] [] (sM mo G I J) Q)) :=
  (sm_blk X 226 87 (tt_lin 226 (by decide)) rfl rfl _ _ _ _).trans rfl
set_option maxRecDepth 100000 in
theorem bk_226_90 (X : (Nat → Int32) × Nat) (mo : Bool) (G : Nat × Nat) (I : Nat → Nat → Int32) (J : Nat → Nat → Int64) (Q : Option Value → sm_M → Prop)  :
    sm_wp X 226 90 [some (.ref 81), none] [] (sM mo G I J) Q =
    (sm_wp X 227 0 [some (.ref 81), some (.int (I 81 21))] [] (sM mo G I J) (fun v M => sm_wp X 226 98 [some (.ref 81), none] (v.toList ++ []) M Q)) :=
  (sm_blk X 226 90 (tt_lin 226 (by decide)) rfl rfl _ _ _ _).trans rfl
set_option maxRecDepth 100000 in
theorem bk_226_98 (X : (Nat → Int32) × Nat) (mo : Bool) (G : Nat × Nat) (I : Nat → Nat → Int32) (J : Nat → Nat → Int64) (Q : Option Value → sm_M → Prop) (s0 : Int32) :
    sm_wp X 226 98 [some (.ref 81), none] [.int s0] (sM mo G I J) Q =
    (if (s0 : Int32) = 0 then sm_wp X 226 114 [some (.ref 81), none] [] (sM mo G I J) Q else (sm_wp X 226 90 [some (.ref 81), none] [] (sM mo G (up2 I 81 21 ((I 81 21) + 1)) J) Q)) :=
  (sm_blk X 226 98 (tt_lin 226 (by decide)) rfl rfl _ _ _ _).trans rfl
set_option maxRecDepth 100000 in
theorem bk_226_114 (X : (Nat → Int32) × Nat) (mo : Bool) (G : Nat × Nat) (I : Nat → Nat → Int32) (J : Nat → Nat → Int64) (Q : Option Value → sm_M → Prop)  :
    sm_wp X 226 114 [some (.ref 81), none] [] (sM mo G I J) Q =
    (sm_wp X 228 0 [some (.ref 81), some (.int (I 81 24)), some (.int (I 81 21)), none, none, none, none, none] [] (sM mo G I J) (fun v M => sm_wp X 226 127 [some (.ref 81), none] (v.toList ++ [.ref 81]) M Q)) :=
  (sm_blk X 226 114 (tt_lin 226 (by decide)) rfl rfl _ _ _ _).trans rfl
set_option maxRecDepth 100000 in
theorem bk_226_127 (X : (Nat → Int32) × Nat) (mo : Bool) (G : Nat × Nat) (I : Nat → Nat → Int32) (J : Nat → Nat → Int64) (Q : Option Value → sm_M → Prop) (s1 : Int32) :
    sm_wp X 226 127 [some (.ref 81), none] [.int s1, .ref 81] (sM mo G I J) Q =
    (if 0 ≤ ((up2 I 81 23 s1) 81 23 : Int32) then sm_wp X 226 142 [some (.ref 81), none] [.ref 81] (sM mo G (up2 I 81 23 s1) J) Q else (sm_wp X 226 143 [some (.ref 81), none] [.int 4, .ref 81] (sM mo G (up2 I 81 23 s1) J) Q)) :=
  (sm_blk X 226 127 (tt_lin 226 (by decide)) rfl rfl _ _ _ _).trans rfl
set_option maxRecDepth 100000 in
theorem bk_226_142 (X : (Nat → Int32) × Nat) (mo : Bool) (G : Nat × Nat) (I : Nat → Nat → Int32) (J : Nat → Nat → Int64) (Q : Option Value → sm_M → Prop)  :
    sm_wp X 226 142 [some (.ref 81), none] [.ref 81] (sM mo G I J) Q =
    (sm_wp X 226 314 [some (.ref 81), none] [] (sM mo G (up2 I 81 22 1) J) Q) :=
  (sm_blk X 226 142 (tt_lin 226 (by decide)) rfl rfl _ _ _ _).trans rfl
set_option maxRecDepth 100000 in
theorem bk_226_143 (X : (Nat → Int32) × Nat) (mo : Bool) (G : Nat × Nat) (I : Nat → Nat → Int32) (J : Nat → Nat → Int64) (Q : Option Value → sm_M → Prop) (s1 : Int32) :
    sm_wp X 226 143 [some (.ref 81), none] [.int s1, .ref 81] (sM mo G I J) Q =
    (sm_wp X 226 314 [some (.ref 81), none] [] (sM mo G (up2 I 81 22 s1) J) Q) :=
  (sm_blk X 226 143 (tt_lin 226 (by decide)) rfl rfl _ _ _ _).trans rfl
set_option maxRecDepth 100000 in
theorem bk_226_149 (X : (Nat → Int32) × Nat) (mo : Bool) (G : Nat × Nat) (I : Nat → Nat → Int32) (J : Nat → Nat → Int64) (Q : Option Value → sm_M → Prop)  :
    sm_wp X 226 149 [some (.ref 81), none] [] (sM mo G I J) Q =
    (sm_wp X 229 0 [some (.ref 81), some (.int (I 81 21))] [] (sM mo G I J) (fun v M => sm_wp X 226 157 [some (.ref 81), none] (v.toList ++ []) M Q)) :=
  (sm_blk X 226 149 (tt_lin 226 (by decide)) rfl rfl _ _ _ _).trans rfl
set_option maxRecDepth 100000 in
theorem bk_226_157 (X : (Nat → Int32) × Nat) (mo : Bool) (G : Nat × Nat) (I : Nat → Nat → Int32) (J : Nat → Nat → Int64) (Q : Option Value → sm_M → Prop) (s0 : Int32) :
    sm_wp X 226 157 [some (.ref 81), none] [.int s0] (sM mo G I J) Q =
    (if (s0 : Int32) = 0 then sm_wp X 226 235 [some (.ref 81), none] [] (sM mo G I J) Q else (sm_wp X 226 170 [some (.ref 81), none] [] (sM mo G (up2 (up2 I 81 22 2) 81 23 0) J) Q)) :=
  (sm_blk X 226 157 (tt_lin 226 (by decide)) rfl rfl _ _ _ _).trans rfl
set_option maxRecDepth 100000 in
theorem bk_226_170 (X : (Nat → Int32) × Nat) (mo : Bool) (G : Nat × Nat) (I : Nat → Nat → Int32) (J : Nat → Nat → Int64) (Q : Option Value → sm_M → Prop)  :
    sm_wp X 226 170 [some (.ref 81), none] [] (sM mo G I J) Q =
    (sm_wp X 229 0 [some (.ref 81), some (.int (I 81 21))] [] (sM mo G I J) (fun v M => sm_wp X 226 178 [some (.ref 81), none] (v.toList ++ []) M Q)) :=
  (sm_blk X 226 170 (tt_lin 226 (by decide)) rfl rfl _ _ _ _).trans rfl
set_option maxRecDepth 100000 in
theorem bk_226_178 (X : (Nat → Int32) × Nat) (mo : Bool) (G : Nat × Nat) (I : Nat → Nat → Int32) (J : Nat → Nat → Int64) (Q : Option Value → sm_M → Prop) (s0 : Int32) :
    sm_wp X 226 178 [some (.ref 81), none] [.int s0] (sM mo G I J) Q =
    (if (s0 : Int32) = 0 then sm_wp X 226 314 [some (.ref 81), none] [] (sM mo G I J) Q else (if (I 81 23 : Int32) ≤ (99999 : Int32) then sm_wp X 226 199 [some (.ref 81), none] [.ref 81] (sM mo G I J) Q else (sm_wp X 226 219 [some (.ref 81), none] [.int (I 81 23), .ref 81] (sM mo G I J) Q))) :=
  (sm_blk X 226 178 (tt_lin 226 (by decide)) rfl rfl _ _ _ _).trans rfl
set_option maxRecDepth 100000 in
theorem bk_226_199 (X : (Nat → Int32) × Nat) (mo : Bool) (G : Nat × Nat) (I : Nat → Nat → Int32) (J : Nat → Nat → Int64) (Q : Option Value → sm_M → Prop)  :
    sm_wp X 226 199 [some (.ref 81), none] [.ref 81] (sM mo G I J) Q =
    (vp_in (I 81 21) 400 ∧ (sm_wp X 226 170 [some (.ref 81), none] [] (sM mo G (up2 (up2 I 81 23 (((10 * (I 81 23)) + (I 82 ((I 81 21).toNatClampNeg))) - 48)) 81 21 (((up2 I 81 23 (((10 * (I 81 23)) + (I 82 ((I 81 21).toNatClampNeg))) - 48)) 81 21) + 1)) J) Q)) :=
  (sm_blk X 226 199 (tt_lin 226 (by decide)) rfl rfl _ _ _ _).trans rfl
set_option maxRecDepth 100000 in
theorem bk_226_219 (X : (Nat → Int32) × Nat) (mo : Bool) (G : Nat × Nat) (I : Nat → Nat → Int32) (J : Nat → Nat → Int64) (Q : Option Value → sm_M → Prop) (s1 : Int32) :
    sm_wp X 226 219 [some (.ref 81), none] [.int s1, .ref 81] (sM mo G I J) Q =
    (sm_wp X 226 170 [some (.ref 81), none] [] (sM mo G (up2 (up2 I 81 23 s1) 81 21 (((up2 I 81 23 s1) 81 21) + 1)) J) Q) :=
  (sm_blk X 226 219 (tt_lin 226 (by decide)) rfl rfl _ _ _ _).trans rfl
set_option maxRecDepth 100000 in
theorem bk_226_235 (X : (Nat → Int32) × Nat) (mo : Bool) (G : Nat × Nat) (I : Nat → Nat → Int32) (J : Nat → Nat → Int64) (Q : Option Value → sm_M → Prop)  :
    sm_wp X 226 235 [some (.ref 81), none] [] (sM mo G I J) Q =
    (vp_in (I 81 21) 400 ∧ (sm_wp X 230 0 [some (.ref 81), some (.int (I 82 ((I 81 21).toNatClampNeg)))] [] (sM mo G (up2 I 81 21 ((I 81 21) + 1)) J) (fun v M => sm_wp X 226 261 [some (.ref 81), some (.int (I 82 ((I 81 21).toNatClampNeg)))] (v.toList ++ [.ref 81]) M Q))) :=
  (sm_blk X 226 235 (tt_lin 226 (by decide)) rfl rfl _ _ _ _).trans rfl
set_option maxRecDepth 100000 in
theorem bk_226_261 (X : (Nat → Int32) × Nat) (mo : Bool) (G : Nat × Nat) (I : Nat → Nat → Int32) (J : Nat → Nat → Int64) (Q : Option Value → sm_M → Prop) (x1 : Int32) (s1 : Int32) :
    sm_wp X 226 261 [some (.ref 81), some (.int x1)] [.int s1, .ref 81] (sM mo G I J) Q =
    (if 0 ≤ ((up2 I 81 23 s1) 81 23 : Int32) then sm_wp X 226 276 [some (.ref 81), some (.int x1)] [.ref 81] (sM mo G (up2 I 81 23 s1) J) Q else (sm_wp X 226 277 [some (.ref 81), some (.int x1)] [.int 4, .ref 81] (sM mo G (up2 I 81 23 s1) J) Q)) :=
  (sm_blk X 226 261 (tt_lin 226 (by decide)) rfl rfl _ _ _ _).trans rfl
set_option maxRecDepth 100000 in
theorem bk_226_276 (X : (Nat → Int32) × Nat) (mo : Bool) (G : Nat × Nat) (I : Nat → Nat → Int32) (J : Nat → Nat → Int64) (Q : Option Value → sm_M → Prop) (x1 : Int32) :
    sm_wp X 226 276 [some (.ref 81), some (.int x1)] [.ref 81] (sM mo G I J) Q =
    (if ((up2 I 81 22 3) 81 23 : Int32) = (2 : Int32) then sm_wp X 226 304 [some (.ref 81), some (.int x1)] [] (sM mo G (up2 I 81 22 3) J) Q else (if ((up2 I 81 22 3) 81 23 : Int32) = (4 : Int32) then sm_wp X 226 304 [some (.ref 81), some (.int x1)] [] (sM mo G (up2 I 81 22 3) J) Q else (if ¬ ((up2 I 81 22 3) 81 23 : Int32) = (5 : Int32) then sm_wp X 226 314 [some (.ref 81), some (.int x1)] [] (sM mo G (up2 I 81 22 3) J) Q else (True ∧ Q none (sM mo G (up2 (up2 I 81 22 3) 81 21 (((up2 I 81 22 3) 81 21) + 1)) J))))) :=
  (sm_blk X 226 276 (tt_lin 226 (by decide)) rfl rfl _ _ _ _).trans rfl
set_option maxRecDepth 100000 in
theorem bk_226_277 (X : (Nat → Int32) × Nat) (mo : Bool) (G : Nat × Nat) (I : Nat → Nat → Int32) (J : Nat → Nat → Int64) (Q : Option Value → sm_M → Prop) (x1 : Int32) (s1 : Int32) :
    sm_wp X 226 277 [some (.ref 81), some (.int x1)] [.int s1, .ref 81] (sM mo G I J) Q =
    (if ((up2 I 81 22 s1) 81 23 : Int32) = (2 : Int32) then sm_wp X 226 304 [some (.ref 81), some (.int x1)] [] (sM mo G (up2 I 81 22 s1) J) Q else (if ((up2 I 81 22 s1) 81 23 : Int32) = (4 : Int32) then sm_wp X 226 304 [some (.ref 81), some (.int x1)] [] (sM mo G (up2 I 81 22 s1) J) Q else (if ¬ ((up2 I 81 22 s1) 81 23 : Int32) = (5 : Int32) then sm_wp X 226 314 [some (.ref 81), some (.int x1)] [] (sM mo G (up2 I 81 22 s1) J) Q else (True ∧ Q none (sM mo G (up2 (up2 I 81 22 s1) 81 21 (((up2 I 81 22 s1) 81 21) + 1)) J))))) :=
  (sm_blk X 226 277 (tt_lin 226 (by decide)) rfl rfl _ _ _ _).trans rfl
set_option maxRecDepth 100000 in
theorem bk_226_304 (X : (Nat → Int32) × Nat) (mo : Bool) (G : Nat × Nat) (I : Nat → Nat → Int32) (J : Nat → Nat → Int64) (Q : Option Value → sm_M → Prop) (x1 : Int32) :
    sm_wp X 226 304 [some (.ref 81), some (.int x1)] [] (sM mo G I J) Q =
    (True ∧ Q none (sM mo G (up2 I 81 21 ((I 81 21) + 1)) J)) :=
  (sm_blk X 226 304 (tt_lin 226 (by decide)) rfl rfl _ _ _ _).trans rfl
set_option maxRecDepth 100000 in
theorem bk_226_314 (X : (Nat → Int32) × Nat) (mo : Bool) (G : Nat × Nat) (I : Nat → Nat → Int32) (J : Nat → Nat → Int64) (Q : Option Value → sm_M → Prop)  :
    sm_wp X 226 314 [some (.ref 81), none] [] (sM mo G I J) Q =
    (True ∧ Q none (sM mo G I J)) :=
  (sm_blk X 226 314 (tt_lin 226 (by decide)) rfl rfl _ _ _ _).trans rfl
set_option maxRecDepth 100000 in
theorem bk_227_0 (X : (Nat → Int32) × Nat) (mo : Bool) (G : Nat × Nat) (I : Nat → Nat → Int32) (J : Nat → Nat → Int64) (Q : Option Value → sm_M → Prop) (x1 : Int32) :
    sm_wp X 227 0 [some (.ref 81), some (.int x1)] [] (sM mo G I J) Q =
    (if (I 81 20 : Int32) ≤ (x1 : Int32) then sm_wp X 227 34 [some (.ref 81), some (.int x1)] [] (sM mo G I J) Q else (vp_in x1 400 ∧ (if (I 82 (x1.toNatClampNeg) : Int32) < (97 : Int32) then sm_wp X 227 34 [some (.ref 81), some (.int x1)] [] (sM mo G I J) Q else (vp_in x1 400 ∧ (if (122 : Int32) < (I 82 (x1.toNatClampNeg) : Int32) then sm_wp X 227 34 [some (.ref 81), some (.int x1)] [] (sM mo G I J) Q else (sm_wp X 227 35 [some (.ref 81), some (.int x1)] [.int 1] (sM mo G I J) Q)))))) :=
  (sm_blk X 227 0 (tt_lin 227 (by decide)) rfl rfl _ _ _ _).trans rfl
set_option maxRecDepth 100000 in
theorem bk_227_34 (X : (Nat → Int32) × Nat) (mo : Bool) (G : Nat × Nat) (I : Nat → Nat → Int32) (J : Nat → Nat → Int64) (Q : Option Value → sm_M → Prop) (x1 : Int32) :
    sm_wp X 227 34 [some (.ref 81), some (.int x1)] [] (sM mo G I J) Q =
    (sm_zb 0 ∧ Q (some (.int 0)) (sM mo G I J)) :=
  (sm_blk X 227 34 (tt_lin 227 (by decide)) rfl rfl _ _ _ _).trans rfl
set_option maxRecDepth 100000 in
theorem bk_227_35 (X : (Nat → Int32) × Nat) (mo : Bool) (G : Nat × Nat) (I : Nat → Nat → Int32) (J : Nat → Nat → Int64) (Q : Option Value → sm_M → Prop) (x1 : Int32) (s0 : Int32) :
    sm_wp X 227 35 [some (.ref 81), some (.int x1)] [.int s0] (sM mo G I J) Q =
    (sm_zb s0 ∧ Q (some (.int s0)) (sM mo G I J)) :=
  (sm_blk X 227 35 (tt_lin 227 (by decide)) rfl rfl _ _ _ _).trans rfl
end
