-- Law_law 315 at 0: new
-- Law_law 315 at 7: new
-- Law_law 315 at 15: newarray
set_option maxRecDepth 100000 in
theorem bk_315_23 (X : (Nat → Int32) × Nat) (mo : Bool) (G : Nat × Nat) (I : Nat → Nat → Int32) (J : Nat → Nat → Int64) (Q : Option Value → sm_M → Prop) (x4 : Int32) :
    sm_wp X 315 23 [some (.retAddr 1), some (.ref 0), some (.ref 81), some (.ref 142), some (.int x4), none, none] [] (sM mo G I J) Q =
    (if ((Int32.ofNat X.2) - 7 : Int32) < (x4 : Int32) then sm_wp X 315 1680 [some (.retAddr 1), some (.ref 0), some (.ref 81), some (.ref 142), some (.int x4), none, none] [] (sM mo G I J) Q else (vp_in x4 X.2 ∧ (if ((X.1 x4.toNatClampNeg) &&& 63 : Int32) = 0 then sm_wp X 315 204 [some (.retAddr 1), some (.ref 0), some (.ref 81), some (.ref 142), some (.int x4), none, none] [] (sM mo G I J) Q else if ((X.1 x4.toNatClampNeg) &&& 63 : Int32) = 1 then sm_wp X 315 277 [some (.retAddr 1), some (.ref 0), some (.ref 81), some (.ref 142), some (.int x4), none, none] [] (sM mo G I J) Q else if ((X.1 x4.toNatClampNeg) &&& 63 : Int32) = 2 then sm_wp X 315 314 [some (.retAddr 1), some (.ref 0), some (.ref 81), some (.ref 142), some (.int x4), none, none] [] (sM mo G I J) Q else if ((X.1 x4.toNatClampNeg) &&& 63 : Int32) = 3 then sm_wp X 315 339 [some (.retAddr 1), some (.ref 0), some (.ref 81), some (.ref 142), some (.int x4), none, none] [] (sM mo G I J) Q else if ((X.1 x4.toNatClampNeg) &&& 63 : Int32) = 4 then sm_wp X 315 364 [some (.retAddr 1), some (.ref 0), some (.ref 81), some (.ref 142), some (.int x4), none, none] [] (sM mo G I J) Q else if ((X.1 x4.toNatClampNeg) &&& 63 : Int32) = 5 then sm_wp X 315 401 [some (.retAddr 1), some (.ref 0), some (.ref 81), some (.ref 142), some (.int x4), none, none] [] (sM mo G I J) Q else if ((X.1 x4.toNatClampNeg) &&& 63 : Int32) = 6 then sm_wp X 315 438 [some (.retAddr 1), some (.ref 0), some (.ref 81), some (.ref 142), some (.int x4), none, none] [] (sM mo G I J) Q else if ((X.1 x4.toNatClampNeg) &&& 63 : Int32) = 7 then sm_wp X 315 475 [some (.retAddr 1), some (.ref 0), some (.ref 81), some (.ref 142), some (.int x4), none, none] [] (sM mo G I J) Q else if ((X.1 x4.toNatClampNeg) &&& 63 : Int32) = 8 then sm_wp X 315 540 [some (.retAddr 1), some (.ref 0), some (.ref 81), some (.ref 142), some (.int x4), none, none] [] (sM mo G I J) Q else if ((X.1 x4.toNatClampNeg) &&& 63 : Int32) = 9 then sm_wp X 315 589 [some (.retAddr 1), some (.ref 0), some (.ref 81), some (.ref 142), some (.int x4), none, none] [] (sM mo G I J) Q else if ((X.1 x4.toNatClampNeg) &&& 63 : Int32) = 10 then sm_wp X 315 626 [some (.retAddr 1), some (.ref 0), some (.ref 81), some (.ref 142), some (.int x4), none, none] [] (sM mo G I J) Q else if ((X.1 x4.toNatClampNeg) &&& 63 : Int32) = 11 then sm_wp X 315 713 [some (.retAddr 1), some (.ref 0), some (.ref 81), some (.ref 142), some (.int x4), none, none] [] (sM mo G I J) Q else if ((X.1 x4.toNatClampNeg) &&& 63 : Int32) = 12 then sm_wp X 315 762 [some (.retAddr 1), some (.ref 0), some (.ref 81), some (.ref 142), some (.int x4), none, none] [] (sM mo G I J) Q else if ((X.1 x4.toNatClampNeg) &&& 63 : Int32) = 13 then sm_wp X 315 823 [some (.retAddr 1), some (.ref 0), some (.ref 81), some (.ref 142), some (.int x4), none, none] [] (sM mo G I J) Q else if ((X.1 x4.toNatClampNeg) &&& 63 : Int32) = 14 then sm_wp X 315 848 [some (.retAddr 1), some (.ref 0), some (.ref 81), some (.ref 142), some (.int x4), none, none] [] (sM mo G I J) Q else if ((X.1 x4.toNatClampNeg) &&& 63 : Int32) = 15 then sm_wp X 315 885 [some (.retAddr 1), some (.ref 0), some (.ref 81), some (.ref 142), some (.int x4), none, none] [] (sM mo G I J) Q else if ((X.1 x4.toNatClampNeg) &&& 63 : Int32) = 16 then sm_wp X 315 910 [some (.retAddr 1), some (.ref 0), some (.ref 81), some (.ref 142), some (.int x4), none, none] [] (sM mo G I J) Q else if ((X.1 x4.toNatClampNeg) &&& 63 : Int32) = 17 then sm_wp X 315 947 [some (.retAddr 1), some (.ref 0), some (.ref 81), some (.ref 142), some (.int x4), none, none] [] (sM mo G I J) Q else if ((X.1 x4.toNatClampNeg) &&& 63 : Int32) = 18 then sm_wp X 315 984 [some (.retAddr 1), some (.ref 0), some (.ref 81), some (.ref 142), some (.int x4), none, none] [] (sM mo G I J) Q else if ((X.1 x4.toNatClampNeg) &&& 63 : Int32) = 19 then sm_wp X 315 1033 [some (.retAddr 1), some (.ref 0), some (.ref 81), some (.ref 142), some (.int x4), none, none] [] (sM mo G I J) Q else if ((X.1 x4.toNatClampNeg) &&& 63 : Int32) = 20 then sm_wp X 315 1058 [some (.retAddr 1), some (.ref 0), some (.ref 81), some (.ref 142), some (.int x4), none, none] [] (sM mo G I J) Q else if ((X.1 x4.toNatClampNeg) &&& 63 : Int32) = 21 then sm_wp X 315 1083 [some (.retAddr 1), some (.ref 0), some (.ref 81), some (.ref 142), some (.int x4), none, none] [] (sM mo G I J) Q else if ((X.1 x4.toNatClampNeg) &&& 63 : Int32) = 22 then sm_wp X 315 1108 [some (.retAddr 1), some (.ref 0), some (.ref 81), some (.ref 142), some (.int x4), none, none] [] (sM mo G I J) Q else if ((X.1 x4.toNatClampNeg) &&& 63 : Int32) = 23 then sm_wp X 315 1145 [some (.retAddr 1), some (.ref 0), some (.ref 81), some (.ref 142), some (.int x4), none, none] [] (sM mo G I J) Q else if ((X.1 x4.toNatClampNeg) &&& 63 : Int32) = 24 then sm_wp X 315 1158 [some (.retAddr 1), some (.ref 0), some (.ref 81), some (.ref 142), some (.int x4), none, none] [] (sM mo G I J) Q else if ((X.1 x4.toNatClampNeg) &&& 63 : Int32) = 25 then sm_wp X 315 1183 [some (.retAddr 1), some (.ref 0), some (.ref 81), some (.ref 142), some (.int x4), none, none] [] (sM mo G I J) Q else if ((X.1 x4.toNatClampNeg) &&& 63 : Int32) = 26 then sm_wp X 315 1208 [some (.retAddr 1), some (.ref 0), some (.ref 81), some (.ref 142), some (.int x4), none, none] [] (sM mo G I J) Q else if ((X.1 x4.toNatClampNeg) &&& 63 : Int32) = 27 then sm_wp X 315 1221 [some (.retAddr 1), some (.ref 0), some (.ref 81), some (.ref 142), some (.int x4), none, none] [] (sM mo G I J) Q else if ((X.1 x4.toNatClampNeg) &&& 63 : Int32) = 28 then sm_wp X 315 1270 [some (.retAddr 1), some (.ref 0), some (.ref 81), some (.ref 142), some (.int x4), none, none] [] (sM mo G I J) Q else if ((X.1 x4.toNatClampNeg) &&& 63 : Int32) = 29 then sm_wp X 315 1335 [some (.retAddr 1), some (.ref 0), some (.ref 81), some (.ref 142), some (.int x4), none, none] [] (sM mo G I J) Q else if ((X.1 x4.toNatClampNeg) &&& 63 : Int32) = 30 then sm_wp X 315 1400 [some (.retAddr 1), some (.ref 0), some (.ref 81), some (.ref 142), some (.int x4), none, none] [] (sM mo G I J) Q else if ((X.1 x4.toNatClampNeg) &&& 63 : Int32) = 31 then sm_wp X 315 1449 [some (.retAddr 1), some (.ref 0), some (.ref 81), some (.ref 142), some (.int x4), none, none] [] (sM mo G I J) Q else if ((X.1 x4.toNatClampNeg) &&& 63 : Int32) = 32 then sm_wp X 315 1486 [some (.retAddr 1), some (.ref 0), some (.ref 81), some (.ref 142), some (.int x4), none, none] [] (sM mo G I J) Q else if ((X.1 x4.toNatClampNeg) &&& 63 : Int32) = 33 then sm_wp X 315 1535 [some (.retAddr 1), some (.ref 0), some (.ref 81), some (.ref 142), some (.int x4), none, none] [] (sM mo G I J) Q else if ((X.1 x4.toNatClampNeg) &&& 63 : Int32) = 34 then sm_wp X 315 1560 [some (.retAddr 1), some (.ref 0), some (.ref 81), some (.ref 142), some (.int x4), none, none] [] (sM mo G I J) Q else if ((X.1 x4.toNatClampNeg) &&& 63 : Int32) = 35 then sm_wp X 315 1609 [some (.retAddr 1), some (.ref 0), some (.ref 81), some (.ref 142), some (.int x4), none, none] [] (sM mo G I J) Q else if ((X.1 x4.toNatClampNeg) &&& 63 : Int32) = 36 then sm_wp X 315 1649 [some (.retAddr 1), some (.ref 0), some (.ref 81), some (.ref 142), some (.int x4), none, none] [] (sM mo G I J) Q else sm_wp X 315 1674 [some (.retAddr 1), some (.ref 0), some (.ref 81), some (.ref 142), some (.int x4), none, none] [] (sM mo G I J) Q))) :=
  (sm_blk X 315 23 (tt_lin 315 (by decide)) rfl rfl _ _ _ _).trans rfl
set_option maxRecDepth 100000 in
theorem bk_315_204 (X : (Nat → Int32) × Nat) (mo : Bool) (G : Nat × Nat) (I : Nat → Nat → Int32) (J : Nat → Nat → Int64) (Q : Option Value → sm_M → Prop) (x4 : Int32) :
    sm_wp X 315 204 [some (.retAddr 1), some (.ref 0), some (.ref 81), some (.ref 142), some (.int x4), none, none] [] (sM mo G I J) Q =
    (vp_in (x4 + 1) X.2 ∧ (vp_in (x4 + 2) X.2 ∧ (vp_in (x4 + 3) X.2 ∧ (vp_in (x4 + 4) X.2 ∧ (vp_in (x4 + 5) X.2 ∧ (sm_wp X 167 0 [some (.ref 0), some (.int (X.1 (x4 + 1).toNatClampNeg)), some (.int (X.1 (x4 + 2).toNatClampNeg)), some (.int (X.1 (x4 + 3).toNatClampNeg)), some (.int (X.1 (x4 + 4).toNatClampNeg)), some (.int (X.1 (x4 + 5).toNatClampNeg))] [] (sM mo G I J) (fun v M => sm_wp X 315 238 [some (.retAddr 1), some (.ref 0), some (.ref 81), some (.ref 142), some (.int x4), none, none] (v.toList ++ []) M Q))))))) :=
  (sm_blk X 315 204 (tt_lin 315 (by decide)) rfl rfl _ _ _ _).trans rfl
set_option maxRecDepth 100000 in
theorem bk_315_238 (X : (Nat → Int32) × Nat) (mo : Bool) (G : Nat × Nat) (I : Nat → Nat → Int32) (J : Nat → Nat → Int64) (Q : Option Value → sm_M → Prop) (x4 : Int32) (s0 : Int32) :
    sm_wp X 315 238 [some (.retAddr 1), some (.ref 0), some (.ref 81), some (.ref 142), some (.int x4), none, none] [.int s0] (sM mo G I J) Q =
    (vp_in (x4 + 1) X.2 ∧ (vp_in (x4 + 2) X.2 ∧ (vp_in (x4 + 3) X.2 ∧ (vp_in (x4 + 4) X.2 ∧ (vp_in (x4 + 5) X.2 ∧ (sm_wp X 208 0 [some (.ref 81), some (.int (X.1 (x4 + 1).toNatClampNeg)), some (.int (X.1 (x4 + 2).toNatClampNeg)), some (.int (X.1 (x4 + 3).toNatClampNeg)), some (.int (X.1 (x4 + 4).toNatClampNeg)), some (.int (X.1 (x4 + 5).toNatClampNeg)), none, none] [] (sM mo G I J) (fun v M => sm_wp X 315 272 [some (.retAddr 1), some (.ref 0), some (.ref 81), some (.ref 142), some (.int x4), none, none] (v.toList ++ [.int s0]) M Q))))))) :=
  (sm_blk X 315 238 (tt_lin 315 (by decide)) rfl rfl _ _ _ _).trans rfl
set_option maxRecDepth 100000 in
theorem bk_315_272 (X : (Nat → Int32) × Nat) (mo : Bool) (G : Nat × Nat) (I : Nat → Nat → Int32) (J : Nat → Nat → Int64) (Q : Option Value → sm_M → Prop) (x4 : Int32) (s0 : Int32) (s1 : Int32) :
    sm_wp X 315 272 [some (.retAddr 1), some (.ref 0), some (.ref 81), some (.ref 142), some (.int x4), none, none] [.int s1, .int s0] (sM mo G I J) Q =
    (if (s0 : Int32) = (s1 : Int32) then sm_wp X 315 1674 [some (.retAddr 1), some (.ref 0), some (.ref 81), some (.ref 142), some (.int x4), none, none] [] (sM mo G I J) Q else (sm_zb 0 ∧ Q (some (.int 0)) (sM mo G I J))) :=
  (sm_blk X 315 272 (tt_lin 315 (by decide)) rfl rfl _ _ _ _).trans rfl
set_option maxRecDepth 100000 in
theorem bk_315_277 (X : (Nat → Int32) × Nat) (mo : Bool) (G : Nat × Nat) (I : Nat → Nat → Int32) (J : Nat → Nat → Int64) (Q : Option Value → sm_M → Prop) (x4 : Int32) :
    sm_wp X 315 277 [some (.retAddr 1), some (.ref 0), some (.ref 81), some (.ref 142), some (.int x4), none, none] [] (sM mo G I J) Q =
    (vp_in (x4 + 1) X.2 ∧ (vp_in (x4 + 2) X.2 ∧ (sm_wp X 168 0 [some (.ref 0), some (.int (X.1 (x4 + 1).toNatClampNeg)), some (.int (X.1 (x4 + 2).toNatClampNeg))] [] (sM mo G I J) (fun v M => sm_wp X 315 293 [some (.retAddr 1), some (.ref 0), some (.ref 81), some (.ref 142), some (.int x4), none, none] (v.toList ++ []) M Q)))) :=
  (sm_blk X 315 277 (tt_lin 315 (by decide)) rfl rfl _ _ _ _).trans rfl
set_option maxRecDepth 100000 in
theorem bk_315_293 (X : (Nat → Int32) × Nat) (mo : Bool) (G : Nat × Nat) (I : Nat → Nat → Int32) (J : Nat → Nat → Int64) (Q : Option Value → sm_M → Prop) (x4 : Int32) (s0 : Int32) :
    sm_wp X 315 293 [some (.retAddr 1), some (.ref 0), some (.ref 81), some (.ref 142), some (.int x4), none, none] [.int s0] (sM mo G I J) Q =
    (vp_in (x4 + 1) X.2 ∧ (vp_in (x4 + 2) X.2 ∧ (sm_wp X 225 0 [some (.ref 81), some (.int (X.1 (x4 + 1).toNatClampNeg)), some (.int (X.1 (x4 + 2).toNatClampNeg)), none, none] [] (sM mo G I J) (fun v M => sm_wp X 315 310 [some (.retAddr 1), some (.ref 0), some (.ref 81), some (.ref 142), some (.int x4), none, none] (v.toList ++ []) M Q)))) :=
  (sm_blk X 315 293 (tt_lin 315 (by decide)) rfl rfl _ _ _ _).trans rfl
set_option maxRecDepth 100000 in
theorem bk_315_310 (X : (Nat → Int32) × Nat) (mo : Bool) (G : Nat × Nat) (I : Nat → Nat → Int32) (J : Nat → Nat → Int64) (Q : Option Value → sm_M → Prop) (x4 : Int32) (s0 : Int32) :
    sm_wp X 315 310 [some (.retAddr 1), some (.ref 0), some (.ref 81), some (.ref 142), some (.int x4), none, none] [.int s0] (sM mo G I J) Q =
    (sm_wp X 315 1674 [some (.retAddr 1), some (.ref 0), some (.ref 81), some (.ref 142), some (.int x4), none, none] [] (sM mo G I J) Q) :=
  (sm_blk X 315 310 (tt_lin 315 (by decide)) rfl rfl _ _ _ _).trans rfl
set_option maxRecDepth 100000 in
theorem bk_315_314 (X : (Nat → Int32) × Nat) (mo : Bool) (G : Nat × Nat) (I : Nat → Nat → Int32) (J : Nat → Nat → Int64) (Q : Option Value → sm_M → Prop) (x4 : Int32) :
    sm_wp X 315 314 [some (.retAddr 1), some (.ref 0), some (.ref 81), some (.ref 142), some (.int x4), none, none] [] (sM mo G I J) Q =
    (vp_in (x4 + 1) X.2 ∧ (sm_wp X 170 0 [some (.ref 0), some (.int (X.1 (x4 + 1).toNatClampNeg))] [] (sM mo G I J) (fun v M => sm_wp X 315 324 [some (.retAddr 1), some (.ref 0), some (.ref 81), some (.ref 142), some (.int x4), none, none] (v.toList ++ []) M Q))) :=
  (sm_blk X 315 314 (tt_lin 315 (by decide)) rfl rfl _ _ _ _).trans rfl
set_option maxRecDepth 100000 in
theorem bk_315_324 (X : (Nat → Int32) × Nat) (mo : Bool) (G : Nat × Nat) (I : Nat → Nat → Int32) (J : Nat → Nat → Int64) (Q : Option Value → sm_M → Prop) (x4 : Int32) (s0 : Int32) :
    sm_wp X 315 324 [some (.retAddr 1), some (.ref 0), some (.ref 81), some (.ref 142), some (.int x4), none, none] [.int s0] (sM mo G I J) Q =
    (vp_in (x4 + 1) X.2 ∧ (sm_wp X 246 0 [some (.ref 81), some (.int (X.1 (x4 + 1).toNatClampNeg))] [] (sM mo G I J) (fun v M => sm_wp X 315 335 [some (.retAddr 1), some (.ref 0), some (.ref 81), some (.ref 142), some (.int x4), none, none] (v.toList ++ []) M Q))) :=
  (sm_blk X 315 324 (tt_lin 315 (by decide)) rfl rfl _ _ _ _).trans rfl
set_option maxRecDepth 100000 in
theorem bk_315_335 (X : (Nat → Int32) × Nat) (mo : Bool) (G : Nat × Nat) (I : Nat → Nat → Int32) (J : Nat → Nat → Int64) (Q : Option Value → sm_M → Prop) (x4 : Int32) (s0 : Int32) :
    sm_wp X 315 335 [some (.retAddr 1), some (.ref 0), some (.ref 81), some (.ref 142), some (.int x4), none, none] [.int s0] (sM mo G I J) Q =
    (sm_wp X 315 1674 [some (.retAddr 1), some (.ref 0), some (.ref 81), some (.ref 142), some (.int x4), none, none] [] (sM mo G I J) Q) :=
  (sm_blk X 315 335 (tt_lin 315 (by decide)) rfl rfl _ _ _ _).trans rfl
set_option maxRecDepth 100000 in
theorem bk_315_339 (X : (Nat → Int32) × Nat) (mo : Bool) (G : Nat × Nat) (I : Nat → Nat → Int32) (J : Nat → Nat → Int64) (Q : Option Value → sm_M → Prop) (x4 : Int32) :
    sm_wp X 315 339 [some (.retAddr 1), some (.ref 0), some (.ref 81), some (.ref 142), some (.int x4), none, none] [] (sM mo G I J) Q =
    (vp_in (x4 + 1) X.2 ∧ (sm_wp X 171 0 [some (.ref 0), some (.int (X.1 (x4 + 1).toNatClampNeg))] [] (sM mo G I J) (fun v M => sm_wp X 315 349 [some (.retAddr 1), some (.ref 0), some (.ref 81), some (.ref 142), some (.int x4), none, none] (v.toList ++ []) M Q))) :=
  (sm_blk X 315 339 (tt_lin 315 (by decide)) rfl rfl _ _ _ _).trans rfl
set_option maxRecDepth 100000 in
theorem bk_315_349 (X : (Nat → Int32) × Nat) (mo : Bool) (G : Nat × Nat) (I : Nat → Nat → Int32) (J : Nat → Nat → Int64) (Q : Option Value → sm_M → Prop) (x4 : Int32) (s0 : Int32) :
    sm_wp X 315 349 [some (.retAddr 1), some (.ref 0), some (.ref 81), some (.ref 142), some (.int x4), none, none] [.int s0] (sM mo G I J) Q =
    (vp_in (x4 + 1) X.2 ∧ (sm_wp X 209 0 [some (.ref 81), some (.int (X.1 (x4 + 1).toNatClampNeg))] [] (sM mo G I J) (fun v M => sm_wp X 315 360 [some (.retAddr 1), some (.ref 0), some (.ref 81), some (.ref 142), some (.int x4), none, none] (v.toList ++ []) M Q))) :=
  (sm_blk X 315 349 (tt_lin 315 (by decide)) rfl rfl _ _ _ _).trans rfl
set_option maxRecDepth 100000 in
theorem bk_315_360 (X : (Nat → Int32) × Nat) (mo : Bool) (G : Nat × Nat) (I : Nat → Nat → Int32) (J : Nat → Nat → Int64) (Q : Option Value → sm_M → Prop) (x4 : Int32) (s0 : Int32) :
    sm_wp X 315 360 [some (.retAddr 1), some (.ref 0), some (.ref 81), some (.ref 142), some (.int x4), none, none] [.int s0] (sM mo G I J) Q =
    (sm_wp X 315 1674 [some (.retAddr 1), some (.ref 0), some (.ref 81), some (.ref 142), some (.int x4), none, none] [] (sM mo G I J) Q) :=
  (sm_blk X 315 360 (tt_lin 315 (by decide)) rfl rfl _ _ _ _).trans rfl
set_option maxRecDepth 100000 in
theorem bk_315_364 (X : (Nat → Int32) × Nat) (mo : Bool) (G : Nat × Nat) (I : Nat → Nat → Int32) (J : Nat → Nat → Int64) (Q : Option Value → sm_M → Prop) (x4 : Int32) :
    sm_wp X 315 364 [some (.retAddr 1), some (.ref 0), some (.ref 81), some (.ref 142), some (.int x4), none, none] [] (sM mo G I J) Q =
    (vp_in (x4 + 1) X.2 ∧ (vp_in (x4 + 2) X.2 ∧ (sm_wp X 172 0 [some (.ref 0), some (.int (X.1 (x4 + 1).toNatClampNeg)), some (.int (X.1 (x4 + 2).toNatClampNeg))] [] (sM mo G I J) (fun v M => sm_wp X 315 380 [some (.retAddr 1), some (.ref 0), some (.ref 81), some (.ref 142), some (.int x4), none, none] (v.toList ++ []) M Q)))) :=
  (sm_blk X 315 364 (tt_lin 315 (by decide)) rfl rfl _ _ _ _).trans rfl
set_option maxRecDepth 100000 in
theorem bk_315_380 (X : (Nat → Int32) × Nat) (mo : Bool) (G : Nat × Nat) (I : Nat → Nat → Int32) (J : Nat → Nat → Int64) (Q : Option Value → sm_M → Prop) (x4 : Int32) (s0 : Int32) :
    sm_wp X 315 380 [some (.retAddr 1), some (.ref 0), some (.ref 81), some (.ref 142), some (.int x4), none, none] [.int s0] (sM mo G I J) Q =
    (vp_in (x4 + 1) X.2 ∧ (vp_in (x4 + 2) X.2 ∧ (sm_wp X 211 0 [some (.ref 81), some (.int (X.1 (x4 + 1).toNatClampNeg)), some (.int (X.1 (x4 + 2).toNatClampNeg))] [] (sM mo G I J) (fun v M => sm_wp X 315 397 [some (.retAddr 1), some (.ref 0), some (.ref 81), some (.ref 142), some (.int x4), none, none] (v.toList ++ []) M Q)))) :=
  (sm_blk X 315 380 (tt_lin 315 (by decide)) rfl rfl _ _ _ _).trans rfl
set_option maxRecDepth 100000 in
theorem bk_315_397 (X : (Nat → Int32) × Nat) (mo : Bool) (G : Nat × Nat) (I : Nat → Nat → Int32) (J : Nat → Nat → Int64) (Q : Option Value → sm_M → Prop) (x4 : Int32) (s0 : Int32) :
    sm_wp X 315 397 [some (.retAddr 1), some (.ref 0), some (.ref 81), some (.ref 142), some (.int x4), none, none] [.int s0] (sM mo G I J) Q =
    (sm_wp X 315 1674 [some (.retAddr 1), some (.ref 0), some (.ref 81), some (.ref 142), some (.int x4), none, none] [] (sM mo G I J) Q) :=
  (sm_blk X 315 397 (tt_lin 315 (by decide)) rfl rfl _ _ _ _).trans rfl
set_option maxRecDepth 100000 in
theorem bk_315_401 (X : (Nat → Int32) × Nat) (mo : Bool) (G : Nat × Nat) (I : Nat → Nat → Int32) (J : Nat → Nat → Int64) (Q : Option Value → sm_M → Prop) (x4 : Int32) :
    sm_wp X 315 401 [some (.retAddr 1), some (.ref 0), some (.ref 81), some (.ref 142), some (.int x4), none, none] [] (sM mo G I J) Q =
    (vp_in (x4 + 1) X.2 ∧ (vp_in (x4 + 2) X.2 ∧ (sm_wp X 173 0 [some (.ref 0), some (.int (X.1 (x4 + 1).toNatClampNeg)), some (.int (X.1 (x4 + 2).toNatClampNeg))] [] (sM mo G I J) (fun v M => sm_wp X 315 417 [some (.retAddr 1), some (.ref 0), some (.ref 81), some (.ref 142), some (.int x4), none, none] (v.toList ++ []) M Q)))) :=
  (sm_blk X 315 401 (tt_lin 315 (by decide)) rfl rfl _ _ _ _).trans rfl
set_option maxRecDepth 100000 in
theorem bk_315_417 (X : (Nat → Int32) × Nat) (mo : Bool) (G : Nat × Nat) (I : Nat → Nat → Int32) (J : Nat → Nat → Int64) (Q : Option Value → sm_M → Prop) (x4 : Int32) (s0 : Int32) :
    sm_wp X 315 417 [some (.retAddr 1), some (.ref 0), some (.ref 81), some (.ref 142), some (.int x4), none, none] [.int s0] (sM mo G I J) Q =
    (vp_in (x4 + 1) X.2 ∧ (vp_in (x4 + 2) X.2 ∧ (sm_wp X 213 0 [some (.ref 81), some (.int (X.1 (x4 + 1).toNatClampNeg)), some (.int (X.1 (x4 + 2).toNatClampNeg))] [] (sM mo G I J) (fun v M => sm_wp X 315 434 [some (.retAddr 1), some (.ref 0), some (.ref 81), some (.ref 142), some (.int x4), none, none] (v.toList ++ []) M Q)))) :=
  (sm_blk X 315 417 (tt_lin 315 (by decide)) rfl rfl _ _ _ _).trans rfl
set_option maxRecDepth 100000 in
theorem bk_315_434 (X : (Nat → Int32) × Nat) (mo : Bool) (G : Nat × Nat) (I : Nat → Nat → Int32) (J : Nat → Nat → Int64) (Q : Option Value → sm_M → Prop) (x4 : Int32) (s0 : Int32) :
    sm_wp X 315 434 [some (.retAddr 1), some (.ref 0), some (.ref 81), some (.ref 142), some (.int x4), none, none] [.int s0] (sM mo G I J) Q =
    (sm_wp X 315 1674 [some (.retAddr 1), some (.ref 0), some (.ref 81), some (.ref 142), some (.int x4), none, none] [] (sM mo G I J) Q) :=
  (sm_blk X 315 434 (tt_lin 315 (by decide)) rfl rfl _ _ _ _).trans rfl
set_option maxRecDepth 100000 in
theorem bk_315_438 (X : (Nat → Int32) × Nat) (mo : Bool) (G : Nat × Nat) (I : Nat → Nat → Int32) (J : Nat → Nat → Int64) (Q : Option Value → sm_M → Prop) (x4 : Int32) :
    sm_wp X 315 438 [some (.retAddr 1), some (.ref 0), some (.ref 81), some (.ref 142), some (.int x4), none, none] [] (sM mo G I J) Q =
    (vp_in (x4 + 1) X.2 ∧ (vp_in (x4 + 2) X.2 ∧ (sm_wp X 174 0 [some (.ref 0), some (.int (X.1 (x4 + 1).toNatClampNeg)), some (.int (X.1 (x4 + 2).toNatClampNeg))] [] (sM mo G I J) (fun v M => sm_wp X 315 454 [some (.retAddr 1), some (.ref 0), some (.ref 81), some (.ref 142), some (.int x4), none, none] (v.toList ++ []) M Q)))) :=
  (sm_blk X 315 438 (tt_lin 315 (by decide)) rfl rfl _ _ _ _).trans rfl
set_option maxRecDepth 100000 in
theorem bk_315_454 (X : (Nat → Int32) × Nat) (mo : Bool) (G : Nat × Nat) (I : Nat → Nat → Int32) (J : Nat → Nat → Int64) (Q : Option Value → sm_M → Prop) (x4 : Int32) (s0 : Int32) :
    sm_wp X 315 454 [some (.retAddr 1), some (.ref 0), some (.ref 81), some (.ref 142), some (.int x4), none, none] [.int s0] (sM mo G I J) Q =
    (vp_in (x4 + 1) X.2 ∧ (vp_in (x4 + 2) X.2 ∧ (sm_wp X 214 0 [some (.ref 81), some (.int (X.1 (x4 + 1).toNatClampNeg)), some (.int (X.1 (x4 + 2).toNatClampNeg))] [] (sM mo G I J) (fun v M => sm_wp X 315 471 [some (.retAddr 1), some (.ref 0), some (.ref 81), some (.ref 142), some (.int x4), none, none] (v.toList ++ []) M Q)))) :=
  (sm_blk X 315 454 (tt_lin 315 (by decide)) rfl rfl _ _ _ _).trans rfl
set_option maxRecDepth 100000 in
theorem bk_315_471 (X : (Nat → Int32) × Nat) (mo : Bool) (G : Nat × Nat) (I : Nat → Nat → Int32) (J : Nat → Nat → Int64) (Q : Option Value → sm_M → Prop) (x4 : Int32) (s0 : Int32) :
    sm_wp X 315 471 [some (.retAddr 1), some (.ref 0), some (.ref 81), some (.ref 142), some (.int x4), none, none] [.int s0] (sM mo G I J) Q =
    (sm_wp X 315 1674 [some (.retAddr 1), some (.ref 0), some (.ref 81), some (.ref 142), some (.int x4), none, none] [] (sM mo G I J) Q) :=
  (sm_blk X 315 471 (tt_lin 315 (by decide)) rfl rfl _ _ _ _).trans rfl
set_option maxRecDepth 100000 in
theorem bk_315_475 (X : (Nat → Int32) × Nat) (mo : Bool) (G : Nat × Nat) (I : Nat → Nat → Int32) (J : Nat → Nat → Int64) (Q : Option Value → sm_M → Prop) (x4 : Int32) :
    sm_wp X 315 475 [some (.retAddr 1), some (.ref 0), some (.ref 81), some (.ref 142), some (.int x4), none, none] [] (sM mo G I J) Q =
    (vp_in (x4 + 1) X.2 ∧ (vp_in (x4 + 2) X.2 ∧ (vp_in (x4 + 3) X.2 ∧ (if (X.1 (x4 + 3).toNatClampNeg : Int32) = 0 then sm_wp X 315 501 [some (.retAddr 1), some (.ref 0), some (.ref 81), some (.ref 142), some (.int x4), none, none] [.int (X.1 (x4 + 2).toNatClampNeg), .int (X.1 (x4 + 1).toNatClampNeg), .ref 0] (sM mo G I J) Q else (sm_wp X 315 502 [some (.retAddr 1), some (.ref 0), some (.ref 81), some (.ref 142), some (.int x4), none, none] [.int 1, .int (X.1 (x4 + 2).toNatClampNeg), .int (X.1 (x4 + 1).toNatClampNeg), .ref 0] (sM mo G I J) Q))))) :=
  (sm_blk X 315 475 (tt_lin 315 (by decide)) rfl rfl _ _ _ _).trans rfl
set_option maxRecDepth 100000 in
theorem bk_315_501 (X : (Nat → Int32) × Nat) (mo : Bool) (G : Nat × Nat) (I : Nat → Nat → Int32) (J : Nat → Nat → Int64) (Q : Option Value → sm_M → Prop) (x4 : Int32) (s1 : Int32) (s2 : Int32) :
    sm_wp X 315 501 [some (.retAddr 1), some (.ref 0), some (.ref 81), some (.ref 142), some (.int x4), none, none] [.int s2, .int s1, .ref 0] (sM mo G I J) Q =
    (sm_wp X 175 0 [some (.ref 0), some (.int s1), some (.int s2), some (.int 0), none] [] (sM mo G I J) (fun v M => sm_wp X 315 505 [some (.retAddr 1), some (.ref 0), some (.ref 81), some (.ref 142), some (.int x4), none, none] (v.toList ++ []) M Q)) :=
  (sm_blk X 315 501 (tt_lin 315 (by decide)) rfl rfl _ _ _ _).trans rfl
set_option maxRecDepth 100000 in
theorem bk_315_502 (X : (Nat → Int32) × Nat) (mo : Bool) (G : Nat × Nat) (I : Nat → Nat → Int32) (J : Nat → Nat → Int64) (Q : Option Value → sm_M → Prop) (x4 : Int32) (s1 : Int32) (s2 : Int32) (s3 : Int32) :
    sm_wp X 315 502 [some (.retAddr 1), some (.ref 0), some (.ref 81), some (.ref 142), some (.int x4), none, none] [.int s3, .int s2, .int s1, .ref 0] (sM mo G I J) Q =
    (sm_wp X 175 0 [some (.ref 0), some (.int s1), some (.int s2), some (.int s3), none] [] (sM mo G I J) (fun v M => sm_wp X 315 505 [some (.retAddr 1), some (.ref 0), some (.ref 81), some (.ref 142), some (.int x4), none, none] (v.toList ++ []) M Q)) :=
  (sm_blk X 315 502 (tt_lin 315 (by decide)) rfl rfl _ _ _ _).trans rfl
set_option maxRecDepth 100000 in
theorem bk_315_505 (X : (Nat → Int32) × Nat) (mo : Bool) (G : Nat × Nat) (I : Nat → Nat → Int32) (J : Nat → Nat → Int64) (Q : Option Value → sm_M → Prop) (x4 : Int32) (s0 : Int32) :
    sm_wp X 315 505 [some (.retAddr 1), some (.ref 0), some (.ref 81), some (.ref 142), some (.int x4), none, none] [.int s0] (sM mo G I J) Q =
    (vp_in (x4 + 1) X.2 ∧ (vp_in (x4 + 2) X.2 ∧ (vp_in (x4 + 3) X.2 ∧ (if (X.1 (x4 + 3).toNatClampNeg : Int32) = 0 then sm_wp X 315 532 [some (.retAddr 1), some (.ref 0), some (.ref 81), some (.ref 142), some (.int x4), none, none] [.int (X.1 (x4 + 2).toNatClampNeg), .int (X.1 (x4 + 1).toNatClampNeg), .ref 81] (sM mo G I J) Q else (sm_wp X 315 533 [some (.retAddr 1), some (.ref 0), some (.ref 81), some (.ref 142), some (.int x4), none, none] [.int 1, .int (X.1 (x4 + 2).toNatClampNeg), .int (X.1 (x4 + 1).toNatClampNeg), .ref 81] (sM mo G I J) Q))))) :=
  (sm_blk X 315 505 (tt_lin 315 (by decide)) rfl rfl _ _ _ _).trans rfl
set_option maxRecDepth 100000 in
theorem bk_315_532 (X : (Nat → Int32) × Nat) (mo : Bool) (G : Nat × Nat) (I : Nat → Nat → Int32) (J : Nat → Nat → Int64) (Q : Option Value → sm_M → Prop) (x4 : Int32) (s1 : Int32) (s2 : Int32) :
    sm_wp X 315 532 [some (.retAddr 1), some (.ref 0), some (.ref 81), some (.ref 142), some (.int x4), none, none] [.int s2, .int s1, .ref 81] (sM mo G I J) Q =
    (sm_wp X 218 0 [some (.ref 81), some (.int s1), some (.int s2), some (.int 0)] [] (sM mo G I J) (fun v M => sm_wp X 315 536 [some (.retAddr 1), some (.ref 0), some (.ref 81), some (.ref 142), some (.int x4), none, none] (v.toList ++ []) M Q)) :=
  (sm_blk X 315 532 (tt_lin 315 (by decide)) rfl rfl _ _ _ _).trans rfl
set_option maxRecDepth 100000 in
theorem bk_315_533 (X : (Nat → Int32) × Nat) (mo : Bool) (G : Nat × Nat) (I : Nat → Nat → Int32) (J : Nat → Nat → Int64) (Q : Option Value → sm_M → Prop) (x4 : Int32) (s1 : Int32) (s2 : Int32) (s3 : Int32) :
    sm_wp X 315 533 [some (.retAddr 1), some (.ref 0), some (.ref 81), some (.ref 142), some (.int x4), none, none] [.int s3, .int s2, .int s1, .ref 81] (sM mo G I J) Q =
    (sm_wp X 218 0 [some (.ref 81), some (.int s1), some (.int s2), some (.int s3)] [] (sM mo G I J) (fun v M => sm_wp X 315 536 [some (.retAddr 1), some (.ref 0), some (.ref 81), some (.ref 142), some (.int x4), none, none] (v.toList ++ []) M Q)) :=
  (sm_blk X 315 533 (tt_lin 315 (by decide)) rfl rfl _ _ _ _).trans rfl
set_option maxRecDepth 100000 in
theorem bk_315_536 (X : (Nat → Int32) × Nat) (mo : Bool) (G : Nat × Nat) (I : Nat → Nat → Int32) (J : Nat → Nat → Int64) (Q : Option Value → sm_M → Prop) (x4 : Int32) (s0 : Int32) :
    sm_wp X 315 536 [some (.retAddr 1), some (.ref 0), some (.ref 81), some (.ref 142), some (.int x4), none, none] [.int s0] (sM mo G I J) Q =
    (sm_wp X 315 1674 [some (.retAddr 1), some (.ref 0), some (.ref 81), some (.ref 142), some (.int x4), none, none] [] (sM mo G I J) Q) :=
  (sm_blk X 315 536 (tt_lin 315 (by decide)) rfl rfl _ _ _ _).trans rfl
set_option maxRecDepth 100000 in
theorem bk_315_540 (X : (Nat → Int32) × Nat) (mo : Bool) (G : Nat × Nat) (I : Nat → Nat → Int32) (J : Nat → Nat → Int64) (Q : Option Value → sm_M → Prop) (x4 : Int32) :
    sm_wp X 315 540 [some (.retAddr 1), some (.ref 0), some (.ref 81), some (.ref 142), some (.int x4), none, none] [] (sM mo G I J) Q =
    (vp_in (x4 + 1) X.2 ∧ (vp_in (x4 + 2) X.2 ∧ (vp_in (x4 + 3) X.2 ∧ (sm_wp X 176 0 [some (.ref 0), some (.int (X.1 (x4 + 1).toNatClampNeg)), some (.int (X.1 (x4 + 2).toNatClampNeg)), some (.int (X.1 (x4 + 3).toNatClampNeg))] [] (sM mo G I J) (fun v M => sm_wp X 315 562 [some (.retAddr 1), some (.ref 0), some (.ref 81), some (.ref 142), some (.int x4), none, none] (v.toList ++ []) M Q))))) :=
  (sm_blk X 315 540 (tt_lin 315 (by decide)) rfl rfl _ _ _ _).trans rfl
set_option maxRecDepth 100000 in
theorem bk_315_562 (X : (Nat → Int32) × Nat) (mo : Bool) (G : Nat × Nat) (I : Nat → Nat → Int32) (J : Nat → Nat → Int64) (Q : Option Value → sm_M → Prop) (x4 : Int32) (s0 : Int32) :
    sm_wp X 315 562 [some (.retAddr 1), some (.ref 0), some (.ref 81), some (.ref 142), some (.int x4), none, none] [.int s0] (sM mo G I J) Q =
    (vp_in (x4 + 1) X.2 ∧ (vp_in (x4 + 2) X.2 ∧ (vp_in (x4 + 3) X.2 ∧ (sm_wp X 220 0 [some (.ref 81), some (.int (X.1 (x4 + 1).toNatClampNeg)), some (.int (X.1 (x4 + 2).toNatClampNeg)), some (.int (X.1 (x4 + 3).toNatClampNeg))] [] (sM mo G I J) (fun v M => sm_wp X 315 585 [some (.retAddr 1), some (.ref 0), some (.ref 81), some (.ref 142), some (.int x4), none, none] (v.toList ++ []) M Q))))) :=
  (sm_blk X 315 562 (tt_lin 315 (by decide)) rfl rfl _ _ _ _).trans rfl
set_option maxRecDepth 100000 in
theorem bk_315_585 (X : (Nat → Int32) × Nat) (mo : Bool) (G : Nat × Nat) (I : Nat → Nat → Int32) (J : Nat → Nat → Int64) (Q : Option Value → sm_M → Prop) (x4 : Int32) (s0 : Int32) :
    sm_wp X 315 585 [some (.retAddr 1), some (.ref 0), some (.ref 81), some (.ref 142), some (.int x4), none, none] [.int s0] (sM mo G I J) Q =
    (sm_wp X 315 1674 [some (.retAddr 1), some (.ref 0), some (.ref 81), some (.ref 142), some (.int x4), none, none] [] (sM mo G I J) Q) :=
  (sm_blk X 315 585 (tt_lin 315 (by decide)) rfl rfl _ _ _ _).trans rfl
set_option maxRecDepth 100000 in
theorem bk_315_589 (X : (Nat → Int32) × Nat) (mo : Bool) (G : Nat × Nat) (I : Nat → Nat → Int32) (J : Nat → Nat → Int64) (Q : Option Value → sm_M → Prop) (x4 : Int32) :
    sm_wp X 315 589 [some (.retAddr 1), some (.ref 0), some (.ref 81), some (.ref 142), some (.int x4), none, none] [] (sM mo G I J) Q =
    (vp_in (x4 + 1) X.2 ∧ (vp_in (x4 + 2) X.2 ∧ (sm_wp X 177 0 [some (.ref 0), some (.int (X.1 (x4 + 1).toNatClampNeg)), some (.int (X.1 (x4 + 2).toNatClampNeg))] [] (sM mo G I J) (fun v M => sm_wp X 315 605 [some (.retAddr 1), some (.ref 0), some (.ref 81), some (.ref 142), some (.int x4), none, none] (v.toList ++ []) M Q)))) :=
  (sm_blk X 315 589 (tt_lin 315 (by decide)) rfl rfl _ _ _ _).trans rfl
set_option maxRecDepth 100000 in
theorem bk_315_605 (X : (Nat → Int32) × Nat) (mo : Bool) (G : Nat × Nat) (I : Nat → Nat → Int32) (J : Nat → Nat → Int64) (Q : Option Value → sm_M → Prop) (x4 : Int32) (s0 : Int32) :
    sm_wp X 315 605 [some (.retAddr 1), some (.ref 0), some (.ref 81), some (.ref 142), some (.int x4), none, none] [.int s0] (sM mo G I J) Q =
    (vp_in (x4 + 1) X.2 ∧ (vp_in (x4 + 2) X.2 ∧ (sm_wp X 221 0 [some (.ref 81), some (.int (X.1 (x4 + 1).toNatClampNeg)), some (.int (X.1 (x4 + 2).toNatClampNeg))] [] (sM mo G I J) (fun v M => sm_wp X 315 622 [some (.retAddr 1), some (.ref 0), some (.ref 81), some (.ref 142), some (.int x4), none, none] (v.toList ++ []) M Q)))) :=
  (sm_blk X 315 605 (tt_lin 315 (by decide)) rfl rfl _ _ _ _).trans rfl
set_option maxRecDepth 100000 in
theorem bk_315_622 (X : (Nat → Int32) × Nat) (mo : Bool) (G : Nat × Nat) (I : Nat → Nat → Int32) (J : Nat → Nat → Int64) (Q : Option Value → sm_M → Prop) (x4 : Int32) (s0 : Int32) :
    sm_wp X 315 622 [some (.retAddr 1), some (.ref 0), some (.ref 81), some (.ref 142), some (.int x4), none, none] [.int s0] (sM mo G I J) Q =
    (sm_wp X 315 1674 [some (.retAddr 1), some (.ref 0), some (.ref 81), some (.ref 142), some (.int x4), none, none] [] (sM mo G I J) Q) :=
  (sm_blk X 315 622 (tt_lin 315 (by decide)) rfl rfl _ _ _ _).trans rfl
set_option maxRecDepth 100000 in
theorem bk_315_626 (X : (Nat → Int32) × Nat) (mo : Bool) (G : Nat × Nat) (I : Nat → Nat → Int32) (J : Nat → Nat → Int64) (Q : Option Value → sm_M → Prop) (x4 : Int32) :
    sm_wp X 315 626 [some (.retAddr 1), some (.ref 0), some (.ref 81), some (.ref 142), some (.int x4), none, none] [] (sM mo G I J) Q =
    (vp_in (x4 + 1) X.2 ∧ (vp_in (x4 + 2) X.2 ∧ (vp_in (x4 + 3) X.2 ∧ (vp_in (x4 + 4) X.2 ∧ (vp_in (x4 + 5) X.2 ∧ (vp_in (x4 + 6) X.2 ∧ (sm_wp X 178 0 [some (.ref 0), some (.int (X.1 (x4 + 1).toNatClampNeg)), some (.int (X.1 (x4 + 2).toNatClampNeg)), some (.int (X.1 (x4 + 3).toNatClampNeg)), some (.int (X.1 (x4 + 4).toNatClampNeg)), some (.int (X.1 (x4 + 5).toNatClampNeg)), some (.int (X.1 (x4 + 6).toNatClampNeg)), none, none] [] (sM mo G I J) (fun v M => sm_wp X 315 667 [some (.retAddr 1), some (.ref 0), some (.ref 81), some (.ref 142), some (.int x4), none, none] (v.toList ++ []) M Q)))))))) :=
  (sm_blk X 315 626 (tt_lin 315 (by decide)) rfl rfl _ _ _ _).trans rfl
set_option maxRecDepth 100000 in
theorem bk_315_667 (X : (Nat → Int32) × Nat) (mo : Bool) (G : Nat × Nat) (I : Nat → Nat → Int32) (J : Nat → Nat → Int64) (Q : Option Value → sm_M → Prop) (x4 : Int32) (s0 : Int32) :
    sm_wp X 315 667 [some (.retAddr 1), some (.ref 0), some (.ref 81), some (.ref 142), some (.int x4), none, none] [.int s0] (sM mo G I J) Q =
    (vp_in (x4 + 1) X.2 ∧ (vp_in (x4 + 2) X.2 ∧ (vp_in (x4 + 3) X.2 ∧ (vp_in (x4 + 4) X.2 ∧ (vp_in (x4 + 5) X.2 ∧ (vp_in (x4 + 6) X.2 ∧ (sm_wp X 247 0 [some (.ref 81), some (.int (X.1 (x4 + 1).toNatClampNeg)), some (.int (X.1 (x4 + 2).toNatClampNeg)), some (.int (X.1 (x4 + 3).toNatClampNeg)), some (.int (X.1 (x4 + 4).toNatClampNeg)), some (.int (X.1 (x4 + 5).toNatClampNeg)), some (.int (X.1 (x4 + 6).toNatClampNeg))] [] (sM mo G I J) (fun v M => sm_wp X 315 709 [some (.retAddr 1), some (.ref 0), some (.ref 81), some (.ref 142), some (.int x4), none, none] (v.toList ++ []) M Q)))))))) :=
  (sm_blk X 315 667 (tt_lin 315 (by decide)) rfl rfl _ _ _ _).trans rfl
set_option maxRecDepth 100000 in
theorem bk_315_709 (X : (Nat → Int32) × Nat) (mo : Bool) (G : Nat × Nat) (I : Nat → Nat → Int32) (J : Nat → Nat → Int64) (Q : Option Value → sm_M → Prop) (x4 : Int32) (s0 : Int32) :
    sm_wp X 315 709 [some (.retAddr 1), some (.ref 0), some (.ref 81), some (.ref 142), some (.int x4), none, none] [.int s0] (sM mo G I J) Q =
    (sm_wp X 315 1674 [some (.retAddr 1), some (.ref 0), some (.ref 81), some (.ref 142), some (.int x4), none, none] [] (sM mo G I J) Q) :=
  (sm_blk X 315 709 (tt_lin 315 (by decide)) rfl rfl _ _ _ _).trans rfl
set_option maxRecDepth 100000 in
theorem bk_315_713 (X : (Nat → Int32) × Nat) (mo : Bool) (G : Nat × Nat) (I : Nat → Nat → Int32) (J : Nat → Nat → Int64) (Q : Option Value → sm_M → Prop) (x4 : Int32) :
    sm_wp X 315 713 [some (.retAddr 1), some (.ref 0), some (.ref 81), some (.ref 142), some (.int x4), none, none] [] (sM mo G I J) Q =
    (vp_in (x4 + 1) X.2 ∧ (vp_in (x4 + 2) X.2 ∧ (vp_in (x4 + 3) X.2 ∧ (sm_wp X 179 0 [some (.ref 0), some (.int (X.1 (x4 + 1).toNatClampNeg)), some (.int (X.1 (x4 + 2).toNatClampNeg)), some (.int (X.1 (x4 + 3).toNatClampNeg)), none] [] (sM mo G I J) (fun v M => sm_wp X 315 735 [some (.retAddr 1), some (.ref 0), some (.ref 81), some (.ref 142), some (.int x4), none, none] (v.toList ++ []) M Q))))) :=
  (sm_blk X 315 713 (tt_lin 315 (by decide)) rfl rfl _ _ _ _).trans rfl
set_option maxRecDepth 100000 in
theorem bk_315_735 (X : (Nat → Int32) × Nat) (mo : Bool) (G : Nat × Nat) (I : Nat → Nat → Int32) (J : Nat → Nat → Int64) (Q : Option Value → sm_M → Prop) (x4 : Int32) (s0 : Int32) :
    sm_wp X 315 735 [some (.retAddr 1), some (.ref 0), some (.ref 81), some (.ref 142), some (.int x4), none, none] [.int s0] (sM mo G I J) Q =
    (vp_in (x4 + 1) X.2 ∧ (vp_in (x4 + 2) X.2 ∧ (vp_in (x4 + 3) X.2 ∧ (sm_wp X 249 0 [some (.ref 81), some (.int (X.1 (x4 + 1).toNatClampNeg)), some (.int (X.1 (x4 + 2).toNatClampNeg)), some (.int (X.1 (x4 + 3).toNatClampNeg)), none, none] [] (sM mo G I J) (fun v M => sm_wp X 315 758 [some (.retAddr 1), some (.ref 0), some (.ref 81), some (.ref 142), some (.int x4), none, none] (v.toList ++ []) M Q))))) :=
  (sm_blk X 315 735 (tt_lin 315 (by decide)) rfl rfl _ _ _ _).trans rfl
set_option maxRecDepth 100000 in
theorem bk_315_758 (X : (Nat → Int32) × Nat) (mo : Bool) (G : Nat × Nat) (I : Nat → Nat → Int32) (J : Nat → Nat → Int64) (Q : Option Value → sm_M → Prop) (x4 : Int32) (s0 : Int32) :
    sm_wp X 315 758 [some (.retAddr 1), some (.ref 0), some (.ref 81), some (.ref 142), some (.int x4), none, none] [.int s0] (sM mo G I J) Q =
    (sm_wp X 315 1674 [some (.retAddr 1), some (.ref 0), some (.ref 81), some (.ref 142), some (.int x4), none, none] [] (sM mo G I J) Q) :=
  (sm_blk X 315 758 (tt_lin 315 (by decide)) rfl rfl _ _ _ _).trans rfl
set_option maxRecDepth 100000 in
theorem bk_315_762 (X : (Nat → Int32) × Nat) (mo : Bool) (G : Nat × Nat) (I : Nat → Nat → Int32) (J : Nat → Nat → Int64) (Q : Option Value → sm_M → Prop) (x4 : Int32) :
    sm_wp X 315 762 [some (.retAddr 1), some (.ref 0), some (.ref 81), some (.ref 142), some (.int x4), none, none] [] (sM mo G I J) Q =
    (vp_in (x4 + 1) X.2 ∧ (vp_in (x4 + 2) X.2 ∧ (vp_in (x4 + 3) X.2 ∧ (vp_in (x4 + 4) X.2 ∧ (sm_wp X 181 0 [some (.ref 0), some (.int (X.1 (x4 + 1).toNatClampNeg)), some (.int (X.1 (x4 + 2).toNatClampNeg)), some (.int (X.1 (x4 + 3).toNatClampNeg)), some (.int (X.1 (x4 + 4).toNatClampNeg))] [] (sM mo G I J) (fun v M => sm_wp X 315 790 [some (.retAddr 1), some (.ref 0), some (.ref 81), some (.ref 142), some (.int x4), none, none] (v.toList ++ []) M Q)))))) :=
  (sm_blk X 315 762 (tt_lin 315 (by decide)) rfl rfl _ _ _ _).trans rfl
set_option maxRecDepth 100000 in
theorem bk_315_790 (X : (Nat → Int32) × Nat) (mo : Bool) (G : Nat × Nat) (I : Nat → Nat → Int32) (J : Nat → Nat → Int64) (Q : Option Value → sm_M → Prop) (x4 : Int32) (s0 : Int32) :
    sm_wp X 315 790 [some (.retAddr 1), some (.ref 0), some (.ref 81), some (.ref 142), some (.int x4), none, none] [.int s0] (sM mo G I J) Q =
    (vp_in (x4 + 1) X.2 ∧ (vp_in (x4 + 2) X.2 ∧ (vp_in (x4 + 3) X.2 ∧ (vp_in (x4 + 4) X.2 ∧ (sm_wp X 250 0 [some (.ref 81), some (.int (X.1 (x4 + 1).toNatClampNeg)), some (.int (X.1 (x4 + 2).toNatClampNeg)), some (.int (X.1 (x4 + 3).toNatClampNeg)), some (.int (X.1 (x4 + 4).toNatClampNeg))] [] (sM mo G I J) (fun v M => sm_wp X 315 819 [some (.retAddr 1), some (.ref 0), some (.ref 81), some (.ref 142), some (.int x4), none, none] (v.toList ++ []) M Q)))))) :=
  (sm_blk X 315 790 (tt_lin 315 (by decide)) rfl rfl _ _ _ _).trans rfl
set_option maxRecDepth 100000 in
theorem bk_315_819 (X : (Nat → Int32) × Nat) (mo : Bool) (G : Nat × Nat) (I : Nat → Nat → Int32) (J : Nat → Nat → Int64) (Q : Option Value → sm_M → Prop) (x4 : Int32) (s0 : Int32) :
    sm_wp X 315 819 [some (.retAddr 1), some (.ref 0), some (.ref 81), some (.ref 142), some (.int x4), none, none] [.int s0] (sM mo G I J) Q =
    (sm_wp X 315 1674 [some (.retAddr 1), some (.ref 0), some (.ref 81), some (.ref 142), some (.int x4), none, none] [] (sM mo G I J) Q) :=
  (sm_blk X 315 819 (tt_lin 315 (by decide)) rfl rfl _ _ _ _).trans rfl
set_option maxRecDepth 100000 in
theorem bk_315_823 (X : (Nat → Int32) × Nat) (mo : Bool) (G : Nat × Nat) (I : Nat → Nat → Int32) (J : Nat → Nat → Int64) (Q : Option Value → sm_M → Prop) (x4 : Int32) :
    sm_wp X 315 823 [some (.retAddr 1), some (.ref 0), some (.ref 81), some (.ref 142), some (.int x4), none, none] [] (sM mo G I J) Q =
    (vp_in (x4 + 1) X.2 ∧ (sm_wp X 182 0 [some (.ref 0), some (.int (X.1 (x4 + 1).toNatClampNeg)), none] [] (sM mo G I J) (fun v M => sm_wp X 315 833 [some (.retAddr 1), some (.ref 0), some (.ref 81), some (.ref 142), some (.int x4), none, none] (v.toList ++ []) M Q))) :=
  (sm_blk X 315 823 (tt_lin 315 (by decide)) rfl rfl _ _ _ _).trans rfl
set_option maxRecDepth 100000 in
theorem bk_315_833 (X : (Nat → Int32) × Nat) (mo : Bool) (G : Nat × Nat) (I : Nat → Nat → Int32) (J : Nat → Nat → Int64) (Q : Option Value → sm_M → Prop) (x4 : Int32) (s0 : Int32) :
    sm_wp X 315 833 [some (.retAddr 1), some (.ref 0), some (.ref 81), some (.ref 142), some (.int x4), none, none] [.int s0] (sM mo G I J) Q =
    (vp_in (x4 + 1) X.2 ∧ (sm_wp X 251 0 [some (.ref 81), some (.int (X.1 (x4 + 1).toNatClampNeg)), none, none] [] (sM mo G I J) (fun v M => sm_wp X 315 844 [some (.retAddr 1), some (.ref 0), some (.ref 81), some (.ref 142), some (.int x4), none, none] (v.toList ++ []) M Q))) :=
  (sm_blk X 315 833 (tt_lin 315 (by decide)) rfl rfl _ _ _ _).trans rfl
set_option maxRecDepth 100000 in
theorem bk_315_844 (X : (Nat → Int32) × Nat) (mo : Bool) (G : Nat × Nat) (I : Nat → Nat → Int32) (J : Nat → Nat → Int64) (Q : Option Value → sm_M → Prop) (x4 : Int32) (s0 : Int32) :
    sm_wp X 315 844 [some (.retAddr 1), some (.ref 0), some (.ref 81), some (.ref 142), some (.int x4), none, none] [.int s0] (sM mo G I J) Q =
    (sm_wp X 315 1674 [some (.retAddr 1), some (.ref 0), some (.ref 81), some (.ref 142), some (.int x4), none, none] [] (sM mo G I J) Q) :=
  (sm_blk X 315 844 (tt_lin 315 (by decide)) rfl rfl _ _ _ _).trans rfl
set_option maxRecDepth 100000 in
theorem bk_315_848 (X : (Nat → Int32) × Nat) (mo : Bool) (G : Nat × Nat) (I : Nat → Nat → Int32) (J : Nat → Nat → Int64) (Q : Option Value → sm_M → Prop) (x4 : Int32) :
    sm_wp X 315 848 [some (.retAddr 1), some (.ref 0), some (.ref 81), some (.ref 142), some (.int x4), none, none] [] (sM mo G I J) Q =
    (vp_in (x4 + 1) X.2 ∧ (vp_in (x4 + 2) X.2 ∧ (sm_wp X 183 0 [some (.ref 0), some (.int (X.1 (x4 + 1).toNatClampNeg)), some (.int (X.1 (x4 + 2).toNatClampNeg))] [] (sM mo G I J) (fun v M => sm_wp X 315 864 [some (.retAddr 1), some (.ref 0), some (.ref 81), some (.ref 142), some (.int x4), none, none] (v.toList ++ []) M Q)))) :=
  (sm_blk X 315 848 (tt_lin 315 (by decide)) rfl rfl _ _ _ _).trans rfl
set_option maxRecDepth 100000 in
theorem bk_315_864 (X : (Nat → Int32) × Nat) (mo : Bool) (G : Nat × Nat) (I : Nat → Nat → Int32) (J : Nat → Nat → Int64) (Q : Option Value → sm_M → Prop) (x4 : Int32) (s0 : Int32) :
    sm_wp X 315 864 [some (.retAddr 1), some (.ref 0), some (.ref 81), some (.ref 142), some (.int x4), none, none] [.int s0] (sM mo G I J) Q =
    (vp_in (x4 + 1) X.2 ∧ (vp_in (x4 + 2) X.2 ∧ (sm_wp X 268 0 [some (.ref 81), some (.int (X.1 (x4 + 1).toNatClampNeg)), some (.int (X.1 (x4 + 2).toNatClampNeg))] [] (sM mo G I J) (fun v M => sm_wp X 315 881 [some (.retAddr 1), some (.ref 0), some (.ref 81), some (.ref 142), some (.int x4), none, none] (v.toList ++ []) M Q)))) :=
  (sm_blk X 315 864 (tt_lin 315 (by decide)) rfl rfl _ _ _ _).trans rfl
set_option maxRecDepth 100000 in
theorem bk_315_881 (X : (Nat → Int32) × Nat) (mo : Bool) (G : Nat × Nat) (I : Nat → Nat → Int32) (J : Nat → Nat → Int64) (Q : Option Value → sm_M → Prop) (x4 : Int32) (s0 : Int32) :
    sm_wp X 315 881 [some (.retAddr 1), some (.ref 0), some (.ref 81), some (.ref 142), some (.int x4), none, none] [.int s0] (sM mo G I J) Q =
    (sm_wp X 315 1674 [some (.retAddr 1), some (.ref 0), some (.ref 81), some (.ref 142), some (.int x4), none, none] [] (sM mo G I J) Q) :=
  (sm_blk X 315 881 (tt_lin 315 (by decide)) rfl rfl _ _ _ _).trans rfl
set_option maxRecDepth 100000 in
theorem bk_315_885 (X : (Nat → Int32) × Nat) (mo : Bool) (G : Nat × Nat) (I : Nat → Nat → Int32) (J : Nat → Nat → Int64) (Q : Option Value → sm_M → Prop) (x4 : Int32) :
    sm_wp X 315 885 [some (.retAddr 1), some (.ref 0), some (.ref 81), some (.ref 142), some (.int x4), none, none] [] (sM mo G I J) Q =
    (vp_in (x4 + 1) X.2 ∧ (sm_wp X 184 0 [some (.ref 0), some (.int (X.1 (x4 + 1).toNatClampNeg))] [] (sM mo G I J) (fun v M => sm_wp X 315 895 [some (.retAddr 1), some (.ref 0), some (.ref 81), some (.ref 142), some (.int x4), none, none] (v.toList ++ []) M Q))) :=
  (sm_blk X 315 885 (tt_lin 315 (by decide)) rfl rfl _ _ _ _).trans rfl
set_option maxRecDepth 100000 in
theorem bk_315_895 (X : (Nat → Int32) × Nat) (mo : Bool) (G : Nat × Nat) (I : Nat → Nat → Int32) (J : Nat → Nat → Int64) (Q : Option Value → sm_M → Prop) (x4 : Int32) (s0 : Int32) :
    sm_wp X 315 895 [some (.retAddr 1), some (.ref 0), some (.ref 81), some (.ref 142), some (.int x4), none, none] [.int s0] (sM mo G I J) Q =
    (vp_in (x4 + 1) X.2 ∧ (sm_wp X 269 0 [some (.ref 81), some (.int (X.1 (x4 + 1).toNatClampNeg))] [] (sM mo G I J) (fun v M => sm_wp X 315 906 [some (.retAddr 1), some (.ref 0), some (.ref 81), some (.ref 142), some (.int x4), none, none] (v.toList ++ []) M Q))) :=
  (sm_blk X 315 895 (tt_lin 315 (by decide)) rfl rfl _ _ _ _).trans rfl
set_option maxRecDepth 100000 in
theorem bk_315_906 (X : (Nat → Int32) × Nat) (mo : Bool) (G : Nat × Nat) (I : Nat → Nat → Int32) (J : Nat → Nat → Int64) (Q : Option Value → sm_M → Prop) (x4 : Int32) (s0 : Int32) :
    sm_wp X 315 906 [some (.retAddr 1), some (.ref 0), some (.ref 81), some (.ref 142), some (.int x4), none, none] [.int s0] (sM mo G I J) Q =
    (sm_wp X 315 1674 [some (.retAddr 1), some (.ref 0), some (.ref 81), some (.ref 142), some (.int x4), none, none] [] (sM mo G I J) Q) :=
  (sm_blk X 315 906 (tt_lin 315 (by decide)) rfl rfl _ _ _ _).trans rfl
set_option maxRecDepth 100000 in
theorem bk_315_910 (X : (Nat → Int32) × Nat) (mo : Bool) (G : Nat × Nat) (I : Nat → Nat → Int32) (J : Nat → Nat → Int64) (Q : Option Value → sm_M → Prop) (x4 : Int32) :
    sm_wp X 315 910 [some (.retAddr 1), some (.ref 0), some (.ref 81), some (.ref 142), some (.int x4), none, none] [] (sM mo G I J) Q =
    (vp_in (x4 + 1) X.2 ∧ (vp_in (x4 + 2) X.2 ∧ (sm_wp X 185 0 [some (.ref 0), some (.int (X.1 (x4 + 1).toNatClampNeg)), some (.int (X.1 (x4 + 2).toNatClampNeg))] [] (sM mo G I J) (fun v M => sm_wp X 315 926 [some (.retAddr 1), some (.ref 0), some (.ref 81), some (.ref 142), some (.int x4), none, none] (v.toList ++ []) M Q)))) :=
  (sm_blk X 315 910 (tt_lin 315 (by decide)) rfl rfl _ _ _ _).trans rfl
set_option maxRecDepth 100000 in
theorem bk_315_926 (X : (Nat → Int32) × Nat) (mo : Bool) (G : Nat × Nat) (I : Nat → Nat → Int32) (J : Nat → Nat → Int64) (Q : Option Value → sm_M → Prop) (x4 : Int32) (s0 : Int64) :
    sm_wp X 315 926 [some (.retAddr 1), some (.ref 0), some (.ref 81), some (.ref 142), some (.int x4), none, none] [.long s0] (sM mo G I J) Q =
    (vp_in (x4 + 1) X.2 ∧ (vp_in (x4 + 2) X.2 ∧ (sm_wp X 270 0 [some (.ref 81), some (.int (X.1 (x4 + 1).toNatClampNeg)), some (.int (X.1 (x4 + 2).toNatClampNeg))] [] (sM mo G I J) (fun v M => sm_wp X 315 943 [some (.retAddr 1), some (.ref 0), some (.ref 81), some (.ref 142), some (.int x4), none, none] (v.toList ++ []) M Q)))) :=
  (sm_blk X 315 926 (tt_lin 315 (by decide)) rfl rfl _ _ _ _).trans rfl
set_option maxRecDepth 100000 in
theorem bk_315_943 (X : (Nat → Int32) × Nat) (mo : Bool) (G : Nat × Nat) (I : Nat → Nat → Int32) (J : Nat → Nat → Int64) (Q : Option Value → sm_M → Prop) (x4 : Int32) (s0 : Int64) :
    sm_wp X 315 943 [some (.retAddr 1), some (.ref 0), some (.ref 81), some (.ref 142), some (.int x4), none, none] [.long s0] (sM mo G I J) Q =
    (sm_wp X 315 1674 [some (.retAddr 1), some (.ref 0), some (.ref 81), some (.ref 142), some (.int x4), none, none] [] (sM mo G I J) Q) :=
  (sm_blk X 315 943 (tt_lin 315 (by decide)) rfl rfl _ _ _ _).trans rfl
set_option maxRecDepth 100000 in
theorem bk_315_947 (X : (Nat → Int32) × Nat) (mo : Bool) (G : Nat × Nat) (I : Nat → Nat → Int32) (J : Nat → Nat → Int64) (Q : Option Value → sm_M → Prop) (x4 : Int32) :
    sm_wp X 315 947 [some (.retAddr 1), some (.ref 0), some (.ref 81), some (.ref 142), some (.int x4), none, none] [] (sM mo G I J) Q =
    (vp_in (x4 + 1) X.2 ∧ (vp_in (x4 + 2) X.2 ∧ (sm_wp X 186 0 [some (.ref 0), some (.int (X.1 (x4 + 1).toNatClampNeg)), some (.int (X.1 (x4 + 2).toNatClampNeg)), none] [] (sM mo G I J) (fun v M => sm_wp X 315 963 [some (.retAddr 1), some (.ref 0), some (.ref 81), some (.ref 142), some (.int x4), none, none] (v.toList ++ []) M Q)))) :=
  (sm_blk X 315 947 (tt_lin 315 (by decide)) rfl rfl _ _ _ _).trans rfl
set_option maxRecDepth 100000 in
theorem bk_315_963 (X : (Nat → Int32) × Nat) (mo : Bool) (G : Nat × Nat) (I : Nat → Nat → Int32) (J : Nat → Nat → Int64) (Q : Option Value → sm_M → Prop) (x4 : Int32) (s0 : Int32) :
    sm_wp X 315 963 [some (.retAddr 1), some (.ref 0), some (.ref 81), some (.ref 142), some (.int x4), none, none] [.int s0] (sM mo G I J) Q =
    (vp_in (x4 + 1) X.2 ∧ (vp_in (x4 + 2) X.2 ∧ (sm_wp X 271 0 [some (.ref 81), some (.int (X.1 (x4 + 1).toNatClampNeg)), some (.int (X.1 (x4 + 2).toNatClampNeg)), none] [] (sM mo G I J) (fun v M => sm_wp X 315 980 [some (.retAddr 1), some (.ref 0), some (.ref 81), some (.ref 142), some (.int x4), none, none] (v.toList ++ []) M Q)))) :=
  (sm_blk X 315 963 (tt_lin 315 (by decide)) rfl rfl _ _ _ _).trans rfl
set_option maxRecDepth 100000 in
theorem bk_315_980 (X : (Nat → Int32) × Nat) (mo : Bool) (G : Nat × Nat) (I : Nat → Nat → Int32) (J : Nat → Nat → Int64) (Q : Option Value → sm_M → Prop) (x4 : Int32) (s0 : Int32) :
    sm_wp X 315 980 [some (.retAddr 1), some (.ref 0), some (.ref 81), some (.ref 142), some (.int x4), none, none] [.int s0] (sM mo G I J) Q =
    (sm_wp X 315 1674 [some (.retAddr 1), some (.ref 0), some (.ref 81), some (.ref 142), some (.int x4), none, none] [] (sM mo G I J) Q) :=
  (sm_blk X 315 980 (tt_lin 315 (by decide)) rfl rfl _ _ _ _).trans rfl
set_option maxRecDepth 100000 in
theorem bk_315_984 (X : (Nat → Int32) × Nat) (mo : Bool) (G : Nat × Nat) (I : Nat → Nat → Int32) (J : Nat → Nat → Int64) (Q : Option Value → sm_M → Prop) (x4 : Int32) :
    sm_wp X 315 984 [some (.retAddr 1), some (.ref 0), some (.ref 81), some (.ref 142), some (.int x4), none, none] [] (sM mo G I J) Q =
    (vp_in (x4 + 1) X.2 ∧ (vp_in (x4 + 2) X.2 ∧ (vp_in (x4 + 3) X.2 ∧ (sm_wp X 187 0 [some (.ref 0), some (.int (X.1 (x4 + 1).toNatClampNeg)), some (.int (X.1 (x4 + 2).toNatClampNeg)), some (.int (X.1 (x4 + 3).toNatClampNeg))] [] (sM mo G I J) (fun v M => sm_wp X 315 1006 [some (.retAddr 1), some (.ref 0), some (.ref 81), some (.ref 142), some (.int x4), none, none] (v.toList ++ []) M Q))))) :=
  (sm_blk X 315 984 (tt_lin 315 (by decide)) rfl rfl _ _ _ _).trans rfl
set_option maxRecDepth 100000 in
theorem bk_315_1006 (X : (Nat → Int32) × Nat) (mo : Bool) (G : Nat × Nat) (I : Nat → Nat → Int32) (J : Nat → Nat → Int64) (Q : Option Value → sm_M → Prop) (x4 : Int32) (s0 : Int32) :
    sm_wp X 315 1006 [some (.retAddr 1), some (.ref 0), some (.ref 81), some (.ref 142), some (.int x4), none, none] [.int s0] (sM mo G I J) Q =
    (vp_in (x4 + 1) X.2 ∧ (vp_in (x4 + 2) X.2 ∧ (vp_in (x4 + 3) X.2 ∧ (sm_wp X 273 0 [some (.ref 81), some (.int (X.1 (x4 + 1).toNatClampNeg)), some (.int (X.1 (x4 + 2).toNatClampNeg)), some (.int (X.1 (x4 + 3).toNatClampNeg)), none, none, none] [] (sM mo G I J) (fun v M => sm_wp X 315 1029 [some (.retAddr 1), some (.ref 0), some (.ref 81), some (.ref 142), some (.int x4), none, none] (v.toList ++ []) M Q))))) :=
  (sm_blk X 315 1006 (tt_lin 315 (by decide)) rfl rfl _ _ _ _).trans rfl
set_option maxRecDepth 100000 in
theorem bk_315_1029 (X : (Nat → Int32) × Nat) (mo : Bool) (G : Nat × Nat) (I : Nat → Nat → Int32) (J : Nat → Nat → Int64) (Q : Option Value → sm_M → Prop) (x4 : Int32) (s0 : Int32) :
    sm_wp X 315 1029 [some (.retAddr 1), some (.ref 0), some (.ref 81), some (.ref 142), some (.int x4), none, none] [.int s0] (sM mo G I J) Q =
    (sm_wp X 315 1674 [some (.retAddr 1), some (.ref 0), some (.ref 81), some (.ref 142), some (.int x4), none, none] [] (sM mo G I J) Q) :=
  (sm_blk X 315 1029 (tt_lin 315 (by decide)) rfl rfl _ _ _ _).trans rfl
set_option maxRecDepth 100000 in
theorem bk_315_1033 (X : (Nat → Int32) × Nat) (mo : Bool) (G : Nat × Nat) (I : Nat → Nat → Int32) (J : Nat → Nat → Int64) (Q : Option Value → sm_M → Prop) (x4 : Int32) :
    sm_wp X 315 1033 [some (.retAddr 1), some (.ref 0), some (.ref 81), some (.ref 142), some (.int x4), none, none] [] (sM mo G I J) Q =
    (vp_in (x4 + 1) X.2 ∧ (sm_wp X 188 0 [some (.ref 0), some (.int (X.1 (x4 + 1).toNatClampNeg))] [] (sM mo G I J) (fun v M => sm_wp X 315 1043 [some (.retAddr 1), some (.ref 0), some (.ref 81), some (.ref 142), some (.int x4), none, none] (v.toList ++ []) M Q))) :=
  (sm_blk X 315 1033 (tt_lin 315 (by decide)) rfl rfl _ _ _ _).trans rfl
set_option maxRecDepth 100000 in
theorem bk_315_1043 (X : (Nat → Int32) × Nat) (mo : Bool) (G : Nat × Nat) (I : Nat → Nat → Int32) (J : Nat → Nat → Int64) (Q : Option Value → sm_M → Prop) (x4 : Int32) (s0 : Int32) :
    sm_wp X 315 1043 [some (.retAddr 1), some (.ref 0), some (.ref 81), some (.ref 142), some (.int x4), none, none] [.int s0] (sM mo G I J) Q =
    (vp_in (x4 + 1) X.2 ∧ (sm_wp X 222 0 [some (.ref 81), some (.int (X.1 (x4 + 1).toNatClampNeg))] [] (sM mo G I J) (fun v M => sm_wp X 315 1054 [some (.retAddr 1), some (.ref 0), some (.ref 81), some (.ref 142), some (.int x4), none, none] (v.toList ++ []) M Q))) :=
  (sm_blk X 315 1043 (tt_lin 315 (by decide)) rfl rfl _ _ _ _).trans rfl
set_option maxRecDepth 100000 in
theorem bk_315_1054 (X : (Nat → Int32) × Nat) (mo : Bool) (G : Nat × Nat) (I : Nat → Nat → Int32) (J : Nat → Nat → Int64) (Q : Option Value → sm_M → Prop) (x4 : Int32) (s0 : Int32) :
    sm_wp X 315 1054 [some (.retAddr 1), some (.ref 0), some (.ref 81), some (.ref 142), some (.int x4), none, none] [.int s0] (sM mo G I J) Q =
    (sm_wp X 315 1674 [some (.retAddr 1), some (.ref 0), some (.ref 81), some (.ref 142), some (.int x4), none, none] [] (sM mo G I J) Q) :=
  (sm_blk X 315 1054 (tt_lin 315 (by decide)) rfl rfl _ _ _ _).trans rfl
set_option maxRecDepth 100000 in
theorem bk_315_1058 (X : (Nat → Int32) × Nat) (mo : Bool) (G : Nat × Nat) (I : Nat → Nat → Int32) (J : Nat → Nat → Int64) (Q : Option Value → sm_M → Prop) (x4 : Int32) :
    sm_wp X 315 1058 [some (.retAddr 1), some (.ref 0), some (.ref 81), some (.ref 142), some (.int x4), none, none] [] (sM mo G I J) Q =
    (vp_in (x4 + 1) X.2 ∧ (sm_wp X 189 0 [some (.ref 0), some (.int (X.1 (x4 + 1).toNatClampNeg))] [] (sM mo G I J) (fun v M => sm_wp X 315 1068 [some (.retAddr 1), some (.ref 0), some (.ref 81), some (.ref 142), some (.int x4), none, none] (v.toList ++ []) M Q))) :=
  (sm_blk X 315 1058 (tt_lin 315 (by decide)) rfl rfl _ _ _ _).trans rfl
set_option maxRecDepth 100000 in
theorem bk_315_1068 (X : (Nat → Int32) × Nat) (mo : Bool) (G : Nat × Nat) (I : Nat → Nat → Int32) (J : Nat → Nat → Int64) (Q : Option Value → sm_M → Prop) (x4 : Int32) (s0 : Int32) :
    sm_wp X 315 1068 [some (.retAddr 1), some (.ref 0), some (.ref 81), some (.ref 142), some (.int x4), none, none] [.int s0] (sM mo G I J) Q =
    (vp_in (x4 + 1) X.2 ∧ (sm_wp X 274 0 [some (.ref 81), some (.int (X.1 (x4 + 1).toNatClampNeg)), none, none] [] (sM mo G I J) (fun v M => sm_wp X 315 1079 [some (.retAddr 1), some (.ref 0), some (.ref 81), some (.ref 142), some (.int x4), none, none] (v.toList ++ []) M Q))) :=
  (sm_blk X 315 1068 (tt_lin 315 (by decide)) rfl rfl _ _ _ _).trans rfl
set_option maxRecDepth 100000 in
theorem bk_315_1079 (X : (Nat → Int32) × Nat) (mo : Bool) (G : Nat × Nat) (I : Nat → Nat → Int32) (J : Nat → Nat → Int64) (Q : Option Value → sm_M → Prop) (x4 : Int32) (s0 : Int32) :
    sm_wp X 315 1079 [some (.retAddr 1), some (.ref 0), some (.ref 81), some (.ref 142), some (.int x4), none, none] [.int s0] (sM mo G I J) Q =
    (sm_wp X 315 1674 [some (.retAddr 1), some (.ref 0), some (.ref 81), some (.ref 142), some (.int x4), none, none] [] (sM mo G I J) Q) :=
  (sm_blk X 315 1079 (tt_lin 315 (by decide)) rfl rfl _ _ _ _).trans rfl
set_option maxRecDepth 100000 in
theorem bk_315_1083 (X : (Nat → Int32) × Nat) (mo : Bool) (G : Nat × Nat) (I : Nat → Nat → Int32) (J : Nat → Nat → Int64) (Q : Option Value → sm_M → Prop) (x4 : Int32) :
    sm_wp X 315 1083 [some (.retAddr 1), some (.ref 0), some (.ref 81), some (.ref 142), some (.int x4), none, none] [] (sM mo G I J) Q =
    (vp_in (x4 + 1) X.2 ∧ (sm_wp X 190 0 [some (.ref 0), some (.int (X.1 (x4 + 1).toNatClampNeg))] [] (sM mo G I J) (fun v M => sm_wp X 315 1093 [some (.retAddr 1), some (.ref 0), some (.ref 81), some (.ref 142), some (.int x4), none, none] (v.toList ++ []) M Q))) :=
  (sm_blk X 315 1083 (tt_lin 315 (by decide)) rfl rfl _ _ _ _).trans rfl
set_option maxRecDepth 100000 in
theorem bk_315_1093 (X : (Nat → Int32) × Nat) (mo : Bool) (G : Nat × Nat) (I : Nat → Nat → Int32) (J : Nat → Nat → Int64) (Q : Option Value → sm_M → Prop) (x4 : Int32) (s0 : Int32) :
    sm_wp X 315 1093 [some (.retAddr 1), some (.ref 0), some (.ref 81), some (.ref 142), some (.int x4), none, none] [.int s0] (sM mo G I J) Q =
    (vp_in (x4 + 1) X.2 ∧ (sm_wp X 281 0 [some (.ref 81), some (.int (X.1 (x4 + 1).toNatClampNeg))] [] (sM mo G I J) (fun v M => sm_wp X 315 1104 [some (.retAddr 1), some (.ref 0), some (.ref 81), some (.ref 142), some (.int x4), none, none] (v.toList ++ []) M Q))) :=
  (sm_blk X 315 1093 (tt_lin 315 (by decide)) rfl rfl _ _ _ _).trans rfl
set_option maxRecDepth 100000 in
theorem bk_315_1104 (X : (Nat → Int32) × Nat) (mo : Bool) (G : Nat × Nat) (I : Nat → Nat → Int32) (J : Nat → Nat → Int64) (Q : Option Value → sm_M → Prop) (x4 : Int32) (s0 : Int32) :
    sm_wp X 315 1104 [some (.retAddr 1), some (.ref 0), some (.ref 81), some (.ref 142), some (.int x4), none, none] [.int s0] (sM mo G I J) Q =
    (sm_wp X 315 1674 [some (.retAddr 1), some (.ref 0), some (.ref 81), some (.ref 142), some (.int x4), none, none] [] (sM mo G I J) Q) :=
  (sm_blk X 315 1104 (tt_lin 315 (by decide)) rfl rfl _ _ _ _).trans rfl
set_option maxRecDepth 100000 in
theorem bk_315_1108 (X : (Nat → Int32) × Nat) (mo : Bool) (G : Nat × Nat) (I : Nat → Nat → Int32) (J : Nat → Nat → Int64) (Q : Option Value → sm_M → Prop) (x4 : Int32) :
    sm_wp X 315 1108 [some (.retAddr 1), some (.ref 0), some (.ref 81), some (.ref 142), some (.int x4), none, none] [] (sM mo G I J) Q =
    (vp_in (x4 + 1) X.2 ∧ (vp_in (x4 + 2) X.2 ∧ (sm_wp X 191 0 [some (.ref 0), some (.int (X.1 (x4 + 1).toNatClampNeg)), some (.int (X.1 (x4 + 2).toNatClampNeg))] [] (sM mo G I J) (fun v M => sm_wp X 315 1124 [some (.retAddr 1), some (.ref 0), some (.ref 81), some (.ref 142), some (.int x4), none, none] (v.toList ++ []) M Q)))) :=
  (sm_blk X 315 1108 (tt_lin 315 (by decide)) rfl rfl _ _ _ _).trans rfl
set_option maxRecDepth 100000 in
theorem bk_315_1124 (X : (Nat → Int32) × Nat) (mo : Bool) (G : Nat × Nat) (I : Nat → Nat → Int32) (J : Nat → Nat → Int64) (Q : Option Value → sm_M → Prop) (x4 : Int32) (s0 : Int32) :
    sm_wp X 315 1124 [some (.retAddr 1), some (.ref 0), some (.ref 81), some (.ref 142), some (.int x4), none, none] [.int s0] (sM mo G I J) Q =
    (vp_in (x4 + 1) X.2 ∧ (vp_in (x4 + 2) X.2 ∧ (sm_wp X 284 0 [some (.ref 81), some (.int (X.1 (x4 + 1).toNatClampNeg)), some (.int (X.1 (x4 + 2).toNatClampNeg)), none] [] (sM mo G I J) (fun v M => sm_wp X 315 1141 [some (.retAddr 1), some (.ref 0), some (.ref 81), some (.ref 142), some (.int x4), none, none] (v.toList ++ []) M Q)))) :=
  (sm_blk X 315 1124 (tt_lin 315 (by decide)) rfl rfl _ _ _ _).trans rfl
set_option maxRecDepth 100000 in
theorem bk_315_1141 (X : (Nat → Int32) × Nat) (mo : Bool) (G : Nat × Nat) (I : Nat → Nat → Int32) (J : Nat → Nat → Int64) (Q : Option Value → sm_M → Prop) (x4 : Int32) (s0 : Int32) :
    sm_wp X 315 1141 [some (.retAddr 1), some (.ref 0), some (.ref 81), some (.ref 142), some (.int x4), none, none] [.int s0] (sM mo G I J) Q =
    (sm_wp X 315 1674 [some (.retAddr 1), some (.ref 0), some (.ref 81), some (.ref 142), some (.int x4), none, none] [] (sM mo G I J) Q) :=
  (sm_blk X 315 1141 (tt_lin 315 (by decide)) rfl rfl _ _ _ _).trans rfl
set_option maxRecDepth 100000 in
theorem bk_315_1145 (X : (Nat → Int32) × Nat) (mo : Bool) (G : Nat × Nat) (I : Nat → Nat → Int32) (J : Nat → Nat → Int64) (Q : Option Value → sm_M → Prop) (x4 : Int32) :
    sm_wp X 315 1145 [some (.retAddr 1), some (.ref 0), some (.ref 81), some (.ref 142), some (.int x4), none, none] [] (sM mo G I J) Q =
    (sm_wp X 192 0 [some (.ref 0)] [] (sM mo G I J) (fun v M => sm_wp X 315 1149 [some (.retAddr 1), some (.ref 0), some (.ref 81), some (.ref 142), some (.int x4), none, none] (v.toList ++ []) M Q)) :=
  (sm_blk X 315 1145 (tt_lin 315 (by decide)) rfl rfl _ _ _ _).trans rfl
set_option maxRecDepth 100000 in
theorem bk_315_1149 (X : (Nat → Int32) × Nat) (mo : Bool) (G : Nat × Nat) (I : Nat → Nat → Int32) (J : Nat → Nat → Int64) (Q : Option Value → sm_M → Prop) (x4 : Int32) (s0 : Int32) :
    sm_wp X 315 1149 [some (.retAddr 1), some (.ref 0), some (.ref 81), some (.ref 142), some (.int x4), none, none] [.int s0] (sM mo G I J) Q =
    (sm_wp X 285 0 [some (.ref 81), none, none, none, none] [] (sM mo G I J) (fun v M => sm_wp X 315 1154 [some (.retAddr 1), some (.ref 0), some (.ref 81), some (.ref 142), some (.int x4), none, none] (v.toList ++ []) M Q)) :=
  (sm_blk X 315 1149 (tt_lin 315 (by decide)) rfl rfl _ _ _ _).trans rfl
set_option maxRecDepth 100000 in
theorem bk_315_1154 (X : (Nat → Int32) × Nat) (mo : Bool) (G : Nat × Nat) (I : Nat → Nat → Int32) (J : Nat → Nat → Int64) (Q : Option Value → sm_M → Prop) (x4 : Int32) (s0 : Int32) :
    sm_wp X 315 1154 [some (.retAddr 1), some (.ref 0), some (.ref 81), some (.ref 142), some (.int x4), none, none] [.int s0] (sM mo G I J) Q =
    (sm_wp X 315 1674 [some (.retAddr 1), some (.ref 0), some (.ref 81), some (.ref 142), some (.int x4), none, none] [] (sM mo G I J) Q) :=
  (sm_blk X 315 1154 (tt_lin 315 (by decide)) rfl rfl _ _ _ _).trans rfl
set_option maxRecDepth 100000 in
theorem bk_315_1158 (X : (Nat → Int32) × Nat) (mo : Bool) (G : Nat × Nat) (I : Nat → Nat → Int32) (J : Nat → Nat → Int64) (Q : Option Value → sm_M → Prop) (x4 : Int32) :
    sm_wp X 315 1158 [some (.retAddr 1), some (.ref 0), some (.ref 81), some (.ref 142), some (.int x4), none, none] [] (sM mo G I J) Q =
    (vp_in (x4 + 1) X.2 ∧ (sm_wp X 193 0 [some (.ref 0), some (.int (X.1 (x4 + 1).toNatClampNeg))] [] (sM mo G I J) (fun v M => sm_wp X 315 1168 [some (.retAddr 1), some (.ref 0), some (.ref 81), some (.ref 142), some (.int x4), none, none] (v.toList ++ []) M Q))) :=
  (sm_blk X 315 1158 (tt_lin 315 (by decide)) rfl rfl _ _ _ _).trans rfl
set_option maxRecDepth 100000 in
theorem bk_315_1168 (X : (Nat → Int32) × Nat) (mo : Bool) (G : Nat × Nat) (I : Nat → Nat → Int32) (J : Nat → Nat → Int64) (Q : Option Value → sm_M → Prop) (x4 : Int32) (s0 : Int32) :
    sm_wp X 315 1168 [some (.retAddr 1), some (.ref 0), some (.ref 81), some (.ref 142), some (.int x4), none, none] [.int s0] (sM mo G I J) Q =
    (vp_in (x4 + 1) X.2 ∧ (sm_wp X 286 0 [some (.ref 81), some (.int (X.1 (x4 + 1).toNatClampNeg)), none, none] [] (sM mo G I J) (fun v M => sm_wp X 315 1179 [some (.retAddr 1), some (.ref 0), some (.ref 81), some (.ref 142), some (.int x4), none, none] (v.toList ++ []) M Q))) :=
  (sm_blk X 315 1168 (tt_lin 315 (by decide)) rfl rfl _ _ _ _).trans rfl
set_option maxRecDepth 100000 in
theorem bk_315_1179 (X : (Nat → Int32) × Nat) (mo : Bool) (G : Nat × Nat) (I : Nat → Nat → Int32) (J : Nat → Nat → Int64) (Q : Option Value → sm_M → Prop) (x4 : Int32) (s0 : Int32) :
    sm_wp X 315 1179 [some (.retAddr 1), some (.ref 0), some (.ref 81), some (.ref 142), some (.int x4), none, none] [.int s0] (sM mo G I J) Q =
    (sm_wp X 315 1674 [some (.retAddr 1), some (.ref 0), some (.ref 81), some (.ref 142), some (.int x4), none, none] [] (sM mo G I J) Q) :=
  (sm_blk X 315 1179 (tt_lin 315 (by decide)) rfl rfl _ _ _ _).trans rfl
set_option maxRecDepth 100000 in
theorem bk_315_1183 (X : (Nat → Int32) × Nat) (mo : Bool) (G : Nat × Nat) (I : Nat → Nat → Int32) (J : Nat → Nat → Int64) (Q : Option Value → sm_M → Prop) (x4 : Int32) :
    sm_wp X 315 1183 [some (.retAddr 1), some (.ref 0), some (.ref 81), some (.ref 142), some (.int x4), none, none] [] (sM mo G I J) Q =
    (vp_in (x4 + 1) X.2 ∧ (sm_wp X 194 0 [some (.ref 0), some (.int (X.1 (x4 + 1).toNatClampNeg))] [] (sM mo G I J) (fun v M => sm_wp X 315 1193 [some (.retAddr 1), some (.ref 0), some (.ref 81), some (.ref 142), some (.int x4), none, none] (v.toList ++ []) M Q))) :=
  (sm_blk X 315 1183 (tt_lin 315 (by decide)) rfl rfl _ _ _ _).trans rfl
set_option maxRecDepth 100000 in
theorem bk_315_1193 (X : (Nat → Int32) × Nat) (mo : Bool) (G : Nat × Nat) (I : Nat → Nat → Int32) (J : Nat → Nat → Int64) (Q : Option Value → sm_M → Prop) (x4 : Int32) (s0 : Int32) :
    sm_wp X 315 1193 [some (.retAddr 1), some (.ref 0), some (.ref 81), some (.ref 142), some (.int x4), none, none] [.int s0] (sM mo G I J) Q =
    (vp_in (x4 + 1) X.2 ∧ (sm_wp X 287 0 [some (.ref 81), some (.int (X.1 (x4 + 1).toNatClampNeg)), none, none] [] (sM mo G I J) (fun v M => sm_wp X 315 1204 [some (.retAddr 1), some (.ref 0), some (.ref 81), some (.ref 142), some (.int x4), none, none] (v.toList ++ []) M Q))) :=
  (sm_blk X 315 1193 (tt_lin 315 (by decide)) rfl rfl _ _ _ _).trans rfl
set_option maxRecDepth 100000 in
theorem bk_315_1204 (X : (Nat → Int32) × Nat) (mo : Bool) (G : Nat × Nat) (I : Nat → Nat → Int32) (J : Nat → Nat → Int64) (Q : Option Value → sm_M → Prop) (x4 : Int32) (s0 : Int32) :
    sm_wp X 315 1204 [some (.retAddr 1), some (.ref 0), some (.ref 81), some (.ref 142), some (.int x4), none, none] [.int s0] (sM mo G I J) Q =
    (sm_wp X 315 1674 [some (.retAddr 1), some (.ref 0), some (.ref 81), some (.ref 142), some (.int x4), none, none] [] (sM mo G I J) Q) :=
  (sm_blk X 315 1204 (tt_lin 315 (by decide)) rfl rfl _ _ _ _).trans rfl
set_option maxRecDepth 100000 in
theorem bk_315_1208 (X : (Nat → Int32) × Nat) (mo : Bool) (G : Nat × Nat) (I : Nat → Nat → Int32) (J : Nat → Nat → Int64) (Q : Option Value → sm_M → Prop) (x4 : Int32) :
    sm_wp X 315 1208 [some (.retAddr 1), some (.ref 0), some (.ref 81), some (.ref 142), some (.int x4), none, none] [] (sM mo G I J) Q =
    (sm_wp X 195 0 [some (.ref 0)] [] (sM mo G I J) (fun v M => sm_wp X 315 1212 [some (.retAddr 1), some (.ref 0), some (.ref 81), some (.ref 142), some (.int x4), none, none] (v.toList ++ []) M Q)) :=
  (sm_blk X 315 1208 (tt_lin 315 (by decide)) rfl rfl _ _ _ _).trans rfl
set_option maxRecDepth 100000 in
theorem bk_315_1212 (X : (Nat → Int32) × Nat) (mo : Bool) (G : Nat × Nat) (I : Nat → Nat → Int32) (J : Nat → Nat → Int64) (Q : Option Value → sm_M → Prop) (x4 : Int32) (s0 : Int32) :
    sm_wp X 315 1212 [some (.retAddr 1), some (.ref 0), some (.ref 81), some (.ref 142), some (.int x4), none, none] [.int s0] (sM mo G I J) Q =
    (sm_wp X 291 0 [some (.ref 81)] [] (sM mo G I J) (fun v M => sm_wp X 315 1217 [some (.retAddr 1), some (.ref 0), some (.ref 81), some (.ref 142), some (.int x4), none, none] (v.toList ++ []) M Q)) :=
  (sm_blk X 315 1212 (tt_lin 315 (by decide)) rfl rfl _ _ _ _).trans rfl
set_option maxRecDepth 100000 in
theorem bk_315_1217 (X : (Nat → Int32) × Nat) (mo : Bool) (G : Nat × Nat) (I : Nat → Nat → Int32) (J : Nat → Nat → Int64) (Q : Option Value → sm_M → Prop) (x4 : Int32) (s0 : Int32) :
    sm_wp X 315 1217 [some (.retAddr 1), some (.ref 0), some (.ref 81), some (.ref 142), some (.int x4), none, none] [.int s0] (sM mo G I J) Q =
    (sm_wp X 315 1674 [some (.retAddr 1), some (.ref 0), some (.ref 81), some (.ref 142), some (.int x4), none, none] [] (sM mo G I J) Q) :=
  (sm_blk X 315 1217 (tt_lin 315 (by decide)) rfl rfl _ _ _ _).trans rfl
set_option maxRecDepth 100000 in
theorem bk_315_1221 (X : (Nat → Int32) × Nat) (mo : Bool) (G : Nat × Nat) (I : Nat → Nat → Int32) (J : Nat → Nat → Int64) (Q : Option Value → sm_M → Prop) (x4 : Int32) :
    sm_wp X 315 1221 [some (.retAddr 1), some (.ref 0), some (.ref 81), some (.ref 142), some (.int x4), none, none] [] (sM mo G I J) Q =
    (vp_in (x4 + 1) X.2 ∧ (vp_in (x4 + 2) X.2 ∧ (vp_in (x4 + 3) X.2 ∧ (sm_wp X 196 0 [some (.ref 0), some (.int (X.1 (x4 + 1).toNatClampNeg)), some (.int (X.1 (x4 + 2).toNatClampNeg)), some (.int (X.1 (x4 + 3).toNatClampNeg))] [] (sM mo G I J) (fun v M => sm_wp X 315 1243 [some (.retAddr 1), some (.ref 0), some (.ref 81), some (.ref 142), some (.int x4), none, none] (v.toList ++ []) M Q))))) :=
  (sm_blk X 315 1221 (tt_lin 315 (by decide)) rfl rfl _ _ _ _).trans rfl
set_option maxRecDepth 100000 in
theorem bk_315_1243 (X : (Nat → Int32) × Nat) (mo : Bool) (G : Nat × Nat) (I : Nat → Nat → Int32) (J : Nat → Nat → Int64) (Q : Option Value → sm_M → Prop) (x4 : Int32) (s0 : Int32) :
    sm_wp X 315 1243 [some (.retAddr 1), some (.ref 0), some (.ref 81), some (.ref 142), some (.int x4), none, none] [.int s0] (sM mo G I J) Q =
    (vp_in (x4 + 1) X.2 ∧ (vp_in (x4 + 2) X.2 ∧ (vp_in (x4 + 3) X.2 ∧ (sm_wp X 292 0 [some (.ref 81), some (.int (X.1 (x4 + 1).toNatClampNeg)), some (.int (X.1 (x4 + 2).toNatClampNeg)), some (.int (X.1 (x4 + 3).toNatClampNeg)), none] [] (sM mo G I J) (fun v M => sm_wp X 315 1266 [some (.retAddr 1), some (.ref 0), some (.ref 81), some (.ref 142), some (.int x4), none, none] (v.toList ++ []) M Q))))) :=
  (sm_blk X 315 1243 (tt_lin 315 (by decide)) rfl rfl _ _ _ _).trans rfl
set_option maxRecDepth 100000 in
theorem bk_315_1266 (X : (Nat → Int32) × Nat) (mo : Bool) (G : Nat × Nat) (I : Nat → Nat → Int32) (J : Nat → Nat → Int64) (Q : Option Value → sm_M → Prop) (x4 : Int32) (s0 : Int32) :
    sm_wp X 315 1266 [some (.retAddr 1), some (.ref 0), some (.ref 81), some (.ref 142), some (.int x4), none, none] [.int s0] (sM mo G I J) Q =
    (sm_wp X 315 1674 [some (.retAddr 1), some (.ref 0), some (.ref 81), some (.ref 142), some (.int x4), none, none] [] (sM mo G I J) Q) :=
  (sm_blk X 315 1266 (tt_lin 315 (by decide)) rfl rfl _ _ _ _).trans rfl
set_option maxRecDepth 100000 in
theorem bk_315_1270 (X : (Nat → Int32) × Nat) (mo : Bool) (G : Nat × Nat) (I : Nat → Nat → Int32) (J : Nat → Nat → Int64) (Q : Option Value → sm_M → Prop) (x4 : Int32) :
    sm_wp X 315 1270 [some (.retAddr 1), some (.ref 0), some (.ref 81), some (.ref 142), some (.int x4), none, none] [] (sM mo G I J) Q =
    (vp_in (x4 + 1) X.2 ∧ (vp_in (x4 + 2) X.2 ∧ (vp_in (x4 + 3) X.2 ∧ (if (X.1 (x4 + 3).toNatClampNeg : Int32) = 0 then sm_wp X 315 1296 [some (.retAddr 1), some (.ref 0), some (.ref 81), some (.ref 142), some (.int x4), none, none] [.int (X.1 (x4 + 2).toNatClampNeg), .int (X.1 (x4 + 1).toNatClampNeg), .ref 0] (sM mo G I J) Q else (sm_wp X 315 1297 [some (.retAddr 1), some (.ref 0), some (.ref 81), some (.ref 142), some (.int x4), none, none] [.int 1, .int (X.1 (x4 + 2).toNatClampNeg), .int (X.1 (x4 + 1).toNatClampNeg), .ref 0] (sM mo G I J) Q))))) :=
  (sm_blk X 315 1270 (tt_lin 315 (by decide)) rfl rfl _ _ _ _).trans rfl
set_option maxRecDepth 100000 in
theorem bk_315_1296 (X : (Nat → Int32) × Nat) (mo : Bool) (G : Nat × Nat) (I : Nat → Nat → Int32) (J : Nat → Nat → Int64) (Q : Option Value → sm_M → Prop) (x4 : Int32) (s1 : Int32) (s2 : Int32) :
    sm_wp X 315 1296 [some (.retAddr 1), some (.ref 0), some (.ref 81), some (.ref 142), some (.int x4), none, none] [.int s2, .int s1, .ref 0] (sM mo G I J) Q =
    (sm_wp X 197 0 [some (.ref 0), some (.int s1), some (.int s2), some (.int 0)] [] (sM mo G I J) (fun v M => sm_wp X 315 1300 [some (.retAddr 1), some (.ref 0), some (.ref 81), some (.ref 142), some (.int x4), none, none] (v.toList ++ []) M Q)) :=
  (sm_blk X 315 1296 (tt_lin 315 (by decide)) rfl rfl _ _ _ _).trans rfl
set_option maxRecDepth 100000 in
theorem bk_315_1297 (X : (Nat → Int32) × Nat) (mo : Bool) (G : Nat × Nat) (I : Nat → Nat → Int32) (J : Nat → Nat → Int64) (Q : Option Value → sm_M → Prop) (x4 : Int32) (s1 : Int32) (s2 : Int32) (s3 : Int32) :
    sm_wp X 315 1297 [some (.retAddr 1), some (.ref 0), some (.ref 81), some (.ref 142), some (.int x4), none, none] [.int s3, .int s2, .int s1, .ref 0] (sM mo G I J) Q =
    (sm_wp X 197 0 [some (.ref 0), some (.int s1), some (.int s2), some (.int s3)] [] (sM mo G I J) (fun v M => sm_wp X 315 1300 [some (.retAddr 1), some (.ref 0), some (.ref 81), some (.ref 142), some (.int x4), none, none] (v.toList ++ []) M Q)) :=
  (sm_blk X 315 1297 (tt_lin 315 (by decide)) rfl rfl _ _ _ _).trans rfl
set_option maxRecDepth 100000 in
theorem bk_315_1300 (X : (Nat → Int32) × Nat) (mo : Bool) (G : Nat × Nat) (I : Nat → Nat → Int32) (J : Nat → Nat → Int64) (Q : Option Value → sm_M → Prop) (x4 : Int32) (s0 : Int32) :
    sm_wp X 315 1300 [some (.retAddr 1), some (.ref 0), some (.ref 81), some (.ref 142), some (.int x4), none, none] [.int s0] (sM mo G I J) Q =
    (vp_in (x4 + 1) X.2 ∧ (vp_in (x4 + 2) X.2 ∧ (vp_in (x4 + 3) X.2 ∧ (if (X.1 (x4 + 3).toNatClampNeg : Int32) = 0 then sm_wp X 315 1327 [some (.retAddr 1), some (.ref 0), some (.ref 81), some (.ref 142), some (.int x4), none, none] [.int (X.1 (x4 + 2).toNatClampNeg), .int (X.1 (x4 + 1).toNatClampNeg), .ref 81] (sM mo G I J) Q else (sm_wp X 315 1328 [some (.retAddr 1), some (.ref 0), some (.ref 81), some (.ref 142), some (.int x4), none, none] [.int 1, .int (X.1 (x4 + 2).toNatClampNeg), .int (X.1 (x4 + 1).toNatClampNeg), .ref 81] (sM mo G I J) Q))))) :=
  (sm_blk X 315 1300 (tt_lin 315 (by decide)) rfl rfl _ _ _ _).trans rfl
set_option maxRecDepth 100000 in
theorem bk_315_1327 (X : (Nat → Int32) × Nat) (mo : Bool) (G : Nat × Nat) (I : Nat → Nat → Int32) (J : Nat → Nat → Int64) (Q : Option Value → sm_M → Prop) (x4 : Int32) (s1 : Int32) (s2 : Int32) :
    sm_wp X 315 1327 [some (.retAddr 1), some (.ref 0), some (.ref 81), some (.ref 142), some (.int x4), none, none] [.int s2, .int s1, .ref 81] (sM mo G I J) Q =
    (sm_wp X 294 0 [some (.ref 81), some (.int s1), some (.int s2), some (.int 0)] [] (sM mo G I J) (fun v M => sm_wp X 315 1331 [some (.retAddr 1), some (.ref 0), some (.ref 81), some (.ref 142), some (.int x4), none, none] (v.toList ++ []) M Q)) :=
  (sm_blk X 315 1327 (tt_lin 315 (by decide)) rfl rfl _ _ _ _).trans rfl
set_option maxRecDepth 100000 in
theorem bk_315_1328 (X : (Nat → Int32) × Nat) (mo : Bool) (G : Nat × Nat) (I : Nat → Nat → Int32) (J : Nat → Nat → Int64) (Q : Option Value → sm_M → Prop) (x4 : Int32) (s1 : Int32) (s2 : Int32) (s3 : Int32) :
    sm_wp X 315 1328 [some (.retAddr 1), some (.ref 0), some (.ref 81), some (.ref 142), some (.int x4), none, none] [.int s3, .int s2, .int s1, .ref 81] (sM mo G I J) Q =
    (sm_wp X 294 0 [some (.ref 81), some (.int s1), some (.int s2), some (.int s3)] [] (sM mo G I J) (fun v M => sm_wp X 315 1331 [some (.retAddr 1), some (.ref 0), some (.ref 81), some (.ref 142), some (.int x4), none, none] (v.toList ++ []) M Q)) :=
  (sm_blk X 315 1328 (tt_lin 315 (by decide)) rfl rfl _ _ _ _).trans rfl
set_option maxRecDepth 100000 in
theorem bk_315_1331 (X : (Nat → Int32) × Nat) (mo : Bool) (G : Nat × Nat) (I : Nat → Nat → Int32) (J : Nat → Nat → Int64) (Q : Option Value → sm_M → Prop) (x4 : Int32) (s0 : Int32) :
    sm_wp X 315 1331 [some (.retAddr 1), some (.ref 0), some (.ref 81), some (.ref 142), some (.int x4), none, none] [.int s0] (sM mo G I J) Q =
    (sm_wp X 315 1674 [some (.retAddr 1), some (.ref 0), some (.ref 81), some (.ref 142), some (.int x4), none, none] [] (sM mo G I J) Q) :=
  (sm_blk X 315 1331 (tt_lin 315 (by decide)) rfl rfl _ _ _ _).trans rfl
set_option maxRecDepth 100000 in
theorem bk_315_1335 (X : (Nat → Int32) × Nat) (mo : Bool) (G : Nat × Nat) (I : Nat → Nat → Int32) (J : Nat → Nat → Int64) (Q : Option Value → sm_M → Prop) (x4 : Int32) :
    sm_wp X 315 1335 [some (.retAddr 1), some (.ref 0), some (.ref 81), some (.ref 142), some (.int x4), none, none] [] (sM mo G I J) Q =
    (vp_in (x4 + 1) X.2 ∧ (vp_in (x4 + 2) X.2 ∧ (vp_in (x4 + 3) X.2 ∧ (if (X.1 (x4 + 3).toNatClampNeg : Int32) = 0 then sm_wp X 315 1361 [some (.retAddr 1), some (.ref 0), some (.ref 81), some (.ref 142), some (.int x4), none, none] [.int (X.1 (x4 + 2).toNatClampNeg), .int (X.1 (x4 + 1).toNatClampNeg), .ref 0] (sM mo G I J) Q else (sm_wp X 315 1362 [some (.retAddr 1), some (.ref 0), some (.ref 81), some (.ref 142), some (.int x4), none, none] [.int 1, .int (X.1 (x4 + 2).toNatClampNeg), .int (X.1 (x4 + 1).toNatClampNeg), .ref 0] (sM mo G I J) Q))))) :=
  (sm_blk X 315 1335 (tt_lin 315 (by decide)) rfl rfl _ _ _ _).trans rfl
set_option maxRecDepth 100000 in
theorem bk_315_1361 (X : (Nat → Int32) × Nat) (mo : Bool) (G : Nat × Nat) (I : Nat → Nat → Int32) (J : Nat → Nat → Int64) (Q : Option Value → sm_M → Prop) (x4 : Int32) (s1 : Int32) (s2 : Int32) :
    sm_wp X 315 1361 [some (.retAddr 1), some (.ref 0), some (.ref 81), some (.ref 142), some (.int x4), none, none] [.int s2, .int s1, .ref 0] (sM mo G I J) Q =
    (sm_wp X 198 0 [some (.ref 0), some (.int s1), some (.int s2), some (.int 0)] [] (sM mo G I J) (fun v M => sm_wp X 315 1365 [some (.retAddr 1), some (.ref 0), some (.ref 81), some (.ref 142), some (.int x4), none, none] (v.toList ++ []) M Q)) :=
  (sm_blk X 315 1361 (tt_lin 315 (by decide)) rfl rfl _ _ _ _).trans rfl
set_option maxRecDepth 100000 in
theorem bk_315_1362 (X : (Nat → Int32) × Nat) (mo : Bool) (G : Nat × Nat) (I : Nat → Nat → Int32) (J : Nat → Nat → Int64) (Q : Option Value → sm_M → Prop) (x4 : Int32) (s1 : Int32) (s2 : Int32) (s3 : Int32) :
    sm_wp X 315 1362 [some (.retAddr 1), some (.ref 0), some (.ref 81), some (.ref 142), some (.int x4), none, none] [.int s3, .int s2, .int s1, .ref 0] (sM mo G I J) Q =
    (sm_wp X 198 0 [some (.ref 0), some (.int s1), some (.int s2), some (.int s3)] [] (sM mo G I J) (fun v M => sm_wp X 315 1365 [some (.retAddr 1), some (.ref 0), some (.ref 81), some (.ref 142), some (.int x4), none, none] (v.toList ++ []) M Q)) :=
  (sm_blk X 315 1362 (tt_lin 315 (by decide)) rfl rfl _ _ _ _).trans rfl
set_option maxRecDepth 100000 in
theorem bk_315_1365 (X : (Nat → Int32) × Nat) (mo : Bool) (G : Nat × Nat) (I : Nat → Nat → Int32) (J : Nat → Nat → Int64) (Q : Option Value → sm_M → Prop) (x4 : Int32) (s0 : Int32) :
    sm_wp X 315 1365 [some (.retAddr 1), some (.ref 0), some (.ref 81), some (.ref 142), some (.int x4), none, none] [.int s0] (sM mo G I J) Q =
    (vp_in (x4 + 1) X.2 ∧ (vp_in (x4 + 2) X.2 ∧ (vp_in (x4 + 3) X.2 ∧ (if (X.1 (x4 + 3).toNatClampNeg : Int32) = 0 then sm_wp X 315 1392 [some (.retAddr 1), some (.ref 0), some (.ref 81), some (.ref 142), some (.int x4), none, none] [.int (X.1 (x4 + 2).toNatClampNeg), .int (X.1 (x4 + 1).toNatClampNeg), .ref 81] (sM mo G I J) Q else (sm_wp X 315 1393 [some (.retAddr 1), some (.ref 0), some (.ref 81), some (.ref 142), some (.int x4), none, none] [.int 1, .int (X.1 (x4 + 2).toNatClampNeg), .int (X.1 (x4 + 1).toNatClampNeg), .ref 81] (sM mo G I J) Q))))) :=
  (sm_blk X 315 1365 (tt_lin 315 (by decide)) rfl rfl _ _ _ _).trans rfl
set_option maxRecDepth 100000 in
theorem bk_315_1392 (X : (Nat → Int32) × Nat) (mo : Bool) (G : Nat × Nat) (I : Nat → Nat → Int32) (J : Nat → Nat → Int64) (Q : Option Value → sm_M → Prop) (x4 : Int32) (s1 : Int32) (s2 : Int32) :
    sm_wp X 315 1392 [some (.retAddr 1), some (.ref 0), some (.ref 81), some (.ref 142), some (.int x4), none, none] [.int s2, .int s1, .ref 81] (sM mo G I J) Q =
    (sm_wp X 295 0 [some (.ref 81), some (.int s1), some (.int s2), some (.int 0)] [] (sM mo G I J) (fun v M => sm_wp X 315 1396 [some (.retAddr 1), some (.ref 0), some (.ref 81), some (.ref 142), some (.int x4), none, none] (v.toList ++ []) M Q)) :=
  (sm_blk X 315 1392 (tt_lin 315 (by decide)) rfl rfl _ _ _ _).trans rfl
set_option maxRecDepth 100000 in
theorem bk_315_1393 (X : (Nat → Int32) × Nat) (mo : Bool) (G : Nat × Nat) (I : Nat → Nat → Int32) (J : Nat → Nat → Int64) (Q : Option Value → sm_M → Prop) (x4 : Int32) (s1 : Int32) (s2 : Int32) (s3 : Int32) :
    sm_wp X 315 1393 [some (.retAddr 1), some (.ref 0), some (.ref 81), some (.ref 142), some (.int x4), none, none] [.int s3, .int s2, .int s1, .ref 81] (sM mo G I J) Q =
    (sm_wp X 295 0 [some (.ref 81), some (.int s1), some (.int s2), some (.int s3)] [] (sM mo G I J) (fun v M => sm_wp X 315 1396 [some (.retAddr 1), some (.ref 0), some (.ref 81), some (.ref 142), some (.int x4), none, none] (v.toList ++ []) M Q)) :=
  (sm_blk X 315 1393 (tt_lin 315 (by decide)) rfl rfl _ _ _ _).trans rfl
set_option maxRecDepth 100000 in
theorem bk_315_1396 (X : (Nat → Int32) × Nat) (mo : Bool) (G : Nat × Nat) (I : Nat → Nat → Int32) (J : Nat → Nat → Int64) (Q : Option Value → sm_M → Prop) (x4 : Int32) (s0 : Int32) :
    sm_wp X 315 1396 [some (.retAddr 1), some (.ref 0), some (.ref 81), some (.ref 142), some (.int x4), none, none] [.int s0] (sM mo G I J) Q =
    (sm_wp X 315 1674 [some (.retAddr 1), some (.ref 0), some (.ref 81), some (.ref 142), some (.int x4), none, none] [] (sM mo G I J) Q) :=
  (sm_blk X 315 1396 (tt_lin 315 (by decide)) rfl rfl _ _ _ _).trans rfl
set_option maxRecDepth 100000 in
theorem bk_315_1400 (X : (Nat → Int32) × Nat) (mo : Bool) (G : Nat × Nat) (I : Nat → Nat → Int32) (J : Nat → Nat → Int64) (Q : Option Value → sm_M → Prop) (x4 : Int32) :
    sm_wp X 315 1400 [some (.retAddr 1), some (.ref 0), some (.ref 81), some (.ref 142), some (.int x4), none, none] [] (sM mo G I J) Q =
    (vp_in (x4 + 1) X.2 ∧ (vp_in (x4 + 2) X.2 ∧ (vp_in (x4 + 3) X.2 ∧ (sm_wp X 199 0 [some (.ref 0), some (.int (X.1 (x4 + 1).toNatClampNeg)), some (.int (X.1 (x4 + 2).toNatClampNeg)), some (.int (X.1 (x4 + 3).toNatClampNeg))] [] (sM mo G I J) (fun v M => sm_wp X 315 1422 [some (.retAddr 1), some (.ref 0), some (.ref 81), some (.ref 142), some (.int x4), none, none] (v.toList ++ []) M Q))))) :=
  (sm_blk X 315 1400 (tt_lin 315 (by decide)) rfl rfl _ _ _ _).trans rfl
set_option maxRecDepth 100000 in
theorem bk_315_1422 (X : (Nat → Int32) × Nat) (mo : Bool) (G : Nat × Nat) (I : Nat → Nat → Int32) (J : Nat → Nat → Int64) (Q : Option Value → sm_M → Prop) (x4 : Int32) (s0 : Int32) :
    sm_wp X 315 1422 [some (.retAddr 1), some (.ref 0), some (.ref 81), some (.ref 142), some (.int x4), none, none] [.int s0] (sM mo G I J) Q =
    (vp_in (x4 + 1) X.2 ∧ (vp_in (x4 + 2) X.2 ∧ (vp_in (x4 + 3) X.2 ∧ (sm_wp X 296 0 [some (.ref 81), some (.int (X.1 (x4 + 1).toNatClampNeg)), some (.int (X.1 (x4 + 2).toNatClampNeg)), some (.int (X.1 (x4 + 3).toNatClampNeg))] [] (sM mo G I J) (fun v M => sm_wp X 315 1445 [some (.retAddr 1), some (.ref 0), some (.ref 81), some (.ref 142), some (.int x4), none, none] (v.toList ++ []) M Q))))) :=
  (sm_blk X 315 1422 (tt_lin 315 (by decide)) rfl rfl _ _ _ _).trans rfl
set_option maxRecDepth 100000 in
theorem bk_315_1445 (X : (Nat → Int32) × Nat) (mo : Bool) (G : Nat × Nat) (I : Nat → Nat → Int32) (J : Nat → Nat → Int64) (Q : Option Value → sm_M → Prop) (x4 : Int32) (s0 : Int32) :
    sm_wp X 315 1445 [some (.retAddr 1), some (.ref 0), some (.ref 81), some (.ref 142), some (.int x4), none, none] [.int s0] (sM mo G I J) Q =
    (sm_wp X 315 1674 [some (.retAddr 1), some (.ref 0), some (.ref 81), some (.ref 142), some (.int x4), none, none] [] (sM mo G I J) Q) :=
  (sm_blk X 315 1445 (tt_lin 315 (by decide)) rfl rfl _ _ _ _).trans rfl
set_option maxRecDepth 100000 in
theorem bk_315_1449 (X : (Nat → Int32) × Nat) (mo : Bool) (G : Nat × Nat) (I : Nat → Nat → Int32) (J : Nat → Nat → Int64) (Q : Option Value → sm_M → Prop) (x4 : Int32) :
    sm_wp X 315 1449 [some (.retAddr 1), some (.ref 0), some (.ref 81), some (.ref 142), some (.int x4), none, none] [] (sM mo G I J) Q =
    (vp_in (x4 + 1) X.2 ∧ (vp_in (x4 + 2) X.2 ∧ (sm_wp X 200 0 [some (.ref 0), some (.int (X.1 (x4 + 1).toNatClampNeg)), some (.int (X.1 (x4 + 2).toNatClampNeg))] [] (sM mo G I J) (fun v M => sm_wp X 315 1465 [some (.retAddr 1), some (.ref 0), some (.ref 81), some (.ref 142), some (.int x4), none, none] (v.toList ++ []) M Q)))) :=
  (sm_blk X 315 1449 (tt_lin 315 (by decide)) rfl rfl _ _ _ _).trans rfl
set_option maxRecDepth 100000 in
theorem bk_315_1465 (X : (Nat → Int32) × Nat) (mo : Bool) (G : Nat × Nat) (I : Nat → Nat → Int32) (J : Nat → Nat → Int64) (Q : Option Value → sm_M → Prop) (x4 : Int32) (s0 : Int32) :
    sm_wp X 315 1465 [some (.retAddr 1), some (.ref 0), some (.ref 81), some (.ref 142), some (.int x4), none, none] [.int s0] (sM mo G I J) Q =
    (vp_in (x4 + 1) X.2 ∧ (vp_in (x4 + 2) X.2 ∧ (sm_wp X 298 0 [some (.ref 81), some (.int (X.1 (x4 + 1).toNatClampNeg)), some (.int (X.1 (x4 + 2).toNatClampNeg)), none, none, none] [] (sM mo G I J) (fun v M => sm_wp X 315 1482 [some (.retAddr 1), some (.ref 0), some (.ref 81), some (.ref 142), some (.int x4), none, none] (v.toList ++ []) M Q)))) :=
  (sm_blk X 315 1465 (tt_lin 315 (by decide)) rfl rfl _ _ _ _).trans rfl
set_option maxRecDepth 100000 in
theorem bk_315_1482 (X : (Nat → Int32) × Nat) (mo : Bool) (G : Nat × Nat) (I : Nat → Nat → Int32) (J : Nat → Nat → Int64) (Q : Option Value → sm_M → Prop) (x4 : Int32) (s0 : Int32) :
    sm_wp X 315 1482 [some (.retAddr 1), some (.ref 0), some (.ref 81), some (.ref 142), some (.int x4), none, none] [.int s0] (sM mo G I J) Q =
    (sm_wp X 315 1674 [some (.retAddr 1), some (.ref 0), some (.ref 81), some (.ref 142), some (.int x4), none, none] [] (sM mo G I J) Q) :=
  (sm_blk X 315 1482 (tt_lin 315 (by decide)) rfl rfl _ _ _ _).trans rfl
set_option maxRecDepth 100000 in
theorem bk_315_1486 (X : (Nat → Int32) × Nat) (mo : Bool) (G : Nat × Nat) (I : Nat → Nat → Int32) (J : Nat → Nat → Int64) (Q : Option Value → sm_M → Prop) (x4 : Int32) :
    sm_wp X 315 1486 [some (.retAddr 1), some (.ref 0), some (.ref 81), some (.ref 142), some (.int x4), none, none] [] (sM mo G I J) Q =
    (vp_in (x4 + 1) X.2 ∧ (vp_in (x4 + 2) X.2 ∧ (vp_in (x4 + 3) X.2 ∧ (sm_wp X 201 0 [some (.ref 0), some (.int (X.1 (x4 + 1).toNatClampNeg)), some (.int (X.1 (x4 + 2).toNatClampNeg)), some (.int (X.1 (x4 + 3).toNatClampNeg))] [] (sM mo G I J) (fun v M => sm_wp X 315 1508 [some (.retAddr 1), some (.ref 0), some (.ref 81), some (.ref 142), some (.int x4), none, none] (v.toList ++ []) M Q))))) :=
  (sm_blk X 315 1486 (tt_lin 315 (by decide)) rfl rfl _ _ _ _).trans rfl
set_option maxRecDepth 100000 in
theorem bk_315_1508 (X : (Nat → Int32) × Nat) (mo : Bool) (G : Nat × Nat) (I : Nat → Nat → Int32) (J : Nat → Nat → Int64) (Q : Option Value → sm_M → Prop) (x4 : Int32) (s0 : Int32) :
    sm_wp X 315 1508 [some (.retAddr 1), some (.ref 0), some (.ref 81), some (.ref 142), some (.int x4), none, none] [.int s0] (sM mo G I J) Q =
    (vp_in (x4 + 1) X.2 ∧ (vp_in (x4 + 2) X.2 ∧ (vp_in (x4 + 3) X.2 ∧ (sm_wp X 305 0 [some (.ref 81), some (.int (X.1 (x4 + 1).toNatClampNeg)), some (.int (X.1 (x4 + 2).toNatClampNeg)), some (.int (X.1 (x4 + 3).toNatClampNeg)), none] [] (sM mo G I J) (fun v M => sm_wp X 315 1531 [some (.retAddr 1), some (.ref 0), some (.ref 81), some (.ref 142), some (.int x4), none, none] (v.toList ++ []) M Q))))) :=
  (sm_blk X 315 1508 (tt_lin 315 (by decide)) rfl rfl _ _ _ _).trans rfl
set_option maxRecDepth 100000 in
theorem bk_315_1531 (X : (Nat → Int32) × Nat) (mo : Bool) (G : Nat × Nat) (I : Nat → Nat → Int32) (J : Nat → Nat → Int64) (Q : Option Value → sm_M → Prop) (x4 : Int32) (s0 : Int32) :
    sm_wp X 315 1531 [some (.retAddr 1), some (.ref 0), some (.ref 81), some (.ref 142), some (.int x4), none, none] [.int s0] (sM mo G I J) Q =
    (sm_wp X 315 1674 [some (.retAddr 1), some (.ref 0), some (.ref 81), some (.ref 142), some (.int x4), none, none] [] (sM mo G I J) Q) :=
  (sm_blk X 315 1531 (tt_lin 315 (by decide)) rfl rfl _ _ _ _).trans rfl
set_option maxRecDepth 100000 in
theorem bk_315_1535 (X : (Nat → Int32) × Nat) (mo : Bool) (G : Nat × Nat) (I : Nat → Nat → Int32) (J : Nat → Nat → Int64) (Q : Option Value → sm_M → Prop) (x4 : Int32) :
    sm_wp X 315 1535 [some (.retAddr 1), some (.ref 0), some (.ref 81), some (.ref 142), some (.int x4), none, none] [] (sM mo G I J) Q =
    (vp_in (x4 + 1) X.2 ∧ (sm_wp X 202 0 [some (.ref 0), some (.int (X.1 (x4 + 1).toNatClampNeg))] [] (sM mo G I J) (fun v M => sm_wp X 315 1545 [some (.retAddr 1), some (.ref 0), some (.ref 81), some (.ref 142), some (.int x4), none, none] (v.toList ++ []) M Q))) :=
  (sm_blk X 315 1535 (tt_lin 315 (by decide)) rfl rfl _ _ _ _).trans rfl
set_option maxRecDepth 100000 in
theorem bk_315_1545 (X : (Nat → Int32) × Nat) (mo : Bool) (G : Nat × Nat) (I : Nat → Nat → Int32) (J : Nat → Nat → Int64) (Q : Option Value → sm_M → Prop) (x4 : Int32) (s0 : Int32) :
    sm_wp X 315 1545 [some (.retAddr 1), some (.ref 0), some (.ref 81), some (.ref 142), some (.int x4), none, none] [.int s0] (sM mo G I J) Q =
    (vp_in (x4 + 1) X.2 ∧ (sm_wp X 306 0 [some (.ref 81), some (.int (X.1 (x4 + 1).toNatClampNeg)), none, none] [] (sM mo G I J) (fun v M => sm_wp X 315 1556 [some (.retAddr 1), some (.ref 0), some (.ref 81), some (.ref 142), some (.int x4), none, none] (v.toList ++ []) M Q))) :=
  (sm_blk X 315 1545 (tt_lin 315 (by decide)) rfl rfl _ _ _ _).trans rfl
set_option maxRecDepth 100000 in
theorem bk_315_1556 (X : (Nat → Int32) × Nat) (mo : Bool) (G : Nat × Nat) (I : Nat → Nat → Int32) (J : Nat → Nat → Int64) (Q : Option Value → sm_M → Prop) (x4 : Int32) (s0 : Int32) :
    sm_wp X 315 1556 [some (.retAddr 1), some (.ref 0), some (.ref 81), some (.ref 142), some (.int x4), none, none] [.int s0] (sM mo G I J) Q =
    (sm_wp X 315 1674 [some (.retAddr 1), some (.ref 0), some (.ref 81), some (.ref 142), some (.int x4), none, none] [] (sM mo G I J) Q) :=
  (sm_blk X 315 1556 (tt_lin 315 (by decide)) rfl rfl _ _ _ _).trans rfl
set_option maxRecDepth 100000 in
theorem bk_315_1560 (X : (Nat → Int32) × Nat) (mo : Bool) (G : Nat × Nat) (I : Nat → Nat → Int32) (J : Nat → Nat → Int64) (Q : Option Value → sm_M → Prop) (x4 : Int32) :
    sm_wp X 315 1560 [some (.retAddr 1), some (.ref 0), some (.ref 81), some (.ref 142), some (.int x4), none, none] [] (sM mo G I J) Q =
    (vp_in (x4 + 1) X.2 ∧ (vp_in (x4 + 2) X.2 ∧ (vp_in (x4 + 3) X.2 ∧ (sm_wp X 203 0 [some (.ref 0), some (.int (X.1 (x4 + 1).toNatClampNeg)), some (.int (X.1 (x4 + 2).toNatClampNeg)), some (.int (X.1 (x4 + 3).toNatClampNeg))] [] (sM mo G I J) (fun v M => sm_wp X 315 1582 [some (.retAddr 1), some (.ref 0), some (.ref 81), some (.ref 142), some (.int x4), none, none] (v.toList ++ []) M Q))))) :=
  (sm_blk X 315 1560 (tt_lin 315 (by decide)) rfl rfl _ _ _ _).trans rfl
set_option maxRecDepth 100000 in
theorem bk_315_1582 (X : (Nat → Int32) × Nat) (mo : Bool) (G : Nat × Nat) (I : Nat → Nat → Int32) (J : Nat → Nat → Int64) (Q : Option Value → sm_M → Prop) (x4 : Int32) (s0 : Int32) :
    sm_wp X 315 1582 [some (.retAddr 1), some (.ref 0), some (.ref 81), some (.ref 142), some (.int x4), none, none] [.int s0] (sM mo G I J) Q =
    (vp_in (x4 + 1) X.2 ∧ (vp_in (x4 + 2) X.2 ∧ (vp_in (x4 + 3) X.2 ∧ (sm_wp X 307 0 [some (.ref 81), some (.int (X.1 (x4 + 1).toNatClampNeg)), some (.int (X.1 (x4 + 2).toNatClampNeg)), some (.int (X.1 (x4 + 3).toNatClampNeg))] [] (sM mo G I J) (fun v M => sm_wp X 315 1605 [some (.retAddr 1), some (.ref 0), some (.ref 81), some (.ref 142), some (.int x4), none, none] (v.toList ++ []) M Q))))) :=
  (sm_blk X 315 1582 (tt_lin 315 (by decide)) rfl rfl _ _ _ _).trans rfl
set_option maxRecDepth 100000 in
theorem bk_315_1605 (X : (Nat → Int32) × Nat) (mo : Bool) (G : Nat × Nat) (I : Nat → Nat → Int32) (J : Nat → Nat → Int64) (Q : Option Value → sm_M → Prop) (x4 : Int32) (s0 : Int32) :
    sm_wp X 315 1605 [some (.retAddr 1), some (.ref 0), some (.ref 81), some (.ref 142), some (.int x4), none, none] [.int s0] (sM mo G I J) Q =
    (sm_wp X 315 1674 [some (.retAddr 1), some (.ref 0), some (.ref 81), some (.ref 142), some (.int x4), none, none] [] (sM mo G I J) Q) :=
  (sm_blk X 315 1605 (tt_lin 315 (by decide)) rfl rfl _ _ _ _).trans rfl
-- Law_law 315 at 1609: prim
set_option maxRecDepth 100000 in
theorem bk_315_1644 (X : (Nat → Int32) × Nat) (mo : Bool) (G : Nat × Nat) (I : Nat → Nat → Int32) (J : Nat → Nat → Int64) (Q : Option Value → sm_M → Prop) (x4 : Int32) (x5 : Int32) (s0 : Int32) :
    sm_wp X 315 1644 [some (.retAddr 1), some (.ref 0), some (.ref 81), some (.ref 142), some (.int x4), some (.int x5), none] [.int s0] (sM mo G I J) Q =
    (sm_wp X 315 1674 [some (.retAddr 1), some (.ref 0), some (.ref 81), some (.ref 142), some (.int x4), some (.int x5), some (.int s0)] [] (sM mo G I J) Q) :=
  (sm_blk X 315 1644 (tt_lin 315 (by decide)) rfl rfl _ _ _ _).trans rfl
set_option maxRecDepth 100000 in
theorem bk_315_1649 (X : (Nat → Int32) × Nat) (mo : Bool) (G : Nat × Nat) (I : Nat → Nat → Int32) (J : Nat → Nat → Int64) (Q : Option Value → sm_M → Prop) (x4 : Int32) :
    sm_wp X 315 1649 [some (.retAddr 1), some (.ref 0), some (.ref 81), some (.ref 142), some (.int x4), none, none] [] (sM mo G I J) Q =
    (vp_in (x4 + 1) X.2 ∧ (sm_wp X 204 0 [some (.ref 0), some (.int (X.1 (x4 + 1).toNatClampNeg))] [] (sM mo G I J) (fun v M => sm_wp X 315 1659 [some (.retAddr 1), some (.ref 0), some (.ref 81), some (.ref 142), some (.int x4), none, none] (v.toList ++ []) M Q))) :=
  (sm_blk X 315 1649 (tt_lin 315 (by decide)) rfl rfl _ _ _ _).trans rfl
set_option maxRecDepth 100000 in
theorem bk_315_1659 (X : (Nat → Int32) × Nat) (mo : Bool) (G : Nat × Nat) (I : Nat → Nat → Int32) (J : Nat → Nat → Int64) (Q : Option Value → sm_M → Prop) (x4 : Int32) (s0 : Int32) :
    sm_wp X 315 1659 [some (.retAddr 1), some (.ref 0), some (.ref 81), some (.ref 142), some (.int x4), none, none] [.int s0] (sM mo G I J) Q =
    (vp_in (x4 + 1) X.2 ∧ (sm_wp X 310 0 [some (.ref 81), some (.int (X.1 (x4 + 1).toNatClampNeg)), none, none] [] (sM mo G I J) (fun v M => sm_wp X 315 1670 [some (.retAddr 1), some (.ref 0), some (.ref 81), some (.ref 142), some (.int x4), none, none] (v.toList ++ []) M Q))) :=
  (sm_blk X 315 1659 (tt_lin 315 (by decide)) rfl rfl _ _ _ _).trans rfl
set_option maxRecDepth 100000 in
theorem bk_315_1670 (X : (Nat → Int32) × Nat) (mo : Bool) (G : Nat × Nat) (I : Nat → Nat → Int32) (J : Nat → Nat → Int64) (Q : Option Value → sm_M → Prop) (x4 : Int32) (s0 : Int32) :
    sm_wp X 315 1670 [some (.retAddr 1), some (.ref 0), some (.ref 81), some (.ref 142), some (.int x4), none, none] [.int s0] (sM mo G I J) Q =
    (sm_wp X 315 1674 [some (.retAddr 1), some (.ref 0), some (.ref 81), some (.ref 142), some (.int x4), none, none] [] (sM mo G I J) Q) :=
  (sm_blk X 315 1670 (tt_lin 315 (by decide)) rfl rfl _ _ _ _).trans rfl
set_option maxRecDepth 100000 in
theorem bk_315_1674 (X : (Nat → Int32) × Nat) (mo : Bool) (G : Nat × Nat) (I : Nat → Nat → Int32) (J : Nat → Nat → Int64) (Q : Option Value → sm_M → Prop) (x4 : Int32) :
    sm_wp X 315 1674 [some (.retAddr 1), some (.ref 0), some (.ref 81), some (.ref 142), some (.int x4), none, none] [] (sM mo G I J) Q =
    (sm_wp X 315 23 [some (.retAddr 1), some (.ref 0), some (.ref 81), some (.ref 142), some (.int (x4 + 7)), none, none] [] (sM mo G I J) Q) :=
  (sm_blk X 315 1674 (tt_lin 315 (by decide)) rfl rfl _ _ _ _).trans rfl
set_option maxRecDepth 100000 in
theorem bk_315_1680 (X : (Nat → Int32) × Nat) (mo : Bool) (G : Nat × Nat) (I : Nat → Nat → Int32) (J : Nat → Nat → Int64) (Q : Option Value → sm_M → Prop) (x4 : Int32) :
    sm_wp X 315 1680 [some (.retAddr 1), some (.ref 0), some (.ref 81), some (.ref 142), some (.int x4), none, none] [] (sM mo G I J) Q =
    (sm_zb 1 ∧ Q (some (.int 1)) (sM mo G I J)) :=
  (sm_blk X 315 1680 (tt_lin 315 (by decide)) rfl rfl _ _ _ _).trans rfl
