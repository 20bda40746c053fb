section
set_option maxRecDepth 100000 in
theorem bk_293_0 (X : (Nat → Int32) × Nat) (mo : Bool) (G : Nat × Nat) (I : Nat → Nat → Int32) (J : Nat → Nat → Int64) (Q : Option Value → sm_M → Prop) (x1 : Int32) :
    sm_wp X 293 0 [some (.ref 81), some (.int x1)] [] (sM mo G I J) Q =
    (if (x1 : Int32) < 0 then sm_wp X 293 16 [some (.ref 81), some (.int x1)] [] (sM mo G I J) Q else (if (I 81 81 : Int32) ≤ (x1 : Int32) then sm_wp X 293 16 [some (.ref 81), some (.int x1)] [] (sM mo G I J) Q else (sm_wp X 293 17 [some (.ref 81), some (.int x1)] [.int 1] (sM mo G I J) Q))) :=
  (sm_blk X 293 0 (tt_lin 293 (by decide)) rfl rfl _ _ _ _).trans rfl
set_option maxRecDepth 100000 in
theorem bk_293_16 (X : (Nat → Int32) × Nat) (mo : Bool) (G : Nat × Nat) (I : Nat → Nat → Int32) (J : Nat → Nat → Int64) (Q : Option Value → sm_M → Prop) (x1 : Int32) :
    sm_wp X 293 16 [some (.ref 81), some (.int x1)] [] (sM mo G I J) Q =
    (sm_zb 0 ∧ Q (some (.int 0)) (sM mo G I J)) :=
  (sm_blk X 293 16 (tt_lin 293 (by decide)) rfl rfl _ _ _ _).trans rfl
set_option maxRecDepth 100000 in
theorem bk_293_17 (X : (Nat → Int32) × Nat) (mo : Bool) (G : Nat × Nat) (I : Nat → Nat → Int32) (J : Nat → Nat → Int64) (Q : Option Value → sm_M → Prop) (x1 : Int32) (s0 : Int32) :
    sm_wp X 293 17 [some (.ref 81), some (.int x1)] [.int s0] (sM mo G I J) Q =
    (sm_zb s0 ∧ Q (some (.int s0)) (sM mo G I J)) :=
  (sm_blk X 293 17 (tt_lin 293 (by decide)) rfl rfl _ _ _ _).trans rfl
set_option maxRecDepth 100000 in
theorem bk_294_0 (X : (Nat → Int32) × Nat) (mo : Bool) (G : Nat × Nat) (I : Nat → Nat → Int32) (J : Nat → Nat → Int64) (Q : Option Value → sm_M → Prop) (x1 : Int32) (x2 : Int32) (x3 : Int32) :
    sm_wp X 294 0 [some (.ref 81), some (.int x1), some (.int x2), some (.int x3)] [] (sM mo G I J) Q =
    (sm_wp X 293 0 [some (.ref 81), some (.int x1)] [] (sM mo G (up2 I 81 2 0) J) (fun v M => sm_wp X 294 10 [some (.ref 81), some (.int x1), some (.int x2), some (.int x3)] (v.toList ++ []) M Q)) :=
  (sm_blk X 294 0 (tt_lin 294 (by decide)) rfl rfl _ _ _ _).trans rfl
set_option maxRecDepth 100000 in
theorem bk_294_10 (X : (Nat → Int32) × Nat) (mo : Bool) (G : Nat × Nat) (I : Nat → Nat → Int32) (J : Nat → Nat → Int64) (Q : Option Value → sm_M → Prop) (x1 : Int32) (x2 : Int32) (x3 : Int32) (s0 : Int32) :
    sm_wp X 294 10 [some (.ref 81), some (.int x1), some (.int x2), some (.int x3)] [.int s0] (sM mo G I J) Q =
    (if (s0 : Int32) = 0 then sm_wp X 294 41 [some (.ref 81), some (.int x1), some (.int x2), some (.int x3)] [] (sM mo G I J) Q else (sm_wp X 293 0 [some (.ref 81), some (.int x2)] [] (sM mo G I J) (fun v M => sm_wp X 294 18 [some (.ref 81), some (.int x1), some (.int x2), some (.int x3)] (v.toList ++ []) M Q))) :=
  (sm_blk X 294 10 (tt_lin 294 (by decide)) rfl rfl _ _ _ _).trans rfl
set_option maxRecDepth 100000 in
theorem bk_294_18 (X : (Nat → Int32) × Nat) (mo : Bool) (G : Nat × Nat) (I : Nat → Nat → Int32) (J : Nat → Nat → Int64) (Q : Option Value → sm_M → Prop) (x1 : Int32) (x2 : Int32) (x3 : Int32) (s0 : Int32) :
    sm_wp X 294 18 [some (.ref 81), some (.int x1), some (.int x2), some (.int x3)] [.int s0] (sM mo G I J) Q =
    (if (s0 : Int32) = 0 then sm_wp X 294 41 [some (.ref 81), some (.int x1), some (.int x2), some (.int x3)] [] (sM mo G I J) Q else (if (x1 : Int32) = (x2 : Int32) then sm_wp X 294 41 [some (.ref 81), some (.int x1), some (.int x2), some (.int x3)] [] (sM mo G I J) Q else (vp_in ((8 * x1) + x2) 64 ∧ (if ¬ (I 137 (((8 * x1) + x2).toNatClampNeg) : Int32) = (x3 : Int32) then sm_wp X 294 43 [some (.ref 81), some (.int x1), some (.int x2), some (.int x3)] [] (sM mo G I J) Q else (sm_zb 0 ∧ Q (some (.int 0)) (sM mo G I J)))))) :=
  (sm_blk X 294 18 (tt_lin 294 (by decide)) rfl rfl _ _ _ _).trans rfl
set_option maxRecDepth 100000 in
theorem bk_294_41 (X : (Nat → Int32) × Nat) (mo : Bool) (G : Nat × Nat) (I : Nat → Nat → Int32) (J : Nat → Nat → Int64) (Q : Option Value → sm_M → Prop) (x1 : Int32) (x2 : Int32) (x3 : Int32) :
    sm_wp X 294 41 [some (.ref 81), some (.int x1), some (.int x2), some (.int x3)] [] (sM mo G I J) Q =
    (sm_zb 0 ∧ Q (some (.int 0)) (sM mo G I J)) :=
  (sm_blk X 294 41 (tt_lin 294 (by decide)) rfl rfl _ _ _ _).trans rfl
set_option maxRecDepth 100000 in
theorem bk_294_43 (X : (Nat → Int32) × Nat) (mo : Bool) (G : Nat × Nat) (I : Nat → Nat → Int32) (J : Nat → Nat → Int64) (Q : Option Value → sm_M → Prop) (x1 : Int32) (x2 : Int32) (x3 : Int32) :
    sm_wp X 294 43 [some (.ref 81), some (.int x1), some (.int x2), some (.int x3)] [] (sM mo G I J) Q =
    (vp_in ((8 * x1) + x2) 64 ∧ (sm_zb 1 ∧ Q (some (.int 1)) (sM mo G (up2 I 137 ((8 * x1) + x2).toNatClampNeg (vp_nar .boolean x3)) J))) :=
  (sm_blk X 294 43 (tt_lin 294 (by decide)) rfl rfl _ _ _ _).trans rfl
set_option maxRecDepth 100000 in
theorem bk_295_0 (X : (Nat → Int32) × Nat) (mo : Bool) (G : Nat × Nat) (I : Nat → Nat → Int32) (J : Nat → Nat → Int64) (Q : Option Value → sm_M → Prop) (x1 : Int32) (x2 : Int32) (x3 : Int32) :
    sm_wp X 295 0 [some (.ref 81), some (.int x1), some (.int x2), some (.int x3)] [] (sM mo G I J) Q =
    (sm_wp X 293 0 [some (.ref 81), some (.int x1)] [] (sM mo G (up2 I 81 2 0) J) (fun v M => sm_wp X 295 10 [some (.ref 81), some (.int x1), some (.int x2), some (.int x3)] (v.toList ++ []) M Q)) :=
  (sm_blk X 295 0 (tt_lin 295 (by decide)) rfl rfl _ _ _ _).trans rfl
set_option maxRecDepth 100000 in
theorem bk_295_10 (X : (Nat → Int32) × Nat) (mo : Bool) (G : Nat × Nat) (I : Nat → Nat → Int32) (J : Nat → Nat → Int64) (Q : Option Value → sm_M → Prop) (x1 : Int32) (x2 : Int32) (x3 : Int32) (s0 : Int32) :
    sm_wp X 295 10 [some (.ref 81), some (.int x1), some (.int x2), some (.int x3)] [.int s0] (sM mo G I J) Q =
    (if (s0 : Int32) = 0 then sm_wp X 295 44 [some (.ref 81), some (.int x1), some (.int x2), some (.int x3)] [] (sM mo G I J) Q else (sm_wp X 215 0 [some (.ref 81), some (.int x2)] [] (sM mo G I J) (fun v M => sm_wp X 295 18 [some (.ref 81), some (.int x1), some (.int x2), some (.int x3)] (v.toList ++ []) M Q))) :=
  (sm_blk X 295 10 (tt_lin 295 (by decide)) rfl rfl _ _ _ _).trans rfl
set_option maxRecDepth 100000 in
theorem bk_295_18 (X : (Nat → Int32) × Nat) (mo : Bool) (G : Nat × Nat) (I : Nat → Nat → Int32) (J : Nat → Nat → Int64) (Q : Option Value → sm_M → Prop) (x1 : Int32) (x2 : Int32) (x3 : Int32) (s0 : Int32) :
    sm_wp X 295 18 [some (.ref 81), some (.int x1), some (.int x2), some (.int x3)] [.int s0] (sM mo G I J) Q =
    (if (s0 : Int32) = 0 then sm_wp X 295 44 [some (.ref 81), some (.int x1), some (.int x2), some (.int x3)] [] (sM mo G I J) Q else (vp_in x1 8 ∧ (if ¬ (((I 138 (x1.toNatClampNeg)) >>> (x2 &&& 31)) &&& 1 : Int32) = (1 : Int32) then sm_wp X 295 39 [some (.ref 81), some (.int x1), some (.int x2), some (.int x3)] [] (sM mo G I J) Q else (sm_wp X 295 40 [some (.ref 81), some (.int x1), some (.int x2), some (.int x3)] [.int 1] (sM mo G I J) Q)))) :=
  (sm_blk X 295 18 (tt_lin 295 (by decide)) rfl rfl _ _ _ _).trans rfl
set_option maxRecDepth 100000 in
theorem bk_295_39 (X : (Nat → Int32) × Nat) (mo : Bool) (G : Nat × Nat) (I : Nat → Nat → Int32) (J : Nat → Nat → Int64) (Q : Option Value → sm_M → Prop) (x1 : Int32) (x2 : Int32) (x3 : Int32) :
    sm_wp X 295 39 [some (.ref 81), some (.int x1), some (.int x2), some (.int x3)] [] (sM mo G I J) Q =
    (if ¬ (0 : Int32) = (x3 : Int32) then sm_wp X 295 46 [some (.ref 81), some (.int x1), some (.int x2), some (.int x3)] [] (sM mo G I J) Q else (sm_zb 0 ∧ Q (some (.int 0)) (sM mo G I J))) :=
  (sm_blk X 295 39 (tt_lin 295 (by decide)) rfl rfl _ _ _ _).trans rfl
set_option maxRecDepth 100000 in
theorem bk_295_40 (X : (Nat → Int32) × Nat) (mo : Bool) (G : Nat × Nat) (I : Nat → Nat → Int32) (J : Nat → Nat → Int64) (Q : Option Value → sm_M → Prop) (x1 : Int32) (x2 : Int32) (x3 : Int32) (s0 : Int32) :
    sm_wp X 295 40 [some (.ref 81), some (.int x1), some (.int x2), some (.int x3)] [.int s0] (sM mo G I J) Q =
    (if ¬ (s0 : Int32) = (x3 : Int32) then sm_wp X 295 46 [some (.ref 81), some (.int x1), some (.int x2), some (.int x3)] [] (sM mo G I J) Q else (sm_zb 0 ∧ Q (some (.int 0)) (sM mo G I J))) :=
  (sm_blk X 295 40 (tt_lin 295 (by decide)) rfl rfl _ _ _ _).trans rfl
set_option maxRecDepth 100000 in
theorem bk_295_44 (X : (Nat → Int32) × Nat) (mo : Bool) (G : Nat × Nat) (I : Nat → Nat → Int32) (J : Nat → Nat → Int64) (Q : Option Value → sm_M → Prop) (x1 : Int32) (x2 : Int32) (x3 : Int32) :
    sm_wp X 295 44 [some (.ref 81), some (.int x1), some (.int x2), some (.int x3)] [] (sM mo G I J) Q =
    (sm_zb 0 ∧ Q (some (.int 0)) (sM mo G I J)) :=
  (sm_blk X 295 44 (tt_lin 295 (by decide)) rfl rfl _ _ _ _).trans rfl
set_option maxRecDepth 100000 in
theorem bk_295_46 (X : (Nat → Int32) × Nat) (mo : Bool) (G : Nat × Nat) (I : Nat → Nat → Int32) (J : Nat → Nat → Int64) (Q : Option Value → sm_M → Prop) (x1 : Int32) (x2 : Int32) (x3 : Int32) :
    sm_wp X 295 46 [some (.ref 81), some (.int x1), some (.int x2), some (.int x3)] [] (sM mo G I J) Q =
    (vp_in x1 8 ∧ (vp_in x1 8 ∧ (sm_zb 1 ∧ Q (some (.int 1)) (sM mo G (up2 I 138 x1.toNatClampNeg ((I 138 (x1.toNatClampNeg)) ^^^ (1 <<< (x2 &&& 31)))) J)))) :=
  (sm_blk X 295 46 (tt_lin 295 (by decide)) rfl rfl _ _ _ _).trans rfl
set_option maxRecDepth 100000 in
theorem bk_296_0 (X : (Nat → Int32) × Nat) (mo : Bool) (G : Nat × Nat) (I : Nat → Nat → Int32) (J : Nat → Nat → Int64) (Q : Option Value → sm_M → Prop) (x1 : Int32) (x2 : Int32) (x3 : Int32) :
    sm_wp X 296 0 [some (.ref 81), some (.int x1), some (.int x2), some (.int x3)] [] (sM mo G I J) Q =
    (sm_wp X 293 0 [some (.ref 81), some (.int x1)] [] (sM mo G (up2 I 81 2 0) J) (fun v M => sm_wp X 296 10 [some (.ref 81), some (.int x1), some (.int x2), some (.int x3)] (v.toList ++ []) M Q)) :=
  (sm_blk X 296 0 (tt_lin 296 (by decide)) rfl rfl _ _ _ _).trans rfl
set_option maxRecDepth 100000 in
theorem bk_296_10 (X : (Nat → Int32) × Nat) (mo : Bool) (G : Nat × Nat) (I : Nat → Nat → Int32) (J : Nat → Nat → Int64) (Q : Option Value → sm_M → Prop) (x1 : Int32) (x2 : Int32) (x3 : Int32) (s0 : Int32) :
    sm_wp X 296 10 [some (.ref 81), some (.int x1), some (.int x2), some (.int x3)] [.int s0] (sM mo G I J) Q =
    (if (s0 : Int32) = 0 then sm_wp X 296 57 [some (.ref 81), some (.int x1), some (.int x2), some (.int x3)] [] (sM mo G I J) Q else (sm_wp X 216 0 [some (.ref 81), some (.int x2)] [] (sM mo G I J) (fun v M => sm_wp X 296 18 [some (.ref 81), some (.int x1), some (.int x2), some (.int x3)] (v.toList ++ []) M Q))) :=
  (sm_blk X 296 10 (tt_lin 296 (by decide)) rfl rfl _ _ _ _).trans rfl
set_option maxRecDepth 100000 in
theorem bk_296_18 (X : (Nat → Int32) × Nat) (mo : Bool) (G : Nat × Nat) (I : Nat → Nat → Int32) (J : Nat → Nat → Int64) (Q : Option Value → sm_M → Prop) (x1 : Int32) (x2 : Int32) (x3 : Int32) (s0 : Int32) :
    sm_wp X 296 18 [some (.ref 81), some (.int x1), some (.int x2), some (.int x3)] [.int s0] (sM mo G I J) Q =
    (if (s0 : Int32) = 0 then sm_wp X 296 57 [some (.ref 81), some (.int x1), some (.int x2), some (.int x3)] [] (sM mo G I J) Q else (sm_wp X 216 0 [some (.ref 81), some (.int x3)] [] (sM mo G I J) (fun v M => sm_wp X 296 26 [some (.ref 81), some (.int x1), some (.int x2), some (.int x3)] (v.toList ++ []) M Q))) :=
  (sm_blk X 296 18 (tt_lin 296 (by decide)) rfl rfl _ _ _ _).trans rfl
set_option maxRecDepth 100000 in
theorem bk_296_26 (X : (Nat → Int32) × Nat) (mo : Bool) (G : Nat × Nat) (I : Nat → Nat → Int32) (J : Nat → Nat → Int64) (Q : Option Value → sm_M → Prop) (x1 : Int32) (x2 : Int32) (x3 : Int32) (s0 : Int32) :
    sm_wp X 296 26 [some (.ref 81), some (.int x1), some (.int x2), some (.int x3)] [.int s0] (sM mo G I J) Q =
    (if (s0 : Int32) = 0 then sm_wp X 296 57 [some (.ref 81), some (.int x1), some (.int x2), some (.int x3)] [] (sM mo G I J) Q else (vp_in ((6 * x1) + x2) 48 ∧ (if (I 135 (((6 * x1) + x2).toNatClampNeg) : Int32) = 0 then sm_wp X 296 57 [some (.ref 81), some (.int x1), some (.int x2), some (.int x3)] [] (sM mo G I J) Q else (vp_in ((6 * x1) + x3) 48 ∧ (if ¬ (I 135 (((6 * x1) + x3).toNatClampNeg) : Int32) = 0 then sm_wp X 296 59 [some (.ref 81), some (.int x1), some (.int x2), some (.int x3)] [] (sM mo G I J) Q else (True ∧ Q (some (.int (-1))) (sM mo G I J))))))) :=
  (sm_blk X 296 26 (tt_lin 296 (by decide)) rfl rfl _ _ _ _).trans rfl
set_option maxRecDepth 100000 in
theorem bk_296_57 (X : (Nat → Int32) × Nat) (mo : Bool) (G : Nat × Nat) (I : Nat → Nat → Int32) (J : Nat → Nat → Int64) (Q : Option Value → sm_M → Prop) (x1 : Int32) (x2 : Int32) (x3 : Int32) :
    sm_wp X 296 57 [some (.ref 81), some (.int x1), some (.int x2), some (.int x3)] [] (sM mo G I J) Q =
    (True ∧ Q (some (.int (-1))) (sM mo G I J)) :=
  (sm_blk X 296 57 (tt_lin 296 (by decide)) rfl rfl _ _ _ _).trans rfl
set_option maxRecDepth 100000 in
theorem bk_296_59 (X : (Nat → Int32) × Nat) (mo : Bool) (G : Nat × Nat) (I : Nat → Nat → Int32) (J : Nat → Nat → Int64) (Q : Option Value → sm_M → Prop) (x1 : Int32) (x2 : Int32) (x3 : Int32) :
    sm_wp X 296 59 [some (.ref 81), some (.int x1), some (.int x2), some (.int x3)] [] (sM mo G I J) Q =
    (sm_wp X 297 0 [some (.ref 81), some (.int ((6 * x1) + x2)), some (.int ((6 * x1) + x3)), none, none, none] [] (sM mo G I J) (fun v M => sm_wp X 296 75 [some (.ref 81), some (.int x1), some (.int x2), some (.int x3)] (v.toList ++ []) M Q)) :=
  (sm_blk X 296 59 (tt_lin 296 (by decide)) rfl rfl _ _ _ _).trans rfl
set_option maxRecDepth 100000 in
theorem bk_296_75 (X : (Nat → Int32) × Nat) (mo : Bool) (G : Nat × Nat) (I : Nat → Nat → Int32) (J : Nat → Nat → Int64) (Q : Option Value → sm_M → Prop) (x1 : Int32) (x2 : Int32) (x3 : Int32) (s0 : Int32) :
    sm_wp X 296 75 [some (.ref 81), some (.int x1), some (.int x2), some (.int x3)] [.int s0] (sM mo G I J) Q =
    (True ∧ Q (some (.int s0)) (sM mo G I J)) :=
  (sm_blk X 296 75 (tt_lin 296 (by decide)) rfl rfl _ _ _ _).trans rfl
set_option maxRecDepth 100000 in
theorem bk_297_0 (X : (Nat → Int32) × Nat) (mo : Bool) (G : Nat × Nat) (I : Nat → Nat → Int32) (J : Nat → Nat → Int64) (Q : Option Value → sm_M → Prop) (x1 : Int32) (x2 : Int32) :
    sm_wp X 297 0 [some (.ref 81), some (.int x1), some (.int x2), none, none, none] [] (sM mo G I J) Q =
    (vp_in x1 48 ∧ (sm_wp X 297 7 [some (.ref 81), some (.int x1), some (.int x2), some (.int (I 135 (x1.toNatClampNeg))), none, none] [] (sM mo G I J) Q)) :=
  (sm_blk X 297 0 (tt_lin 297 (by decide)) rfl rfl _ _ _ _).trans rfl
set_option maxRecDepth 100000 in
theorem bk_297_7 (X : (Nat → Int32) × Nat) (mo : Bool) (G : Nat × Nat) (I : Nat → Nat → Int32) (J : Nat → Nat → Int64) (Q : Option Value → sm_M → Prop) (x1 : Int32) (x2 : Int32) (x3 : Int32) :
    sm_wp X 297 7 [some (.ref 81), some (.int x1), some (.int x2), some (.int x3), none, none] [] (sM mo G I J) Q =
    (if (x3 : Int32) < 0 then sm_wp X 297 241 [some (.ref 81), some (.int x1), some (.int x2), some (.int x3), none, none] [] (sM mo G I J) Q else (vp_in x2 48 ∧ (sm_wp X 297 19 [some (.ref 81), some (.int x1), some (.int x2), some (.int x3), some (.int (I 135 (x2.toNatClampNeg))), none] [] (sM mo G I J) Q))) :=
  (sm_blk X 297 7 (tt_lin 297 (by decide)) rfl rfl _ _ _ _).trans rfl
set_option maxRecDepth 100000 in
theorem bk_297_19 (X : (Nat → Int32) × Nat) (mo : Bool) (G : Nat × Nat) (I : Nat → Nat → Int32) (J : Nat → Nat → Int64) (Q : Option Value → sm_M → Prop) (x1 : Int32) (x2 : Int32) (x3 : Int32) (x4 : Int32) :
    sm_wp X 297 19 [some (.ref 81), some (.int x1), some (.int x2), some (.int x3), some (.int x4), none] [] (sM mo G I J) Q =
    (if (x4 : Int32) < 0 then sm_wp X 297 235 [some (.ref 81), some (.int x1), some (.int x2), some (.int x3), some (.int x4), none] [] (sM mo G I J) Q else (vp_in x1 48 ∧ (if ¬ (x3 : Int32) = (I 135 (x1.toNatClampNeg) : Int32) then sm_wp X 297 46 [some (.ref 81), some (.int x1), some (.int x2), some (.int x3), some (.int x4), none] [] (sM mo G I J) Q else (vp_in x2 48 ∧ (sm_wp X 297 69 [some (.ref 81), some (.int x1), some (.int x2), some (.int x3), some (.int x4), none] [.int ((I 135 (x2.toNatClampNeg)) - x4)] (sM mo G I J) Q))))) :=
  (sm_blk X 297 19 (tt_lin 297 (by decide)) rfl rfl _ _ _ _).trans rfl
set_option maxRecDepth 100000 in
theorem bk_297_46 (X : (Nat → Int32) × Nat) (mo : Bool) (G : Nat × Nat) (I : Nat → Nat → Int32) (J : Nat → Nat → Int64) (Q : Option Value → sm_M → Prop) (x1 : Int32) (x2 : Int32) (x3 : Int32) (x4 : Int32) :
    sm_wp X 297 46 [some (.ref 81), some (.int x1), some (.int x2), some (.int x3), some (.int x4), none] [] (sM mo G I J) Q =
    (vp_in x2 48 ∧ (if ¬ (x4 : Int32) = (I 135 (x2.toNatClampNeg) : Int32) then sm_wp X 297 68 [some (.ref 81), some (.int x1), some (.int x2), some (.int x3), some (.int x4), none] [] (sM mo G I J) Q else (vp_in x1 48 ∧ (sm_wp X 297 69 [some (.ref 81), some (.int x1), some (.int x2), some (.int x3), some (.int x4), none] [.int ((I 135 (x1.toNatClampNeg)) - x3)] (sM mo G I J) Q)))) :=
  (sm_blk X 297 46 (tt_lin 297 (by decide)) rfl rfl _ _ _ _).trans rfl
set_option maxRecDepth 100000 in
theorem bk_297_68 (X : (Nat → Int32) × Nat) (mo : Bool) (G : Nat × Nat) (I : Nat → Nat → Int32) (J : Nat → Nat → Int64) (Q : Option Value → sm_M → Prop) (x1 : Int32) (x2 : Int32) (x3 : Int32) (x4 : Int32) :
    sm_wp X 297 68 [some (.ref 81), some (.int x1), some (.int x2), some (.int x3), some (.int x4), none] [] (sM mo G I J) Q =
    (if 0 ≤ ((-1) : Int32) then sm_wp X 297 215 [some (.ref 81), some (.int x1), some (.int x2), some (.int x3), some (.int x4), some (.int (-1))] [] (sM mo G I J) Q else (vp_in (((9 * x3) + x4) + 10) 81 ∧ (vp_in ((8 * x1) + x3) 384 ∧ (vp_in ((8 * x2) + x4) 384 ∧ (if ¬ (I 136 (((8 * x1) + x3).toNatClampNeg) : Int32) = (I 136 (((8 * x2) + x4).toNatClampNeg) : Int32) then sm_wp X 297 121 [some (.ref 81), some (.int x1), some (.int x2), some (.int x3), some (.int x4), some (.int (-1))] [.int (I 139 ((((9 * x3) + x4) + 10).toNatClampNeg))] (sM mo G I J) Q else (sm_wp X 297 122 [some (.ref 81), some (.int x1), some (.int x2), some (.int x3), some (.int x4), some (.int (-1))] [.int 0, .int (I 139 ((((9 * x3) + x4) + 10).toNatClampNeg))] (sM mo G I J) Q)))))) :=
  (sm_blk X 297 68 (tt_lin 297 (by decide)) rfl rfl _ _ _ _).trans rfl
set_option maxRecDepth 100000 in
theorem bk_297_69 (X : (Nat → Int32) × Nat) (mo : Bool) (G : Nat × Nat) (I : Nat → Nat → Int32) (J : Nat → Nat → Int64) (Q : Option Value → sm_M → Prop) (x1 : Int32) (x2 : Int32) (x3 : Int32) (x4 : Int32) (s0 : Int32) :
    sm_wp X 297 69 [some (.ref 81), some (.int x1), some (.int x2), some (.int x3), some (.int x4), none] [.int s0] (sM mo G I J) Q =
    (if 0 ≤ (s0 : Int32) then sm_wp X 297 215 [some (.ref 81), some (.int x1), some (.int x2), some (.int x3), some (.int x4), some (.int s0)] [] (sM mo G I J) Q else (vp_in (((9 * x3) + x4) + 10) 81 ∧ (vp_in ((8 * x1) + x3) 384 ∧ (vp_in ((8 * x2) + x4) 384 ∧ (if ¬ (I 136 (((8 * x1) + x3).toNatClampNeg) : Int32) = (I 136 (((8 * x2) + x4).toNatClampNeg) : Int32) then sm_wp X 297 121 [some (.ref 81), some (.int x1), some (.int x2), some (.int x3), some (.int x4), some (.int s0)] [.int (I 139 ((((9 * x3) + x4) + 10).toNatClampNeg))] (sM mo G I J) Q else (sm_wp X 297 122 [some (.ref 81), some (.int x1), some (.int x2), some (.int x3), some (.int x4), some (.int s0)] [.int 0, .int (I 139 ((((9 * x3) + x4) + 10).toNatClampNeg))] (sM mo G I J) Q)))))) :=
  (sm_blk X 297 69 (tt_lin 297 (by decide)) rfl rfl _ _ _ _).trans rfl
set_option maxRecDepth 100000 in
theorem bk_297_121 (X : (Nat → Int32) × Nat) (mo : Bool) (G : Nat × Nat) (I : Nat → Nat → Int32) (J : Nat → Nat → Int64) (Q : Option Value → sm_M → Prop) (x1 : Int32) (x2 : Int32) (x3 : Int32) (x4 : Int32) (x5 : Int32) (s0 : Int32) :
    sm_wp X 297 121 [some (.ref 81), some (.int x1), some (.int x2), some (.int x3), some (.int x4), some (.int x5)] [.int s0] (sM mo G I J) Q =
    (vp_in (((9 * x3) + x4) + 9) 81 ∧ (if (s0 + 1 : Int32) ≤ ((I 139 ((((9 * x3) + x4) + 9).toNatClampNeg)) + 1 : Int32) then sm_wp X 297 167 [some (.ref 81), some (.int x1), some (.int x2), some (.int x3), some (.int x4), some (.int (s0 + 1))] [] (sM mo G I J) Q else (vp_in (((9 * x3) + x4) + 9) 81 ∧ (sm_wp X 297 169 [some (.ref 81), some (.int x1), some (.int x2), some (.int x3), some (.int x4), some (.int (s0 + 1))] [.int ((I 139 ((((9 * x3) + x4) + 9).toNatClampNeg)) + 1)] (sM mo G I J) Q)))) :=
  (sm_blk X 297 121 (tt_lin 297 (by decide)) rfl rfl _ _ _ _).trans rfl
set_option maxRecDepth 100000 in
theorem bk_297_122 (X : (Nat → Int32) × Nat) (mo : Bool) (G : Nat × Nat) (I : Nat → Nat → Int32) (J : Nat → Nat → Int64) (Q : Option Value → sm_M → Prop) (x1 : Int32) (x2 : Int32) (x3 : Int32) (x4 : Int32) (x5 : Int32) (s0 : Int32) (s1 : Int32) :
    sm_wp X 297 122 [some (.ref 81), some (.int x1), some (.int x2), some (.int x3), some (.int x4), some (.int x5)] [.int s1, .int s0] (sM mo G I J) Q =
    (vp_in (((9 * x3) + x4) + 9) 81 ∧ (if (s0 + s1 : Int32) ≤ ((I 139 ((((9 * x3) + x4) + 9).toNatClampNeg)) + 1 : Int32) then sm_wp X 297 167 [some (.ref 81), some (.int x1), some (.int x2), some (.int x3), some (.int x4), some (.int (s0 + s1))] [] (sM mo G I J) Q else (vp_in (((9 * x3) + x4) + 9) 81 ∧ (sm_wp X 297 169 [some (.ref 81), some (.int x1), some (.int x2), some (.int x3), some (.int x4), some (.int (s0 + s1))] [.int ((I 139 ((((9 * x3) + x4) + 9).toNatClampNeg)) + 1)] (sM mo G I J) Q)))) :=
  (sm_blk X 297 122 (tt_lin 297 (by decide)) rfl rfl _ _ _ _).trans rfl
set_option maxRecDepth 100000 in
theorem bk_297_167 (X : (Nat → Int32) × Nat) (mo : Bool) (G : Nat × Nat) (I : Nat → Nat → Int32) (J : Nat → Nat → Int64) (Q : Option Value → sm_M → Prop) (x1 : Int32) (x2 : Int32) (x3 : Int32) (x4 : Int32) (x5 : Int32) :
    sm_wp X 297 167 [some (.ref 81), some (.int x1), some (.int x2), some (.int x3), some (.int x4), some (.int x5)] [] (sM mo G I J) Q =
    (vp_in (((9 * x3) + x4) + 1) 81 ∧ (if (x5 : Int32) ≤ ((I 139 ((((9 * x3) + x4) + 1).toNatClampNeg)) + 1 : Int32) then sm_wp X 297 211 [some (.ref 81), some (.int x1), some (.int x2), some (.int x3), some (.int x4), some (.int x5)] [] (sM mo G I J) Q else (vp_in (((9 * x3) + x4) + 1) 81 ∧ (sm_wp X 297 213 [some (.ref 81), some (.int x1), some (.int x2), some (.int x3), some (.int x4), some (.int x5)] [.int ((I 139 ((((9 * x3) + x4) + 1).toNatClampNeg)) + 1)] (sM mo G I J) Q)))) :=
  (sm_blk X 297 167 (tt_lin 297 (by decide)) rfl rfl _ _ _ _).trans rfl
set_option maxRecDepth 100000 in
theorem bk_297_169 (X : (Nat → Int32) × Nat) (mo : Bool) (G : Nat × Nat) (I : Nat → Nat → Int32) (J : Nat → Nat → Int64) (Q : Option Value → sm_M → Prop) (x1 : Int32) (x2 : Int32) (x3 : Int32) (x4 : Int32) (x5 : Int32) (s0 : Int32) :
    sm_wp X 297 169 [some (.ref 81), some (.int x1), some (.int x2), some (.int x3), some (.int x4), some (.int x5)] [.int s0] (sM mo G I J) Q =
    (vp_in (((9 * x3) + x4) + 1) 81 ∧ (if (s0 : Int32) ≤ ((I 139 ((((9 * x3) + x4) + 1).toNatClampNeg)) + 1 : Int32) then sm_wp X 297 211 [some (.ref 81), some (.int x1), some (.int x2), some (.int x3), some (.int x4), some (.int s0)] [] (sM mo G I J) Q else (vp_in (((9 * x3) + x4) + 1) 81 ∧ (sm_wp X 297 213 [some (.ref 81), some (.int x1), some (.int x2), some (.int x3), some (.int x4), some (.int s0)] [.int ((I 139 ((((9 * x3) + x4) + 1).toNatClampNeg)) + 1)] (sM mo G I J) Q)))) :=
  (sm_blk X 297 169 (tt_lin 297 (by decide)) rfl rfl _ _ _ _).trans rfl
set_option maxRecDepth 100000 in
theorem bk_297_211 (X : (Nat → Int32) × Nat) (mo : Bool) (G : Nat × Nat) (I : Nat → Nat → Int32) (J : Nat → Nat → Int64) (Q : Option Value → sm_M → Prop) (x1 : Int32) (x2 : Int32) (x3 : Int32) (x4 : Int32) (x5 : Int32) :
    sm_wp X 297 211 [some (.ref 81), some (.int x1), some (.int x2), some (.int x3), some (.int x4), some (.int x5)] [] (sM mo G I J) Q =
    (vp_in ((9 * x3) + x4) 81 ∧ (sm_wp X 297 19 [some (.ref 81), some (.int x1), some (.int x2), some (.int x3), some (.int (x4 + (-1))), none] [] (sM mo G (up2 I 139 ((9 * x3) + x4).toNatClampNeg x5) J) Q)) :=
  (sm_blk X 297 211 (tt_lin 297 (by decide)) rfl rfl _ _ _ _).trans rfl
set_option maxRecDepth 100000 in
theorem bk_297_213 (X : (Nat → Int32) × Nat) (mo : Bool) (G : Nat × Nat) (I : Nat → Nat → Int32) (J : Nat → Nat → Int64) (Q : Option Value → sm_M → Prop) (x1 : Int32) (x2 : Int32) (x3 : Int32) (x4 : Int32) (x5 : Int32) (s0 : Int32) :
    sm_wp X 297 213 [some (.ref 81), some (.int x1), some (.int x2), some (.int x3), some (.int x4), some (.int x5)] [.int s0] (sM mo G I J) Q =
    (vp_in ((9 * x3) + x4) 81 ∧ (sm_wp X 297 19 [some (.ref 81), some (.int x1), some (.int x2), some (.int x3), some (.int (x4 + (-1))), none] [] (sM mo G (up2 I 139 ((9 * x3) + x4).toNatClampNeg s0) J) Q)) :=
  (sm_blk X 297 213 (tt_lin 297 (by decide)) rfl rfl _ _ _ _).trans rfl
set_option maxRecDepth 100000 in
theorem bk_297_215 (X : (Nat → Int32) × Nat) (mo : Bool) (G : Nat × Nat) (I : Nat → Nat → Int32) (J : Nat → Nat → Int64) (Q : Option Value → sm_M → Prop) (x1 : Int32) (x2 : Int32) (x3 : Int32) (x4 : Int32) (x5 : Int32) :
    sm_wp X 297 215 [some (.ref 81), some (.int x1), some (.int x2), some (.int x3), some (.int x4), some (.int x5)] [] (sM mo G I J) Q =
    (vp_in ((9 * x3) + x4) 81 ∧ (sm_wp X 297 19 [some (.ref 81), some (.int x1), some (.int x2), some (.int x3), some (.int (x4 + (-1))), none] [] (sM mo G (up2 I 139 ((9 * x3) + x4).toNatClampNeg x5) J) Q)) :=
  (sm_blk X 297 215 (tt_lin 297 (by decide)) rfl rfl _ _ _ _).trans rfl
set_option maxRecDepth 100000 in
theorem bk_297_235 (X : (Nat → Int32) × Nat) (mo : Bool) (G : Nat × Nat) (I : Nat → Nat → Int32) (J : Nat → Nat → Int64) (Q : Option Value → sm_M → Prop) (x1 : Int32) (x2 : Int32) (x3 : Int32) (x4 : Int32) :
    sm_wp X 297 235 [some (.ref 81), some (.int x1), some (.int x2), some (.int x3), some (.int x4), none] [] (sM mo G I J) Q =
    (sm_wp X 297 7 [some (.ref 81), some (.int x1), some (.int x2), some (.int (x3 + (-1))), none, none] [] (sM mo G I J) Q) :=
  (sm_blk X 297 235 (tt_lin 297 (by decide)) rfl rfl _ _ _ _).trans rfl
set_option maxRecDepth 100000 in
theorem bk_297_241 (X : (Nat → Int32) × Nat) (mo : Bool) (G : Nat × Nat) (I : Nat → Nat → Int32) (J : Nat → Nat → Int64) (Q : Option Value → sm_M → Prop) (x1 : Int32) (x2 : Int32) (x3 : Int32) :
    sm_wp X 297 241 [some (.ref 81), some (.int x1), some (.int x2), some (.int x3), none, none] [] (sM mo G I J) Q =
    (vp_in 0 81 ∧ (True ∧ Q (some (.int (I 139 ((0 : Int32).toNatClampNeg)))) (sM mo G I J))) :=
  (sm_blk X 297 241 (tt_lin 297 (by decide)) rfl rfl _ _ _ _).trans rfl
set_option maxRecDepth 100000 in
theorem bk_298_0 (X : (Nat → Int32) × Nat) (mo : Bool) (G : Nat × Nat) (I : Nat → Nat → Int32) (J : Nat → Nat → Int64) (Q : Option Value → sm_M → Prop) (x1 : Int32) (x2 : Int32) :
    sm_wp X 298 0 [some (.ref 81), some (.int x1), some (.int x2), none, none, none] [] (sM mo G I J) Q =
    (sm_wp X 293 0 [some (.ref 81), some (.int x1)] [] (sM mo G (up2 I 81 2 0) J) (fun v M => sm_wp X 298 10 [some (.ref 81), some (.int x1), some (.int x2), none, none, none] (v.toList ++ []) M Q)) :=
  (sm_blk X 298 0 (tt_lin 298 (by decide)) rfl rfl _ _ _ _).trans rfl
set_option maxRecDepth 100000 in
theorem bk_298_10 (X : (Nat → Int32) × Nat) (mo : Bool) (G : Nat × Nat) (I : Nat → Nat → Int32) (J : Nat → Nat → Int64) (Q : Option Value → sm_M → Prop) (x1 : Int32) (x2 : Int32) (s0 : Int32) :
    sm_wp X 298 10 [some (.ref 81), some (.int x1), some (.int x2), none, none, none] [.int s0] (sM mo G I J) Q =
    (if (s0 : Int32) = 0 then sm_wp X 298 22 [some (.ref 81), some (.int x1), some (.int x2), none, none, none] [] (sM mo G I J) Q else (sm_wp X 210 0 [some (.int x2), some (.int 0), some (.int 3)] [] (sM mo G I J) (fun v M => sm_wp X 298 19 [some (.ref 81), some (.int x1), some (.int x2), none, none, none] (v.toList ++ []) M Q))) :=
  (sm_blk X 298 10 (tt_lin 298 (by decide)) rfl rfl _ _ _ _).trans rfl
set_option maxRecDepth 100000 in
theorem bk_298_19 (X : (Nat → Int32) × Nat) (mo : Bool) (G : Nat × Nat) (I : Nat → Nat → Int32) (J : Nat → Nat → Int64) (Q : Option Value → sm_M → Prop) (x1 : Int32) (x2 : Int32) (s0 : Int32) :
    sm_wp X 298 19 [some (.ref 81), some (.int x1), some (.int x2), none, none, none] [.int s0] (sM mo G I J) Q =
    (if ¬ (s0 : Int32) = 0 then sm_wp X 298 24 [some (.ref 81), some (.int x1), some (.int x2), none, none, none] [] (sM mo G I J) Q else (True ∧ Q (some (.int (-1))) (sM mo G I J))) :=
  (sm_blk X 298 19 (tt_lin 298 (by decide)) rfl rfl _ _ _ _).trans rfl
set_option maxRecDepth 100000 in
theorem bk_298_22 (X : (Nat → Int32) × Nat) (mo : Bool) (G : Nat × Nat) (I : Nat → Nat → Int32) (J : Nat → Nat → Int64) (Q : Option Value → sm_M → Prop) (x1 : Int32) (x2 : Int32) :
    sm_wp X 298 22 [some (.ref 81), some (.int x1), some (.int x2), none, none, none] [] (sM mo G I J) Q =
    (True ∧ Q (some (.int (-1))) (sM mo G I J)) :=
  (sm_blk X 298 22 (tt_lin 298 (by decide)) rfl rfl _ _ _ _).trans rfl
set_option maxRecDepth 100000 in
theorem bk_298_24 (X : (Nat → Int32) × Nat) (mo : Bool) (G : Nat × Nat) (I : Nat → Nat → Int32) (J : Nat → Nat → Int64) (Q : Option Value → sm_M → Prop) (x1 : Int32) (x2 : Int32) :
    sm_wp X 298 24 [some (.ref 81), some (.int x1), some (.int x2), none, none, none] [] (sM mo G I J) Q =
    (sm_wp X 299 0 [some (.ref 81), some (.int x1), none, none, none, none, none] [] (sM mo G I J) (fun v M => sm_wp X 298 29 [some (.ref 81), some (.int x1), some (.int x2), none, none, none] (v.toList ++ []) M Q)) :=
  (sm_blk X 298 24 (tt_lin 298 (by decide)) rfl rfl _ _ _ _).trans rfl
set_option maxRecDepth 100000 in
theorem bk_298_29 (X : (Nat → Int32) × Nat) (mo : Bool) (G : Nat × Nat) (I : Nat → Nat → Int32) (J : Nat → Nat → Int64) (Q : Option Value → sm_M → Prop) (x1 : Int32) (x2 : Int32) (s0 : Int32) :
    sm_wp X 298 29 [some (.ref 81), some (.int x1), some (.int x2), none, none, none] [.int s0] (sM mo G I J) Q =
    (if ¬ (x2 : Int32) = 0 then sm_wp X 298 36 [some (.ref 81), some (.int x1), some (.int x2), some (.int s0), none, none] [] (sM mo G I J) Q else (True ∧ Q (some (.int s0)) (sM mo G I J))) :=
  (sm_blk X 298 29 (tt_lin 298 (by decide)) rfl rfl _ _ _ _).trans rfl
set_option maxRecDepth 100000 in
theorem bk_298_36 (X : (Nat → Int32) × Nat) (mo : Bool) (G : Nat × Nat) (I : Nat → Nat → Int32) (J : Nat → Nat → Int64) (Q : Option Value → sm_M → Prop) (x1 : Int32) (x2 : Int32) (x3 : Int32) :
    sm_wp X 298 36 [some (.ref 81), some (.int x1), some (.int x2), some (.int x3), none, none] [] (sM mo G I J) Q =
    (if ¬ (x2 : Int32) = (1 : Int32) then sm_wp X 298 61 [some (.ref 81), some (.int x1), some (.int x2), some (.int x3), none, none] [] (sM mo G I J) Q else (if 0 ≤ (x3 : Int32) then sm_wp X 298 49 [some (.ref 81), some (.int x1), some (.int x2), some (.int x3), none, none] [] (sM mo G I J) Q else (sm_wp X 298 60 [some (.ref 81), some (.int x1), some (.int x2), some (.int x3), none, none] [.int 0] (sM mo G I J) Q))) :=
  (sm_blk X 298 36 (tt_lin 298 (by decide)) rfl rfl _ _ _ _).trans rfl
set_option maxRecDepth 100000 in
theorem bk_298_49 (X : (Nat → Int32) × Nat) (mo : Bool) (G : Nat × Nat) (I : Nat → Nat → Int32) (J : Nat → Nat → Int64) (Q : Option Value → sm_M → Prop) (x1 : Int32) (x2 : Int32) (x3 : Int32) :
    sm_wp X 298 49 [some (.ref 81), some (.int x1), some (.int x2), some (.int x3), none, none] [] (sM mo G I J) Q =
    (vp_in ((6 * x1) + x3) 48 ∧ (True ∧ Q (some (.int (I 135 (((6 * x1) + x3).toNatClampNeg)))) (sM mo G I J))) :=
  (sm_blk X 298 49 (tt_lin 298 (by decide)) rfl rfl _ _ _ _).trans rfl
set_option maxRecDepth 100000 in
theorem bk_298_60 (X : (Nat → Int32) × Nat) (mo : Bool) (G : Nat × Nat) (I : Nat → Nat → Int32) (J : Nat → Nat → Int64) (Q : Option Value → sm_M → Prop) (x1 : Int32) (x2 : Int32) (x3 : Int32) (s0 : Int32) :
    sm_wp X 298 60 [some (.ref 81), some (.int x1), some (.int x2), some (.int x3), none, none] [.int s0] (sM mo G I J) Q =
    (True ∧ Q (some (.int s0)) (sM mo G I J)) :=
  (sm_blk X 298 60 (tt_lin 298 (by decide)) rfl rfl _ _ _ _).trans rfl
set_option maxRecDepth 100000 in
theorem bk_298_61 (X : (Nat → Int32) × Nat) (mo : Bool) (G : Nat × Nat) (I : Nat → Nat → Int32) (J : Nat → Nat → Int64) (Q : Option Value → sm_M → Prop) (x1 : Int32) (x2 : Int32) (x3 : Int32) :
    sm_wp X 298 61 [some (.ref 81), some (.int x1), some (.int x2), some (.int x3), none, none] [] (sM mo G I J) Q =
    (sm_wp X 301 0 [some (.ref 81), some (.int x1), none, none, none] [] (sM mo G I J) (fun v M => sm_wp X 298 66 [some (.ref 81), some (.int x1), some (.int x2), some (.int x3), none, none] (v.toList ++ []) M Q)) :=
  (sm_blk X 298 61 (tt_lin 298 (by decide)) rfl rfl _ _ _ _).trans rfl
set_option maxRecDepth 100000 in
theorem bk_298_66 (X : (Nat → Int32) × Nat) (mo : Bool) (G : Nat × Nat) (I : Nat → Nat → Int32) (J : Nat → Nat → Int64) (Q : Option Value → sm_M → Prop) (x1 : Int32) (x2 : Int32) (x3 : Int32) (s0 : Int32) :
    sm_wp X 298 66 [some (.ref 81), some (.int x1), some (.int x2), some (.int x3), none, none] [.int s0] (sM mo G I J) Q =
    (if ¬ (x2 : Int32) = (2 : Int32) then sm_wp X 298 84 [some (.ref 81), some (.int x1), some (.int x2), some (.int x3), some (.int s0), none] [] (sM mo G I J) Q else (if (s0 : Int32) = 0 then sm_wp X 298 82 [some (.ref 81), some (.int x1), some (.int x2), some (.int x3), some (.int s0), none] [] (sM mo G I J) Q else (sm_wp X 298 83 [some (.ref 81), some (.int x1), some (.int x2), some (.int x3), some (.int s0), none] [.int 1] (sM mo G I J) Q))) :=
  (sm_blk X 298 66 (tt_lin 298 (by decide)) rfl rfl _ _ _ _).trans rfl
set_option maxRecDepth 100000 in
theorem bk_298_82 (X : (Nat → Int32) × Nat) (mo : Bool) (G : Nat × Nat) (I : Nat → Nat → Int32) (J : Nat → Nat → Int64) (Q : Option Value → sm_M → Prop) (x1 : Int32) (x2 : Int32) (x3 : Int32) (x4 : Int32) :
    sm_wp X 298 82 [some (.ref 81), some (.int x1), some (.int x2), some (.int x3), some (.int x4), none] [] (sM mo G I J) Q =
    (True ∧ Q (some (.int 0)) (sM mo G I J)) :=
  (sm_blk X 298 82 (tt_lin 298 (by decide)) rfl rfl _ _ _ _).trans rfl
set_option maxRecDepth 100000 in
theorem bk_298_83 (X : (Nat → Int32) × Nat) (mo : Bool) (G : Nat × Nat) (I : Nat → Nat → Int32) (J : Nat → Nat → Int64) (Q : Option Value → sm_M → Prop) (x1 : Int32) (x2 : Int32) (x3 : Int32) (x4 : Int32) (s0 : Int32) :
    sm_wp X 298 83 [some (.ref 81), some (.int x1), some (.int x2), some (.int x3), some (.int x4), none] [.int s0] (sM mo G I J) Q =
    (True ∧ Q (some (.int s0)) (sM mo G I J)) :=
  (sm_blk X 298 83 (tt_lin 298 (by decide)) rfl rfl _ _ _ _).trans rfl
set_option maxRecDepth 100000 in
theorem bk_298_84 (X : (Nat → Int32) × Nat) (mo : Bool) (G : Nat × Nat) (I : Nat → Nat → Int32) (J : Nat → Nat → Int64) (Q : Option Value → sm_M → Prop) (x1 : Int32) (x2 : Int32) (x3 : Int32) (x4 : Int32) :
    sm_wp X 298 84 [some (.ref 81), some (.int x1), some (.int x2), some (.int x3), some (.int x4), none] [] (sM mo G I J) Q =
    (vp_in x1 8 ∧ (sm_wp X 219 0 [some (.int ((I 81 15) &&& ((I 138 (x1.toNatClampNeg)) ^^^ (-1)))), none, none] [] (sM mo G I J) (fun v M => sm_wp X 298 100 [some (.ref 81), some (.int x1), some (.int x2), some (.int x3), some (.int x4), none] (v.toList ++ []) M Q))) :=
  (sm_blk X 298 84 (tt_lin 298 (by decide)) rfl rfl _ _ _ _).trans rfl
set_option maxRecDepth 100000 in
theorem bk_298_100 (X : (Nat → Int32) × Nat) (mo : Bool) (G : Nat × Nat) (I : Nat → Nat → Int32) (J : Nat → Nat → Int64) (Q : Option Value → sm_M → Prop) (x1 : Int32) (x2 : Int32) (x3 : Int32) (x4 : Int32) (s0 : Int32) :
    sm_wp X 298 100 [some (.ref 81), some (.int x1), some (.int x2), some (.int x3), some (.int x4), none] [.int s0] (sM mo G I J) Q =
    (if ¬ (x4 : Int32) = 0 then sm_wp X 298 113 [some (.ref 81), some (.int x1), some (.int x2), some (.int x3), some (.int x4), some (.int s0)] [] (sM mo G I J) Q else (if (2 : Int32) ≤ (s0 : Int32) then sm_wp X 298 117 [some (.ref 81), some (.int x1), some (.int x2), some (.int x3), some (.int x4), some (.int s0)] [] (sM mo G I J) Q else (sm_wp X 298 119 [some (.ref 81), some (.int x1), some (.int x2), some (.int x3), some (.int x4), some (.int s0)] [.int 0] (sM mo G I J) Q))) :=
  (sm_blk X 298 100 (tt_lin 298 (by decide)) rfl rfl _ _ _ _).trans rfl
set_option maxRecDepth 100000 in
theorem bk_298_113 (X : (Nat → Int32) × Nat) (mo : Bool) (G : Nat × Nat) (I : Nat → Nat → Int32) (J : Nat → Nat → Int64) (Q : Option Value → sm_M → Prop) (x1 : Int32) (x2 : Int32) (x3 : Int32) (x4 : Int32) (x5 : Int32) :
    sm_wp X 298 113 [some (.ref 81), some (.int x1), some (.int x2), some (.int x3), some (.int x4), some (.int x5)] [] (sM mo G I J) Q =
    (sm_wp X 298 119 [some (.ref 81), some (.int x1), some (.int x2), some (.int x3), some (.int x4), some (.int x5)] [.int 0] (sM mo G I J) Q) :=
  (sm_blk X 298 113 (tt_lin 298 (by decide)) rfl rfl _ _ _ _).trans rfl
set_option maxRecDepth 100000 in
theorem bk_298_117 (X : (Nat → Int32) × Nat) (mo : Bool) (G : Nat × Nat) (I : Nat → Nat → Int32) (J : Nat → Nat → Int64) (Q : Option Value → sm_M → Prop) (x1 : Int32) (x2 : Int32) (x3 : Int32) (x4 : Int32) (x5 : Int32) :
    sm_wp X 298 117 [some (.ref 81), some (.int x1), some (.int x2), some (.int x3), some (.int x4), some (.int x5)] [] (sM mo G I J) Q =
    (True ∧ Q (some (.int x5)) (sM mo G I J)) :=
  (sm_blk X 298 117 (tt_lin 298 (by decide)) rfl rfl _ _ _ _).trans rfl
set_option maxRecDepth 100000 in
theorem bk_298_119 (X : (Nat → Int32) × Nat) (mo : Bool) (G : Nat × Nat) (I : Nat → Nat → Int32) (J : Nat → Nat → Int64) (Q : Option Value → sm_M → Prop) (x1 : Int32) (x2 : Int32) (x3 : Int32) (x4 : Int32) (x5 : Int32) (s0 : Int32) :
    sm_wp X 298 119 [some (.ref 81), some (.int x1), some (.int x2), some (.int x3), some (.int x4), some (.int x5)] [.int s0] (sM mo G I J) Q =
    (True ∧ Q (some (.int s0)) (sM mo G I J)) :=
  (sm_blk X 298 119 (tt_lin 298 (by decide)) rfl rfl _ _ _ _).trans rfl
set_option maxRecDepth 100000 in
theorem bk_299_0 (X : (Nat → Int32) × Nat) (mo : Bool) (G : Nat × Nat) (I : Nat → Nat → Int32) (J : Nat → Nat → Int64) (Q : Option Value → sm_M → Prop) (x1 : Int32) :
    sm_wp X 299 0 [some (.ref 81), some (.int x1), none, none, none, none, none] [] (sM mo G I J) Q =
    (sm_wp X 299 7 [some (.ref 81), some (.int x1), some (.int (-1)), some (.int 0), some (.int 0), none, none] [] (sM mo G I J) Q) :=
  (sm_blk X 299 0 (tt_lin 299 (by decide)) rfl rfl _ _ _ _).trans rfl
set_option maxRecDepth 100000 in
theorem bk_299_7 (X : (Nat → Int32) × Nat) (mo : Bool) (G : Nat × Nat) (I : Nat → Nat → Int32) (J : Nat → Nat → Int64) (Q : Option Value → sm_M → Prop) (x1 : Int32) (x2 : Int32) (x3 : Int32) (x4 : Int32) :
    sm_wp X 299 7 [some (.ref 81), some (.int x1), some (.int x2), some (.int x3), some (.int x4), none, none] [] (sM mo G I J) Q =
    (if (I 81 10 : Int32) ≤ (x4 : Int32) then sm_wp X 299 134 [some (.ref 81), some (.int x1), some (.int x2), some (.int x3), some (.int x4), none, none] [] (sM mo G I J) Q else (sm_wp X 300 0 [some (.ref 81), some (.int x1), some (.int x4)] [] (sM mo G I J) (fun v M => sm_wp X 299 23 [some (.ref 81), some (.int x1), some (.int x2), some (.int x3), some (.int x4), none, none] (v.toList ++ []) M Q))) :=
  (sm_blk X 299 7 (tt_lin 299 (by decide)) rfl rfl _ _ _ _).trans rfl
set_option maxRecDepth 100000 in
theorem bk_299_23 (X : (Nat → Int32) × Nat) (mo : Bool) (G : Nat × Nat) (I : Nat → Nat → Int32) (J : Nat → Nat → Int64) (Q : Option Value → sm_M → Prop) (x1 : Int32) (x2 : Int32) (x3 : Int32) (x4 : Int32) (s0 : Int32) :
    sm_wp X 299 23 [some (.ref 81), some (.int x1), some (.int x2), some (.int x3), some (.int x4), none, none] [.int s0] (sM mo G I J) Q =
    (if ¬ (s0 : Int32) = 0 then sm_wp X 299 29 [some (.ref 81), some (.int x1), some (.int x2), some (.int x3), some (.int x4), none, none] [] (sM mo G I J) Q else (sm_wp X 299 128 [some (.ref 81), some (.int x1), some (.int x2), some (.int x3), some (.int x4), none, none] [] (sM mo G I J) Q)) :=
  (sm_blk X 299 23 (tt_lin 299 (by decide)) rfl rfl _ _ _ _).trans rfl
set_option maxRecDepth 100000 in
theorem bk_299_29 (X : (Nat → Int32) × Nat) (mo : Bool) (G : Nat × Nat) (I : Nat → Nat → Int32) (J : Nat → Nat → Int64) (Q : Option Value → sm_M → Prop) (x1 : Int32) (x2 : Int32) (x3 : Int32) (x4 : Int32) :
    sm_wp X 299 29 [some (.ref 81), some (.int x1), some (.int x2), some (.int x3), some (.int x4), none, none] [] (sM mo G I J) Q =
    (sm_wp X 299 35 [some (.ref 81), some (.int x1), some (.int x2), some (.int x3), some (.int x4), some (.int 0), some (.int 0)] [] (sM mo G I J) Q) :=
  (sm_blk X 299 29 (tt_lin 299 (by decide)) rfl rfl _ _ _ _).trans rfl
set_option maxRecDepth 100000 in
theorem bk_299_35 (X : (Nat → Int32) × Nat) (mo : Bool) (G : Nat × Nat) (I : Nat → Nat → Int32) (J : Nat → Nat → Int64) (Q : Option Value → sm_M → Prop) (x1 : Int32) (x2 : Int32) (x3 : Int32) (x4 : Int32) (x5 : Int32) (x6 : Int32) :
    sm_wp X 299 35 [some (.ref 81), some (.int x1), some (.int x2), some (.int x3), some (.int x4), some (.int x5), some (.int x6)] [] (sM mo G I J) Q =
    (if (I 81 10 : Int32) ≤ (x6 : Int32) then sm_wp X 299 87 [some (.ref 81), some (.int x1), some (.int x2), some (.int x3), some (.int x4), some (.int x5), some (.int x6)] [] (sM mo G I J) Q else (sm_wp X 300 0 [some (.ref 81), some (.int x1), some (.int x6)] [] (sM mo G I J) (fun v M => sm_wp X 299 53 [some (.ref 81), some (.int x1), some (.int x2), some (.int x3), some (.int x4), some (.int x5), some (.int x6)] (v.toList ++ [.int x5]) M Q))) :=
  (sm_blk X 299 35 (tt_lin 299 (by decide)) rfl rfl _ _ _ _).trans rfl
set_option maxRecDepth 100000 in
theorem bk_299_53 (X : (Nat → Int32) × Nat) (mo : Bool) (G : Nat × Nat) (I : Nat → Nat → Int32) (J : Nat → Nat → Int64) (Q : Option Value → sm_M → Prop) (x1 : Int32) (x2 : Int32) (x3 : Int32) (x4 : Int32) (x5 : Int32) (x6 : Int32) (s0 : Int32) (s1 : Int32) :
    sm_wp X 299 53 [some (.ref 81), some (.int x1), some (.int x2), some (.int x3), some (.int x4), some (.int x5), some (.int x6)] [.int s1, .int s0] (sM mo G I J) Q =
    (if (s1 : Int32) = 0 then sm_wp X 299 77 [some (.ref 81), some (.int x1), some (.int x2), some (.int x3), some (.int x4), some (.int x5), some (.int x6)] [.int s0] (sM mo G I J) Q else (sm_wp X 297 0 [some (.ref 81), some (.int ((6 * x1) + x4)), some (.int ((6 * x1) + x6)), none, none, none] [] (sM mo G I J) (fun v M => sm_wp X 299 74 [some (.ref 81), some (.int x1), some (.int x2), some (.int x3), some (.int x4), some (.int x5), some (.int x6)] (v.toList ++ [.int s0]) M Q))) :=
  (sm_blk X 299 53 (tt_lin 299 (by decide)) rfl rfl _ _ _ _).trans rfl
set_option maxRecDepth 100000 in
theorem bk_299_74 (X : (Nat → Int32) × Nat) (mo : Bool) (G : Nat × Nat) (I : Nat → Nat → Int32) (J : Nat → Nat → Int64) (Q : Option Value → sm_M → Prop) (x1 : Int32) (x2 : Int32) (x3 : Int32) (x4 : Int32) (x5 : Int32) (x6 : Int32) (s0 : Int32) (s1 : Int32) :
    sm_wp X 299 74 [some (.ref 81), some (.int x1), some (.int x2), some (.int x3), some (.int x4), some (.int x5), some (.int x6)] [.int s1, .int s0] (sM mo G I J) Q =
    (sm_wp X 299 78 [some (.ref 81), some (.int x1), some (.int x2), some (.int x3), some (.int x4), some (.int x5), some (.int x6)] [.int s1, .int s0] (sM mo G I J) Q) :=
  (sm_blk X 299 74 (tt_lin 299 (by decide)) rfl rfl _ _ _ _).trans rfl
set_option maxRecDepth 100000 in
theorem bk_299_77 (X : (Nat → Int32) × Nat) (mo : Bool) (G : Nat × Nat) (I : Nat → Nat → Int32) (J : Nat → Nat → Int64) (Q : Option Value → sm_M → Prop) (x1 : Int32) (x2 : Int32) (x3 : Int32) (x4 : Int32) (x5 : Int32) (x6 : Int32) (s0 : Int32) :
    sm_wp X 299 77 [some (.ref 81), some (.int x1), some (.int x2), some (.int x3), some (.int x4), some (.int x5), some (.int x6)] [.int s0] (sM mo G I J) Q =
    (sm_wp X 299 35 [some (.ref 81), some (.int x1), some (.int x2), some (.int x3), some (.int x4), some (.int (s0 + 0)), some (.int (x6 + 1))] [] (sM mo G I J) Q) :=
  (sm_blk X 299 77 (tt_lin 299 (by decide)) rfl rfl _ _ _ _).trans rfl
set_option maxRecDepth 100000 in
theorem bk_299_78 (X : (Nat → Int32) × Nat) (mo : Bool) (G : Nat × Nat) (I : Nat → Nat → Int32) (J : Nat → Nat → Int64) (Q : Option Value → sm_M → Prop) (x1 : Int32) (x2 : Int32) (x3 : Int32) (x4 : Int32) (x5 : Int32) (x6 : Int32) (s0 : Int32) (s1 : Int32) :
    sm_wp X 299 78 [some (.ref 81), some (.int x1), some (.int x2), some (.int x3), some (.int x4), some (.int x5), some (.int x6)] [.int s1, .int s0] (sM mo G I J) Q =
    (sm_wp X 299 35 [some (.ref 81), some (.int x1), some (.int x2), some (.int x3), some (.int x4), some (.int (s0 + s1)), some (.int (x6 + 1))] [] (sM mo G I J) Q) :=
  (sm_blk X 299 78 (tt_lin 299 (by decide)) rfl rfl _ _ _ _).trans rfl
set_option maxRecDepth 100000 in
theorem bk_299_87 (X : (Nat → Int32) × Nat) (mo : Bool) (G : Nat × Nat) (I : Nat → Nat → Int32) (J : Nat → Nat → Int64) (Q : Option Value → sm_M → Prop) (x1 : Int32) (x2 : Int32) (x3 : Int32) (x4 : Int32) (x5 : Int32) (x6 : Int32) :
    sm_wp X 299 87 [some (.ref 81), some (.int x1), some (.int x2), some (.int x3), some (.int x4), some (.int x5), some (.int x6)] [] (sM mo G I J) Q =
    (if (x2 : Int32) < 0 then sm_wp X 299 122 [some (.ref 81), some (.int x1), some (.int x2), some (.int x3), some (.int x4), some (.int x5), some (.int x6)] [] (sM mo G I J) Q else (if (x3 : Int32) < (x5 : Int32) then sm_wp X 299 128 [some (.ref 81), some (.int x1), some (.int x2), some (.int x3), some (.int x4), some (.int x5), some (.int x6)] [] (sM mo G I J) Q else (if ¬ (x5 : Int32) = (x3 : Int32) then sm_wp X 299 122 [some (.ref 81), some (.int x1), some (.int x2), some (.int x3), some (.int x4), some (.int x5), some (.int x6)] [] (sM mo G I J) Q else (vp_in x4 6 ∧ (vp_in x2 6 ∧ (if (I 89 (x4.toNatClampNeg) : Int32) < (I 89 (x2.toNatClampNeg) : Int32) then sm_wp X 299 122 [some (.ref 81), some (.int x1), some (.int x2), some (.int x3), some (.int x4), some (.int x5), some (.int x6)] [] (sM mo G I J) Q else (sm_wp X 299 128 [some (.ref 81), some (.int x1), some (.int x2), some (.int x3), some (.int x4), some (.int x5), some (.int x6)] [] (sM mo G I J) Q))))))) :=
  (sm_blk X 299 87 (tt_lin 299 (by decide)) rfl rfl _ _ _ _).trans rfl
set_option maxRecDepth 100000 in
theorem bk_299_122 (X : (Nat → Int32) × Nat) (mo : Bool) (G : Nat × Nat) (I : Nat → Nat → Int32) (J : Nat → Nat → Int64) (Q : Option Value → sm_M → Prop) (x1 : Int32) (x2 : Int32) (x3 : Int32) (x4 : Int32) (x5 : Int32) (x6 : Int32) :
    sm_wp X 299 122 [some (.ref 81), some (.int x1), some (.int x2), some (.int x3), some (.int x4), some (.int x5), some (.int x6)] [] (sM mo G I J) Q =
    (sm_wp X 299 7 [some (.ref 81), some (.int x1), some (.int x4), some (.int x5), some (.int (x4 + 1)), none, none] [] (sM mo G I J) Q) :=
  (sm_blk X 299 122 (tt_lin 299 (by decide)) rfl rfl _ _ _ _).trans rfl
set_option maxRecDepth 100000 in
theorem bk_299_128 (X : (Nat → Int32) × Nat) (mo : Bool) (G : Nat × Nat) (I : Nat → Nat → Int32) (J : Nat → Nat → Int64) (Q : Option Value → sm_M → Prop) (x1 : Int32) (x2 : Int32) (x3 : Int32) (x4 : Int32) :
    sm_wp X 299 128 [some (.ref 81), some (.int x1), some (.int x2), some (.int x3), some (.int x4), none, none] [] (sM mo G I J) Q =
    (sm_wp X 299 7 [some (.ref 81), some (.int x1), some (.int x2), some (.int x3), some (.int (x4 + 1)), none, none] [] (sM mo G I J) Q) :=
  (sm_blk X 299 128 (tt_lin 299 (by decide)) rfl rfl _ _ _ _).trans rfl
set_option maxRecDepth 100000 in
theorem bk_299_134 (X : (Nat → Int32) × Nat) (mo : Bool) (G : Nat × Nat) (I : Nat → Nat → Int32) (J : Nat → Nat → Int64) (Q : Option Value → sm_M → Prop) (x1 : Int32) (x2 : Int32) (x3 : Int32) (x4 : Int32) :
    sm_wp X 299 134 [some (.ref 81), some (.int x1), some (.int x2), some (.int x3), some (.int x4), none, none] [] (sM mo G I J) Q =
    (True ∧ Q (some (.int x2)) (sM mo G I J)) :=
  (sm_blk X 299 134 (tt_lin 299 (by decide)) rfl rfl _ _ _ _).trans rfl
set_option maxRecDepth 100000 in
theorem bk_300_0 (X : (Nat → Int32) × Nat) (mo : Bool) (G : Nat × Nat) (I : Nat → Nat → Int32) (J : Nat → Nat → Int64) (Q : Option Value → sm_M → Prop) (x1 : Int32) (x2 : Int32) :
    sm_wp X 300 0 [some (.ref 81), some (.int x1), some (.int x2)] [] (sM mo G I J) Q =
    (sm_wp X 215 0 [some (.ref 81), some (.int x2)] [] (sM mo G I J) (fun v M => sm_wp X 300 5 [some (.ref 81), some (.int x1), some (.int x2)] (v.toList ++ []) M Q)) :=
  (sm_blk X 300 0 (tt_lin 300 (by decide)) rfl rfl _ _ _ _).trans rfl
set_option maxRecDepth 100000 in
theorem bk_300_5 (X : (Nat → Int32) × Nat) (mo : Bool) (G : Nat × Nat) (I : Nat → Nat → Int32) (J : Nat → Nat → Int64) (Q : Option Value → sm_M → Prop) (x1 : Int32) (x2 : Int32) (s0 : Int32) :
    sm_wp X 300 5 [some (.ref 81), some (.int x1), some (.int x2)] [.int s0] (sM mo G I J) Q =
    (if (s0 : Int32) = 0 then sm_wp X 300 26 [some (.ref 81), some (.int x1), some (.int x2)] [] (sM mo G I J) Q else (vp_in ((6 * x1) + x2) 48 ∧ (if (I 135 (((6 * x1) + x2).toNatClampNeg) : Int32) ≤ 0 then sm_wp X 300 26 [some (.ref 81), some (.int x1), some (.int x2)] [] (sM mo G I J) Q else (sm_wp X 300 27 [some (.ref 81), some (.int x1), some (.int x2)] [.int 1] (sM mo G I J) Q)))) :=
  (sm_blk X 300 5 (tt_lin 300 (by decide)) rfl rfl _ _ _ _).trans rfl
set_option maxRecDepth 100000 in
theorem bk_300_26 (X : (Nat → Int32) × Nat) (mo : Bool) (G : Nat × Nat) (I : Nat → Nat → Int32) (J : Nat → Nat → Int64) (Q : Option Value → sm_M → Prop) (x1 : Int32) (x2 : Int32) :
    sm_wp X 300 26 [some (.ref 81), some (.int x1), some (.int x2)] [] (sM mo G I J) Q =
    (sm_zb 0 ∧ Q (some (.int 0)) (sM mo G I J)) :=
  (sm_blk X 300 26 (tt_lin 300 (by decide)) rfl rfl _ _ _ _).trans rfl
set_option maxRecDepth 100000 in
theorem bk_300_27 (X : (Nat → Int32) × Nat) (mo : Bool) (G : Nat × Nat) (I : Nat → Nat → Int32) (J : Nat → Nat → Int64) (Q : Option Value → sm_M → Prop) (x1 : Int32) (x2 : Int32) (s0 : Int32) :
    sm_wp X 300 27 [some (.ref 81), some (.int x1), some (.int x2)] [.int s0] (sM mo G I J) Q =
    (sm_zb s0 ∧ Q (some (.int s0)) (sM mo G I J)) :=
  (sm_blk X 300 27 (tt_lin 300 (by decide)) rfl rfl _ _ _ _).trans rfl
set_option maxRecDepth 100000 in
theorem bk_301_0 (X : (Nat → Int32) × Nat) (mo : Bool) (G : Nat × Nat) (I : Nat → Nat → Int32) (J : Nat → Nat → Int64) (Q : Option Value → sm_M → Prop) (x1 : Int32) :
    sm_wp X 301 0 [some (.ref 81), some (.int x1), none, none, none] [] (sM mo G I J) Q =
    (sm_wp X 301 2 [some (.ref 81), some (.int x1), some (.int 0), none, none] [] (sM mo G I J) Q) :=
  (sm_blk X 301 0 (tt_lin 301 (by decide)) rfl rfl _ _ _ _).trans rfl
set_option maxRecDepth 100000 in
theorem bk_301_2 (X : (Nat → Int32) × Nat) (mo : Bool) (G : Nat × Nat) (I : Nat → Nat → Int32) (J : Nat → Nat → Int64) (Q : Option Value → sm_M → Prop) (x1 : Int32) (x2 : Int32) :
    sm_wp X 301 2 [some (.ref 81), some (.int x1), some (.int x2), none, none] [] (sM mo G I J) Q =
    (if (I 81 81 : Int32) ≤ (x2 : Int32) then sm_wp X 301 27 [some (.ref 81), some (.int x1), some (.int x2), none, none] [] (sM mo G I J) Q else (sm_wp X 302 0 [some (.ref 81), some (.int x2), none, none] [] (sM mo G I J) (fun v M => sm_wp X 301 20 [some (.ref 81), some (.int x1), some (.int x2), none, none] (v.toList ++ [.int x2, .ref 141]) M Q))) :=
  (sm_blk X 301 2 (tt_lin 301 (by decide)) rfl rfl _ _ _ _).trans rfl
set_option maxRecDepth 100000 in
theorem bk_301_20 (X : (Nat → Int32) × Nat) (mo : Bool) (G : Nat × Nat) (I : Nat → Nat → Int32) (J : Nat → Nat → Int64) (Q : Option Value → sm_M → Prop) (x1 : Int32) (x2 : Int32) (s1 : Int32) (s2 : Int32) :
    sm_wp X 301 20 [some (.ref 81), some (.int x1), some (.int x2), none, none] [.int s2, .int s1, .ref 141] (sM mo G I J) Q =
    (vp_in s1 8 ∧ (sm_wp X 301 2 [some (.ref 81), some (.int x1), some (.int (x2 + 1)), none, none] [] (sM mo G (up2 I 141 s1.toNatClampNeg (vp_nar .boolean s2)) J) Q)) :=
  (sm_blk X 301 20 (tt_lin 301 (by decide)) rfl rfl _ _ _ _).trans rfl
set_option maxRecDepth 100000 in
theorem bk_301_27 (X : (Nat → Int32) × Nat) (mo : Bool) (G : Nat × Nat) (I : Nat → Nat → Int32) (J : Nat → Nat → Int64) (Q : Option Value → sm_M → Prop) (x1 : Int32) (x2 : Int32) :
    sm_wp X 301 27 [some (.ref 81), some (.int x1), some (.int x2), none, none] [] (sM mo G I J) Q =
    (sm_wp X 301 29 [some (.ref 81), some (.int x1), some (.int 0), none, none] [] (sM mo G I J) Q) :=
  (sm_blk X 301 27 (tt_lin 301 (by decide)) rfl rfl _ _ _ _).trans rfl
set_option maxRecDepth 100000 in
theorem bk_301_29 (X : (Nat → Int32) × Nat) (mo : Bool) (G : Nat × Nat) (I : Nat → Nat → Int32) (J : Nat → Nat → Int64) (Q : Option Value → sm_M → Prop) (x1 : Int32) (x2 : Int32) :
    sm_wp X 301 29 [some (.ref 81), some (.int x1), some (.int x2), none, none] [] (sM mo G I J) Q =
    (if (8 : Int32) ≤ (x2 : Int32) then sm_wp X 301 120 [some (.ref 81), some (.int x1), some (.int x2), none, none] [] (sM mo G I J) Q else (sm_wp X 301 37 [some (.ref 81), some (.int x1), some (.int x2), some (.int 0), none] [] (sM mo G I J) Q)) :=
  (sm_blk X 301 29 (tt_lin 301 (by decide)) rfl rfl _ _ _ _).trans rfl
set_option maxRecDepth 100000 in
theorem bk_301_37 (X : (Nat → Int32) × Nat) (mo : Bool) (G : Nat × Nat) (I : Nat → Nat → Int32) (J : Nat → Nat → Int64) (Q : Option Value → sm_M → Prop) (x1 : Int32) (x2 : Int32) (x3 : Int32) :
    sm_wp X 301 37 [some (.ref 81), some (.int x1), some (.int x2), some (.int x3), none] [] (sM mo G I J) Q =
    (if (I 81 81 : Int32) ≤ (x3 : Int32) then sm_wp X 301 114 [some (.ref 81), some (.int x1), some (.int x2), some (.int x3), none] [] (sM mo G I J) Q else (sm_wp X 301 48 [some (.ref 81), some (.int x1), some (.int x2), some (.int x3), some (.int 0)] [] (sM mo G I J) Q)) :=
  (sm_blk X 301 37 (tt_lin 301 (by decide)) rfl rfl _ _ _ _).trans rfl
set_option maxRecDepth 100000 in
theorem bk_301_48 (X : (Nat → Int32) × Nat) (mo : Bool) (G : Nat × Nat) (I : Nat → Nat → Int32) (J : Nat → Nat → Int64) (Q : Option Value → sm_M → Prop) (x1 : Int32) (x2 : Int32) (x3 : Int32) (x4 : Int32) :
    sm_wp X 301 48 [some (.ref 81), some (.int x1), some (.int x2), some (.int x3), some (.int x4)] [] (sM mo G I J) Q =
    (if (I 81 81 : Int32) ≤ (x4 : Int32) then sm_wp X 301 108 [some (.ref 81), some (.int x1), some (.int x2), some (.int x3), some (.int x4)] [] (sM mo G I J) Q else (vp_in x3 8 ∧ (if ¬ (I 141 (x3.toNatClampNeg) : Int32) = 0 then sm_wp X 301 96 [some (.ref 81), some (.int x1), some (.int x2), some (.int x3), some (.int x4)] [.int x3, .ref 141] (sM mo G I J) Q else (vp_in ((8 * x3) + x4) 64 ∧ (if (I 137 (((8 * x3) + x4).toNatClampNeg) : Int32) = 0 then sm_wp X 301 100 [some (.ref 81), some (.int x1), some (.int x2), some (.int x3), some (.int x4)] [.int x3, .ref 141] (sM mo G I J) Q else (vp_in x4 8 ∧ (if (I 141 (x4.toNatClampNeg) : Int32) = 0 then sm_wp X 301 100 [some (.ref 81), some (.int x1), some (.int x2), some (.int x3), some (.int x4)] [.int x3, .ref 141] (sM mo G I J) Q else (sm_wp X 301 101 [some (.ref 81), some (.int x1), some (.int x2), some (.int x3), some (.int x4)] [.int 1, .int x3, .ref 141] (sM mo G I J) Q)))))))) :=
  (sm_blk X 301 48 (tt_lin 301 (by decide)) rfl rfl _ _ _ _).trans rfl
set_option maxRecDepth 100000 in
theorem bk_301_96 (X : (Nat → Int32) × Nat) (mo : Bool) (G : Nat × Nat) (I : Nat → Nat → Int32) (J : Nat → Nat → Int64) (Q : Option Value → sm_M → Prop) (x1 : Int32) (x2 : Int32) (x3 : Int32) (x4 : Int32) (s1 : Int32) :
    sm_wp X 301 96 [some (.ref 81), some (.int x1), some (.int x2), some (.int x3), some (.int x4)] [.int s1, .ref 141] (sM mo G I J) Q =
    (sm_wp X 301 101 [some (.ref 81), some (.int x1), some (.int x2), some (.int x3), some (.int x4)] [.int 1, .int s1, .ref 141] (sM mo G I J) Q) :=
  (sm_blk X 301 96 (tt_lin 301 (by decide)) rfl rfl _ _ _ _).trans rfl
set_option maxRecDepth 100000 in
theorem bk_301_100 (X : (Nat → Int32) × Nat) (mo : Bool) (G : Nat × Nat) (I : Nat → Nat → Int32) (J : Nat → Nat → Int64) (Q : Option Value → sm_M → Prop) (x1 : Int32) (x2 : Int32) (x3 : Int32) (x4 : Int32) (s1 : Int32) :
    sm_wp X 301 100 [some (.ref 81), some (.int x1), some (.int x2), some (.int x3), some (.int x4)] [.int s1, .ref 141] (sM mo G I J) Q =
    (vp_in s1 8 ∧ (sm_wp X 301 48 [some (.ref 81), some (.int x1), some (.int x2), some (.int x3), some (.int (x4 + 1))] [] (sM mo G (up2 I 141 s1.toNatClampNeg (vp_nar .boolean 0)) J) Q)) :=
  (sm_blk X 301 100 (tt_lin 301 (by decide)) rfl rfl _ _ _ _).trans rfl
set_option maxRecDepth 100000 in
theorem bk_301_101 (X : (Nat → Int32) × Nat) (mo : Bool) (G : Nat × Nat) (I : Nat → Nat → Int32) (J : Nat → Nat → Int64) (Q : Option Value → sm_M → Prop) (x1 : Int32) (x2 : Int32) (x3 : Int32) (x4 : Int32) (s1 : Int32) (s2 : Int32) :
    sm_wp X 301 101 [some (.ref 81), some (.int x1), some (.int x2), some (.int x3), some (.int x4)] [.int s2, .int s1, .ref 141] (sM mo G I J) Q =
    (vp_in s1 8 ∧ (sm_wp X 301 48 [some (.ref 81), some (.int x1), some (.int x2), some (.int x3), some (.int (x4 + 1))] [] (sM mo G (up2 I 141 s1.toNatClampNeg (vp_nar .boolean s2)) J) Q)) :=
  (sm_blk X 301 101 (tt_lin 301 (by decide)) rfl rfl _ _ _ _).trans rfl
set_option maxRecDepth 100000 in
theorem bk_301_108 (X : (Nat → Int32) × Nat) (mo : Bool) (G : Nat × Nat) (I : Nat → Nat → Int32) (J : Nat → Nat → Int64) (Q : Option Value → sm_M → Prop) (x1 : Int32) (x2 : Int32) (x3 : Int32) (x4 : Int32) :
    sm_wp X 301 108 [some (.ref 81), some (.int x1), some (.int x2), some (.int x3), some (.int x4)] [] (sM mo G I J) Q =
    (sm_wp X 301 37 [some (.ref 81), some (.int x1), some (.int x2), some (.int (x3 + 1)), none] [] (sM mo G I J) Q) :=
  (sm_blk X 301 108 (tt_lin 301 (by decide)) rfl rfl _ _ _ _).trans rfl
set_option maxRecDepth 100000 in
theorem bk_301_114 (X : (Nat → Int32) × Nat) (mo : Bool) (G : Nat × Nat) (I : Nat → Nat → Int32) (J : Nat → Nat → Int64) (Q : Option Value → sm_M → Prop) (x1 : Int32) (x2 : Int32) (x3 : Int32) :
    sm_wp X 301 114 [some (.ref 81), some (.int x1), some (.int x2), some (.int x3), none] [] (sM mo G I J) Q =
    (sm_wp X 301 29 [some (.ref 81), some (.int x1), some (.int (x2 + 1)), none, none] [] (sM mo G I J) Q) :=
  (sm_blk X 301 114 (tt_lin 301 (by decide)) rfl rfl _ _ _ _).trans rfl
set_option maxRecDepth 100000 in
theorem bk_301_120 (X : (Nat → Int32) × Nat) (mo : Bool) (G : Nat × Nat) (I : Nat → Nat → Int32) (J : Nat → Nat → Int64) (Q : Option Value → sm_M → Prop) (x1 : Int32) (x2 : Int32) :
    sm_wp X 301 120 [some (.ref 81), some (.int x1), some (.int x2), none, none] [] (sM mo G I J) Q =
    (vp_in x1 8 ∧ (sm_zb (I 141 (x1.toNatClampNeg)) ∧ Q (some (.int (I 141 (x1.toNatClampNeg)))) (sM mo G I J))) :=
  (sm_blk X 301 120 (tt_lin 301 (by decide)) rfl rfl _ _ _ _).trans rfl
set_option maxRecDepth 100000 in
theorem bk_302_0 (X : (Nat → Int32) × Nat) (mo : Bool) (G : Nat × Nat) (I : Nat → Nat → Int32) (J : Nat → Nat → Int64) (Q : Option Value → sm_M → Prop) (x1 : Int32) :
    sm_wp X 302 0 [some (.ref 81), some (.int x1), none, none] [] (sM mo G I J) Q =
    (sm_wp X 299 0 [some (.ref 81), some (.int x1), none, none, none, none, none] [] (sM mo G I J) (fun v M => sm_wp X 302 5 [some (.ref 81), some (.int x1), none, none] (v.toList ++ []) M Q)) :=
  (sm_blk X 302 0 (tt_lin 302 (by decide)) rfl rfl _ _ _ _).trans rfl
set_option maxRecDepth 100000 in
theorem bk_302_5 (X : (Nat → Int32) × Nat) (mo : Bool) (G : Nat × Nat) (I : Nat → Nat → Int32) (J : Nat → Nat → Int64) (Q : Option Value → sm_M → Prop) (x1 : Int32) (s0 : Int32) :
    sm_wp X 302 5 [some (.ref 81), some (.int x1), none, none] [.int s0] (sM mo G I J) Q =
    (if 0 ≤ (s0 : Int32) then sm_wp X 302 12 [some (.ref 81), some (.int x1), some (.int s0), none] [] (sM mo G I J) Q else (sm_zb 1 ∧ Q (some (.int 1)) (sM mo G I J))) :=
  (sm_blk X 302 5 (tt_lin 302 (by decide)) rfl rfl _ _ _ _).trans rfl
set_option maxRecDepth 100000 in
theorem bk_302_12 (X : (Nat → Int32) × Nat) (mo : Bool) (G : Nat × Nat) (I : Nat → Nat → Int32) (J : Nat → Nat → Int64) (Q : Option Value → sm_M → Prop) (x1 : Int32) (x2 : Int32) :
    sm_wp X 302 12 [some (.ref 81), some (.int x1), some (.int x2), none] [] (sM mo G I J) Q =
    (sm_wp X 303 0 [some (.ref 81), some (.int x1), some (.int x2), none, none, none, none, none, none, none] [] (sM mo G I J) (fun v M => sm_wp X 302 18 [some (.ref 81), some (.int x1), some (.int x2), none] (v.toList ++ []) M Q)) :=
  (sm_blk X 302 12 (tt_lin 302 (by decide)) rfl rfl _ _ _ _).trans rfl
set_option maxRecDepth 100000 in
theorem bk_302_18 (X : (Nat → Int32) × Nat) (mo : Bool) (G : Nat × Nat) (I : Nat → Nat → Int32) (J : Nat → Nat → Int64) (Q : Option Value → sm_M → Prop) (x1 : Int32) (x2 : Int32) :
    sm_wp X 302 18 [some (.ref 81), some (.int x1), some (.int x2), none] [] (sM mo G I J) Q =
    (sm_wp X 302 20 [some (.ref 81), some (.int x1), some (.int x2), some (.int 0)] [] (sM mo G I J) Q) :=
  (sm_blk X 302 18 (tt_lin 302 (by decide)) rfl rfl _ _ _ _).trans rfl
set_option maxRecDepth 100000 in
theorem bk_302_20 (X : (Nat → Int32) × Nat) (mo : Bool) (G : Nat × Nat) (I : Nat → Nat → Int32) (J : Nat → Nat → Int64) (Q : Option Value → sm_M → Prop) (x1 : Int32) (x2 : Int32) (x3 : Int32) :
    sm_wp X 302 20 [some (.ref 81), some (.int x1), some (.int x2), some (.int x3)] [] (sM mo G I J) Q =
    (vp_in ((6 * x1) + x2) 48 ∧ (if (I 135 (((6 * x1) + x2).toNatClampNeg) : Int32) ≤ (x3 : Int32) then sm_wp X 302 51 [some (.ref 81), some (.int x1), some (.int x2), some (.int x3)] [] (sM mo G I J) Q else (sm_wp X 304 0 [some (.ref 81), some (.int x3)] [] (sM mo G I J) (fun v M => sm_wp X 302 40 [some (.ref 81), some (.int x1), some (.int x2), some (.int x3)] (v.toList ++ []) M Q)))) :=
  (sm_blk X 302 20 (tt_lin 302 (by decide)) rfl rfl _ _ _ _).trans rfl
set_option maxRecDepth 100000 in
theorem bk_302_40 (X : (Nat → Int32) × Nat) (mo : Bool) (G : Nat × Nat) (I : Nat → Nat → Int32) (J : Nat → Nat → Int64) (Q : Option Value → sm_M → Prop) (x1 : Int32) (x2 : Int32) (x3 : Int32) (s0 : Int32) :
    sm_wp X 302 40 [some (.ref 81), some (.int x1), some (.int x2), some (.int x3)] [.int s0] (sM mo G I J) Q =
    (if ¬ (s0 : Int32) = 0 then sm_wp X 302 45 [some (.ref 81), some (.int x1), some (.int x2), some (.int x3)] [] (sM mo G I J) Q else (sm_zb 1 ∧ Q (some (.int 1)) (sM mo G I J))) :=
  (sm_blk X 302 40 (tt_lin 302 (by decide)) rfl rfl _ _ _ _).trans rfl
set_option maxRecDepth 100000 in
theorem bk_302_45 (X : (Nat → Int32) × Nat) (mo : Bool) (G : Nat × Nat) (I : Nat → Nat → Int32) (J : Nat → Nat → Int64) (Q : Option Value → sm_M → Prop) (x1 : Int32) (x2 : Int32) (x3 : Int32) :
    sm_wp X 302 45 [some (.ref 81), some (.int x1), some (.int x2), some (.int x3)] [] (sM mo G I J) Q =
    (sm_wp X 302 20 [some (.ref 81), some (.int x1), some (.int x2), some (.int (x3 + 1))] [] (sM mo G I J) Q) :=
  (sm_blk X 302 45 (tt_lin 302 (by decide)) rfl rfl _ _ _ _).trans rfl
set_option maxRecDepth 100000 in
theorem bk_302_51 (X : (Nat → Int32) × Nat) (mo : Bool) (G : Nat × Nat) (I : Nat → Nat → Int32) (J : Nat → Nat → Int64) (Q : Option Value → sm_M → Prop) (x1 : Int32) (x2 : Int32) (x3 : Int32) :
    sm_wp X 302 51 [some (.ref 81), some (.int x1), some (.int x2), some (.int x3)] [] (sM mo G I J) Q =
    (sm_zb 0 ∧ Q (some (.int 0)) (sM mo G I J)) :=
  (sm_blk X 302 51 (tt_lin 302 (by decide)) rfl rfl _ _ _ _).trans rfl
set_option maxRecDepth 100000 in
theorem bk_303_0 (X : (Nat → Int32) × Nat) (mo : Bool) (G : Nat × Nat) (I : Nat → Nat → Int32) (J : Nat → Nat → Int64) (Q : Option Value → sm_M → Prop) (x1 : Int32) (x2 : Int32) :
    sm_wp X 303 0 [some (.ref 81), some (.int x1), some (.int x2), none, none, none, none, none, none, none] [] (sM mo G I J) Q =
    (sm_wp X 303 7 [some (.ref 81), some (.int x1), some (.int x2), some (.int 0), none, none, none, none, none, none] [] (sM mo G (up2 I 81 88 0) J) Q) :=
  (sm_blk X 303 0 (tt_lin 303 (by decide)) rfl rfl _ _ _ _).trans rfl
set_option maxRecDepth 100000 in
theorem bk_303_7 (X : (Nat → Int32) × Nat) (mo : Bool) (G : Nat × Nat) (I : Nat → Nat → Int32) (J : Nat → Nat → Int64) (Q : Option Value → sm_M → Prop) (x1 : Int32) (x2 : Int32) (x3 : Int32) :
    sm_wp X 303 7 [some (.ref 81), some (.int x1), some (.int x2), some (.int x3), none, none, none, none, none, none] [] (sM mo G I J) Q =
    (if (8 : Int32) ≤ (x3 : Int32) then sm_wp X 303 26 [some (.ref 81), some (.int x1), some (.int x2), some (.int x3), none, none, none, none, none, none] [] (sM mo G I J) Q else (vp_in x3 8 ∧ (sm_wp X 303 7 [some (.ref 81), some (.int x1), some (.int x2), some (.int (x3 + 1)), none, none, none, none, none, none] [] (sM mo G (up2 I 140 x3.toNatClampNeg 0) J) Q))) :=
  (sm_blk X 303 7 (tt_lin 303 (by decide)) rfl rfl _ _ _ _).trans rfl
set_option maxRecDepth 100000 in
theorem bk_303_26 (X : (Nat → Int32) × Nat) (mo : Bool) (G : Nat × Nat) (I : Nat → Nat → Int32) (J : Nat → Nat → Int64) (Q : Option Value → sm_M → Prop) (x1 : Int32) (x2 : Int32) (x3 : Int32) :
    sm_wp X 303 26 [some (.ref 81), some (.int x1), some (.int x2), some (.int x3), none, none, none, none, none, none] [] (sM mo G I J) Q =
    (sm_wp X 303 36 [some (.ref 81), some (.int x1), none, some (.int ((6 * x1) + x2)), some (.int 0), none, none, none, none, none] [] (sM mo G I J) Q) :=
  (sm_blk X 303 26 (tt_lin 303 (by decide)) rfl rfl _ _ _ _).trans rfl
set_option maxRecDepth 100000 in
theorem bk_303_36 (X : (Nat → Int32) × Nat) (mo : Bool) (G : Nat × Nat) (I : Nat → Nat → Int32) (J : Nat → Nat → Int64) (Q : Option Value → sm_M → Prop) (x1 : Int32) (x3 : Int32) (x4 : Int32) :
    sm_wp X 303 36 [some (.ref 81), some (.int x1), none, some (.int x3), some (.int x4), none, none, none, none, none] [] (sM mo G I J) Q =
    (if (I 81 10 : Int32) ≤ (x4 : Int32) then sm_wp X 303 286 [some (.ref 81), some (.int x1), none, some (.int x3), some (.int x4), none, none, none, none, none] [] (sM mo G I J) Q else (sm_wp X 300 0 [some (.ref 81), some (.int x1), some (.int x4)] [] (sM mo G I J) (fun v M => sm_wp X 303 52 [some (.ref 81), some (.int x1), none, some (.int x3), some (.int x4), none, none, none, none, none] (v.toList ++ []) M Q))) :=
  (sm_blk X 303 36 (tt_lin 303 (by decide)) rfl rfl _ _ _ _).trans rfl
set_option maxRecDepth 100000 in
theorem bk_303_52 (X : (Nat → Int32) × Nat) (mo : Bool) (G : Nat × Nat) (I : Nat → Nat → Int32) (J : Nat → Nat → Int64) (Q : Option Value → sm_M → Prop) (x1 : Int32) (x3 : Int32) (x4 : Int32) (s0 : Int32) :
    sm_wp X 303 52 [some (.ref 81), some (.int x1), none, some (.int x3), some (.int x4), none, none, none, none, none] [.int s0] (sM mo G I J) Q =
    (if ¬ (s0 : Int32) = 0 then sm_wp X 303 58 [some (.ref 81), some (.int x1), none, some (.int x3), some (.int x4), none, none, none, none, none] [] (sM mo G I J) Q else (sm_wp X 303 280 [some (.ref 81), some (.int x1), none, some (.int x3), some (.int x4), none, none, none, none, none] [] (sM mo G I J) Q)) :=
  (sm_blk X 303 52 (tt_lin 303 (by decide)) rfl rfl _ _ _ _).trans rfl
set_option maxRecDepth 100000 in
theorem bk_303_58 (X : (Nat → Int32) × Nat) (mo : Bool) (G : Nat × Nat) (I : Nat → Nat → Int32) (J : Nat → Nat → Int64) (Q : Option Value → sm_M → Prop) (x1 : Int32) (x3 : Int32) (x4 : Int32) :
    sm_wp X 303 58 [some (.ref 81), some (.int x1), none, some (.int x3), some (.int x4), none, none, none, none, none] [] (sM mo G I J) Q =
    (sm_wp X 297 0 [some (.ref 81), some (.int x3), some (.int ((6 * x1) + x4)), none, none, none] [] (sM mo G (up2 I 81 88 ((I 81 88) + 1)) J) (fun v M => sm_wp X 303 84 [some (.ref 81), some (.int x1), none, some (.int x3), some (.int x4), some (.int ((6 * x1) + x4)), none, none, none, none] (v.toList ++ []) M Q)) :=
  (sm_blk X 303 58 (tt_lin 303 (by decide)) rfl rfl _ _ _ _).trans rfl
set_option maxRecDepth 100000 in
theorem bk_303_84 (X : (Nat → Int32) × Nat) (mo : Bool) (G : Nat × Nat) (I : Nat → Nat → Int32) (J : Nat → Nat → Int64) (Q : Option Value → sm_M → Prop) (x1 : Int32) (x3 : Int32) (x4 : Int32) (x5 : Int32) (s0 : Int32) :
    sm_wp X 303 84 [some (.ref 81), some (.int x1), none, some (.int x3), some (.int x4), some (.int x5), none, none, none, none] [.int s0] (sM mo G I J) Q =
    (sm_wp X 303 92 [some (.ref 81), some (.int x1), none, some (.int x3), some (.int x4), some (.int x5), none, some (.int 0), some (.int 0), none] [] (sM mo G I J) Q) :=
  (sm_blk X 303 84 (tt_lin 303 (by decide)) rfl rfl _ _ _ _).trans rfl
set_option maxRecDepth 100000 in
theorem bk_303_92 (X : (Nat → Int32) × Nat) (mo : Bool) (G : Nat × Nat) (I : Nat → Nat → Int32) (J : Nat → Nat → Int64) (Q : Option Value → sm_M → Prop) (x1 : Int32) (x3 : Int32) (x4 : Int32) (x5 : Int32) (x7 : Int32) (x8 : Int32) :
    sm_wp X 303 92 [some (.ref 81), some (.int x1), none, some (.int x3), some (.int x4), some (.int x5), none, some (.int x7), some (.int x8), none] [] (sM mo G I J) Q =
    (vp_in x3 48 ∧ (if (I 135 (x3.toNatClampNeg) : Int32) ≤ (x7 : Int32) then sm_wp X 303 280 [some (.ref 81), some (.int x1), none, some (.int x3), some (.int x4), some (.int x5), none, some (.int x7), some (.int x8), none] [] (sM mo G I J) Q else (vp_in x5 48 ∧ (if (I 135 (x5.toNatClampNeg) : Int32) ≤ (x8 : Int32) then sm_wp X 303 147 [some (.ref 81), some (.int x1), none, some (.int x3), some (.int x4), some (.int x5), none, some (.int x7), some (.int x8), none] [] (sM mo G I J) Q else (vp_in ((8 * x3) + x7) 384 ∧ (vp_in ((8 * x5) + x8) 384 ∧ (if ¬ (I 136 (((8 * x3) + x7).toNatClampNeg) : Int32) = (I 136 (((8 * x5) + x8).toNatClampNeg) : Int32) then sm_wp X 303 147 [some (.ref 81), some (.int x1), none, some (.int x3), some (.int x4), some (.int x5), none, some (.int x7), some (.int x8), none] [] (sM mo G I J) Q else (sm_wp X 303 148 [some (.ref 81), some (.int x1), none, some (.int x3), some (.int x4), some (.int x5), none, some (.int x7), some (.int x8), none] [.int 1] (sM mo G I J) Q)))))))) :=
  (sm_blk X 303 92 (tt_lin 303 (by decide)) rfl rfl _ _ _ _).trans rfl
set_option maxRecDepth 100000 in
theorem bk_303_147 (X : (Nat → Int32) × Nat) (mo : Bool) (G : Nat × Nat) (I : Nat → Nat → Int32) (J : Nat → Nat → Int64) (Q : Option Value → sm_M → Prop) (x1 : Int32) (x3 : Int32) (x4 : Int32) (x5 : Int32) (x7 : Int32) (x8 : Int32) :
    sm_wp X 303 147 [some (.ref 81), some (.int x1), none, some (.int x3), some (.int x4), some (.int x5), none, some (.int x7), some (.int x8), none] [] (sM mo G I J) Q =
    (vp_in x5 48 ∧ (if (I 135 (x5.toNatClampNeg) : Int32) ≤ (x8 : Int32) then sm_wp X 303 234 [some (.ref 81), some (.int x1), none, some (.int x3), some (.int x4), some (.int x5), none, some (.int x7), some (.int x8), some (.int 0)] [] (sM mo G I J) Q else (vp_in ((9 * x7) + x8) 81 ∧ (vp_in (((9 * x7) + x8) + 10) 81 ∧ (if (0 : Int32) = 0 then sm_wp X 303 200 [some (.ref 81), some (.int x1), none, some (.int x3), some (.int x4), some (.int x5), none, some (.int x7), some (.int x8), some (.int 0)] [.int (I 139 ((((9 * x7) + x8) + 10).toNatClampNeg)), .int (I 139 (((9 * x7) + x8).toNatClampNeg))] (sM mo G I J) Q else (sm_wp X 303 201 [some (.ref 81), some (.int x1), none, some (.int x3), some (.int x4), some (.int x5), none, some (.int x7), some (.int x8), some (.int 0)] [.int 0, .int (I 139 ((((9 * x7) + x8) + 10).toNatClampNeg)), .int (I 139 (((9 * x7) + x8).toNatClampNeg))] (sM mo G I J) Q)))))) :=
  (sm_blk X 303 147 (tt_lin 303 (by decide)) rfl rfl _ _ _ _).trans rfl
set_option maxRecDepth 100000 in
theorem bk_303_148 (X : (Nat → Int32) × Nat) (mo : Bool) (G : Nat × Nat) (I : Nat → Nat → Int32) (J : Nat → Nat → Int64) (Q : Option Value → sm_M → Prop) (x1 : Int32) (x3 : Int32) (x4 : Int32) (x5 : Int32) (x7 : Int32) (x8 : Int32) (s0 : Int32) :
    sm_wp X 303 148 [some (.ref 81), some (.int x1), none, some (.int x3), some (.int x4), some (.int x5), none, some (.int x7), some (.int x8), none] [.int s0] (sM mo G I J) Q =
    (vp_in x5 48 ∧ (if (I 135 (x5.toNatClampNeg) : Int32) ≤ (x8 : Int32) then sm_wp X 303 234 [some (.ref 81), some (.int x1), none, some (.int x3), some (.int x4), some (.int x5), none, some (.int x7), some (.int x8), some (.int s0)] [] (sM mo G I J) Q else (vp_in ((9 * x7) + x8) 81 ∧ (vp_in (((9 * x7) + x8) + 10) 81 ∧ (if (s0 : Int32) = 0 then sm_wp X 303 200 [some (.ref 81), some (.int x1), none, some (.int x3), some (.int x4), some (.int x5), none, some (.int x7), some (.int x8), some (.int s0)] [.int (I 139 ((((9 * x7) + x8) + 10).toNatClampNeg)), .int (I 139 (((9 * x7) + x8).toNatClampNeg))] (sM mo G I J) Q else (sm_wp X 303 201 [some (.ref 81), some (.int x1), none, some (.int x3), some (.int x4), some (.int x5), none, some (.int x7), some (.int x8), some (.int s0)] [.int 0, .int (I 139 ((((9 * x7) + x8) + 10).toNatClampNeg)), .int (I 139 (((9 * x7) + x8).toNatClampNeg))] (sM mo G I J) Q)))))) :=
  (sm_blk X 303 148 (tt_lin 303 (by decide)) rfl rfl _ _ _ _).trans rfl
set_option maxRecDepth 100000 in
theorem bk_303_200 (X : (Nat → Int32) × Nat) (mo : Bool) (G : Nat × Nat) (I : Nat → Nat → Int32) (J : Nat → Nat → Int64) (Q : Option Value → sm_M → Prop) (x1 : Int32) (x3 : Int32) (x4 : Int32) (x5 : Int32) (x7 : Int32) (x8 : Int32) (x9 : Int32) (s0 : Int32) (s1 : Int32) :
    sm_wp X 303 200 [some (.ref 81), some (.int x1), none, some (.int x3), some (.int x4), some (.int x5), none, some (.int x7), some (.int x8), some (.int x9)] [.int s1, .int s0] (sM mo G I J) Q =
    (if ¬ (s0 : Int32) = (s1 + 1 : Int32) then sm_wp X 303 234 [some (.ref 81), some (.int x1), none, some (.int x3), some (.int x4), some (.int x5), none, some (.int x7), some (.int x8), some (.int x9)] [] (sM mo G I J) Q else (vp_in x7 8 ∧ (if (x9 : Int32) = 0 then sm_wp X 303 222 [some (.ref 81), some (.int x1), none, some (.int x3), some (.int x4), some (.int x5), none, some (.int x7), some (.int x8), some (.int x9)] [.int (I 140 (x7.toNatClampNeg)), .int x7, .ref 140] (sM mo G I J) Q else (sm_wp X 303 223 [some (.ref 81), some (.int x1), none, some (.int x3), some (.int x4), some (.int x5), none, some (.int x7), some (.int x8), some (.int x9)] [.int 1, .int (I 140 (x7.toNatClampNeg)), .int x7, .ref 140] (sM mo G I J) Q)))) :=
  (sm_blk X 303 200 (tt_lin 303 (by decide)) rfl rfl _ _ _ _).trans rfl
set_option maxRecDepth 100000 in
theorem bk_303_201 (X : (Nat → Int32) × Nat) (mo : Bool) (G : Nat × Nat) (I : Nat → Nat → Int32) (J : Nat → Nat → Int64) (Q : Option Value → sm_M → Prop) (x1 : Int32) (x3 : Int32) (x4 : Int32) (x5 : Int32) (x7 : Int32) (x8 : Int32) (x9 : Int32) (s0 : Int32) (s1 : Int32) (s2 : Int32) :
    sm_wp X 303 201 [some (.ref 81), some (.int x1), none, some (.int x3), some (.int x4), some (.int x5), none, some (.int x7), some (.int x8), some (.int x9)] [.int s2, .int s1, .int s0] (sM mo G I J) Q =
    (if ¬ (s0 : Int32) = (s1 + s2 : Int32) then sm_wp X 303 234 [some (.ref 81), some (.int x1), none, some (.int x3), some (.int x4), some (.int x5), none, some (.int x7), some (.int x8), some (.int x9)] [] (sM mo G I J) Q else (vp_in x7 8 ∧ (if (x9 : Int32) = 0 then sm_wp X 303 222 [some (.ref 81), some (.int x1), none, some (.int x3), some (.int x4), some (.int x5), none, some (.int x7), some (.int x8), some (.int x9)] [.int (I 140 (x7.toNatClampNeg)), .int x7, .ref 140] (sM mo G I J) Q else (sm_wp X 303 223 [some (.ref 81), some (.int x1), none, some (.int x3), some (.int x4), some (.int x5), none, some (.int x7), some (.int x8), some (.int x9)] [.int 1, .int (I 140 (x7.toNatClampNeg)), .int x7, .ref 140] (sM mo G I J) Q)))) :=
  (sm_blk X 303 201 (tt_lin 303 (by decide)) rfl rfl _ _ _ _).trans rfl
set_option maxRecDepth 100000 in
theorem bk_303_222 (X : (Nat → Int32) × Nat) (mo : Bool) (G : Nat × Nat) (I : Nat → Nat → Int32) (J : Nat → Nat → Int64) (Q : Option Value → sm_M → Prop) (x1 : Int32) (x3 : Int32) (x4 : Int32) (x5 : Int32) (x7 : Int32) (x8 : Int32) (x9 : Int32) (s1 : Int32) (s2 : Int32) :
    sm_wp X 303 222 [some (.ref 81), some (.int x1), none, some (.int x3), some (.int x4), some (.int x5), none, some (.int x7), some (.int x8), some (.int x9)] [.int s2, .int s1, .ref 140] (sM mo G I J) Q =
    (vp_in s1 8 ∧ (sm_wp X 303 277 [some (.ref 81), some (.int x1), none, some (.int x3), some (.int x4), some (.int x5), none, some (.int (x7 + 1)), some (.int (x8 + 1)), some (.int x9)] [] (sM mo G (up2 I 140 s1.toNatClampNeg (s2 + 0)) J) Q)) :=
  (sm_blk X 303 222 (tt_lin 303 (by decide)) rfl rfl _ _ _ _).trans rfl
set_option maxRecDepth 100000 in
theorem bk_303_223 (X : (Nat → Int32) × Nat) (mo : Bool) (G : Nat × Nat) (I : Nat → Nat → Int32) (J : Nat → Nat → Int64) (Q : Option Value → sm_M → Prop) (x1 : Int32) (x3 : Int32) (x4 : Int32) (x5 : Int32) (x7 : Int32) (x8 : Int32) (x9 : Int32) (s1 : Int32) (s2 : Int32) (s3 : Int32) :
    sm_wp X 303 223 [some (.ref 81), some (.int x1), none, some (.int x3), some (.int x4), some (.int x5), none, some (.int x7), some (.int x8), some (.int x9)] [.int s3, .int s2, .int s1, .ref 140] (sM mo G I J) Q =
    (vp_in s1 8 ∧ (sm_wp X 303 277 [some (.ref 81), some (.int x1), none, some (.int x3), some (.int x4), some (.int x5), none, some (.int (x7 + 1)), some (.int (x8 + 1)), some (.int x9)] [] (sM mo G (up2 I 140 s1.toNatClampNeg (s2 + s3)) J) Q)) :=
  (sm_blk X 303 223 (tt_lin 303 (by decide)) rfl rfl _ _ _ _).trans rfl
set_option maxRecDepth 100000 in
theorem bk_303_234 (X : (Nat → Int32) × Nat) (mo : Bool) (G : Nat × Nat) (I : Nat → Nat → Int32) (J : Nat → Nat → Int64) (Q : Option Value → sm_M → Prop) (x1 : Int32) (x3 : Int32) (x4 : Int32) (x5 : Int32) (x7 : Int32) (x8 : Int32) (x9 : Int32) :
    sm_wp X 303 234 [some (.ref 81), some (.int x1), none, some (.int x3), some (.int x4), some (.int x5), none, some (.int x7), some (.int x8), some (.int x9)] [] (sM mo G I J) Q =
    (vp_in ((9 * x7) + x8) 81 ∧ (vp_in (((9 * x7) + x8) + 9) 81 ∧ (if ¬ (I 139 (((9 * x7) + x8).toNatClampNeg) : Int32) = ((I 139 ((((9 * x7) + x8) + 9).toNatClampNeg)) + 1 : Int32) then sm_wp X 303 274 [some (.ref 81), some (.int x1), none, some (.int x3), some (.int x4), some (.int x5), none, some (.int x7), some (.int x8), some (.int x9)] [] (sM mo G I J) Q else (sm_wp X 303 277 [some (.ref 81), some (.int x1), none, some (.int x3), some (.int x4), some (.int x5), none, some (.int (x7 + 1)), some (.int x8), some (.int x9)] [] (sM mo G I J) Q)))) :=
  (sm_blk X 303 234 (tt_lin 303 (by decide)) rfl rfl _ _ _ _).trans rfl
set_option maxRecDepth 100000 in
theorem bk_303_274 (X : (Nat → Int32) × Nat) (mo : Bool) (G : Nat × Nat) (I : Nat → Nat → Int32) (J : Nat → Nat → Int64) (Q : Option Value → sm_M → Prop) (x1 : Int32) (x3 : Int32) (x4 : Int32) (x5 : Int32) (x7 : Int32) (x8 : Int32) (x9 : Int32) :
    sm_wp X 303 274 [some (.ref 81), some (.int x1), none, some (.int x3), some (.int x4), some (.int x5), none, some (.int x7), some (.int x8), some (.int x9)] [] (sM mo G I J) Q =
    (sm_wp X 303 92 [some (.ref 81), some (.int x1), none, some (.int x3), some (.int x4), some (.int x5), none, some (.int x7), some (.int (x8 + 1)), none] [] (sM mo G I J) Q) :=
  (sm_blk X 303 274 (tt_lin 303 (by decide)) rfl rfl _ _ _ _).trans rfl
set_option maxRecDepth 100000 in
theorem bk_303_277 (X : (Nat → Int32) × Nat) (mo : Bool) (G : Nat × Nat) (I : Nat → Nat → Int32) (J : Nat → Nat → Int64) (Q : Option Value → sm_M → Prop) (x1 : Int32) (x3 : Int32) (x4 : Int32) (x5 : Int32) (x7 : Int32) (x8 : Int32) (x9 : Int32) :
    sm_wp X 303 277 [some (.ref 81), some (.int x1), none, some (.int x3), some (.int x4), some (.int x5), none, some (.int x7), some (.int x8), some (.int x9)] [] (sM mo G I J) Q =
    (sm_wp X 303 92 [some (.ref 81), some (.int x1), none, some (.int x3), some (.int x4), some (.int x5), none, some (.int x7), some (.int x8), none] [] (sM mo G I J) Q) :=
  (sm_blk X 303 277 (tt_lin 303 (by decide)) rfl rfl _ _ _ _).trans rfl
set_option maxRecDepth 100000 in
theorem bk_303_280 (X : (Nat → Int32) × Nat) (mo : Bool) (G : Nat × Nat) (I : Nat → Nat → Int32) (J : Nat → Nat → Int64) (Q : Option Value → sm_M → Prop) (x1 : Int32) (x3 : Int32) (x4 : Int32) :
    sm_wp X 303 280 [some (.ref 81), some (.int x1), none, some (.int x3), some (.int x4), none, none, none, none, none] [] (sM mo G I J) Q =
    (sm_wp X 303 36 [some (.ref 81), some (.int x1), none, some (.int x3), some (.int (x4 + 1)), none, none, none, none, none] [] (sM mo G I J) Q) :=
  (sm_blk X 303 280 (tt_lin 303 (by decide)) rfl rfl _ _ _ _).trans rfl
set_option maxRecDepth 100000 in
theorem bk_303_286 (X : (Nat → Int32) × Nat) (mo : Bool) (G : Nat × Nat) (I : Nat → Nat → Int32) (J : Nat → Nat → Int64) (Q : Option Value → sm_M → Prop) (x1 : Int32) (x3 : Int32) (x4 : Int32) :
    sm_wp X 303 286 [some (.ref 81), some (.int x1), none, some (.int x3), some (.int x4), none, none, none, none, none] [] (sM mo G I J) Q =
    (True ∧ Q none (sM mo G I J)) :=
  (sm_blk X 303 286 (tt_lin 303 (by decide)) rfl rfl _ _ _ _).trans rfl
set_option maxRecDepth 100000 in
theorem bk_304_0 (X : (Nat → Int32) × Nat) (mo : Bool) (G : Nat × Nat) (I : Nat → Nat → Int32) (J : Nat → Nat → Int64) (Q : Option Value → sm_M → Prop) (x1 : Int32) :
    sm_wp X 304 0 [some (.ref 81), some (.int x1)] [] (sM mo G I J) Q =
    (vp_in x1 8 ∧ (if ¬ (I 140 (x1.toNatClampNeg) : Int32) = (I 81 88 : Int32) then sm_wp X 304 17 [some (.ref 81), some (.int x1)] [] (sM mo G I J) Q else (sm_wp X 304 37 [some (.ref 81), some (.int x1)] [.int 2] (sM mo G I J) Q))) :=
  (sm_blk X 304 0 (tt_lin 304 (by decide)) rfl rfl _ _ _ _).trans rfl
set_option maxRecDepth 100000 in
theorem bk_304_17 (X : (Nat → Int32) × Nat) (mo : Bool) (G : Nat × Nat) (I : Nat → Nat → Int32) (J : Nat → Nat → Int64) (Q : Option Value → sm_M → Prop) (x1 : Int32) :
    sm_wp X 304 17 [some (.ref 81), some (.int x1)] [] (sM mo G I J) Q =
    (vp_in x1 8 ∧ (if (I 81 88 : Int32) < (2 * (I 140 (x1.toNatClampNeg)) : Int32) then sm_wp X 304 36 [some (.ref 81), some (.int x1)] [] (sM mo G I J) Q else (sm_wp X 304 37 [some (.ref 81), some (.int x1)] [.int 0] (sM mo G I J) Q))) :=
  (sm_blk X 304 17 (tt_lin 304 (by decide)) rfl rfl _ _ _ _).trans rfl
set_option maxRecDepth 100000 in
theorem bk_304_36 (X : (Nat → Int32) × Nat) (mo : Bool) (G : Nat × Nat) (I : Nat → Nat → Int32) (J : Nat → Nat → Int64) (Q : Option Value → sm_M → Prop) (x1 : Int32) :
    sm_wp X 304 36 [some (.ref 81), some (.int x1)] [] (sM mo G I J) Q =
    (True ∧ Q (some (.int 1)) (sM mo G I J)) :=
  (sm_blk X 304 36 (tt_lin 304 (by decide)) rfl rfl _ _ _ _).trans rfl
set_option maxRecDepth 100000 in
theorem bk_304_37 (X : (Nat → Int32) × Nat) (mo : Bool) (G : Nat × Nat) (I : Nat → Nat → Int32) (J : Nat → Nat → Int64) (Q : Option Value → sm_M → Prop) (x1 : Int32) (s0 : Int32) :
    sm_wp X 304 37 [some (.ref 81), some (.int x1)] [.int s0] (sM mo G I J) Q =
    (True ∧ Q (some (.int s0)) (sM mo G I J)) :=
  (sm_blk X 304 37 (tt_lin 304 (by decide)) rfl rfl _ _ _ _).trans rfl
set_option maxRecDepth 100000 in
theorem bk_305_0 (X : (Nat → Int32) × Nat) (mo : Bool) (G : Nat × Nat) (I : Nat → Nat → Int32) (J : Nat → Nat → Int64) (Q : Option Value → sm_M → Prop) (x1 : Int32) (x2 : Int32) (x3 : Int32) :
    sm_wp X 305 0 [some (.ref 81), some (.int x1), some (.int x2), some (.int x3), none] [] (sM mo G I J) Q =
    (sm_wp X 293 0 [some (.ref 81), some (.int x1)] [] (sM mo G (up2 I 81 2 0) J) (fun v M => sm_wp X 305 10 [some (.ref 81), some (.int x1), some (.int x2), some (.int x3), none] (v.toList ++ []) M Q)) :=
  (sm_blk X 305 0 (tt_lin 305 (by decide)) rfl rfl _ _ _ _).trans rfl
set_option maxRecDepth 100000 in
theorem bk_305_10 (X : (Nat → Int32) × Nat) (mo : Bool) (G : Nat × Nat) (I : Nat → Nat → Int32) (J : Nat → Nat → Int64) (Q : Option Value → sm_M → Prop) (x1 : Int32) (x2 : Int32) (x3 : Int32) (s0 : Int32) :
    sm_wp X 305 10 [some (.ref 81), some (.int x1), some (.int x2), some (.int x3), none] [.int s0] (sM mo G I J) Q =
    (if (s0 : Int32) = 0 then sm_wp X 305 22 [some (.ref 81), some (.int x1), some (.int x2), some (.int x3), none] [] (sM mo G I J) Q else (sm_wp X 210 0 [some (.int x3), some (.int 0), some (.int 2)] [] (sM mo G I J) (fun v M => sm_wp X 305 19 [some (.ref 81), some (.int x1), some (.int x2), some (.int x3), none] (v.toList ++ []) M Q))) :=
  (sm_blk X 305 10 (tt_lin 305 (by decide)) rfl rfl _ _ _ _).trans rfl
set_option maxRecDepth 100000 in
theorem bk_305_19 (X : (Nat → Int32) × Nat) (mo : Bool) (G : Nat × Nat) (I : Nat → Nat → Int32) (J : Nat → Nat → Int64) (Q : Option Value → sm_M → Prop) (x1 : Int32) (x2 : Int32) (x3 : Int32) (s0 : Int32) :
    sm_wp X 305 19 [some (.ref 81), some (.int x1), some (.int x2), some (.int x3), none] [.int s0] (sM mo G I J) Q =
    (if ¬ (s0 : Int32) = 0 then sm_wp X 305 24 [some (.ref 81), some (.int x1), some (.int x2), some (.int x3), none] [] (sM mo G I J) Q else (True ∧ Q (some (.int (-1))) (sM mo G I J))) :=
  (sm_blk X 305 19 (tt_lin 305 (by decide)) rfl rfl _ _ _ _).trans rfl
set_option maxRecDepth 100000 in
theorem bk_305_22 (X : (Nat → Int32) × Nat) (mo : Bool) (G : Nat × Nat) (I : Nat → Nat → Int32) (J : Nat → Nat → Int64) (Q : Option Value → sm_M → Prop) (x1 : Int32) (x2 : Int32) (x3 : Int32) :
    sm_wp X 305 22 [some (.ref 81), some (.int x1), some (.int x2), some (.int x3), none] [] (sM mo G I J) Q =
    (True ∧ Q (some (.int (-1))) (sM mo G I J)) :=
  (sm_blk X 305 22 (tt_lin 305 (by decide)) rfl rfl _ _ _ _).trans rfl
set_option maxRecDepth 100000 in
theorem bk_305_24 (X : (Nat → Int32) × Nat) (mo : Bool) (G : Nat × Nat) (I : Nat → Nat → Int32) (J : Nat → Nat → Int64) (Q : Option Value → sm_M → Prop) (x1 : Int32) (x2 : Int32) (x3 : Int32) :
    sm_wp X 305 24 [some (.ref 81), some (.int x1), some (.int x2), some (.int x3), none] [] (sM mo G I J) Q =
    (sm_wp X 299 0 [some (.ref 81), some (.int x1), none, none, none, none, none] [] (sM mo G I J) (fun v M => sm_wp X 305 29 [some (.ref 81), some (.int x1), some (.int x2), some (.int x3), none] (v.toList ++ []) M Q)) :=
  (sm_blk X 305 24 (tt_lin 305 (by decide)) rfl rfl _ _ _ _).trans rfl
set_option maxRecDepth 100000 in
theorem bk_305_29 (X : (Nat → Int32) × Nat) (mo : Bool) (G : Nat × Nat) (I : Nat → Nat → Int32) (J : Nat → Nat → Int64) (Q : Option Value → sm_M → Prop) (x1 : Int32) (x2 : Int32) (x3 : Int32) (s0 : Int32) :
    sm_wp X 305 29 [some (.ref 81), some (.int x1), some (.int x2), some (.int x3), none] [.int s0] (sM mo G I J) Q =
    (if (s0 : Int32) < 0 then sm_wp X 305 56 [some (.ref 81), some (.int x1), some (.int x2), some (.int x3), some (.int s0)] [] (sM mo G I J) Q else (if (x2 : Int32) < 0 then sm_wp X 305 56 [some (.ref 81), some (.int x1), some (.int x2), some (.int x3), some (.int s0)] [] (sM mo G I J) Q else (vp_in ((6 * x1) + s0) 48 ∧ (if (x2 : Int32) < (I 135 (((6 * x1) + s0).toNatClampNeg) : Int32) then sm_wp X 305 58 [some (.ref 81), some (.int x1), some (.int x2), some (.int x3), some (.int s0)] [] (sM mo G I J) Q else (True ∧ Q (some (.int (-1))) (sM mo G I J)))))) :=
  (sm_blk X 305 29 (tt_lin 305 (by decide)) rfl rfl _ _ _ _).trans rfl
set_option maxRecDepth 100000 in
theorem bk_305_56 (X : (Nat → Int32) × Nat) (mo : Bool) (G : Nat × Nat) (I : Nat → Nat → Int32) (J : Nat → Nat → Int64) (Q : Option Value → sm_M → Prop) (x1 : Int32) (x2 : Int32) (x3 : Int32) (x4 : Int32) :
    sm_wp X 305 56 [some (.ref 81), some (.int x1), some (.int x2), some (.int x3), some (.int x4)] [] (sM mo G I J) Q =
    (True ∧ Q (some (.int (-1))) (sM mo G I J)) :=
  (sm_blk X 305 56 (tt_lin 305 (by decide)) rfl rfl _ _ _ _).trans rfl
set_option maxRecDepth 100000 in
theorem bk_305_58 (X : (Nat → Int32) × Nat) (mo : Bool) (G : Nat × Nat) (I : Nat → Nat → Int32) (J : Nat → Nat → Int64) (Q : Option Value → sm_M → Prop) (x1 : Int32) (x2 : Int32) (x3 : Int32) (x4 : Int32) :
    sm_wp X 305 58 [some (.ref 81), some (.int x1), some (.int x2), some (.int x3), some (.int x4)] [] (sM mo G I J) Q =
    (sm_wp X 303 0 [some (.ref 81), some (.int x1), some (.int x4), none, none, none, none, none, none, none] [] (sM mo G I J) (fun v M => sm_wp X 305 65 [some (.ref 81), some (.int x1), some (.int x2), some (.int x3), some (.int x4)] (v.toList ++ []) M Q)) :=
  (sm_blk X 305 58 (tt_lin 305 (by decide)) rfl rfl _ _ _ _).trans rfl
set_option maxRecDepth 100000 in
theorem bk_305_65 (X : (Nat → Int32) × Nat) (mo : Bool) (G : Nat × Nat) (I : Nat → Nat → Int32) (J : Nat → Nat → Int64) (Q : Option Value → sm_M → Prop) (x1 : Int32) (x2 : Int32) (x3 : Int32) (x4 : Int32) :
    sm_wp X 305 65 [some (.ref 81), some (.int x1), some (.int x2), some (.int x3), some (.int x4)] [] (sM mo G I J) Q =
    (if ¬ (x3 : Int32) = 0 then sm_wp X 305 89 [some (.ref 81), some (.int x1), some (.int x2), some (.int x3), some (.int x4)] [] (sM mo G I J) Q else (vp_in ((8 * ((6 * x1) + x4)) + x2) 384 ∧ (sm_wp X 305 108 [some (.ref 81), some (.int x1), some (.int x2), some (.int x3), some (.int x4)] [.int (I 136 (((8 * ((6 * x1) + x4)) + x2).toNatClampNeg))] (sM mo G I J) Q))) :=
  (sm_blk X 305 65 (tt_lin 305 (by decide)) rfl rfl _ _ _ _).trans rfl
set_option maxRecDepth 100000 in
theorem bk_305_89 (X : (Nat → Int32) × Nat) (mo : Bool) (G : Nat × Nat) (I : Nat → Nat → Int32) (J : Nat → Nat → Int64) (Q : Option Value → sm_M → Prop) (x1 : Int32) (x2 : Int32) (x3 : Int32) (x4 : Int32) :
    sm_wp X 305 89 [some (.ref 81), some (.int x1), some (.int x2), some (.int x3), some (.int x4)] [] (sM mo G I J) Q =
    (if ¬ (x3 : Int32) = (1 : Int32) then sm_wp X 305 103 [some (.ref 81), some (.int x1), some (.int x2), some (.int x3), some (.int x4)] [] (sM mo G I J) Q else (vp_in x2 8 ∧ (sm_wp X 305 108 [some (.ref 81), some (.int x1), some (.int x2), some (.int x3), some (.int x4)] [.int (I 140 (x2.toNatClampNeg))] (sM mo G I J) Q))) :=
  (sm_blk X 305 89 (tt_lin 305 (by decide)) rfl rfl _ _ _ _).trans rfl
set_option maxRecDepth 100000 in
theorem bk_305_103 (X : (Nat → Int32) × Nat) (mo : Bool) (G : Nat × Nat) (I : Nat → Nat → Int32) (J : Nat → Nat → Int64) (Q : Option Value → sm_M → Prop) (x1 : Int32) (x2 : Int32) (x3 : Int32) (x4 : Int32) :
    sm_wp X 305 103 [some (.ref 81), some (.int x1), some (.int x2), some (.int x3), some (.int x4)] [] (sM mo G I J) Q =
    (sm_wp X 304 0 [some (.ref 81), some (.int x2)] [] (sM mo G I J) (fun v M => sm_wp X 305 108 [some (.ref 81), some (.int x1), some (.int x2), some (.int x3), some (.int x4)] (v.toList ++ []) M Q)) :=
  (sm_blk X 305 103 (tt_lin 305 (by decide)) rfl rfl _ _ _ _).trans rfl
set_option maxRecDepth 100000 in
theorem bk_305_108 (X : (Nat → Int32) × Nat) (mo : Bool) (G : Nat × Nat) (I : Nat → Nat → Int32) (J : Nat → Nat → Int64) (Q : Option Value → sm_M → Prop) (x1 : Int32) (x2 : Int32) (x3 : Int32) (x4 : Int32) (s0 : Int32) :
    sm_wp X 305 108 [some (.ref 81), some (.int x1), some (.int x2), some (.int x3), some (.int x4)] [.int s0] (sM mo G I J) Q =
    (True ∧ Q (some (.int s0)) (sM mo G I J)) :=
  (sm_blk X 305 108 (tt_lin 305 (by decide)) rfl rfl _ _ _ _).trans rfl
set_option maxRecDepth 100000 in
theorem bk_306_0 (X : (Nat → Int32) × Nat) (mo : Bool) (G : Nat × Nat) (I : Nat → Nat → Int32) (J : Nat → Nat → Int64) (Q : Option Value → sm_M → Prop) (x1 : Int32) :
    sm_wp X 306 0 [some (.ref 81), some (.int x1), none, none] [] (sM mo G I J) Q =
    (sm_wp X 215 0 [some (.ref 81), some (.int x1)] [] (sM mo G (up2 I 81 2 0) J) (fun v M => sm_wp X 306 10 [some (.ref 81), some (.int x1), none, none] (v.toList ++ []) M Q)) :=
  (sm_blk X 306 0 (tt_lin 306 (by decide)) rfl rfl _ _ _ _).trans rfl
set_option maxRecDepth 100000 in
theorem bk_306_10 (X : (Nat → Int32) × Nat) (mo : Bool) (G : Nat × Nat) (I : Nat → Nat → Int32) (J : Nat → Nat → Int64) (Q : Option Value → sm_M → Prop) (x1 : Int32) (s0 : Int32) :
    sm_wp X 306 10 [some (.ref 81), some (.int x1), none, none] [.int s0] (sM mo G I J) Q =
    (if ¬ (s0 : Int32) = 0 then sm_wp X 306 15 [some (.ref 81), some (.int x1), none, none] [] (sM mo G I J) Q else (True ∧ Q (some (.int (-1))) (sM mo G I J))) :=
  (sm_blk X 306 10 (tt_lin 306 (by decide)) rfl rfl _ _ _ _).trans rfl
set_option maxRecDepth 100000 in
theorem bk_306_15 (X : (Nat → Int32) × Nat) (mo : Bool) (G : Nat × Nat) (I : Nat → Nat → Int32) (J : Nat → Nat → Int64) (Q : Option Value → sm_M → Prop) (x1 : Int32) :
    sm_wp X 306 15 [some (.ref 81), some (.int x1), none, none] [] (sM mo G I J) Q =
    (sm_wp X 306 31 [some (.ref 81), some (.int x1), some (.int 0), some (.int 0)] [] (sM mo G (up2 I 81 15 ((I 81 15) ^^^ (1 <<< (x1 &&& 31)))) J) Q) :=
  (sm_blk X 306 15 (tt_lin 306 (by decide)) rfl rfl _ _ _ _).trans rfl
set_option maxRecDepth 100000 in
theorem bk_306_31 (X : (Nat → Int32) × Nat) (mo : Bool) (G : Nat × Nat) (I : Nat → Nat → Int32) (J : Nat → Nat → Int64) (Q : Option Value → sm_M → Prop) (x1 : Int32) (x2 : Int32) (x3 : Int32) :
    sm_wp X 306 31 [some (.ref 81), some (.int x1), some (.int x2), some (.int x3)] [] (sM mo G I J) Q =
    (if (I 81 46 : Int32) ≤ (x3 : Int32) then sm_wp X 306 97 [some (.ref 81), some (.int x1), some (.int x2), some (.int x3)] [] (sM mo G I J) Q else (vp_in x3 60 ∧ (if ¬ (I 107 (x3.toNatClampNeg) : Int32) = 0 then sm_wp X 306 91 [some (.ref 81), some (.int x1), some (.int x2), some (.int x3)] [] (sM mo G I J) Q else (vp_in x3 60 ∧ (if (2 : Int32) < (I 117 (x3.toNatClampNeg) : Int32) then sm_wp X 306 91 [some (.ref 81), some (.int x1), some (.int x2), some (.int x3)] [] (sM mo G I J) Q else (vp_in x3 60 ∧ (if (I 108 (x3.toNatClampNeg) : Int32) = (x1 : Int32) then sm_wp X 306 81 [some (.ref 81), some (.int x1), some (.int x2), some (.int x3)] [] (sM mo G I J) Q else (vp_in x3 60 ∧ (if (I 109 (x3.toNatClampNeg) : Int32) = (x1 : Int32) then sm_wp X 306 81 [some (.ref 81), some (.int x1), some (.int x2), some (.int x3)] [] (sM mo G I J) Q else (sm_wp X 306 91 [some (.ref 81), some (.int x1), some (.int x2), some (.int x3)] [] (sM mo G I J) Q)))))))))) :=
  (sm_blk X 306 31 (tt_lin 306 (by decide)) rfl rfl _ _ _ _).trans rfl
set_option maxRecDepth 100000 in
theorem bk_306_81 (X : (Nat → Int32) × Nat) (mo : Bool) (G : Nat × Nat) (I : Nat → Nat → Int32) (J : Nat → Nat → Int64) (Q : Option Value → sm_M → Prop) (x1 : Int32) (x2 : Int32) (x3 : Int32) :
    sm_wp X 306 81 [some (.ref 81), some (.int x1), some (.int x2), some (.int x3)] [] (sM mo G I J) Q =
    (vp_in x3 60 ∧ (sm_wp X 306 31 [some (.ref 81), some (.int x1), some (.int (x2 + 1)), some (.int (x3 + 1))] [] (sM mo G (up2 I 117 x3.toNatClampNeg 4) J) Q)) :=
  (sm_blk X 306 81 (tt_lin 306 (by decide)) rfl rfl _ _ _ _).trans rfl
set_option maxRecDepth 100000 in
theorem bk_306_91 (X : (Nat → Int32) × Nat) (mo : Bool) (G : Nat × Nat) (I : Nat → Nat → Int32) (J : Nat → Nat → Int64) (Q : Option Value → sm_M → Prop) (x1 : Int32) (x2 : Int32) (x3 : Int32) :
    sm_wp X 306 91 [some (.ref 81), some (.int x1), some (.int x2), some (.int x3)] [] (sM mo G I J) Q =
    (sm_wp X 306 31 [some (.ref 81), some (.int x1), some (.int x2), some (.int (x3 + 1))] [] (sM mo G I J) Q) :=
  (sm_blk X 306 91 (tt_lin 306 (by decide)) rfl rfl _ _ _ _).trans rfl
set_option maxRecDepth 100000 in
theorem bk_306_97 (X : (Nat → Int32) × Nat) (mo : Bool) (G : Nat × Nat) (I : Nat → Nat → Int32) (J : Nat → Nat → Int64) (Q : Option Value → sm_M → Prop) (x1 : Int32) (x2 : Int32) (x3 : Int32) :
    sm_wp X 306 97 [some (.ref 81), some (.int x1), some (.int x2), some (.int x3)] [] (sM mo G I J) Q =
    (True ∧ Q (some (.int x2)) (sM mo G I J)) :=
  (sm_blk X 306 97 (tt_lin 306 (by decide)) rfl rfl _ _ _ _).trans rfl
set_option maxRecDepth 100000 in
theorem bk_307_0 (X : (Nat → Int32) × Nat) (mo : Bool) (G : Nat × Nat) (I : Nat → Nat → Int32) (J : Nat → Nat → Int64) (Q : Option Value → sm_M → Prop) (x1 : Int32) (x2 : Int32) (x3 : Int32) :
    sm_wp X 307 0 [some (.ref 81), some (.int x1), some (.int x2), some (.int x3)] [] (sM mo G I J) Q =
    (sm_wp X 212 0 [some (.ref 81), some (.int x1)] [] (sM mo G (up2 I 81 2 0) J) (fun v M => sm_wp X 307 10 [some (.ref 81), some (.int x1), some (.int x2), some (.int x3)] (v.toList ++ []) M Q)) :=
  (sm_blk X 307 0 (tt_lin 307 (by decide)) rfl rfl _ _ _ _).trans rfl
set_option maxRecDepth 100000 in
theorem bk_307_10 (X : (Nat → Int32) × Nat) (mo : Bool) (G : Nat × Nat) (I : Nat → Nat → Int32) (J : Nat → Nat → Int64) (Q : Option Value → sm_M → Prop) (x1 : Int32) (x2 : Int32) (x3 : Int32) (s0 : Int32) :
    sm_wp X 307 10 [some (.ref 81), some (.int x1), some (.int x2), some (.int x3)] [.int s0] (sM mo G I J) Q =
    (if (s0 : Int32) = 0 then sm_wp X 307 36 [some (.ref 81), some (.int x1), some (.int x2), some (.int x3)] [] (sM mo G I J) Q else (if (x2 : Int32) < 0 then sm_wp X 307 36 [some (.ref 81), some (.int x1), some (.int x2), some (.int x3)] [] (sM mo G I J) Q else (vp_in x1 12 ∧ (if (I 87 (x1.toNatClampNeg) : Int32) ≤ (x2 : Int32) then sm_wp X 307 36 [some (.ref 81), some (.int x1), some (.int x2), some (.int x3)] [] (sM mo G I J) Q else (sm_wp X 210 0 [some (.int x3), some (.int 0), some (.int 2)] [] (sM mo G I J) (fun v M => sm_wp X 307 33 [some (.ref 81), some (.int x1), some (.int x2), some (.int x3)] (v.toList ++ []) M Q)))))) :=
  (sm_blk X 307 10 (tt_lin 307 (by decide)) rfl rfl _ _ _ _).trans rfl
set_option maxRecDepth 100000 in
theorem bk_307_33 (X : (Nat → Int32) × Nat) (mo : Bool) (G : Nat × Nat) (I : Nat → Nat → Int32) (J : Nat → Nat → Int64) (Q : Option Value → sm_M → Prop) (x1 : Int32) (x2 : Int32) (x3 : Int32) (s0 : Int32) :
    sm_wp X 307 33 [some (.ref 81), some (.int x1), some (.int x2), some (.int x3)] [.int s0] (sM mo G I J) Q =
    (if ¬ (s0 : Int32) = 0 then sm_wp X 307 39 [some (.ref 81), some (.int x1), some (.int x2), some (.int x3)] [] (sM mo G I J) Q else (True ∧ Q (some (.int (-2))) (sM mo G I J))) :=
  (sm_blk X 307 33 (tt_lin 307 (by decide)) rfl rfl _ _ _ _).trans rfl
set_option maxRecDepth 100000 in
theorem bk_307_36 (X : (Nat → Int32) × Nat) (mo : Bool) (G : Nat × Nat) (I : Nat → Nat → Int32) (J : Nat → Nat → Int64) (Q : Option Value → sm_M → Prop) (x1 : Int32) (x2 : Int32) (x3 : Int32) :
    sm_wp X 307 36 [some (.ref 81), some (.int x1), some (.int x2), some (.int x3)] [] (sM mo G I J) Q =
    (True ∧ Q (some (.int (-2))) (sM mo G I J)) :=
  (sm_blk X 307 36 (tt_lin 307 (by decide)) rfl rfl _ _ _ _).trans rfl
set_option maxRecDepth 100000 in
theorem bk_307_39 (X : (Nat → Int32) × Nat) (mo : Bool) (G : Nat × Nat) (I : Nat → Nat → Int32) (J : Nat → Nat → Int64) (Q : Option Value → sm_M → Prop) (x1 : Int32) (x2 : Int32) (x3 : Int32) :
    sm_wp X 307 39 [some (.ref 81), some (.int x1), some (.int x2), some (.int x3)] [] (sM mo G I J) Q =
    (vp_in (((300 * x1) + (3 * x2)) + x3) 3600 ∧ (True ∧ Q (some (.int (I 88 ((((300 * x1) + (3 * x2)) + x3).toNatClampNeg)))) (sM mo G I J))) :=
  (sm_blk X 307 39 (tt_lin 307 (by decide)) rfl rfl _ _ _ _).trans rfl
set_option maxRecDepth 100000 in
theorem bk_308_0 (X : (Nat → Int32) × Nat) (mo : Bool) (G : Nat × Nat) (I : Nat → Nat → Int32) (J : Nat → Nat → Int64) (Q : Option Value → sm_M → Prop) (x1 : Int32) (x2 : Int32) :
    sm_wp X 308 0 [some (.ref 81), some (.int x1), some (.int x2)] [] (sM mo G I J) Q =
    (sm_wp X 212 0 [some (.ref 81), some (.int x1)] [] (sM mo G (up2 I 81 2 0) J) (fun v M => sm_wp X 308 10 [some (.ref 81), some (.int x1), some (.int x2)] (v.toList ++ []) M Q)) :=
  (sm_blk X 308 0 (tt_lin 308 (by decide)) rfl rfl _ _ _ _).trans rfl
set_option maxRecDepth 100000 in
theorem bk_308_10 (X : (Nat → Int32) × Nat) (mo : Bool) (G : Nat × Nat) (I : Nat → Nat → Int32) (J : Nat → Nat → Int64) (Q : Option Value → sm_M → Prop) (x1 : Int32) (x2 : Int32) (s0 : Int32) :
    sm_wp X 308 10 [some (.ref 81), some (.int x1), some (.int x2)] [.int s0] (sM mo G I J) Q =
    (if ¬ (s0 : Int32) = 0 then sm_wp X 308 19 [some (.ref 81), some (.int x1), some (.int x2)] [] (sM mo G I J) Q else (sm_wp X 309 0 [some (.ref 81), some (.int 1)] [] (sM mo G I J) (fun v M => sm_wp X 308 18 [some (.ref 81), some (.int x1), some (.int x2)] (v.toList ++ []) M Q))) :=
  (sm_blk X 308 10 (tt_lin 308 (by decide)) rfl rfl _ _ _ _).trans rfl
set_option maxRecDepth 100000 in
theorem bk_308_18 (X : (Nat → Int32) × Nat) (mo : Bool) (G : Nat × Nat) (I : Nat → Nat → Int32) (J : Nat → Nat → Int64) (Q : Option Value → sm_M → Prop) (x1 : Int32) (x2 : Int32) (s0 : Int32) :
    sm_wp X 308 18 [some (.ref 81), some (.int x1), some (.int x2)] [.int s0] (sM mo G I J) Q =
    (True ∧ Q (some (.int s0)) (sM mo G I J)) :=
  (sm_blk X 308 18 (tt_lin 308 (by decide)) rfl rfl _ _ _ _).trans rfl
set_option maxRecDepth 100000 in
theorem bk_308_19 (X : (Nat → Int32) × Nat) (mo : Bool) (G : Nat × Nat) (I : Nat → Nat → Int32) (J : Nat → Nat → Int64) (Q : Option Value → sm_M → Prop) (x1 : Int32) (x2 : Int32) :
    sm_wp X 308 19 [some (.ref 81), some (.int x1), some (.int x2)] [] (sM mo G I J) Q =
    (if ¬ (x2 : Int32) = 0 then sm_wp X 308 32 [some (.ref 81), some (.int x1), some (.int x2)] [] (sM mo G I J) Q else (vp_in x1 12 ∧ (sm_wp X 308 65 [some (.ref 81), some (.int x1), some (.int x2)] [.int (I 83 (x1.toNatClampNeg))] (sM mo G I J) Q))) :=
  (sm_blk X 308 19 (tt_lin 308 (by decide)) rfl rfl _ _ _ _).trans rfl
set_option maxRecDepth 100000 in
theorem bk_308_32 (X : (Nat → Int32) × Nat) (mo : Bool) (G : Nat × Nat) (I : Nat → Nat → Int32) (J : Nat → Nat → Int64) (Q : Option Value → sm_M → Prop) (x1 : Int32) (x2 : Int32) :
    sm_wp X 308 32 [some (.ref 81), some (.int x1), some (.int x2)] [] (sM mo G I J) Q =
    (if ¬ (x2 : Int32) = (1 : Int32) then sm_wp X 308 46 [some (.ref 81), some (.int x1), some (.int x2)] [] (sM mo G I J) Q else (vp_in x1 12 ∧ (sm_wp X 308 65 [some (.ref 81), some (.int x1), some (.int x2)] [.int (I 85 (x1.toNatClampNeg))] (sM mo G I J) Q))) :=
  (sm_blk X 308 32 (tt_lin 308 (by decide)) rfl rfl _ _ _ _).trans rfl
set_option maxRecDepth 100000 in
theorem bk_308_46 (X : (Nat → Int32) × Nat) (mo : Bool) (G : Nat × Nat) (I : Nat → Nat → Int32) (J : Nat → Nat → Int64) (Q : Option Value → sm_M → Prop) (x1 : Int32) (x2 : Int32) :
    sm_wp X 308 46 [some (.ref 81), some (.int x1), some (.int x2)] [] (sM mo G I J) Q =
    (if ¬ (x2 : Int32) = (2 : Int32) then sm_wp X 308 60 [some (.ref 81), some (.int x1), some (.int x2)] [] (sM mo G I J) Q else (vp_in x1 12 ∧ (sm_wp X 308 65 [some (.ref 81), some (.int x1), some (.int x2)] [.int (I 86 (x1.toNatClampNeg))] (sM mo G I J) Q))) :=
  (sm_blk X 308 46 (tt_lin 308 (by decide)) rfl rfl _ _ _ _).trans rfl
set_option maxRecDepth 100000 in
theorem bk_308_60 (X : (Nat → Int32) × Nat) (mo : Bool) (G : Nat × Nat) (I : Nat → Nat → Int32) (J : Nat → Nat → Int64) (Q : Option Value → sm_M → Prop) (x1 : Int32) (x2 : Int32) :
    sm_wp X 308 60 [some (.ref 81), some (.int x1), some (.int x2)] [] (sM mo G I J) Q =
    (sm_wp X 309 0 [some (.ref 81), some (.int 2)] [] (sM mo G I J) (fun v M => sm_wp X 308 65 [some (.ref 81), some (.int x1), some (.int x2)] (v.toList ++ []) M Q)) :=
  (sm_blk X 308 60 (tt_lin 308 (by decide)) rfl rfl _ _ _ _).trans rfl
set_option maxRecDepth 100000 in
theorem bk_308_65 (X : (Nat → Int32) × Nat) (mo : Bool) (G : Nat × Nat) (I : Nat → Nat → Int32) (J : Nat → Nat → Int64) (Q : Option Value → sm_M → Prop) (x1 : Int32) (x2 : Int32) (s0 : Int32) :
    sm_wp X 308 65 [some (.ref 81), some (.int x1), some (.int x2)] [.int s0] (sM mo G I J) Q =
    (True ∧ Q (some (.int s0)) (sM mo G I J)) :=
  (sm_blk X 308 65 (tt_lin 308 (by decide)) rfl rfl _ _ _ _).trans rfl
end
section
set_option maxRecDepth 100000 in
theorem bk_309_0 (X : (Nat → Int32) × Nat) (mo : Bool) (G : Nat × Nat) (I : Nat → Nat → Int32) (J : Nat → Nat → Int64) (Q : Option Value → sm_M → Prop) (x1 : Int32) :
    sm_wp X 309 0 [some (.ref 81), some (.int x1)] [] (sM mo G I J) Q =
    (True ∧ Q (some (.int 0)) (sM mo G (up2 I 81 2 x1) J)) :=
  (sm_blk X 309 0 (tt_lin 309 (by decide)) rfl rfl _ _ _ _).trans rfl
set_option maxRecDepth 100000 in
theorem bk_310_0 (X : (Nat → Int32) × Nat) (mo : Bool) (G : Nat × Nat) (I : Nat → Nat → Int32) (J : Nat → Nat → Int64) (Q : Option Value → sm_M → Prop) (x1 : Int32) :
    sm_wp X 310 0 [some (.ref 81), some (.int x1), none, none] [] (sM mo G I J) Q =
    (if (x1 : Int32) = 0 then sm_wp X 310 56 [some (.ref 81), some (.int x1), some (.int 0), none] [] (sM mo G (up2 I 81 2 0) J) Q else if (x1 : Int32) = 1 then sm_wp X 310 61 [some (.ref 81), some (.int x1), some (.int 0), none] [] (sM mo G (up2 I 81 2 0) J) Q else if (x1 : Int32) = 2 then sm_wp X 310 66 [some (.ref 81), some (.int x1), some (.int 0), none] [] (sM mo G (up2 I 81 2 0) J) Q else if (x1 : Int32) = 3 then sm_wp X 310 71 [some (.ref 81), some (.int x1), some (.int 0), none] [] (sM mo G (up2 I 81 2 0) J) Q else if (x1 : Int32) = 4 then sm_wp X 310 76 [some (.ref 81), some (.int x1), some (.int 0), none] [] (sM mo G (up2 I 81 2 0) J) Q else if (x1 : Int32) = 5 then sm_wp X 310 81 [some (.ref 81), some (.int x1), some (.int 0), none] [] (sM mo G (up2 I 81 2 0) J) Q else if (x1 : Int32) = 6 then sm_wp X 310 86 [some (.ref 81), some (.int x1), some (.int 0), none] [] (sM mo G (up2 I 81 2 0) J) Q else if (x1 : Int32) = 7 then sm_wp X 310 91 [some (.ref 81), some (.int x1), some (.int 0), none] [] (sM mo G (up2 I 81 2 0) J) Q else sm_wp X 310 132 [some (.ref 81), some (.int x1), some (.int 0), none] [] (sM mo G (up2 I 81 2 0) J) Q) :=
  (sm_blk X 310 0 (tt_lin 310 (by decide)) rfl rfl _ _ _ _).trans rfl
set_option maxRecDepth 100000 in
theorem bk_310_56 (X : (Nat → Int32) × Nat) (mo : Bool) (G : Nat × Nat) (I : Nat → Nat → Int32) (J : Nat → Nat → Int64) (Q : Option Value → sm_M → Prop) (x1 : Int32) (x2 : Int32) :
    sm_wp X 310 56 [some (.ref 81), some (.int x1), some (.int x2), none] [] (sM mo G I J) Q =
    (True ∧ Q (some (.int (I 81 3))) (sM mo G I J)) :=
  (sm_blk X 310 56 (tt_lin 310 (by decide)) rfl rfl _ _ _ _).trans rfl
set_option maxRecDepth 100000 in
theorem bk_310_61 (X : (Nat → Int32) × Nat) (mo : Bool) (G : Nat × Nat) (I : Nat → Nat → Int32) (J : Nat → Nat → Int64) (Q : Option Value → sm_M → Prop) (x1 : Int32) (x2 : Int32) :
    sm_wp X 310 61 [some (.ref 81), some (.int x1), some (.int x2), none] [] (sM mo G I J) Q =
    (True ∧ Q (some (.int (I 81 10))) (sM mo G I J)) :=
  (sm_blk X 310 61 (tt_lin 310 (by decide)) rfl rfl _ _ _ _).trans rfl
set_option maxRecDepth 100000 in
theorem bk_310_66 (X : (Nat → Int32) × Nat) (mo : Bool) (G : Nat × Nat) (I : Nat → Nat → Int32) (J : Nat → Nat → Int64) (Q : Option Value → sm_M → Prop) (x1 : Int32) (x2 : Int32) :
    sm_wp X 310 66 [some (.ref 81), some (.int x1), some (.int x2), none] [] (sM mo G I J) Q =
    (True ∧ Q (some (.int (I 81 15))) (sM mo G I J)) :=
  (sm_blk X 310 66 (tt_lin 310 (by decide)) rfl rfl _ _ _ _).trans rfl
set_option maxRecDepth 100000 in
theorem bk_310_71 (X : (Nat → Int32) × Nat) (mo : Bool) (G : Nat × Nat) (I : Nat → Nat → Int32) (J : Nat → Nat → Int64) (Q : Option Value → sm_M → Prop) (x1 : Int32) (x2 : Int32) :
    sm_wp X 310 71 [some (.ref 81), some (.int x1), some (.int x2), none] [] (sM mo G I J) Q =
    (True ∧ Q (some (.int (I 81 46))) (sM mo G I J)) :=
  (sm_blk X 310 71 (tt_lin 310 (by decide)) rfl rfl _ _ _ _).trans rfl
set_option maxRecDepth 100000 in
theorem bk_310_76 (X : (Nat → Int32) × Nat) (mo : Bool) (G : Nat × Nat) (I : Nat → Nat → Int32) (J : Nat → Nat → Int64) (Q : Option Value → sm_M → Prop) (x1 : Int32) (x2 : Int32) :
    sm_wp X 310 76 [some (.ref 81), some (.int x1), some (.int x2), none] [] (sM mo G I J) Q =
    (True ∧ Q (some (.int (I 81 16))) (sM mo G I J)) :=
  (sm_blk X 310 76 (tt_lin 310 (by decide)) rfl rfl _ _ _ _).trans rfl
set_option maxRecDepth 100000 in
theorem bk_310_81 (X : (Nat → Int32) × Nat) (mo : Bool) (G : Nat × Nat) (I : Nat → Nat → Int32) (J : Nat → Nat → Int64) (Q : Option Value → sm_M → Prop) (x1 : Int32) (x2 : Int32) :
    sm_wp X 310 81 [some (.ref 81), some (.int x1), some (.int x2), none] [] (sM mo G I J) Q =
    (True ∧ Q (some (.int (I 81 81))) (sM mo G I J)) :=
  (sm_blk X 310 81 (tt_lin 310 (by decide)) rfl rfl _ _ _ _).trans rfl
set_option maxRecDepth 100000 in
theorem bk_310_86 (X : (Nat → Int32) × Nat) (mo : Bool) (G : Nat × Nat) (I : Nat → Nat → Int32) (J : Nat → Nat → Int64) (Q : Option Value → sm_M → Prop) (x1 : Int32) (x2 : Int32) :
    sm_wp X 310 86 [some (.ref 81), some (.int x1), some (.int x2), none] [] (sM mo G I J) Q =
    (True ∧ Q (some (.int (I 81 60))) (sM mo G I J)) :=
  (sm_blk X 310 86 (tt_lin 310 (by decide)) rfl rfl _ _ _ _).trans rfl
set_option maxRecDepth 100000 in
theorem bk_310_91 (X : (Nat → Int32) × Nat) (mo : Bool) (G : Nat × Nat) (I : Nat → Nat → Int32) (J : Nat → Nat → Int64) (Q : Option Value → sm_M → Prop) (x1 : Int32) (x2 : Int32) :
    sm_wp X 310 91 [some (.ref 81), some (.int x1), some (.int x2), none] [] (sM mo G I J) Q =
    (sm_wp X 310 93 [some (.ref 81), none, some (.int x2), some (.int 0)] [] (sM mo G I J) Q) :=
  (sm_blk X 310 91 (tt_lin 310 (by decide)) rfl rfl _ _ _ _).trans rfl
set_option maxRecDepth 100000 in
theorem bk_310_93 (X : (Nat → Int32) × Nat) (mo : Bool) (G : Nat × Nat) (I : Nat → Nat → Int32) (J : Nat → Nat → Int64) (Q : Option Value → sm_M → Prop) (x2 : Int32) (x3 : Int32) :
    sm_wp X 310 93 [some (.ref 81), none, some (.int x2), some (.int x3)] [] (sM mo G I J) Q =
    (if (I 81 3 : Int32) ≤ (x3 : Int32) then sm_wp X 310 130 [some (.ref 81), none, some (.int x2), some (.int x3)] [] (sM mo G I J) Q else (vp_in x3 12 ∧ (if (I 85 (x3.toNatClampNeg) : Int32) = ((-1) : Int32) then sm_wp X 310 121 [some (.ref 81), none, some (.int x2), some (.int x3)] [.int x2] (sM mo G I J) Q else (vp_in x3 12 ∧ (sm_wp X 310 122 [some (.ref 81), none, some (.int x2), some (.int x3)] [.int (I 83 (x3.toNatClampNeg)), .int x2] (sM mo G I J) Q))))) :=
  (sm_blk X 310 93 (tt_lin 310 (by decide)) rfl rfl _ _ _ _).trans rfl
set_option maxRecDepth 100000 in
theorem bk_310_121 (X : (Nat → Int32) × Nat) (mo : Bool) (G : Nat × Nat) (I : Nat → Nat → Int32) (J : Nat → Nat → Int64) (Q : Option Value → sm_M → Prop) (x2 : Int32) (x3 : Int32) (s0 : Int32) :
    sm_wp X 310 121 [some (.ref 81), none, some (.int x2), some (.int x3)] [.int s0] (sM mo G I J) Q =
    (sm_wp X 310 93 [some (.ref 81), none, some (.int (s0 + 0)), some (.int (x3 + 1))] [] (sM mo G I J) Q) :=
  (sm_blk X 310 121 (tt_lin 310 (by decide)) rfl rfl _ _ _ _).trans rfl
set_option maxRecDepth 100000 in
theorem bk_310_122 (X : (Nat → Int32) × Nat) (mo : Bool) (G : Nat × Nat) (I : Nat → Nat → Int32) (J : Nat → Nat → Int64) (Q : Option Value → sm_M → Prop) (x2 : Int32) (x3 : Int32) (s0 : Int32) (s1 : Int32) :
    sm_wp X 310 122 [some (.ref 81), none, some (.int x2), some (.int x3)] [.int s1, .int s0] (sM mo G I J) Q =
    (sm_wp X 310 93 [some (.ref 81), none, some (.int (s0 + s1)), some (.int (x3 + 1))] [] (sM mo G I J) Q) :=
  (sm_blk X 310 122 (tt_lin 310 (by decide)) rfl rfl _ _ _ _).trans rfl
set_option maxRecDepth 100000 in
theorem bk_310_130 (X : (Nat → Int32) × Nat) (mo : Bool) (G : Nat × Nat) (I : Nat → Nat → Int32) (J : Nat → Nat → Int64) (Q : Option Value → sm_M → Prop) (x2 : Int32) (x3 : Int32) :
    sm_wp X 310 130 [some (.ref 81), none, some (.int x2), some (.int x3)] [] (sM mo G I J) Q =
    (True ∧ Q (some (.int x2)) (sM mo G I J)) :=
  (sm_blk X 310 130 (tt_lin 310 (by decide)) rfl rfl _ _ _ _).trans rfl
set_option maxRecDepth 100000 in
theorem bk_310_132 (X : (Nat → Int32) × Nat) (mo : Bool) (G : Nat × Nat) (I : Nat → Nat → Int32) (J : Nat → Nat → Int64) (Q : Option Value → sm_M → Prop) (x1 : Int32) (x2 : Int32) :
    sm_wp X 310 132 [some (.ref 81), some (.int x1), some (.int x2), none] [] (sM mo G I J) Q =
    (True ∧ Q (some (.int (-1))) (sM mo G I J)) :=
  (sm_blk X 310 132 (tt_lin 310 (by decide)) rfl rfl _ _ _ _).trans rfl
end
section
set_option maxRecDepth 100000 in
theorem bk_64_0 (X : (Nat → Int32) × Nat) (mo : Bool) (G : Nat × Nat) (I : Nat → Nat → Int32) (J : Nat → Nat → Int64) (Q : Option Value → sm_M → Prop)  :
    sm_wp X 64 0 [some (.ref 31)] [] (sM mo G I J) Q =
    (if (I 31 0 : Int32) < (60 : Int32) then sm_wp X 64 13 [some (.ref 31)] [] (sM mo G I J) Q else (sm_wp X 64 14 [some (.ref 31)] [.int 1] (sM mo G I J) Q)) :=
  (sm_blk X 64 0 (tt_lin 64 (by decide)) rfl rfl _ _ _ _).trans rfl
set_option maxRecDepth 100000 in
theorem bk_64_13 (X : (Nat → Int32) × Nat) (mo : Bool) (G : Nat × Nat) (I : Nat → Nat → Int32) (J : Nat → Nat → Int64) (Q : Option Value → sm_M → Prop)  :
    sm_wp X 64 13 [some (.ref 31)] [] (sM mo G I J) Q =
    (sm_zb 0 ∧ Q (some (.int 0)) (sM mo G I J)) :=
  (sm_blk X 64 13 (tt_lin 64 (by decide)) rfl rfl _ _ _ _).trans rfl
set_option maxRecDepth 100000 in
theorem bk_64_14 (X : (Nat → Int32) × Nat) (mo : Bool) (G : Nat × Nat) (I : Nat → Nat → Int32) (J : Nat → Nat → Int64) (Q : Option Value → sm_M → Prop) (s0 : Int32) :
    sm_wp X 64 14 [some (.ref 31)] [.int s0] (sM mo G I J) Q =
    (sm_zb s0 ∧ Q (some (.int s0)) (sM mo G I J)) :=
  (sm_blk X 64 14 (tt_lin 64 (by decide)) rfl rfl _ _ _ _).trans rfl
set_option maxRecDepth 100000 in
theorem bk_65_0 (X : (Nat → Int32) × Nat) (mo : Bool) (G : Nat × Nat) (I : Nat → Nat → Int32) (J : Nat → Nat → Int64) (Q : Option Value → sm_M → Prop) (x1 : Int32) :
    sm_wp X 65 0 [some (.ref 31), some (.int x1)] [] (sM mo G I J) Q =
    (sm_wp X 66 0 [some (.ref 31), some (.int x1)] [] (sM mo G I J) (fun v M => sm_wp X 65 5 [some (.ref 31), some (.int x1)] (v.toList ++ []) M Q)) :=
  (sm_blk X 65 0 (tt_lin 65 (by decide)) rfl rfl _ _ _ _).trans rfl
set_option maxRecDepth 100000 in
theorem bk_65_5 (X : (Nat → Int32) × Nat) (mo : Bool) (G : Nat × Nat) (I : Nat → Nat → Int32) (J : Nat → Nat → Int64) (Q : Option Value → sm_M → Prop) (x1 : Int32) (s0 : Int32) :
    sm_wp X 65 5 [some (.ref 31), some (.int x1)] [.int s0] (sM mo G I J) Q =
    (if (s0 : Int32) = 0 then sm_wp X 65 22 [some (.ref 31), some (.int x1)] [] (sM mo G I J) Q else (vp_in x1 60 ∧ (if (I 42 (x1.toNatClampNeg) : Int32) = ((-1) : Int32) then sm_wp X 65 22 [some (.ref 31), some (.int x1)] [] (sM mo G I J) Q else (sm_wp X 65 23 [some (.ref 31), some (.int x1)] [.int 1] (sM mo G I J) Q)))) :=
  (sm_blk X 65 5 (tt_lin 65 (by decide)) rfl rfl _ _ _ _).trans rfl
set_option maxRecDepth 100000 in
theorem bk_65_22 (X : (Nat → Int32) × Nat) (mo : Bool) (G : Nat × Nat) (I : Nat → Nat → Int32) (J : Nat → Nat → Int64) (Q : Option Value → sm_M → Prop) (x1 : Int32) :
    sm_wp X 65 22 [some (.ref 31), some (.int x1)] [] (sM mo G I J) Q =
    (sm_zb 0 ∧ Q (some (.int 0)) (sM mo G I J)) :=
  (sm_blk X 65 22 (tt_lin 65 (by decide)) rfl rfl _ _ _ _).trans rfl
set_option maxRecDepth 100000 in
theorem bk_65_23 (X : (Nat → Int32) × Nat) (mo : Bool) (G : Nat × Nat) (I : Nat → Nat → Int32) (J : Nat → Nat → Int64) (Q : Option Value → sm_M → Prop) (x1 : Int32) (s0 : Int32) :
    sm_wp X 65 23 [some (.ref 31), some (.int x1)] [.int s0] (sM mo G I J) Q =
    (sm_zb s0 ∧ Q (some (.int s0)) (sM mo G I J)) :=
  (sm_blk X 65 23 (tt_lin 65 (by decide)) rfl rfl _ _ _ _).trans rfl
set_option maxRecDepth 100000 in
theorem bk_66_0 (X : (Nat → Int32) × Nat) (mo : Bool) (G : Nat × Nat) (I : Nat → Nat → Int32) (J : Nat → Nat → Int64) (Q : Option Value → sm_M → Prop) (x1 : Int32) :
    sm_wp X 66 0 [some (.ref 31), some (.int x1)] [] (sM mo G I J) Q =
    (if (x1 : Int32) < 0 then sm_wp X 66 22 [some (.ref 31), some (.int x1)] [] (sM mo G I J) Q else (if (I 31 0 : Int32) ≤ (x1 : Int32) then sm_wp X 66 22 [some (.ref 31), some (.int x1)] [] (sM mo G I J) Q else (if (60 : Int32) ≤ (x1 : Int32) then sm_wp X 66 22 [some (.ref 31), some (.int x1)] [] (sM mo G I J) Q else (sm_wp X 66 23 [some (.ref 31), some (.int x1)] [.int 1] (sM mo G I J) Q)))) :=
  (sm_blk X 66 0 (tt_lin 66 (by decide)) rfl rfl _ _ _ _).trans rfl
set_option maxRecDepth 100000 in
theorem bk_66_22 (X : (Nat → Int32) × Nat) (mo : Bool) (G : Nat × Nat) (I : Nat → Nat → Int32) (J : Nat → Nat → Int64) (Q : Option Value → sm_M → Prop) (x1 : Int32) :
    sm_wp X 66 22 [some (.ref 31), some (.int x1)] [] (sM mo G I J) Q =
    (sm_zb 0 ∧ Q (some (.int 0)) (sM mo G I J)) :=
  (sm_blk X 66 22 (tt_lin 66 (by decide)) rfl rfl _ _ _ _).trans rfl
set_option maxRecDepth 100000 in
theorem bk_66_23 (X : (Nat → Int32) × Nat) (mo : Bool) (G : Nat × Nat) (I : Nat → Nat → Int32) (J : Nat → Nat → Int64) (Q : Option Value → sm_M → Prop) (x1 : Int32) (s0 : Int32) :
    sm_wp X 66 23 [some (.ref 31), some (.int x1)] [.int s0] (sM mo G I J) Q =
    (sm_zb s0 ∧ Q (some (.int s0)) (sM mo G I J)) :=
  (sm_blk X 66 23 (tt_lin 66 (by decide)) rfl rfl _ _ _ _).trans rfl
set_option maxRecDepth 100000 in
theorem bk_67_0 (X : (Nat → Int32) × Nat) (mo : Bool) (G : Nat × Nat) (I : Nat → Nat → Int32) (J : Nat → Nat → Int64) (Q : Option Value → sm_M → Prop) (x1 : Int32) (x2 : Int32) (x3 : Int32) :
    sm_wp X 67 0 [some (.ref 31), some (.int x1), some (.int x2), some (.int x3)] [] (sM mo G I J) Q =
    (sm_wp X 64 0 [some (.ref 31)] [] (sM mo G I J) (fun v M => sm_wp X 67 4 [some (.ref 31), some (.int x1), some (.int x2), some (.int x3)] (v.toList ++ []) M Q)) :=
  (sm_blk X 67 0 (tt_lin 67 (by decide)) rfl rfl _ _ _ _).trans rfl
set_option maxRecDepth 100000 in
theorem bk_67_4 (X : (Nat → Int32) × Nat) (mo : Bool) (G : Nat × Nat) (I : Nat → Nat → Int32) (J : Nat → Nat → Int64) (Q : Option Value → sm_M → Prop) (x1 : Int32) (x2 : Int32) (x3 : Int32) (s0 : Int32) :
    sm_wp X 67 4 [some (.ref 31), some (.int x1), some (.int x2), some (.int x3)] [.int s0] (sM mo G I J) Q =
    (if (s0 : Int32) = 0 then sm_wp X 67 9 [some (.ref 31), some (.int x1), some (.int x2), some (.int x3)] [] (sM mo G I J) Q else (True ∧ Q (some (.int (-1))) (sM mo G I J))) :=
  (sm_blk X 67 4 (tt_lin 67 (by decide)) rfl rfl _ _ _ _).trans rfl
set_option maxRecDepth 100000 in
theorem bk_67_9 (X : (Nat → Int32) × Nat) (mo : Bool) (G : Nat × Nat) (I : Nat → Nat → Int32) (J : Nat → Nat → Int64) (Q : Option Value → sm_M → Prop) (x1 : Int32) (x2 : Int32) (x3 : Int32) :
    sm_wp X 67 9 [some (.ref 31), some (.int x1), some (.int x2), some (.int x3)] [] (sM mo G I J) Q =
    (vp_in (I 31 0) 60 ∧ (vp_in ((up2 I 32 (I 31 0).toNatClampNeg x1) 31 0) 60 ∧ (vp_in ((up2 (up2 I 32 (I 31 0).toNatClampNeg x1) 33 ((up2 I 32 (I 31 0).toNatClampNeg x1) 31 0).toNatClampNeg x2) 31 0) 60 ∧ (vp_in ((up2 (up2 (up2 I 32 (I 31 0).toNatClampNeg x1) 33 ((up2 I 32 (I 31 0).toNatClampNeg x1) 31 0).toNatClampNeg x2) 34 ((up2 (up2 I 32 (I 31 0).toNatClampNeg x1) 33 ((up2 I 32 (I 31 0).toNatClampNeg x1) 31 0).toNatClampNeg x2) 31 0).toNatClampNeg x3) 31 0) 60 ∧ (vp_in ((up2 (up2 (up2 (up2 I 32 (I 31 0).toNatClampNeg x1) 33 ((up2 I 32 (I 31 0).toNatClampNeg x1) 31 0).toNatClampNeg x2) 34 ((up2 (up2 I 32 (I 31 0).toNatClampNeg x1) 33 ((up2 I 32 (I 31 0).toNatClampNeg x1) 31 0).toNatClampNeg x2) 31 0).toNatClampNeg x3) 40 ((up2 (up2 (up2 I 32 (I 31 0).toNatClampNeg x1) 33 ((up2 I 32 (I 31 0).toNatClampNeg x1) 31 0).toNatClampNeg x2) 34 ((up2 (up2 I 32 (I 31 0).toNatClampNeg x1) 33 ((up2 I 32 (I 31 0).toNatClampNeg x1) 31 0).toNatClampNeg x2) 31 0).toNatClampNeg x3) 31 0).toNatClampNeg (-1)) 31 0) 60 ∧ (vp_in ((up2 (up2 (up2 (up2 (up2 I 32 (I 31 0).toNatClampNeg x1) 33 ((up2 I 32 (I 31 0).toNatClampNeg x1) 31 0).toNatClampNeg x2) 34 ((up2 (up2 I 32 (I 31 0).toNatClampNeg x1) 33 ((up2 I 32 (I 31 0).toNatClampNeg x1) 31 0).toNatClampNeg x2) 31 0).toNatClampNeg x3) 40 ((up2 (up2 (up2 I 32 (I 31 0).toNatClampNeg x1) 33 ((up2 I 32 (I 31 0).toNatClampNeg x1) 31 0).toNatClampNeg x2) 34 ((up2 (up2 I 32 (I 31 0).toNatClampNeg x1) 33 ((up2 I 32 (I 31 0).toNatClampNeg x1) 31 0).toNatClampNeg x2) 31 0).toNatClampNeg x3) 31 0).toNatClampNeg (-1)) 41 ((up2 (up2 (up2 (up2 I 32 (I 31 0).toNatClampNeg x1) 33 ((up2 I 32 (I 31 0).toNatClampNeg x1) 31 0).toNatClampNeg x2) 34 ((up2 (up2 I 32 (I 31 0).toNatClampNeg x1) 33 ((up2 I 32 (I 31 0).toNatClampNeg x1) 31 0).toNatClampNeg x2) 31 0).toNatClampNeg x3) 40 ((up2 (up2 (up2 I 32 (I 31 0).toNatClampNeg x1) 33 ((up2 I 32 (I 31 0).toNatClampNeg x1) 31 0).toNatClampNeg x2) 34 ((up2 (up2 I 32 (I 31 0).toNatClampNeg x1) 33 ((up2 I 32 (I 31 0).toNatClampNeg x1) 31 0).toNatClampNeg x2) 31 0).toNatClampNeg x3) 31 0).toNatClampNeg (-1)) 31 0).toNatClampNeg (-1)) 31 0) 60 ∧ (vp_in ((up2 (up2 (up2 (up2 (up2 (up2 I 32 (I 31 0).toNatClampNeg x1) 33 ((up2 I 32 (I 31 0).toNatClampNeg x1) 31 0).toNatClampNeg x2) 34 ((up2 (up2 I 32 (I 31 0).toNatClampNeg x1) 33 ((up2 I 32 (I 31 0).toNatClampNeg x1) 31 0).toNatClampNeg x2) 31 0).toNatClampNeg x3) 40 ((up2 (up2 (up2 I 32 (I 31 0).toNatClampNeg x1) 33 ((up2 I 32 (I 31 0).toNatClampNeg x1) 31 0).toNatClampNeg x2) 34 ((up2 (up2 I 32 (I 31 0).toNatClampNeg x1) 33 ((up2 I 32 (I 31 0).toNatClampNeg x1) 31 0).toNatClampNeg x2) 31 0).toNatClampNeg x3) 31 0).toNatClampNeg (-1)) 41 ((up2 (up2 (up2 (up2 I 32 (I 31 0).toNatClampNeg x1) 33 ((up2 I 32 (I 31 0).toNatClampNeg x1) 31 0).toNatClampNeg x2) 34 ((up2 (up2 I 32 (I 31 0).toNatClampNeg x1) 33 ((up2 I 32 (I 31 0).toNatClampNeg x1) 31 0).toNatClampNeg x2) 31 0).toNatClampNeg x3) 40 ((up2 (up2 (up2 I 32 (I 31 0).toNatClampNeg x1) 33 ((up2 I 32 (I 31 0).toNatClampNeg x1) 31 0).toNatClampNeg x2) 34 ((up2 (up2 I 32 (I 31 0).toNatClampNeg x1) 33 ((up2 I 32 (I 31 0).toNatClampNeg x1) 31 0).toNatClampNeg x2) 31 0).toNatClampNeg x3) 31 0).toNatClampNeg (-1)) 31 0).toNatClampNeg (-1)) 42 ((up2 (up2 (up2 (up2 (up2 I 32 (I 31 0).toNatClampNeg x1) 33 ((up2 I 32 (I 31 0).toNatClampNeg x1) 31 0).toNatClampNeg x2) 34 ((up2 (up2 I 32 (I 31 0).toNatClampNeg x1) 33 ((up2 I 32 (I 31 0).toNatClampNeg x1) 31 0).toNatClampNeg x2) 31 0).toNatClampNeg x3) 40 ((up2 (up2 (up2 I 32 (I 31 0).toNatClampNeg x1) 33 ((up2 I 32 (I 31 0).toNatClampNeg x1) 31 0).toNatClampNeg x2) 34 ((up2 (up2 I 32 (I 31 0).toNatClampNeg x1) 33 ((up2 I 32 (I 31 0).toNatClampNeg x1) 31 0).toNatClampNeg x2) 31 0).toNatClampNeg x3) 31 0).toNatClampNeg (-1)) 41 ((up2 (up2 (up2 (up2 I 32 (I 31 0).toNatClampNeg x1) 33 ((up2 I 32 (I 31 0).toNatClampNeg x1) 31 0).toNatClampNeg x2) 34 ((up2 (up2 I 32 (I 31 0).toNatClampNeg x1) 33 ((up2 I 32 (I 31 0).toNatClampNeg x1) 31 0).toNatClampNeg x2) 31 0).toNatClampNeg x3) 40 ((up2 (up2 (up2 I 32 (I 31 0).toNatClampNeg x1) 33 ((up2 I 32 (I 31 0).toNatClampNeg x1) 31 0).toNatClampNeg x2) 34 ((up2 (up2 I 32 (I 31 0).toNatClampNeg x1) 33 ((up2 I 32 (I 31 0).toNatClampNeg x1) 31 0).toNatClampNeg x2) 31 0).toNatClampNeg x3) 31 0).toNatClampNeg (-1)) 31 0).toNatClampNeg (-1)) 31 0).toNatClampNeg (-1)) 31 0) 60 ∧ (vp_in ((up2 (up2 (up2 (up2 (up2 (up2 (up2 I 32 (I 31 0).toNatClampNeg x1) 33 ((up2 I 32 (I 31 0).toNatClampNeg x1) 31 0).toNatClampNeg x2) 34 ((up2 (up2 I 32 (I 31 0).toNatClampNeg x1) 33 ((up2 I 32 (I 31 0).toNatClampNeg x1) 31 0).toNatClampNeg x2) 31 0).toNatClampNeg x3) 40 ((up2 (up2 (up2 I 32 (I 31 0).toNatClampNeg x1) 33 ((up2 I 32 (I 31 0).toNatClampNeg x1) 31 0).toNatClampNeg x2) 34 ((up2 (up2 I 32 (I 31 0).toNatClampNeg x1) 33 ((up2 I 32 (I 31 0).toNatClampNeg x1) 31 0).toNatClampNeg x2) 31 0).toNatClampNeg x3) 31 0).toNatClampNeg (-1)) 41 ((up2 (up2 (up2 (up2 I 32 (I 31 0).toNatClampNeg x1) 33 ((up2 I 32 (I 31 0).toNatClampNeg x1) 31 0).toNatClampNeg x2) 34 ((up2 (up2 I 32 (I 31 0).toNatClampNeg x1) 33 ((up2 I 32 (I 31 0).toNatClampNeg x1) 31 0).toNatClampNeg x2) 31 0).toNatClampNeg x3) 40 ((up2 (up2 (up2 I 32 (I 31 0).toNatClampNeg x1) 33 ((up2 I 32 (I 31 0).toNatClampNeg x1) 31 0).toNatClampNeg x2) 34 ((up2 (up2 I 32 (I 31 0).toNatClampNeg x1) 33 ((up2 I 32 (I 31 0).toNatClampNeg x1) 31 0).toNatClampNeg x2) 31 0).toNatClampNeg x3) 31 0).toNatClampNeg (-1)) 31 0).toNatClampNeg (-1)) 42 ((up2 (up2 (up2 (up2 (up2 I 32 (I 31 0).toNatClampNeg x1) 33 ((up2 I 32 (I 31 0).toNatClampNeg x1) 31 0).toNatClampNeg x2) 34 ((up2 (up2 I 32 (I 31 0).toNatClampNeg x1) 33 ((up2 I 32 (I 31 0).toNatClampNeg x1) 31 0).toNatClampNeg x2) 31 0).toNatClampNeg x3) 40 ((up2 (up2 (up2 I 32 (I 31 0).toNatClampNeg x1) 33 ((up2 I 32 (I 31 0).toNatClampNeg x1) 31 0).toNatClampNeg x2) 34 ((up2 (up2 I 32 (I 31 0).toNatClampNeg x1) 33 ((up2 I 32 (I 31 0).toNatClampNeg x1) 31 0).toNatClampNeg x2) 31 0).toNatClampNeg x3) 31 0).toNatClampNeg (-1)) 41 ((up2 (up2 (up2 (up2 I 32 (I 31 0).toNatClampNeg x1) 33 ((up2 I 32 (I 31 0).toNatClampNeg x1) 31 0).toNatClampNeg x2) 34 ((up2 (up2 I 32 (I 31 0).toNatClampNeg x1) 33 ((up2 I 32 (I 31 0).toNatClampNeg x1) 31 0).toNatClampNeg x2) 31 0).toNatClampNeg x3) 40 ((up2 (up2 (up2 I 32 (I 31 0).toNatClampNeg x1) 33 ((up2 I 32 (I 31 0).toNatClampNeg x1) 31 0).toNatClampNeg x2) 34 ((up2 (up2 I 32 (I 31 0).toNatClampNeg x1) 33 ((up2 I 32 (I 31 0).toNatClampNeg x1) 31 0).toNatClampNeg x2) 31 0).toNatClampNeg x3) 31 0).toNatClampNeg (-1)) 31 0).toNatClampNeg (-1)) 31 0).toNatClampNeg (-1)) 43 ((up2 (up2 (up2 (up2 (up2 (up2 I 32 (I 31 0).toNatClampNeg x1) 33 ((up2 I 32 (I 31 0).toNatClampNeg x1) 31 0).toNatClampNeg x2) 34 ((up2 (up2 I 32 (I 31 0).toNatClampNeg x1) 33 ((up2 I 32 (I 31 0).toNatClampNeg x1) 31 0).toNatClampNeg x2) 31 0).toNatClampNeg x3) 40 ((up2 (up2 (up2 I 32 (I 31 0).toNatClampNeg x1) 33 ((up2 I 32 (I 31 0).toNatClampNeg x1) 31 0).toNatClampNeg x2) 34 ((up2 (up2 I 32 (I 31 0).toNatClampNeg x1) 33 ((up2 I 32 (I 31 0).toNatClampNeg x1) 31 0).toNatClampNeg x2) 31 0).toNatClampNeg x3) 31 0).toNatClampNeg (-1)) 41 ((up2 (up2 (up2 (up2 I 32 (I 31 0).toNatClampNeg x1) 33 ((up2 I 32 (I 31 0).toNatClampNeg x1) 31 0).toNatClampNeg x2) 34 ((up2 (up2 I 32 (I 31 0).toNatClampNeg x1) 33 ((up2 I 32 (I 31 0).toNatClampNeg x1) 31 0).toNatClampNeg x2) 31 0).toNatClampNeg x3) 40 ((up2 (up2 (up2 I 32 (I 31 0).toNatClampNeg x1) 33 ((up2 I 32 (I 31 0).toNatClampNeg x1) 31 0).toNatClampNeg x2) 34 ((up2 (up2 I 32 (I 31 0).toNatClampNeg x1) 33 ((up2 I 32 (I 31 0).toNatClampNeg x1) 31 0).toNatClampNeg x2) 31 0).toNatClampNeg x3) 31 0).toNatClampNeg (-1)) 31 0).toNatClampNeg (-1)) 42 ((up2 (up2 (up2 (up2 (up2 I 32 (I 31 0).toNatClampNeg x1) 33 ((up2 I 32 (I 31 0).toNatClampNeg x1) 31 0).toNatClampNeg x2) 34 ((up2 (up2 I 32 (I 31 0).toNatClampNeg x1) 33 ((up2 I 32 (I 31 0).toNatClampNeg x1) 31 0).toNatClampNeg x2) 31 0).toNatClampNeg x3) 40 ((up2 (up2 (up2 I 32 (I 31 0).toNatClampNeg x1) 33 ((up2 I 32 (I 31 0).toNatClampNeg x1) 31 0).toNatClampNeg x2) 34 ((up2 (up2 I 32 (I 31 0).toNatClampNeg x1) 33 ((up2 I 32 (I 31 0).toNatClampNeg x1) 31 0).toNatClampNeg x2) 31 0).toNatClampNeg x3) 31 0).toNatClampNeg (-1)) 41 ((up2 (up2 (up2 (up2 I 32 (I 31 0).toNatClampNeg x1) 33 ((up2 I 32 (I 31 0).toNatClampNeg x1) 31 0).toNatClampNeg x2) 34 ((up2 (up2 I 32 (I 31 0).toNatClampNeg x1) 33 ((up2 I 32 (I 31 0).toNatClampNeg x1) 31 0).toNatClampNeg x2) 31 0).toNatClampNeg x3) 40 ((up2 (up2 (up2 I 32 (I 31 0).toNatClampNeg x1) 33 ((up2 I 32 (I 31 0).toNatClampNeg x1) 31 0).toNatClampNeg x2) 34 ((up2 (up2 I 32 (I 31 0).toNatClampNeg x1) 33 ((up2 I 32 (I 31 0).toNatClampNeg x1) 31 0).toNatClampNeg x2) 31 0).toNatClampNeg x3) 31 0).toNatClampNeg (-1)) 31 0).toNatClampNeg (-1)) 31 0).toNatClampNeg (-1)) 31 0).toNatClampNeg (-1)) 31 0) 60 ∧ (True ∧ Q (some (.int (((up2 (up2 (up2 (up2 (up2 (up2 (up2 (up2 (up2 I 32 (I 31 0).toNatClampNeg x1) 33 ((up2 I 32 (I 31 0).toNatClampNeg x1) 31 0).toNatClampNeg x2) 34 ((up2 (up2 I 32 (I 31 0).toNatClampNeg x1) 33 ((up2 I 32 (I 31 0).toNatClampNeg x1) 31 0).toNatClampNeg x2) 31 0).toNatClampNeg x3) 40 ((up2 (up2 (up2 I 32 (I 31 0).toNatClampNeg x1) 33 ((up2 I 32 (I 31 0).toNatClampNeg x1) 31 0).toNatClampNeg x2) 34 ((up2 (up2 I 32 (I 31 0).toNatClampNeg x1) 33 ((up2 I 32 (I 31 0).toNatClampNeg x1) 31 0).toNatClampNeg x2) 31 0).toNatClampNeg x3) 31 0).toNatClampNeg (-1)) 41 ((up2 (up2 (up2 (up2 I 32 (I 31 0).toNatClampNeg x1) 33 ((up2 I 32 (I 31 0).toNatClampNeg x1) 31 0).toNatClampNeg x2) 34 ((up2 (up2 I 32 (I 31 0).toNatClampNeg x1) 33 ((up2 I 32 (I 31 0).toNatClampNeg x1) 31 0).toNatClampNeg x2) 31 0).toNatClampNeg x3) 40 ((up2 (up2 (up2 I 32 (I 31 0).toNatClampNeg x1) 33 ((up2 I 32 (I 31 0).toNatClampNeg x1) 31 0).toNatClampNeg x2) 34 ((up2 (up2 I 32 (I 31 0).toNatClampNeg x1) 33 ((up2 I 32 (I 31 0).toNatClampNeg x1) 31 0).toNatClampNeg x2) 31 0).toNatClampNeg x3) 31 0).toNatClampNeg (-1)) 31 0).toNatClampNeg (-1)) 42 ((up2 (up2 (up2 (up2 (up2 I 32 (I 31 0).toNatClampNeg x1) 33 ((up2 I 32 (I 31 0).toNatClampNeg x1) 31 0).toNatClampNeg x2) 34 ((up2 (up2 I 32 (I 31 0).toNatClampNeg x1) 33 ((up2 I 32 (I 31 0).toNatClampNeg x1) 31 0).toNatClampNeg x2) 31 0).toNatClampNeg x3) 40 ((up2 (up2 (up2 I 32 (I 31 0).toNatClampNeg x1) 33 ((up2 I 32 (I 31 0).toNatClampNeg x1) 31 0).toNatClampNeg x2) 34 ((up2 (up2 I 32 (I 31 0).toNatClampNeg x1) 33 ((up2 I 32 (I 31 0).toNatClampNeg x1) 31 0).toNatClampNeg x2) 31 0).toNatClampNeg x3) 31 0).toNatClampNeg (-1)) 41 ((up2 (up2 (up2 (up2 I 32 (I 31 0).toNatClampNeg x1) 33 ((up2 I 32 (I 31 0).toNatClampNeg x1) 31 0).toNatClampNeg x2) 34 ((up2 (up2 I 32 (I 31 0).toNatClampNeg x1) 33 ((up2 I 32 (I 31 0).toNatClampNeg x1) 31 0).toNatClampNeg x2) 31 0).toNatClampNeg x3) 40 ((up2 (up2 (up2 I 32 (I 31 0).toNatClampNeg x1) 33 ((up2 I 32 (I 31 0).toNatClampNeg x1) 31 0).toNatClampNeg x2) 34 ((up2 (up2 I 32 (I 31 0).toNatClampNeg x1) 33 ((up2 I 32 (I 31 0).toNatClampNeg x1) 31 0).toNatClampNeg x2) 31 0).toNatClampNeg x3) 31 0).toNatClampNeg (-1)) 31 0).toNatClampNeg (-1)) 31 0).toNatClampNeg (-1)) 43 ((up2 (up2 (up2 (up2 (up2 (up2 I 32 (I 31 0).toNatClampNeg x1) 33 ((up2 I 32 (I 31 0).toNatClampNeg x1) 31 0).toNatClampNeg x2) 34 ((up2 (up2 I 32 (I 31 0).toNatClampNeg x1) 33 ((up2 I 32 (I 31 0).toNatClampNeg x1) 31 0).toNatClampNeg x2) 31 0).toNatClampNeg x3) 40 ((up2 (up2 (up2 I 32 (I 31 0).toNatClampNeg x1) 33 ((up2 I 32 (I 31 0).toNatClampNeg x1) 31 0).toNatClampNeg x2) 34 ((up2 (up2 I 32 (I 31 0).toNatClampNeg x1) 33 ((up2 I 32 (I 31 0).toNatClampNeg x1) 31 0).toNatClampNeg x2) 31 0).toNatClampNeg x3) 31 0).toNatClampNeg (-1)) 41 ((up2 (up2 (up2 (up2 I 32 (I 31 0).toNatClampNeg x1) 33 ((up2 I 32 (I 31 0).toNatClampNeg x1) 31 0).toNatClampNeg x2) 34 ((up2 (up2 I 32 (I 31 0).toNatClampNeg x1) 33 ((up2 I 32 (I 31 0).toNatClampNeg x1) 31 0).toNatClampNeg x2) 31 0).toNatClampNeg x3) 40 ((up2 (up2 (up2 I 32 (I 31 0).toNatClampNeg x1) 33 ((up2 I 32 (I 31 0).toNatClampNeg x1) 31 0).toNatClampNeg x2) 34 ((up2 (up2 I 32 (I 31 0).toNatClampNeg x1) 33 ((up2 I 32 (I 31 0).toNatClampNeg x1) 31 0).toNatClampNeg x2) 31 0).toNatClampNeg x3) 31 0).toNatClampNeg (-1)) 31 0).toNatClampNeg (-1)) 42 ((up2 (up2 (up2 (up2 (up2 I 32 (I 31 0).toNatClampNeg x1) 33 ((up2 I 32 (I 31 0).toNatClampNeg x1) 31 0).toNatClampNeg x2) 34 ((up2 (up2 I 32 (I 31 0).toNatClampNeg x1) 33 ((up2 I 32 (I 31 0).toNatClampNeg x1) 31 0).toNatClampNeg x2) 31 0).toNatClampNeg x3) 40 ((up2 (up2 (up2 I 32 (I 31 0).toNatClampNeg x1) 33 ((up2 I 32 (I 31 0).toNatClampNeg x1) 31 0).toNatClampNeg x2) 34 ((up2 (up2 I 32 (I 31 0).toNatClampNeg x1) 33 ((up2 I 32 (I 31 0).toNatClampNeg x1) 31 0).toNatClampNeg x2) 31 0).toNatClampNeg x3) 31 0).toNatClampNeg (-1)) 41 ((up2 (up2 (up2 (up2 I 32 (I 31 0).toNatClampNeg x1) 33 ((up2 I 32 (I 31 0).toNatClampNeg x1) 31 0).toNatClampNeg x2) 34 ((up2 (up2 I 32 (I 31 0).toNatClampNeg x1) 33 ((up2 I 32 (I 31 0).toNatClampNeg x1) 31 0).toNatClampNeg x2) 31 0).toNatClampNeg x3) 40 ((up2 (up2 (up2 I 32 (I 31 0).toNatClampNeg x1) 33 ((up2 I 32 (I 31 0).toNatClampNeg x1) 31 0).toNatClampNeg x2) 34 ((up2 (up2 I 32 (I 31 0).toNatClampNeg x1) 33 ((up2 I 32 (I 31 0).toNatClampNeg x1) 31 0).toNatClampNeg x2) 31 0).toNatClampNeg x3) 31 0).toNatClampNeg (-1)) 31 0).toNatClampNeg (-1)) 31 0).toNatClampNeg (-1)) 31 0).toNatClampNeg (-1)) 44 ((up2 (up2 (up2 (up2 (up2 (up2 (up2 I 32 (I 31 0).toNatClampNeg x1) 33 ((up2 I 32 (I 31 0).toNatClampNeg x1) 31 0).toNatClampNeg x2) 34 ((up2 (up2 I 32 (I 31 0).toNatClampNeg x1) 33 ((up2 I 32 (I 31 0).toNatClampNeg x1) 31 0).toNatClampNeg x2) 31 0).toNatClampNeg x3) 40 ((up2 (up2 (up2 I 32 (I 31 0).toNatClampNeg x1) 33 ((up2 I 32 (I 31 0).toNatClampNeg x1) 31 0).toNatClampNeg x2) 34 ((up2 (up2 I 32 (I 31 0).toNatClampNeg x1) 33 ((up2 I 32 (I 31 0).toNatClampNeg x1) 31 0).toNatClampNeg x2) 31 0).toNatClampNeg x3) 31 0).toNatClampNeg (-1)) 41 ((up2 (up2 (up2 (up2 I 32 (I 31 0).toNatClampNeg x1) 33 ((up2 I 32 (I 31 0).toNatClampNeg x1) 31 0).toNatClampNeg x2) 34 ((up2 (up2 I 32 (I 31 0).toNatClampNeg x1) 33 ((up2 I 32 (I 31 0).toNatClampNeg x1) 31 0).toNatClampNeg x2) 31 0).toNatClampNeg x3) 40 ((up2 (up2 (up2 I 32 (I 31 0).toNatClampNeg x1) 33 ((up2 I 32 (I 31 0).toNatClampNeg x1) 31 0).toNatClampNeg x2) 34 ((up2 (up2 I 32 (I 31 0).toNatClampNeg x1) 33 ((up2 I 32 (I 31 0).toNatClampNeg x1) 31 0).toNatClampNeg x2) 31 0).toNatClampNeg x3) 31 0).toNatClampNeg (-1)) 31 0).toNatClampNeg (-1)) 42 ((up2 (up2 (up2 (up2 (up2 I 32 (I 31 0).toNatClampNeg x1) 33 ((up2 I 32 (I 31 0).toNatClampNeg x1) 31 0).toNatClampNeg x2) 34 ((up2 (up2 I 32 (I 31 0).toNatClampNeg x1) 33 ((up2 I 32 (I 31 0).toNatClampNeg x1) 31 0).toNatClampNeg x2) 31 0).toNatClampNeg x3) 40 ((up2 (up2 (up2 I 32 (I 31 0).toNatClampNeg x1) 33 ((up2 I 32 (I 31 0).toNatClampNeg x1) 31 0).toNatClampNeg x2) 34 ((up2 (up2 I 32 (I 31 0).toNatClampNeg x1) 33 ((up2 I 32 (I 31 0).toNatClampNeg x1) 31 0).toNatClampNeg x2) 31 0).toNatClampNeg x3) 31 0).toNatClampNeg (-1)) 41 ((up2 (up2 (up2 (up2 I 32 (I 31 0).toNatClampNeg x1) 33 ((up2 I 32 (I 31 0).toNatClampNeg x1) 31 0).toNatClampNeg x2) 34 ((up2 (up2 I 32 (I 31 0).toNatClampNeg x1) 33 ((up2 I 32 (I 31 0).toNatClampNeg x1) 31 0).toNatClampNeg x2) 31 0).toNatClampNeg x3) 40 ((up2 (up2 (up2 I 32 (I 31 0).toNatClampNeg x1) 33 ((up2 I 32 (I 31 0).toNatClampNeg x1) 31 0).toNatClampNeg x2) 34 ((up2 (up2 I 32 (I 31 0).toNatClampNeg x1) 33 ((up2 I 32 (I 31 0).toNatClampNeg x1) 31 0).toNatClampNeg x2) 31 0).toNatClampNeg x3) 31 0).toNatClampNeg (-1)) 31 0).toNatClampNeg (-1)) 31 0).toNatClampNeg (-1)) 43 ((up2 (up2 (up2 (up2 (up2 (up2 I 32 (I 31 0).toNatClampNeg x1) 33 ((up2 I 32 (I 31 0).toNatClampNeg x1) 31 0).toNatClampNeg x2) 34 ((up2 (up2 I 32 (I 31 0).toNatClampNeg x1) 33 ((up2 I 32 (I 31 0).toNatClampNeg x1) 31 0).toNatClampNeg x2) 31 0).toNatClampNeg x3) 40 ((up2 (up2 (up2 I 32 (I 31 0).toNatClampNeg x1) 33 ((up2 I 32 (I 31 0).toNatClampNeg x1) 31 0).toNatClampNeg x2) 34 ((up2 (up2 I 32 (I 31 0).toNatClampNeg x1) 33 ((up2 I 32 (I 31 0).toNatClampNeg x1) 31 0).toNatClampNeg x2) 31 0).toNatClampNeg x3) 31 0).toNatClampNeg (-1)) 41 ((up2 (up2 (up2 (up2 I 32 (I 31 0).toNatClampNeg x1) 33 ((up2 I 32 (I 31 0).toNatClampNeg x1) 31 0).toNatClampNeg x2) 34 ((up2 (up2 I 32 (I 31 0).toNatClampNeg x1) 33 ((up2 I 32 (I 31 0).toNatClampNeg x1) 31 0).toNatClampNeg x2) 31 0).toNatClampNeg x3) 40 ((up2 (up2 (up2 I 32 (I 31 0).toNatClampNeg x1) 33 ((up2 I 32 (I 31 0).toNatClampNeg x1) 31 0).toNatClampNeg x2) 34 ((up2 (up2 I 32 (I 31 0).toNatClampNeg x1) 33 ((up2 I 32 (I 31 0).toNatClampNeg x1) 31 0).toNatClampNeg x2) 31 0).toNatClampNeg x3) 31 0).toNatClampNeg (-1)) 31 0).toNatClampNeg (-1)) 42 ((up2 (up2 (up2 (up2 (up2 I 32 (I 31 0).toNatClampNeg x1) 33 ((up2 I 32 (I 31 0).toNatClampNeg x1) 31 0).toNatClampNeg x2) 34 ((up2 (up2 I 32 (I 31 0).toNatClampNeg x1) 33 ((up2 I 32 (I 31 0).toNatClampNeg x1) 31 0).toNatClampNeg x2) 31 0).toNatClampNeg x3) 40 ((up2 (up2 (up2 I 32 (I 31 0).toNatClampNeg x1) 33 ((up2 I 32 (I 31 0).toNatClampNeg x1) 31 0).toNatClampNeg x2) 34 ((up2 (up2 I 32 (I 31 0).toNatClampNeg x1) 33 ((up2 I 32 (I 31 0).toNatClampNeg x1) 31 0).toNatClampNeg x2) 31 0).toNatClampNeg x3) 31 0).toNatClampNeg (-1)) 41 ((up2 (up2 (up2 (up2 I 32 (I 31 0).toNatClampNeg x1) 33 ((up2 I 32 (I 31 0).toNatClampNeg x1) 31 0).toNatClampNeg x2) 34 ((up2 (up2 I 32 (I 31 0).toNatClampNeg x1) 33 ((up2 I 32 (I 31 0).toNatClampNeg x1) 31 0).toNatClampNeg x2) 31 0).toNatClampNeg x3) 40 ((up2 (up2 (up2 I 32 (I 31 0).toNatClampNeg x1) 33 ((up2 I 32 (I 31 0).toNatClampNeg x1) 31 0).toNatClampNeg x2) 34 ((up2 (up2 I 32 (I 31 0).toNatClampNeg x1) 33 ((up2 I 32 (I 31 0).toNatClampNeg x1) 31 0).toNatClampNeg x2) 31 0).toNatClampNeg x3) 31 0).toNatClampNeg (-1)) 31 0).toNatClampNeg (-1)) 31 0).toNatClampNeg (-1)) 31 0).toNatClampNeg (-1)) 31 0).toNatClampNeg (-1)) 31 0 (((up2 (up2 (up2 (up2 (up2 (up2 (up2 (up2 I 32 (I 31 0).toNatClampNeg x1) 33 ((up2 I 32 (I 31 0).toNatClampNeg x1) 31 0).toNatClampNeg x2) 34 ((up2 (up2 I 32 (I 31 0).toNatClampNeg x1) 33 ((up2 I 32 (I 31 0).toNatClampNeg x1) 31 0).toNatClampNeg x2) 31 0).toNatClampNeg x3) 40 ((up2 (up2 (up2 I 32 (I 31 0).toNatClampNeg x1) 33 ((up2 I 32 (I 31 0).toNatClampNeg x1) 31 0).toNatClampNeg x2) 34 ((up2 (up2 I 32 (I 31 0).toNatClampNeg x1) 33 ((up2 I 32 (I 31 0).toNatClampNeg x1) 31 0).toNatClampNeg x2) 31 0).toNatClampNeg x3) 31 0).toNatClampNeg (-1)) 41 ((up2 (up2 (up2 (up2 I 32 (I 31 0).toNatClampNeg x1) 33 ((up2 I 32 (I 31 0).toNatClampNeg x1) 31 0).toNatClampNeg x2) 34 ((up2 (up2 I 32 (I 31 0).toNatClampNeg x1) 33 ((up2 I 32 (I 31 0).toNatClampNeg x1) 31 0).toNatClampNeg x2) 31 0).toNatClampNeg x3) 40 ((up2 (up2 (up2 I 32 (I 31 0).toNatClampNeg x1) 33 ((up2 I 32 (I 31 0).toNatClampNeg x1) 31 0).toNatClampNeg x2) 34 ((up2 (up2 I 32 (I 31 0).toNatClampNeg x1) 33 ((up2 I 32 (I 31 0).toNatClampNeg x1) 31 0).toNatClampNeg x2) 31 0).toNatClampNeg x3) 31 0).toNatClampNeg (-1)) 31 0).toNatClampNeg (-1)) 42 ((up2 (up2 (up2 (up2 (up2 I 32 (I 31 0).toNatClampNeg x1) 33 ((up2 I 32 (I 31 0).toNatClampNeg x1) 31 0).toNatClampNeg x2) 34 ((up2 (up2 I 32 (I 31 0).toNatClampNeg x1) 33 ((up2 I 32 (I 31 0).toNatClampNeg x1) 31 0).toNatClampNeg x2) 31 0).toNatClampNeg x3) 40 ((up2 (up2 (up2 I 32 (I 31 0).toNatClampNeg x1) 33 ((up2 I 32 (I 31 0).toNatClampNeg x1) 31 0).toNatClampNeg x2) 34 ((up2 (up2 I 32 (I 31 0).toNatClampNeg x1) 33 ((up2 I 32 (I 31 0).toNatClampNeg x1) 31 0).toNatClampNeg x2) 31 0).toNatClampNeg x3) 31 0).toNatClampNeg (-1)) 41 ((up2 (up2 (up2 (up2 I 32 (I 31 0).toNatClampNeg x1) 33 ((up2 I 32 (I 31 0).toNatClampNeg x1) 31 0).toNatClampNeg x2) 34 ((up2 (up2 I 32 (I 31 0).toNatClampNeg x1) 33 ((up2 I 32 (I 31 0).toNatClampNeg x1) 31 0).toNatClampNeg x2) 31 0).toNatClampNeg x3) 40 ((up2 (up2 (up2 I 32 (I 31 0).toNatClampNeg x1) 33 ((up2 I 32 (I 31 0).toNatClampNeg x1) 31 0).toNatClampNeg x2) 34 ((up2 (up2 I 32 (I 31 0).toNatClampNeg x1) 33 ((up2 I 32 (I 31 0).toNatClampNeg x1) 31 0).toNatClampNeg x2) 31 0).toNatClampNeg x3) 31 0).toNatClampNeg (-1)) 31 0).toNatClampNeg (-1)) 31 0).toNatClampNeg (-1)) 43 ((up2 (up2 (up2 (up2 (up2 (up2 I 32 (I 31 0).toNatClampNeg x1) 33 ((up2 I 32 (I 31 0).toNatClampNeg x1) 31 0).toNatClampNeg x2) 34 ((up2 (up2 I 32 (I 31 0).toNatClampNeg x1) 33 ((up2 I 32 (I 31 0).toNatClampNeg x1) 31 0).toNatClampNeg x2) 31 0).toNatClampNeg x3) 40 ((up2 (up2 (up2 I 32 (I 31 0).toNatClampNeg x1) 33 ((up2 I 32 (I 31 0).toNatClampNeg x1) 31 0).toNatClampNeg x2) 34 ((up2 (up2 I 32 (I 31 0).toNatClampNeg x1) 33 ((up2 I 32 (I 31 0).toNatClampNeg x1) 31 0).toNatClampNeg x2) 31 0).toNatClampNeg x3) 31 0).toNatClampNeg (-1)) 41 ((up2 (up2 (up2 (up2 I 32 (I 31 0).toNatClampNeg x1) 33 ((up2 I 32 (I 31 0).toNatClampNeg x1) 31 0).toNatClampNeg x2) 34 ((up2 (up2 I 32 (I 31 0).toNatClampNeg x1) 33 ((up2 I 32 (I 31 0).toNatClampNeg x1) 31 0).toNatClampNeg x2) 31 0).toNatClampNeg x3) 40 ((up2 (up2 (up2 I 32 (I 31 0).toNatClampNeg x1) 33 ((up2 I 32 (I 31 0).toNatClampNeg x1) 31 0).toNatClampNeg x2) 34 ((up2 (up2 I 32 (I 31 0).toNatClampNeg x1) 33 ((up2 I 32 (I 31 0).toNatClampNeg x1) 31 0).toNatClampNeg x2) 31 0).toNatClampNeg x3) 31 0).toNatClampNeg (-1)) 31 0).toNatClampNeg (-1)) 42 ((up2 (up2 (up2 (up2 (up2 I 32 (I 31 0).toNatClampNeg x1) 33 ((up2 I 32 (I 31 0).toNatClampNeg x1) 31 0).toNatClampNeg x2) 34 ((up2 (up2 I 32 (I 31 0).toNatClampNeg x1) 33 ((up2 I 32 (I 31 0).toNatClampNeg x1) 31 0).toNatClampNeg x2) 31 0).toNatClampNeg x3) 40 ((up2 (up2 (up2 I 32 (I 31 0).toNatClampNeg x1) 33 ((up2 I 32 (I 31 0).toNatClampNeg x1) 31 0).toNatClampNeg x2) 34 ((up2 (up2 I 32 (I 31 0).toNatClampNeg x1) 33 ((up2 I 32 (I 31 0).toNatClampNeg x1) 31 0).toNatClampNeg x2) 31 0).toNatClampNeg x3) 31 0).toNatClampNeg (-1)) 41 ((up2 (up2 (up2 (up2 I 32 (I 31 0).toNatClampNeg x1) 33 ((up2 I 32 (I 31 0).toNatClampNeg x1) 31 0).toNatClampNeg x2) 34 ((up2 (up2 I 32 (I 31 0).toNatClampNeg x1) 33 ((up2 I 32 (I 31 0).toNatClampNeg x1) 31 0).toNatClampNeg x2) 31 0).toNatClampNeg x3) 40 ((up2 (up2 (up2 I 32 (I 31 0).toNatClampNeg x1) 33 ((up2 I 32 (I 31 0).toNatClampNeg x1) 31 0).toNatClampNeg x2) 34 ((up2 (up2 I 32 (I 31 0).toNatClampNeg x1) 33 ((up2 I 32 (I 31 0).toNatClampNeg x1) 31 0).toNatClampNeg x2) 31 0).toNatClampNeg x3) 31 0).toNatClampNeg (-1)) 31 0).toNatClampNeg (-1)) 31 0).toNatClampNeg (-1)) 31 0).toNatClampNeg (-1)) 44 ((up2 (up2 (up2 (up2 (up2 (up2 (up2 I 32 (I 31 0).toNatClampNeg x1) 33 ((up2 I 32 (I 31 0).toNatClampNeg x1) 31 0).toNatClampNeg x2) 34 ((up2 (up2 I 32 (I 31 0).toNatClampNeg x1) 33 ((up2 I 32 (I 31 0).toNatClampNeg x1) 31 0).toNatClampNeg x2) 31 0).toNatClampNeg x3) 40 ((up2 (up2 (up2 I 32 (I 31 0).toNatClampNeg x1) 33 ((up2 I 32 (I 31 0).toNatClampNeg x1) 31 0).toNatClampNeg x2) 34 ((up2 (up2 I 32 (I 31 0).toNatClampNeg x1) 33 ((up2 I 32 (I 31 0).toNatClampNeg x1) 31 0).toNatClampNeg x2) 31 0).toNatClampNeg x3) 31 0).toNatClampNeg (-1)) 41 ((up2 (up2 (up2 (up2 I 32 (I 31 0).toNatClampNeg x1) 33 ((up2 I 32 (I 31 0).toNatClampNeg x1) 31 0).toNatClampNeg x2) 34 ((up2 (up2 I 32 (I 31 0).toNatClampNeg x1) 33 ((up2 I 32 (I 31 0).toNatClampNeg x1) 31 0).toNatClampNeg x2) 31 0).toNatClampNeg x3) 40 ((up2 (up2 (up2 I 32 (I 31 0).toNatClampNeg x1) 33 ((up2 I 32 (I 31 0).toNatClampNeg x1) 31 0).toNatClampNeg x2) 34 ((up2 (up2 I 32 (I 31 0).toNatClampNeg x1) 33 ((up2 I 32 (I 31 0).toNatClampNeg x1) 31 0).toNatClampNeg x2) 31 0).toNatClampNeg x3) 31 0).toNatClampNeg (-1)) 31 0).toNatClampNeg (-1)) 42 ((up2 (up2 (up2 (up2 (up2 I 32 (I 31 0).toNatClampNeg x1) 33 ((up2 I 32 (I 31 0).toNatClampNeg x1) 31 0).toNatClampNeg x2) 34 ((up2 (up2 I 32 (I 31 0).toNatClampNeg x1) 33 ((up2 I 32 (I 31 0).toNatClampNeg x1) 31 0).toNatClampNeg x2) 31 0).toNatClampNeg x3) 40 ((up2 (up2 (up2 I 32 (I 31 0).toNatClampNeg x1) 33 ((up2 I 32 (I 31 0).toNatClampNeg x1) 31 0).toNatClampNeg x2) 34 ((up2 (up2 I 32 (I 31 0).toNatClampNeg x1) 33 ((up2 I 32 (I 31 0).toNatClampNeg x1) 31 0).toNatClampNeg x2) 31 0).toNatClampNeg x3) 31 0).toNatClampNeg (-1)) 41 ((up2 (up2 (up2 (up2 I 32 (I 31 0).toNatClampNeg x1) 33 ((up2 I 32 (I 31 0).toNatClampNeg x1) 31 0).toNatClampNeg x2) 34 ((up2 (up2 I 32 (I 31 0).toNatClampNeg x1) 33 ((up2 I 32 (I 31 0).toNatClampNeg x1) 31 0).toNatClampNeg x2) 31 0).toNatClampNeg x3) 40 ((up2 (up2 (up2 I 32 (I 31 0).toNatClampNeg x1) 33 ((up2 I 32 (I 31 0).toNatClampNeg x1) 31 0).toNatClampNeg x2) 34 ((up2 (up2 I 32 (I 31 0).toNatClampNeg x1) 33 ((up2 I 32 (I 31 0).toNatClampNeg x1) 31 0).toNatClampNeg x2) 31 0).toNatClampNeg x3) 31 0).toNatClampNeg (-1)) 31 0).toNatClampNeg (-1)) 31 0).toNatClampNeg (-1)) 43 ((up2 (up2 (up2 (up2 (up2 (up2 I 32 (I 31 0).toNatClampNeg x1) 33 ((up2 I 32 (I 31 0).toNatClampNeg x1) 31 0).toNatClampNeg x2) 34 ((up2 (up2 I 32 (I 31 0).toNatClampNeg x1) 33 ((up2 I 32 (I 31 0).toNatClampNeg x1) 31 0).toNatClampNeg x2) 31 0).toNatClampNeg x3) 40 ((up2 (up2 (up2 I 32 (I 31 0).toNatClampNeg x1) 33 ((up2 I 32 (I 31 0).toNatClampNeg x1) 31 0).toNatClampNeg x2) 34 ((up2 (up2 I 32 (I 31 0).toNatClampNeg x1) 33 ((up2 I 32 (I 31 0).toNatClampNeg x1) 31 0).toNatClampNeg x2) 31 0).toNatClampNeg x3) 31 0).toNatClampNeg (-1)) 41 ((up2 (up2 (up2 (up2 I 32 (I 31 0).toNatClampNeg x1) 33 ((up2 I 32 (I 31 0).toNatClampNeg x1) 31 0).toNatClampNeg x2) 34 ((up2 (up2 I 32 (I 31 0).toNatClampNeg x1) 33 ((up2 I 32 (I 31 0).toNatClampNeg x1) 31 0).toNatClampNeg x2) 31 0).toNatClampNeg x3) 40 ((up2 (up2 (up2 I 32 (I 31 0).toNatClampNeg x1) 33 ((up2 I 32 (I 31 0).toNatClampNeg x1) 31 0).toNatClampNeg x2) 34 ((up2 (up2 I 32 (I 31 0).toNatClampNeg x1) 33 ((up2 I 32 (I 31 0).toNatClampNeg x1) 31 0).toNatClampNeg x2) 31 0).toNatClampNeg x3) 31 0).toNatClampNeg (-1)) 31 0).toNatClampNeg (-1)) 42 ((up2 (up2 (up2 (up2 (up2 I 32 (I 31 0).toNatClampNeg x1) 33 ((up2 I 32 (I 31 0).toNatClampNeg x1) 31 0).toNatClampNeg x2) 34 ((up2 (up2 I 32 (I 31 0).toNatClampNeg x1) 33 ((up2 I 32 (I 31 0).toNatClampNeg x1) 31 0).toNatClampNeg x2) 31 0).toNatClampNeg x3) 40 ((up2 (up2 (up2 I 32 (I 31 0).toNatClampNeg x1) 33 ((up2 I 32 (I 31 0).toNatClampNeg x1) 31 0).toNatClampNeg x2) 34 ((up2 (up2 I 32 (I 31 0).toNatClampNeg x1) 33 ((up2 I 32 (I 31 0).toNatClampNeg x1) 31 0).toNatClampNeg x2) 31 0).toNatClampNeg x3) 31 0).toNatClampNeg (-1)) 41 ((up2 (up2 (up2 (up2 I 32 (I 31 0).toNatClampNeg x1) 33 ((up2 I 32 (I 31 0).toNatClampNeg x1) 31 0).toNatClampNeg x2) 34 ((up2 (up2 I 32 (I 31 0).toNatClampNeg x1) 33 ((up2 I 32 (I 31 0).toNatClampNeg x1) 31 0).toNatClampNeg x2) 31 0).toNatClampNeg x3) 40 ((up2 (up2 (up2 I 32 (I 31 0).toNatClampNeg x1) 33 ((up2 I 32 (I 31 0).toNatClampNeg x1) 31 0).toNatClampNeg x2) 34 ((up2 (up2 I 32 (I 31 0).toNatClampNeg x1) 33 ((up2 I 32 (I 31 0).toNatClampNeg x1) 31 0).toNatClampNeg x2) 31 0).toNatClampNeg x3) 31 0).toNatClampNeg (-1)) 31 0).toNatClampNeg (-1)) 31 0).toNatClampNeg (-1)) 31 0).toNatClampNeg (-1)) 31 0).toNatClampNeg (-1)) 31 0) + 1)) 31 0) - 1))) (sM mo G (up2 (up2 (up2 (up2 (up2 (up2 (up2 (up2 (up2 I 32 (I 31 0).toNatClampNeg x1) 33 ((up2 I 32 (I 31 0).toNatClampNeg x1) 31 0).toNatClampNeg x2) 34 ((up2 (up2 I 32 (I 31 0).toNatClampNeg x1) 33 ((up2 I 32 (I 31 0).toNatClampNeg x1) 31 0).toNatClampNeg x2) 31 0).toNatClampNeg x3) 40 ((up2 (up2 (up2 I 32 (I 31 0).toNatClampNeg x1) 33 ((up2 I 32 (I 31 0).toNatClampNeg x1) 31 0).toNatClampNeg x2) 34 ((up2 (up2 I 32 (I 31 0).toNatClampNeg x1) 33 ((up2 I 32 (I 31 0).toNatClampNeg x1) 31 0).toNatClampNeg x2) 31 0).toNatClampNeg x3) 31 0).toNatClampNeg (-1)) 41 ((up2 (up2 (up2 (up2 I 32 (I 31 0).toNatClampNeg x1) 33 ((up2 I 32 (I 31 0).toNatClampNeg x1) 31 0).toNatClampNeg x2) 34 ((up2 (up2 I 32 (I 31 0).toNatClampNeg x1) 33 ((up2 I 32 (I 31 0).toNatClampNeg x1) 31 0).toNatClampNeg x2) 31 0).toNatClampNeg x3) 40 ((up2 (up2 (up2 I 32 (I 31 0).toNatClampNeg x1) 33 ((up2 I 32 (I 31 0).toNatClampNeg x1) 31 0).toNatClampNeg x2) 34 ((up2 (up2 I 32 (I 31 0).toNatClampNeg x1) 33 ((up2 I 32 (I 31 0).toNatClampNeg x1) 31 0).toNatClampNeg x2) 31 0).toNatClampNeg x3) 31 0).toNatClampNeg (-1)) 31 0).toNatClampNeg (-1)) 42 ((up2 (up2 (up2 (up2 (up2 I 32 (I 31 0).toNatClampNeg x1) 33 ((up2 I 32 (I 31 0).toNatClampNeg x1) 31 0).toNatClampNeg x2) 34 ((up2 (up2 I 32 (I 31 0).toNatClampNeg x1) 33 ((up2 I 32 (I 31 0).toNatClampNeg x1) 31 0).toNatClampNeg x2) 31 0).toNatClampNeg x3) 40 ((up2 (up2 (up2 I 32 (I 31 0).toNatClampNeg x1) 33 ((up2 I 32 (I 31 0).toNatClampNeg x1) 31 0).toNatClampNeg x2) 34 ((up2 (up2 I 32 (I 31 0).toNatClampNeg x1) 33 ((up2 I 32 (I 31 0).toNatClampNeg x1) 31 0).toNatClampNeg x2) 31 0).toNatClampNeg x3) 31 0).toNatClampNeg (-1)) 41 ((up2 (up2 (up2 (up2 I 32 (I 31 0).toNatClampNeg x1) 33 ((up2 I 32 (I 31 0).toNatClampNeg x1) 31 0).toNatClampNeg x2) 34 ((up2 (up2 I 32 (I 31 0).toNatClampNeg x1) 33 ((up2 I 32 (I 31 0).toNatClampNeg x1) 31 0).toNatClampNeg x2) 31 0).toNatClampNeg x3) 40 ((up2 (up2 (up2 I 32 (I 31 0).toNatClampNeg x1) 33 ((up2 I 32 (I 31 0).toNatClampNeg x1) 31 0).toNatClampNeg x2) 34 ((up2 (up2 I 32 (I 31 0).toNatClampNeg x1) 33 ((up2 I 32 (I 31 0).toNatClampNeg x1) 31 0).toNatClampNeg x2) 31 0).toNatClampNeg x3) 31 0).toNatClampNeg (-1)) 31 0).toNatClampNeg (-1)) 31 0).toNatClampNeg (-1)) 43 ((up2 (up2 (up2 (up2 (up2 (up2 I 32 (I 31 0).toNatClampNeg x1) 33 ((up2 I 32 (I 31 0).toNatClampNeg x1) 31 0).toNatClampNeg x2) 34 ((up2 (up2 I 32 (I 31 0).toNatClampNeg x1) 33 ((up2 I 32 (I 31 0).toNatClampNeg x1) 31 0).toNatClampNeg x2) 31 0).toNatClampNeg x3) 40 ((up2 (up2 (up2 I 32 (I 31 0).toNatClampNeg x1) 33 ((up2 I 32 (I 31 0).toNatClampNeg x1) 31 0).toNatClampNeg x2) 34 ((up2 (up2 I 32 (I 31 0).toNatClampNeg x1) 33 ((up2 I 32 (I 31 0).toNatClampNeg x1) 31 0).toNatClampNeg x2) 31 0).toNatClampNeg x3) 31 0).toNatClampNeg (-1)) 41 ((up2 (up2 (up2 (up2 I 32 (I 31 0).toNatClampNeg x1) 33 ((up2 I 32 (I 31 0).toNatClampNeg x1) 31 0).toNatClampNeg x2) 34 ((up2 (up2 I 32 (I 31 0).toNatClampNeg x1) 33 ((up2 I 32 (I 31 0).toNatClampNeg x1) 31 0).toNatClampNeg x2) 31 0).toNatClampNeg x3) 40 ((up2 (up2 (up2 I 32 (I 31 0).toNatClampNeg x1) 33 ((up2 I 32 (I 31 0).toNatClampNeg x1) 31 0).toNatClampNeg x2) 34 ((up2 (up2 I 32 (I 31 0).toNatClampNeg x1) 33 ((up2 I 32 (I 31 0).toNatClampNeg x1) 31 0).toNatClampNeg x2) 31 0).toNatClampNeg x3) 31 0).toNatClampNeg (-1)) 31 0).toNatClampNeg (-1)) 42 ((up2 (up2 (up2 (up2 (up2 I 32 (I 31 0).toNatClampNeg x1) 33 ((up2 I 32 (I 31 0).toNatClampNeg x1) 31 0).toNatClampNeg x2) 34 ((up2 (up2 I 32 (I 31 0).toNatClampNeg x1) 33 ((up2 I 32 (I 31 0).toNatClampNeg x1) 31 0).toNatClampNeg x2) 31 0).toNatClampNeg x3) 40 ((up2 (up2 (up2 I 32 (I 31 0).toNatClampNeg x1) 33 ((up2 I 32 (I 31 0).toNatClampNeg x1) 31 0).toNatClampNeg x2) 34 ((up2 (up2 I 32 (I 31 0).toNatClampNeg x1) 33 ((up2 I 32 (I 31 0).toNatClampNeg x1) 31 0).toNatClampNeg x2) 31 0).toNatClampNeg x3) 31 0).toNatClampNeg (-1)) 41 ((up2 (up2 (up2 (up2 I 32 (I 31 0).toNatClampNeg x1) 33 ((up2 I 32 (I 31 0).toNatClampNeg x1) 31 0).toNatClampNeg x2) 34 ((up2 (up2 I 32 (I 31 0).toNatClampNeg x1) 33 ((up2 I 32 (I 31 0).toNatClampNeg x1) 31 0).toNatClampNeg x2) 31 0).toNatClampNeg x3) 40 ((up2 (up2 (up2 I 32 (I 31 0).toNatClampNeg x1) 33 ((up2 I 32 (I 31 0).toNatClampNeg x1) 31 0).toNatClampNeg x2) 34 ((up2 (up2 I 32 (I 31 0).toNatClampNeg x1) 33 ((up2 I 32 (I 31 0).toNatClampNeg x1) 31 0).toNatClampNeg x2) 31 0).toNatClampNeg x3) 31 0).toNatClampNeg (-1)) 31 0).toNatClampNeg (-1)) 31 0).toNatClampNeg (-1)) 31 0).toNatClampNeg (-1)) 44 ((up2 (up2 (up2 (up2 (up2 (up2 (up2 I 32 (I 31 0).toNatClampNeg x1) 33 ((up2 I 32 (I 31 0).toNatClampNeg x1) 31 0).toNatClampNeg x2) 34 ((up2 (up2 I 32 (I 31 0).toNatClampNeg x1) 33 ((up2 I 32 (I 31 0).toNatClampNeg x1) 31 0).toNatClampNeg x2) 31 0).toNatClampNeg x3) 40 ((up2 (up2 (up2 I 32 (I 31 0).toNatClampNeg x1) 33 ((up2 I 32 (I 31 0).toNatClampNeg x1) 31 0).toNatClampNeg x2) 34 ((up2 (up2 I 32 (I 31 0).toNatClampNeg x1) 33 ((up2 I 32 (I 31 0).toNatClampNeg x1) 31 0).toNatClampNeg x2) 31 0).toNatClampNeg x3) 31 0).toNatClampNeg (-1)) 41 ((up2 (up2 (up2 (up2 I 32 (I 31 0).toNatClampNeg x1) 33 ((up2 I 32 (I 31 0).toNatClampNeg x1) 31 0).toNatClampNeg x2) 34 ((up2 (up2 I 32 (I 31 0).toNatClampNeg x1) 33 ((up2 I 32 (I 31 0).toNatClampNeg x1) 31 0).toNatClampNeg x2) 31 0).toNatClampNeg x3) 40 ((up2 (up2 (up2 I 32 (I 31 0).toNatClampNeg x1) 33 ((up2 I 32 (I 31 0).toNatClampNeg x1) 31 0).toNatClampNeg x2) 34 ((up2 (up2 I 32 (I 31 0).toNatClampNeg x1) 33 ((up2 I 32 (I 31 0).toNatClampNeg x1) 31 0).toNatClampNeg x2) 31 0).toNatClampNeg x3) 31 0).toNatClampNeg (-1)) 31 0).toNatClampNeg (-1)) 42 ((up2 (up2 (up2 (up2 (up2 I 32 (I 31 0).toNatClampNeg x1) 33 ((up2 I 32 (I 31 0).toNatClampNeg x1) 31 0).toNatClampNeg x2) 34 ((up2 (up2 I 32 (I 31 0).toNatClampNeg x1) 33 ((up2 I 32 (I 31 0).toNatClampNeg x1) 31 0).toNatClampNeg x2) 31 0).toNatClampNeg x3) 40 ((up2 (up2 (up2 I 32 (I 31 0).toNatClampNeg x1) 33 ((up2 I 32 (I 31 0).toNatClampNeg x1) 31 0).toNatClampNeg x2) 34 ((up2 (up2 I 32 (I 31 0).toNatClampNeg x1) 33 ((up2 I 32 (I 31 0).toNatClampNeg x1) 31 0).toNatClampNeg x2) 31 0).toNatClampNeg x3) 31 0).toNatClampNeg (-1)) 41 ((up2 (up2 (up2 (up2 I 32 (I 31 0).toNatClampNeg x1) 33 ((up2 I 32 (I 31 0).toNatClampNeg x1) 31 0).toNatClampNeg x2) 34 ((up2 (up2 I 32 (I 31 0).toNatClampNeg x1) 33 ((up2 I 32 (I 31 0).toNatClampNeg x1) 31 0).toNatClampNeg x2) 31 0).toNatClampNeg x3) 40 ((up2 (up2 (up2 I 32 (I 31 0).toNatClampNeg x1) 33 ((up2 I 32 (I 31 0).toNatClampNeg x1) 31 0).toNatClampNeg x2) 34 ((up2 (up2 I 32 (I 31 0).toNatClampNeg x1) 33 ((up2 I 32 (I 31 0).toNatClampNeg x1) 31 0).toNatClampNeg x2) 31 0).toNatClampNeg x3) 31 0).toNatClampNeg (-1)) 31 0).toNatClampNeg (-1)) 31 0).toNatClampNeg (-1)) 43 ((up2 (up2 (up2 (up2 (up2 (up2 I 32 (I 31 0).toNatClampNeg x1) 33 ((up2 I 32 (I 31 0).toNatClampNeg x1) 31 0).toNatClampNeg x2) 34 ((up2 (up2 I 32 (I 31 0).toNatClampNeg x1) 33 ((up2 I 32 (I 31 0).toNatClampNeg x1) 31 0).toNatClampNeg x2) 31 0).toNatClampNeg x3) 40 ((up2 (up2 (up2 I 32 (I 31 0).toNatClampNeg x1) 33 ((up2 I 32 (I 31 0).toNatClampNeg x1) 31 0).toNatClampNeg x2) 34 ((up2 (up2 I 32 (I 31 0).toNatClampNeg x1) 33 ((up2 I 32 (I 31 0).toNatClampNeg x1) 31 0).toNatClampNeg x2) 31 0).toNatClampNeg x3) 31 0).toNatClampNeg (-1)) 41 ((up2 (up2 (up2 (up2 I 32 (I 31 0).toNatClampNeg x1) 33 ((up2 I 32 (I 31 0).toNatClampNeg x1) 31 0).toNatClampNeg x2) 34 ((up2 (up2 I 32 (I 31 0).toNatClampNeg x1) 33 ((up2 I 32 (I 31 0).toNatClampNeg x1) 31 0).toNatClampNeg x2) 31 0).toNatClampNeg x3) 40 ((up2 (up2 (up2 I 32 (I 31 0).toNatClampNeg x1) 33 ((up2 I 32 (I 31 0).toNatClampNeg x1) 31 0).toNatClampNeg x2) 34 ((up2 (up2 I 32 (I 31 0).toNatClampNeg x1) 33 ((up2 I 32 (I 31 0).toNatClampNeg x1) 31 0).toNatClampNeg x2) 31 0).toNatClampNeg x3) 31 0).toNatClampNeg (-1)) 31 0).toNatClampNeg (-1)) 42 ((up2 (up2 (up2 (up2 (up2 I 32 (I 31 0).toNatClampNeg x1) 33 ((up2 I 32 (I 31 0).toNatClampNeg x1) 31 0).toNatClampNeg x2) 34 ((up2 (up2 I 32 (I 31 0).toNatClampNeg x1) 33 ((up2 I 32 (I 31 0).toNatClampNeg x1) 31 0).toNatClampNeg x2) 31 0).toNatClampNeg x3) 40 ((up2 (up2 (up2 I 32 (I 31 0).toNatClampNeg x1) 33 ((up2 I 32 (I 31 0).toNatClampNeg x1) 31 0).toNatClampNeg x2) 34 ((up2 (up2 I 32 (I 31 0).toNatClampNeg x1) 33 ((up2 I 32 (I 31 0).toNatClampNeg x1) 31 0).toNatClampNeg x2) 31 0).toNatClampNeg x3) 31 0).toNatClampNeg (-1)) 41 ((up2 (up2 (up2 (up2 I 32 (I 31 0).toNatClampNeg x1) 33 ((up2 I 32 (I 31 0).toNatClampNeg x1) 31 0).toNatClampNeg x2) 34 ((up2 (up2 I 32 (I 31 0).toNatClampNeg x1) 33 ((up2 I 32 (I 31 0).toNatClampNeg x1) 31 0).toNatClampNeg x2) 31 0).toNatClampNeg x3) 40 ((up2 (up2 (up2 I 32 (I 31 0).toNatClampNeg x1) 33 ((up2 I 32 (I 31 0).toNatClampNeg x1) 31 0).toNatClampNeg x2) 34 ((up2 (up2 I 32 (I 31 0).toNatClampNeg x1) 33 ((up2 I 32 (I 31 0).toNatClampNeg x1) 31 0).toNatClampNeg x2) 31 0).toNatClampNeg x3) 31 0).toNatClampNeg (-1)) 31 0).toNatClampNeg (-1)) 31 0).toNatClampNeg (-1)) 31 0).toNatClampNeg (-1)) 31 0).toNatClampNeg (-1)) 31 0 (((up2 (up2 (up2 (up2 (up2 (up2 (up2 (up2 I 32 (I 31 0).toNatClampNeg x1) 33 ((up2 I 32 (I 31 0).toNatClampNeg x1) 31 0).toNatClampNeg x2) 34 ((up2 (up2 I 32 (I 31 0).toNatClampNeg x1) 33 ((up2 I 32 (I 31 0).toNatClampNeg x1) 31 0).toNatClampNeg x2) 31 0).toNatClampNeg x3) 40 ((up2 (up2 (up2 I 32 (I 31 0).toNatClampNeg x1) 33 ((up2 I 32 (I 31 0).toNatClampNeg x1) 31 0).toNatClampNeg x2) 34 ((up2 (up2 I 32 (I 31 0).toNatClampNeg x1) 33 ((up2 I 32 (I 31 0).toNatClampNeg x1) 31 0).toNatClampNeg x2) 31 0).toNatClampNeg x3) 31 0).toNatClampNeg (-1)) 41 ((up2 (up2 (up2 (up2 I 32 (I 31 0).toNatClampNeg x1) 33 ((up2 I 32 (I 31 0).toNatClampNeg x1) 31 0).toNatClampNeg x2) 34 ((up2 (up2 I 32 (I 31 0).toNatClampNeg x1) 33 ((up2 I 32 (I 31 0).toNatClampNeg x1) 31 0).toNatClampNeg x2) 31 0).toNatClampNeg x3) 40 ((up2 (up2 (up2 I 32 (I 31 0).toNatClampNeg x1) 33 ((up2 I 32 (I 31 0).toNatClampNeg x1) 31 0).toNatClampNeg x2) 34 ((up2 (up2 I 32 (I 31 0).toNatClampNeg x1) 33 ((up2 I 32 (I 31 0).toNatClampNeg x1) 31 0).toNatClampNeg x2) 31 0).toNatClampNeg x3) 31 0).toNatClampNeg (-1)) 31 0).toNatClampNeg (-1)) 42 ((up2 (up2 (up2 (up2 (up2 I 32 (I 31 0).toNatClampNeg x1) 33 ((up2 I 32 (I 31 0).toNatClampNeg x1) 31 0).toNatClampNeg x2) 34 ((up2 (up2 I 32 (I 31 0).toNatClampNeg x1) 33 ((up2 I 32 (I 31 0).toNatClampNeg x1) 31 0).toNatClampNeg x2) 31 0).toNatClampNeg x3) 40 ((up2 (up2 (up2 I 32 (I 31 0).toNatClampNeg x1) 33 ((up2 I 32 (I 31 0).toNatClampNeg x1) 31 0).toNatClampNeg x2) 34 ((up2 (up2 I 32 (I 31 0).toNatClampNeg x1) 33 ((up2 I 32 (I 31 0).toNatClampNeg x1) 31 0).toNatClampNeg x2) 31 0).toNatClampNeg x3) 31 0).toNatClampNeg (-1)) 41 ((up2 (up2 (up2 (up2 I 32 (I 31 0).toNatClampNeg x1) 33 ((up2 I 32 (I 31 0).toNatClampNeg x1) 31 0).toNatClampNeg x2) 34 ((up2 (up2 I 32 (I 31 0).toNatClampNeg x1) 33 ((up2 I 32 (I 31 0).toNatClampNeg x1) 31 0).toNatClampNeg x2) 31 0).toNatClampNeg x3) 40 ((up2 (up2 (up2 I 32 (I 31 0).toNatClampNeg x1) 33 ((up2 I 32 (I 31 0).toNatClampNeg x1) 31 0).toNatClampNeg x2) 34 ((up2 (up2 I 32 (I 31 0).toNatClampNeg x1) 33 ((up2 I 32 (I 31 0).toNatClampNeg x1) 31 0).toNatClampNeg x2) 31 0).toNatClampNeg x3) 31 0).toNatClampNeg (-1)) 31 0).toNatClampNeg (-1)) 31 0).toNatClampNeg (-1)) 43 ((up2 (up2 (up2 (up2 (up2 (up2 I 32 (I 31 0).toNatClampNeg x1) 33 ((up2 I 32 (I 31 0).toNatClampNeg x1) 31 0).toNatClampNeg x2) 34 ((up2 (up2 I 32 (I 31 0).toNatClampNeg x1) 33 ((up2 I 32 (I 31 0).toNatClampNeg x1) 31 0).toNatClampNeg x2) 31 0).toNatClampNeg x3) 40 ((up2 (up2 (up2 I 32 (I 31 0).toNatClampNeg x1) 33 ((up2 I 32 (I 31 0).toNatClampNeg x1) 31 0).toNatClampNeg x2) 34 ((up2 (up2 I 32 (I 31 0).toNatClampNeg x1) 33 ((up2 I 32 (I 31 0).toNatClampNeg x1) 31 0).toNatClampNeg x2) 31 0).toNatClampNeg x3) 31 0).toNatClampNeg (-1)) 41 ((up2 (up2 (up2 (up2 I 32 (I 31 0).toNatClampNeg x1) 33 ((up2 I 32 (I 31 0).toNatClampNeg x1) 31 0).toNatClampNeg x2) 34 ((up2 (up2 I 32 (I 31 0).toNatClampNeg x1) 33 ((up2 I 32 (I 31 0).toNatClampNeg x1) 31 0).toNatClampNeg x2) 31 0).toNatClampNeg x3) 40 ((up2 (up2 (up2 I 32 (I 31 0).toNatClampNeg x1) 33 ((up2 I 32 (I 31 0).toNatClampNeg x1) 31 0).toNatClampNeg x2) 34 ((up2 (up2 I 32 (I 31 0).toNatClampNeg x1) 33 ((up2 I 32 (I 31 0).toNatClampNeg x1) 31 0).toNatClampNeg x2) 31 0).toNatClampNeg x3) 31 0).toNatClampNeg (-1)) 31 0).toNatClampNeg (-1)) 42 ((up2 (up2 (up2 (up2 (up2 I 32 (I 31 0).toNatClampNeg x1) 33 ((up2 I 32 (I 31 0).toNatClampNeg x1) 31 0).toNatClampNeg x2) 34 ((up2 (up2 I 32 (I 31 0).toNatClampNeg x1) 33 ((up2 I 32 (I 31 0).toNatClampNeg x1) 31 0).toNatClampNeg x2) 31 0).toNatClampNeg x3) 40 ((up2 (up2 (up2 I 32 (I 31 0).toNatClampNeg x1) 33 ((up2 I 32 (I 31 0).toNatClampNeg x1) 31 0).toNatClampNeg x2) 34 ((up2 (up2 I 32 (I 31 0).toNatClampNeg x1) 33 ((up2 I 32 (I 31 0).toNatClampNeg x1) 31 0).toNatClampNeg x2) 31 0).toNatClampNeg x3) 31 0).toNatClampNeg (-1)) 41 ((up2 (up2 (up2 (up2 I 32 (I 31 0).toNatClampNeg x1) 33 ((up2 I 32 (I 31 0).toNatClampNeg x1) 31 0).toNatClampNeg x2) 34 ((up2 (up2 I 32 (I 31 0).toNatClampNeg x1) 33 ((up2 I 32 (I 31 0).toNatClampNeg x1) 31 0).toNatClampNeg x2) 31 0).toNatClampNeg x3) 40 ((up2 (up2 (up2 I 32 (I 31 0).toNatClampNeg x1) 33 ((up2 I 32 (I 31 0).toNatClampNeg x1) 31 0).toNatClampNeg x2) 34 ((up2 (up2 I 32 (I 31 0).toNatClampNeg x1) 33 ((up2 I 32 (I 31 0).toNatClampNeg x1) 31 0).toNatClampNeg x2) 31 0).toNatClampNeg x3) 31 0).toNatClampNeg (-1)) 31 0).toNatClampNeg (-1)) 31 0).toNatClampNeg (-1)) 31 0).toNatClampNeg (-1)) 44 ((up2 (up2 (up2 (up2 (up2 (up2 (up2 I 32 (I 31 0).toNatClampNeg x1) 33 ((up2 I 32 (I 31 0).toNatClampNeg x1) 31 0).toNatClampNeg x2) 34 ((up2 (up2 I 32 (I 31 0).toNatClampNeg x1) 33 ((up2 I 32 (I 31 0).toNatClampNeg x1) 31 0).toNatClampNeg x2) 31 0).toNatClampNeg x3) 40 ((up2 (up2 (up2 I 32 (I 31 0).toNatClampNeg x1) 33 ((up2 I 32 (I 31 0).toNatClampNeg x1) 31 0).toNatClampNeg x2) 34 ((up2 (up2 I 32 (I 31 0).toNatClampNeg x1) 33 ((up2 I 32 (I 31 0).toNatClampNeg x1) 31 0).toNatClampNeg x2) 31 0).toNatClampNeg x3) 31 0).toNatClampNeg (-1)) 41 ((up2 (up2 (up2 (up2 I 32 (I 31 0).toNatClampNeg x1) 33 ((up2 I 32 (I 31 0).toNatClampNeg x1) 31 0).toNatClampNeg x2) 34 ((up2 (up2 I 32 (I 31 0).toNatClampNeg x1) 33 ((up2 I 32 (I 31 0).toNatClampNeg x1) 31 0).toNatClampNeg x2) 31 0).toNatClampNeg x3) 40 ((up2 (up2 (up2 I 32 (I 31 0).toNatClampNeg x1) 33 ((up2 I 32 (I 31 0).toNatClampNeg x1) 31 0).toNatClampNeg x2) 34 ((up2 (up2 I 32 (I 31 0).toNatClampNeg x1) 33 ((up2 I 32 (I 31 0).toNatClampNeg x1) 31 0).toNatClampNeg x2) 31 0).toNatClampNeg x3) 31 0).toNatClampNeg (-1)) 31 0).toNatClampNeg (-1)) 42 ((up2 (up2 (up2 (up2 (up2 I 32 (I 31 0).toNatClampNeg x1) 33 ((up2 I 32 (I 31 0).toNatClampNeg x1) 31 0).toNatClampNeg x2) 34 ((up2 (up2 I 32 (I 31 0).toNatClampNeg x1) 33 ((up2 I 32 (I 31 0).toNatClampNeg x1) 31 0).toNatClampNeg x2) 31 0).toNatClampNeg x3) 40 ((up2 (up2 (up2 I 32 (I 31 0).toNatClampNeg x1) 33 ((up2 I 32 (I 31 0).toNatClampNeg x1) 31 0).toNatClampNeg x2) 34 ((up2 (up2 I 32 (I 31 0).toNatClampNeg x1) 33 ((up2 I 32 (I 31 0).toNatClampNeg x1) 31 0).toNatClampNeg x2) 31 0).toNatClampNeg x3) 31 0).toNatClampNeg (-1)) 41 ((up2 (up2 (up2 (up2 I 32 (I 31 0).toNatClampNeg x1) 33 ((up2 I 32 (I 31 0).toNatClampNeg x1) 31 0).toNatClampNeg x2) 34 ((up2 (up2 I 32 (I 31 0).toNatClampNeg x1) 33 ((up2 I 32 (I 31 0).toNatClampNeg x1) 31 0).toNatClampNeg x2) 31 0).toNatClampNeg x3) 40 ((up2 (up2 (up2 I 32 (I 31 0).toNatClampNeg x1) 33 ((up2 I 32 (I 31 0).toNatClampNeg x1) 31 0).toNatClampNeg x2) 34 ((up2 (up2 I 32 (I 31 0).toNatClampNeg x1) 33 ((up2 I 32 (I 31 0).toNatClampNeg x1) 31 0).toNatClampNeg x2) 31 0).toNatClampNeg x3) 31 0).toNatClampNeg (-1)) 31 0).toNatClampNeg (-1)) 31 0).toNatClampNeg (-1)) 43 ((up2 (up2 (up2 (up2 (up2 (up2 I 32 (I 31 0).toNatClampNeg x1) 33 ((up2 I 32 (I 31 0).toNatClampNeg x1) 31 0).toNatClampNeg x2) 34 ((up2 (up2 I 32 (I 31 0).toNatClampNeg x1) 33 ((up2 I 32 (I 31 0).toNatClampNeg x1) 31 0).toNatClampNeg x2) 31 0).toNatClampNeg x3) 40 ((up2 (up2 (up2 I 32 (I 31 0).toNatClampNeg x1) 33 ((up2 I 32 (I 31 0).toNatClampNeg x1) 31 0).toNatClampNeg x2) 34 ((up2 (up2 I 32 (I 31 0).toNatClampNeg x1) 33 ((up2 I 32 (I 31 0).toNatClampNeg x1) 31 0).toNatClampNeg x2) 31 0).toNatClampNeg x3) 31 0).toNatClampNeg (-1)) 41 ((up2 (up2 (up2 (up2 I 32 (I 31 0).toNatClampNeg x1) 33 ((up2 I 32 (I 31 0).toNatClampNeg x1) 31 0).toNatClampNeg x2) 34 ((up2 (up2 I 32 (I 31 0).toNatClampNeg x1) 33 ((up2 I 32 (I 31 0).toNatClampNeg x1) 31 0).toNatClampNeg x2) 31 0).toNatClampNeg x3) 40 ((up2 (up2 (up2 I 32 (I 31 0).toNatClampNeg x1) 33 ((up2 I 32 (I 31 0).toNatClampNeg x1) 31 0).toNatClampNeg x2) 34 ((up2 (up2 I 32 (I 31 0).toNatClampNeg x1) 33 ((up2 I 32 (I 31 0).toNatClampNeg x1) 31 0).toNatClampNeg x2) 31 0).toNatClampNeg x3) 31 0).toNatClampNeg (-1)) 31 0).toNatClampNeg (-1)) 42 ((up2 (up2 (up2 (up2 (up2 I 32 (I 31 0).toNatClampNeg x1) 33 ((up2 I 32 (I 31 0).toNatClampNeg x1) 31 0).toNatClampNeg x2) 34 ((up2 (up2 I 32 (I 31 0).toNatClampNeg x1) 33 ((up2 I 32 (I 31 0).toNatClampNeg x1) 31 0).toNatClampNeg x2) 31 0).toNatClampNeg x3) 40 ((up2 (up2 (up2 I 32 (I 31 0).toNatClampNeg x1) 33 ((up2 I 32 (I 31 0).toNatClampNeg x1) 31 0).toNatClampNeg x2) 34 ((up2 (up2 I 32 (I 31 0).toNatClampNeg x1) 33 ((up2 I 32 (I 31 0).toNatClampNeg x1) 31 0).toNatClampNeg x2) 31 0).toNatClampNeg x3) 31 0).toNatClampNeg (-1)) 41 ((up2 (up2 (up2 (up2 I 32 (I 31 0).toNatClampNeg x1) 33 ((up2 I 32 (I 31 0).toNatClampNeg x1) 31 0).toNatClampNeg x2) 34 ((up2 (up2 I 32 (I 31 0).toNatClampNeg x1) 33 ((up2 I 32 (I 31 0).toNatClampNeg x1) 31 0).toNatClampNeg x2) 31 0).toNatClampNeg x3) 40 ((up2 (up2 (up2 I 32 (I 31 0).toNatClampNeg x1) 33 ((up2 I 32 (I 31 0).toNatClampNeg x1) 31 0).toNatClampNeg x2) 34 ((up2 (up2 I 32 (I 31 0).toNatClampNeg x1) 33 ((up2 I 32 (I 31 0).toNatClampNeg x1) 31 0).toNatClampNeg x2) 31 0).toNatClampNeg x3) 31 0).toNatClampNeg (-1)) 31 0).toNatClampNeg (-1)) 31 0).toNatClampNeg (-1)) 31 0).toNatClampNeg (-1)) 31 0).toNatClampNeg (-1)) 31 0) + 1)) J)))))))))) :=
  (sm_blk X 67 9 (tt_lin 67 (by decide)) rfl rfl _ _ _ _).trans rfl
set_option maxRecDepth 100000 in
theorem bk_68_0 (X : (Nat → Int32) × Nat) (mo : Bool) (G : Nat × Nat) (I : Nat → Nat → Int32) (J : Nat → Nat → Int64) (Q : Option Value → sm_M → Prop) (x1 : Int32) (x2 : Int32) (x3 : Int32) (x4 : Int32) (x5 : Int32) :
    sm_wp X 68 0 [some (.ref 31), some (.int x1), some (.int x2), some (.int x3), some (.int x4), some (.int x5)] [] (sM mo G I J) Q =
    (sm_wp X 66 0 [some (.ref 31), some (.int x1)] [] (sM mo G I J) (fun v M => sm_wp X 68 5 [some (.ref 31), some (.int x1), some (.int x2), some (.int x3), some (.int x4), some (.int x5)] (v.toList ++ []) M Q)) :=
  (sm_blk X 68 0 (tt_lin 68 (by decide)) rfl rfl _ _ _ _).trans rfl
set_option maxRecDepth 100000 in
theorem bk_68_5 (X : (Nat → Int32) × Nat) (mo : Bool) (G : Nat × Nat) (I : Nat → Nat → Int32) (J : Nat → Nat → Int64) (Q : Option Value → sm_M → Prop) (x1 : Int32) (x2 : Int32) (x3 : Int32) (x4 : Int32) (x5 : Int32) (s0 : Int32) :
    sm_wp X 68 5 [some (.ref 31), some (.int x1), some (.int x2), some (.int x3), some (.int x4), some (.int x5)] [.int s0] (sM mo G I J) Q =
    (if (s0 : Int32) = 0 then sm_wp X 68 71 [some (.ref 31), some (.int x1), some (.int x2), some (.int x3), some (.int x4), some (.int x5)] [] (sM mo G I J) Q else (vp_in x1 60 ∧ (vp_in x1 60 ∧ (vp_in x1 60 ∧ (vp_in x1 60 ∧ (sm_wp X 66 0 [some (.ref 31), some (.int x5)] [] (sM mo G (up2 (up2 (up2 (up2 I 37 x1.toNatClampNeg x2) 38 x1.toNatClampNeg x3) 39 x1.toNatClampNeg x4) 40 x1.toNatClampNeg x5) J) (fun v M => sm_wp X 68 49 [some (.ref 31), some (.int x1), some (.int x2), some (.int x3), some (.int x4), some (.int x5)] (v.toList ++ [.int x1, .ref 41]) M Q))))))) :=
  (sm_blk X 68 5 (tt_lin 68 (by decide)) rfl rfl _ _ _ _).trans rfl
set_option maxRecDepth 100000 in
theorem bk_68_49 (X : (Nat → Int32) × Nat) (mo : Bool) (G : Nat × Nat) (I : Nat → Nat → Int32) (J : Nat → Nat → Int64) (Q : Option Value → sm_M → Prop) (x1 : Int32) (x2 : Int32) (x3 : Int32) (x4 : Int32) (x5 : Int32) (s1 : Int32) (s2 : Int32) :
    sm_wp X 68 49 [some (.ref 31), some (.int x1), some (.int x2), some (.int x3), some (.int x4), some (.int x5)] [.int s2, .int s1, .ref 41] (sM mo G I J) Q =
    (if (s2 : Int32) = 0 then sm_wp X 68 62 [some (.ref 31), some (.int x1), some (.int x2), some (.int x3), some (.int x4), some (.int x5)] [.int s1, .ref 41] (sM mo G I J) Q else (vp_in x5 60 ∧ (sm_wp X 68 63 [some (.ref 31), some (.int x1), some (.int x2), some (.int x3), some (.int x4), some (.int x5)] [.int (I 41 (x5.toNatClampNeg)), .int s1, .ref 41] (sM mo G I J) Q))) :=
  (sm_blk X 68 49 (tt_lin 68 (by decide)) rfl rfl _ _ _ _).trans rfl
set_option maxRecDepth 100000 in
theorem bk_68_62 (X : (Nat → Int32) × Nat) (mo : Bool) (G : Nat × Nat) (I : Nat → Nat → Int32) (J : Nat → Nat → Int64) (Q : Option Value → sm_M → Prop) (x1 : Int32) (x2 : Int32) (x3 : Int32) (x4 : Int32) (x5 : Int32) (s1 : Int32) :
    sm_wp X 68 62 [some (.ref 31), some (.int x1), some (.int x2), some (.int x3), some (.int x4), some (.int x5)] [.int s1, .ref 41] (sM mo G I J) Q =
    (vp_in s1 60 ∧ (vp_in x1 60 ∧ (True ∧ Q none (sM mo G (up2 (up2 I 41 s1.toNatClampNeg x1) 42 x1.toNatClampNeg 0) J)))) :=
  (sm_blk X 68 62 (tt_lin 68 (by decide)) rfl rfl _ _ _ _).trans rfl
set_option maxRecDepth 100000 in
theorem bk_68_63 (X : (Nat → Int32) × Nat) (mo : Bool) (G : Nat × Nat) (I : Nat → Nat → Int32) (J : Nat → Nat → Int64) (Q : Option Value → sm_M → Prop) (x1 : Int32) (x2 : Int32) (x3 : Int32) (x4 : Int32) (x5 : Int32) (s1 : Int32) (s2 : Int32) :
    sm_wp X 68 63 [some (.ref 31), some (.int x1), some (.int x2), some (.int x3), some (.int x4), some (.int x5)] [.int s2, .int s1, .ref 41] (sM mo G I J) Q =
    (vp_in s1 60 ∧ (vp_in x1 60 ∧ (True ∧ Q none (sM mo G (up2 (up2 I 41 s1.toNatClampNeg s2) 42 x1.toNatClampNeg 0) J)))) :=
  (sm_blk X 68 63 (tt_lin 68 (by decide)) rfl rfl _ _ _ _).trans rfl
set_option maxRecDepth 100000 in
theorem bk_68_71 (X : (Nat → Int32) × Nat) (mo : Bool) (G : Nat × Nat) (I : Nat → Nat → Int32) (J : Nat → Nat → Int64) (Q : Option Value → sm_M → Prop) (x1 : Int32) (x2 : Int32) (x3 : Int32) (x4 : Int32) (x5 : Int32) :
    sm_wp X 68 71 [some (.ref 31), some (.int x1), some (.int x2), some (.int x3), some (.int x4), some (.int x5)] [] (sM mo G I J) Q =
    (True ∧ Q none (sM mo G I J)) :=
  (sm_blk X 68 71 (tt_lin 68 (by decide)) rfl rfl _ _ _ _).trans rfl
set_option maxRecDepth 100000 in
theorem bk_69_0 (X : (Nat → Int32) × Nat) (mo : Bool) (G : Nat × Nat) (I : Nat → Nat → Int32) (J : Nat → Nat → Int64) (Q : Option Value → sm_M → Prop) (x1 : Int32) (x2 : Int32) (x3 : Int32) :
    sm_wp X 69 0 [some (.ref 31), some (.int x1), some (.int x2), some (.int x3)] [] (sM mo G I J) Q =
    (sm_wp X 66 0 [some (.ref 31), some (.int x1)] [] (sM mo G I J) (fun v M => sm_wp X 69 5 [some (.ref 31), some (.int x1), some (.int x2), some (.int x3)] (v.toList ++ []) M Q)) :=
  (sm_blk X 69 0 (tt_lin 69 (by decide)) rfl rfl _ _ _ _).trans rfl
set_option maxRecDepth 100000 in
theorem bk_69_5 (X : (Nat → Int32) × Nat) (mo : Bool) (G : Nat × Nat) (I : Nat → Nat → Int32) (J : Nat → Nat → Int64) (Q : Option Value → sm_M → Prop) (x1 : Int32) (x2 : Int32) (x3 : Int32) (s0 : Int32) :
    sm_wp X 69 5 [some (.ref 31), some (.int x1), some (.int x2), some (.int x3)] [.int s0] (sM mo G I J) Q =
    (if (s0 : Int32) = 0 then sm_wp X 69 22 [some (.ref 31), some (.int x1), some (.int x2), some (.int x3)] [] (sM mo G I J) Q else (vp_in x1 60 ∧ (vp_in x1 60 ∧ (True ∧ Q none (sM mo G (up2 (up2 I 35 x1.toNatClampNeg x2) 36 x1.toNatClampNeg x3) J))))) :=
  (sm_blk X 69 5 (tt_lin 69 (by decide)) rfl rfl _ _ _ _).trans rfl
set_option maxRecDepth 100000 in
theorem bk_69_22 (X : (Nat → Int32) × Nat) (mo : Bool) (G : Nat × Nat) (I : Nat → Nat → Int32) (J : Nat → Nat → Int64) (Q : Option Value → sm_M → Prop) (x1 : Int32) (x2 : Int32) (x3 : Int32) :
    sm_wp X 69 22 [some (.ref 31), some (.int x1), some (.int x2), some (.int x3)] [] (sM mo G I J) Q =
    (True ∧ Q none (sM mo G I J)) :=
  (sm_blk X 69 22 (tt_lin 69 (by decide)) rfl rfl _ _ _ _).trans rfl
set_option maxRecDepth 100000 in
theorem bk_70_0 (X : (Nat → Int32) × Nat) (mo : Bool) (G : Nat × Nat) (I : Nat → Nat → Int32) (J : Nat → Nat → Int64) (Q : Option Value → sm_M → Prop) (x1 : Int32) :
    sm_wp X 70 0 [some (.ref 31), some (.int x1)] [] (sM mo G I J) Q =
    (sm_wp X 66 0 [some (.ref 31), some (.int x1)] [] (sM mo G I J) (fun v M => sm_wp X 70 5 [some (.ref 31), some (.int x1)] (v.toList ++ []) M Q)) :=
  (sm_blk X 70 0 (tt_lin 70 (by decide)) rfl rfl _ _ _ _).trans rfl
set_option maxRecDepth 100000 in
theorem bk_70_5 (X : (Nat → Int32) × Nat) (mo : Bool) (G : Nat × Nat) (I : Nat → Nat → Int32) (J : Nat → Nat → Int64) (Q : Option Value → sm_M → Prop) (x1 : Int32) (s0 : Int32) :
    sm_wp X 70 5 [some (.ref 31), some (.int x1)] [.int s0] (sM mo G I J) Q =
    (if (s0 : Int32) = 0 then sm_wp X 70 17 [some (.ref 31), some (.int x1)] [] (sM mo G I J) Q else (vp_in x1 60 ∧ (sm_wp X 70 18 [some (.ref 31), some (.int x1)] [.int (I 42 (x1.toNatClampNeg))] (sM mo G I J) Q))) :=
  (sm_blk X 70 5 (tt_lin 70 (by decide)) rfl rfl _ _ _ _).trans rfl
set_option maxRecDepth 100000 in
theorem bk_70_17 (X : (Nat → Int32) × Nat) (mo : Bool) (G : Nat × Nat) (I : Nat → Nat → Int32) (J : Nat → Nat → Int64) (Q : Option Value → sm_M → Prop) (x1 : Int32) :
    sm_wp X 70 17 [some (.ref 31), some (.int x1)] [] (sM mo G I J) Q =
    (True ∧ Q (some (.int (-1))) (sM mo G I J)) :=
  (sm_blk X 70 17 (tt_lin 70 (by decide)) rfl rfl _ _ _ _).trans rfl
set_option maxRecDepth 100000 in
theorem bk_70_18 (X : (Nat → Int32) × Nat) (mo : Bool) (G : Nat × Nat) (I : Nat → Nat → Int32) (J : Nat → Nat → Int64) (Q : Option Value → sm_M → Prop) (x1 : Int32) (s0 : Int32) :
    sm_wp X 70 18 [some (.ref 31), some (.int x1)] [.int s0] (sM mo G I J) Q =
    (True ∧ Q (some (.int s0)) (sM mo G I J)) :=
  (sm_blk X 70 18 (tt_lin 70 (by decide)) rfl rfl _ _ _ _).trans rfl
set_option maxRecDepth 100000 in
theorem bk_71_0 (X : (Nat → Int32) × Nat) (mo : Bool) (G : Nat × Nat) (I : Nat → Nat → Int32) (J : Nat → Nat → Int64) (Q : Option Value → sm_M → Prop) (x1 : Int32) :
    sm_wp X 71 0 [some (.ref 31), some (.int x1)] [] (sM mo G I J) Q =
    (sm_wp X 66 0 [some (.ref 31), some (.int x1)] [] (sM mo G I J) (fun v M => sm_wp X 71 5 [some (.ref 31), some (.int x1)] (v.toList ++ []) M Q)) :=
  (sm_blk X 71 0 (tt_lin 71 (by decide)) rfl rfl _ _ _ _).trans rfl
set_option maxRecDepth 100000 in
theorem bk_71_5 (X : (Nat → Int32) × Nat) (mo : Bool) (G : Nat × Nat) (I : Nat → Nat → Int32) (J : Nat → Nat → Int64) (Q : Option Value → sm_M → Prop) (x1 : Int32) (s0 : Int32) :
    sm_wp X 71 5 [some (.ref 31), some (.int x1)] [.int s0] (sM mo G I J) Q =
    (if (s0 : Int32) = 0 then sm_wp X 71 17 [some (.ref 31), some (.int x1)] [] (sM mo G I J) Q else (vp_in x1 60 ∧ (sm_wp X 71 18 [some (.ref 31), some (.int x1)] [.int (I 39 (x1.toNatClampNeg))] (sM mo G I J) Q))) :=
  (sm_blk X 71 5 (tt_lin 71 (by decide)) rfl rfl _ _ _ _).trans rfl
set_option maxRecDepth 100000 in
theorem bk_71_17 (X : (Nat → Int32) × Nat) (mo : Bool) (G : Nat × Nat) (I : Nat → Nat → Int32) (J : Nat → Nat → Int64) (Q : Option Value → sm_M → Prop) (x1 : Int32) :
    sm_wp X 71 17 [some (.ref 31), some (.int x1)] [] (sM mo G I J) Q =
    (True ∧ Q (some (.int (-1))) (sM mo G I J)) :=
  (sm_blk X 71 17 (tt_lin 71 (by decide)) rfl rfl _ _ _ _).trans rfl
set_option maxRecDepth 100000 in
theorem bk_71_18 (X : (Nat → Int32) × Nat) (mo : Bool) (G : Nat × Nat) (I : Nat → Nat → Int32) (J : Nat → Nat → Int64) (Q : Option Value → sm_M → Prop) (x1 : Int32) (s0 : Int32) :
    sm_wp X 71 18 [some (.ref 31), some (.int x1)] [.int s0] (sM mo G I J) Q =
    (True ∧ Q (some (.int s0)) (sM mo G I J)) :=
  (sm_blk X 71 18 (tt_lin 71 (by decide)) rfl rfl _ _ _ _).trans rfl
set_option maxRecDepth 100000 in
theorem bk_72_0 (X : (Nat → Int32) × Nat) (mo : Bool) (G : Nat × Nat) (I : Nat → Nat → Int32) (J : Nat → Nat → Int64) (Q : Option Value → sm_M → Prop) (x1 : Int32) :
    sm_wp X 72 0 [some (.ref 31), some (.int x1)] [] (sM mo G I J) Q =
    (sm_wp X 66 0 [some (.ref 31), some (.int x1)] [] (sM mo G I J) (fun v M => sm_wp X 72 5 [some (.ref 31), some (.int x1)] (v.toList ++ []) M Q)) :=
  (sm_blk X 72 0 (tt_lin 72 (by decide)) rfl rfl _ _ _ _).trans rfl
set_option maxRecDepth 100000 in
theorem bk_72_5 (X : (Nat → Int32) × Nat) (mo : Bool) (G : Nat × Nat) (I : Nat → Nat → Int32) (J : Nat → Nat → Int64) (Q : Option Value → sm_M → Prop) (x1 : Int32) (s0 : Int32) :
    sm_wp X 72 5 [some (.ref 31), some (.int x1)] [.int s0] (sM mo G I J) Q =
    (if (s0 : Int32) = 0 then sm_wp X 72 17 [some (.ref 31), some (.int x1)] [] (sM mo G I J) Q else (vp_in x1 60 ∧ (sm_wp X 72 18 [some (.ref 31), some (.int x1)] [.int (I 32 (x1.toNatClampNeg))] (sM mo G I J) Q))) :=
  (sm_blk X 72 5 (tt_lin 72 (by decide)) rfl rfl _ _ _ _).trans rfl
set_option maxRecDepth 100000 in
theorem bk_72_17 (X : (Nat → Int32) × Nat) (mo : Bool) (G : Nat × Nat) (I : Nat → Nat → Int32) (J : Nat → Nat → Int64) (Q : Option Value → sm_M → Prop) (x1 : Int32) :
    sm_wp X 72 17 [some (.ref 31), some (.int x1)] [] (sM mo G I J) Q =
    (True ∧ Q (some (.int (-1))) (sM mo G I J)) :=
  (sm_blk X 72 17 (tt_lin 72 (by decide)) rfl rfl _ _ _ _).trans rfl
set_option maxRecDepth 100000 in
theorem bk_72_18 (X : (Nat → Int32) × Nat) (mo : Bool) (G : Nat × Nat) (I : Nat → Nat → Int32) (J : Nat → Nat → Int64) (Q : Option Value → sm_M → Prop) (x1 : Int32) (s0 : Int32) :
    sm_wp X 72 18 [some (.ref 31), some (.int x1)] [.int s0] (sM mo G I J) Q =
    (True ∧ Q (some (.int s0)) (sM mo G I J)) :=
  (sm_blk X 72 18 (tt_lin 72 (by decide)) rfl rfl _ _ _ _).trans rfl
set_option maxRecDepth 100000 in
theorem bk_73_0 (X : (Nat → Int32) × Nat) (mo : Bool) (G : Nat × Nat) (I : Nat → Nat → Int32) (J : Nat → Nat → Int64) (Q : Option Value → sm_M → Prop) (x1 : Int32) :
    sm_wp X 73 0 [some (.ref 31), some (.int x1)] [] (sM mo G I J) Q =
    (sm_wp X 66 0 [some (.ref 31), some (.int x1)] [] (sM mo G I J) (fun v M => sm_wp X 73 5 [some (.ref 31), some (.int x1)] (v.toList ++ []) M Q)) :=
  (sm_blk X 73 0 (tt_lin 73 (by decide)) rfl rfl _ _ _ _).trans rfl
set_option maxRecDepth 100000 in
theorem bk_73_5 (X : (Nat → Int32) × Nat) (mo : Bool) (G : Nat × Nat) (I : Nat → Nat → Int32) (J : Nat → Nat → Int64) (Q : Option Value → sm_M → Prop) (x1 : Int32) (s0 : Int32) :
    sm_wp X 73 5 [some (.ref 31), some (.int x1)] [.int s0] (sM mo G I J) Q =
    (if (s0 : Int32) = 0 then sm_wp X 73 17 [some (.ref 31), some (.int x1)] [] (sM mo G I J) Q else (vp_in x1 60 ∧ (sm_wp X 73 18 [some (.ref 31), some (.int x1)] [.int (I 33 (x1.toNatClampNeg))] (sM mo G I J) Q))) :=
  (sm_blk X 73 5 (tt_lin 73 (by decide)) rfl rfl _ _ _ _).trans rfl
set_option maxRecDepth 100000 in
theorem bk_73_17 (X : (Nat → Int32) × Nat) (mo : Bool) (G : Nat × Nat) (I : Nat → Nat → Int32) (J : Nat → Nat → Int64) (Q : Option Value → sm_M → Prop) (x1 : Int32) :
    sm_wp X 73 17 [some (.ref 31), some (.int x1)] [] (sM mo G I J) Q =
    (True ∧ Q (some (.int (-1))) (sM mo G I J)) :=
  (sm_blk X 73 17 (tt_lin 73 (by decide)) rfl rfl _ _ _ _).trans rfl
set_option maxRecDepth 100000 in
theorem bk_73_18 (X : (Nat → Int32) × Nat) (mo : Bool) (G : Nat × Nat) (I : Nat → Nat → Int32) (J : Nat → Nat → Int64) (Q : Option Value → sm_M → Prop) (x1 : Int32) (s0 : Int32) :
    sm_wp X 73 18 [some (.ref 31), some (.int x1)] [.int s0] (sM mo G I J) Q =
    (True ∧ Q (some (.int s0)) (sM mo G I J)) :=
  (sm_blk X 73 18 (tt_lin 73 (by decide)) rfl rfl _ _ _ _).trans rfl
set_option maxRecDepth 100000 in
theorem bk_74_0 (X : (Nat → Int32) × Nat) (mo : Bool) (G : Nat × Nat) (I : Nat → Nat → Int32) (J : Nat → Nat → Int64) (Q : Option Value → sm_M → Prop) (x1 : Int32) (x2 : Int32) :
    sm_wp X 74 0 [some (.ref 31), some (.int x1), some (.int x2)] [] (sM mo G I J) Q =
    (sm_wp X 66 0 [some (.ref 31), some (.int x1)] [] (sM mo G I J) (fun v M => sm_wp X 74 5 [some (.ref 31), some (.int x1), some (.int x2)] (v.toList ++ []) M Q)) :=
  (sm_blk X 74 0 (tt_lin 74 (by decide)) rfl rfl _ _ _ _).trans rfl
set_option maxRecDepth 100000 in
theorem bk_74_5 (X : (Nat → Int32) × Nat) (mo : Bool) (G : Nat × Nat) (I : Nat → Nat → Int32) (J : Nat → Nat → Int64) (Q : Option Value → sm_M → Prop) (x1 : Int32) (x2 : Int32) (s0 : Int32) :
    sm_wp X 74 5 [some (.ref 31), some (.int x1), some (.int x2)] [.int s0] (sM mo G I J) Q =
    (if (s0 : Int32) = 0 then sm_wp X 74 15 [some (.ref 31), some (.int x1), some (.int x2)] [] (sM mo G I J) Q else (vp_in x1 60 ∧ (True ∧ Q none (sM mo G (up2 I 42 x1.toNatClampNeg x2) J)))) :=
  (sm_blk X 74 5 (tt_lin 74 (by decide)) rfl rfl _ _ _ _).trans rfl
set_option maxRecDepth 100000 in
theorem bk_74_15 (X : (Nat → Int32) × Nat) (mo : Bool) (G : Nat × Nat) (I : Nat → Nat → Int32) (J : Nat → Nat → Int64) (Q : Option Value → sm_M → Prop) (x1 : Int32) (x2 : Int32) :
    sm_wp X 74 15 [some (.ref 31), some (.int x1), some (.int x2)] [] (sM mo G I J) Q =
    (True ∧ Q none (sM mo G I J)) :=
  (sm_blk X 74 15 (tt_lin 74 (by decide)) rfl rfl _ _ _ _).trans rfl
set_option maxRecDepth 100000 in
theorem bk_75_0 (X : (Nat → Int32) × Nat) (mo : Bool) (G : Nat × Nat) (I : Nat → Nat → Int32) (J : Nat → Nat → Int64) (Q : Option Value → sm_M → Prop) (x1 : Int32) :
    sm_wp X 75 0 [some (.ref 31), some (.int x1)] [] (sM mo G I J) Q =
    (sm_wp X 66 0 [some (.ref 31), some (.int x1)] [] (sM mo G I J) (fun v M => sm_wp X 75 5 [some (.ref 31), some (.int x1)] (v.toList ++ []) M Q)) :=
  (sm_blk X 75 0 (tt_lin 75 (by decide)) rfl rfl _ _ _ _).trans rfl
set_option maxRecDepth 100000 in
theorem bk_75_5 (X : (Nat → Int32) × Nat) (mo : Bool) (G : Nat × Nat) (I : Nat → Nat → Int32) (J : Nat → Nat → Int64) (Q : Option Value → sm_M → Prop) (x1 : Int32) (s0 : Int32) :
    sm_wp X 75 5 [some (.ref 31), some (.int x1)] [.int s0] (sM mo G I J) Q =
    (if (s0 : Int32) = 0 then sm_wp X 75 17 [some (.ref 31), some (.int x1)] [] (sM mo G I J) Q else (vp_in x1 60 ∧ (sm_wp X 75 18 [some (.ref 31), some (.int x1)] [.int (I 37 (x1.toNatClampNeg))] (sM mo G I J) Q))) :=
  (sm_blk X 75 5 (tt_lin 75 (by decide)) rfl rfl _ _ _ _).trans rfl
set_option maxRecDepth 100000 in
theorem bk_75_17 (X : (Nat → Int32) × Nat) (mo : Bool) (G : Nat × Nat) (I : Nat → Nat → Int32) (J : Nat → Nat → Int64) (Q : Option Value → sm_M → Prop) (x1 : Int32) :
    sm_wp X 75 17 [some (.ref 31), some (.int x1)] [] (sM mo G I J) Q =
    (True ∧ Q (some (.int 0)) (sM mo G I J)) :=
  (sm_blk X 75 17 (tt_lin 75 (by decide)) rfl rfl _ _ _ _).trans rfl
set_option maxRecDepth 100000 in
theorem bk_75_18 (X : (Nat → Int32) × Nat) (mo : Bool) (G : Nat × Nat) (I : Nat → Nat → Int32) (J : Nat → Nat → Int64) (Q : Option Value → sm_M → Prop) (x1 : Int32) (s0 : Int32) :
    sm_wp X 75 18 [some (.ref 31), some (.int x1)] [.int s0] (sM mo G I J) Q =
    (True ∧ Q (some (.int s0)) (sM mo G I J)) :=
  (sm_blk X 75 18 (tt_lin 75 (by decide)) rfl rfl _ _ _ _).trans rfl
set_option maxRecDepth 100000 in
theorem bk_76_0 (X : (Nat → Int32) × Nat) (mo : Bool) (G : Nat × Nat) (I : Nat → Nat → Int32) (J : Nat → Nat → Int64) (Q : Option Value → sm_M → Prop) (x1 : Int32) :
    sm_wp X 76 0 [some (.ref 31), some (.int x1)] [] (sM mo G I J) Q =
    (sm_wp X 66 0 [some (.ref 31), some (.int x1)] [] (sM mo G I J) (fun v M => sm_wp X 76 5 [some (.ref 31), some (.int x1)] (v.toList ++ []) M Q)) :=
  (sm_blk X 76 0 (tt_lin 76 (by decide)) rfl rfl _ _ _ _).trans rfl
set_option maxRecDepth 100000 in
theorem bk_76_5 (X : (Nat → Int32) × Nat) (mo : Bool) (G : Nat × Nat) (I : Nat → Nat → Int32) (J : Nat → Nat → Int64) (Q : Option Value → sm_M → Prop) (x1 : Int32) (s0 : Int32) :
    sm_wp X 76 5 [some (.ref 31), some (.int x1)] [.int s0] (sM mo G I J) Q =
    (if (s0 : Int32) = 0 then sm_wp X 76 17 [some (.ref 31), some (.int x1)] [] (sM mo G I J) Q else (vp_in x1 60 ∧ (sm_wp X 76 18 [some (.ref 31), some (.int x1)] [.int (I 38 (x1.toNatClampNeg))] (sM mo G I J) Q))) :=
  (sm_blk X 76 5 (tt_lin 76 (by decide)) rfl rfl _ _ _ _).trans rfl
set_option maxRecDepth 100000 in
theorem bk_76_17 (X : (Nat → Int32) × Nat) (mo : Bool) (G : Nat × Nat) (I : Nat → Nat → Int32) (J : Nat → Nat → Int64) (Q : Option Value → sm_M → Prop) (x1 : Int32) :
    sm_wp X 76 17 [some (.ref 31), some (.int x1)] [] (sM mo G I J) Q =
    (True ∧ Q (some (.int 0)) (sM mo G I J)) :=
  (sm_blk X 76 17 (tt_lin 76 (by decide)) rfl rfl _ _ _ _).trans rfl
set_option maxRecDepth 100000 in
theorem bk_76_18 (X : (Nat → Int32) × Nat) (mo : Bool) (G : Nat × Nat) (I : Nat → Nat → Int32) (J : Nat → Nat → Int64) (Q : Option Value → sm_M → Prop) (x1 : Int32) (s0 : Int32) :
    sm_wp X 76 18 [some (.ref 31), some (.int x1)] [.int s0] (sM mo G I J) Q =
    (True ∧ Q (some (.int s0)) (sM mo G I J)) :=
  (sm_blk X 76 18 (tt_lin 76 (by decide)) rfl rfl _ _ _ _).trans rfl
set_option maxRecDepth 100000 in
theorem bk_77_0 (X : (Nat → Int32) × Nat) (mo : Bool) (G : Nat × Nat) (I : Nat → Nat → Int32) (J : Nat → Nat → Int64) (Q : Option Value → sm_M → Prop) (x1 : Int32) :
    sm_wp X 77 0 [some (.ref 31), some (.int x1)] [] (sM mo G I J) Q =
    (sm_wp X 66 0 [some (.ref 31), some (.int x1)] [] (sM mo G I J) (fun v M => sm_wp X 77 5 [some (.ref 31), some (.int x1)] (v.toList ++ []) M Q)) :=
  (sm_blk X 77 0 (tt_lin 77 (by decide)) rfl rfl _ _ _ _).trans rfl
set_option maxRecDepth 100000 in
theorem bk_77_5 (X : (Nat → Int32) × Nat) (mo : Bool) (G : Nat × Nat) (I : Nat → Nat → Int32) (J : Nat → Nat → Int64) (Q : Option Value → sm_M → Prop) (x1 : Int32) (s0 : Int32) :
    sm_wp X 77 5 [some (.ref 31), some (.int x1)] [.int s0] (sM mo G I J) Q =
    (if (s0 : Int32) = 0 then sm_wp X 77 22 [some (.ref 31), some (.int x1)] [] (sM mo G I J) Q else (vp_in x1 60 ∧ (if (I 40 (x1.toNatClampNeg) : Int32) = ((-1) : Int32) then sm_wp X 77 22 [some (.ref 31), some (.int x1)] [] (sM mo G I J) Q else (sm_wp X 77 23 [some (.ref 31), some (.int x1)] [.int 1] (sM mo G I J) Q)))) :=
  (sm_blk X 77 5 (tt_lin 77 (by decide)) rfl rfl _ _ _ _).trans rfl
set_option maxRecDepth 100000 in
theorem bk_77_22 (X : (Nat → Int32) × Nat) (mo : Bool) (G : Nat × Nat) (I : Nat → Nat → Int32) (J : Nat → Nat → Int64) (Q : Option Value → sm_M → Prop) (x1 : Int32) :
    sm_wp X 77 22 [some (.ref 31), some (.int x1)] [] (sM mo G I J) Q =
    (sm_zb 0 ∧ Q (some (.int 0)) (sM mo G I J)) :=
  (sm_blk X 77 22 (tt_lin 77 (by decide)) rfl rfl _ _ _ _).trans rfl
set_option maxRecDepth 100000 in
theorem bk_77_23 (X : (Nat → Int32) × Nat) (mo : Bool) (G : Nat × Nat) (I : Nat → Nat → Int32) (J : Nat → Nat → Int64) (Q : Option Value → sm_M → Prop) (x1 : Int32) (s0 : Int32) :
    sm_wp X 77 23 [some (.ref 31), some (.int x1)] [.int s0] (sM mo G I J) Q =
    (sm_zb s0 ∧ Q (some (.int s0)) (sM mo G I J)) :=
  (sm_blk X 77 23 (tt_lin 77 (by decide)) rfl rfl _ _ _ _).trans rfl
set_option maxRecDepth 100000 in
theorem bk_78_0 (X : (Nat → Int32) × Nat) (mo : Bool) (G : Nat × Nat) (I : Nat → Nat → Int32) (J : Nat → Nat → Int64) (Q : Option Value → sm_M → Prop) (x1 : Int32) (x2 : Int32) :
    sm_wp X 78 0 [some (.ref 31), some (.int x1), some (.int x2)] [] (sM mo G I J) Q =
    (sm_wp X 66 0 [some (.ref 31), some (.int x1)] [] (sM mo G I J) (fun v M => sm_wp X 78 5 [some (.ref 31), some (.int x1), some (.int x2)] (v.toList ++ []) M Q)) :=
  (sm_blk X 78 0 (tt_lin 78 (by decide)) rfl rfl _ _ _ _).trans rfl
set_option maxRecDepth 100000 in
theorem bk_78_5 (X : (Nat → Int32) × Nat) (mo : Bool) (G : Nat × Nat) (I : Nat → Nat → Int32) (J : Nat → Nat → Int64) (Q : Option Value → sm_M → Prop) (x1 : Int32) (x2 : Int32) (s0 : Int32) :
    sm_wp X 78 5 [some (.ref 31), some (.int x1), some (.int x2)] [.int s0] (sM mo G I J) Q =
    (if (s0 : Int32) = 0 then sm_wp X 78 15 [some (.ref 31), some (.int x1), some (.int x2)] [] (sM mo G I J) Q else (vp_in x1 60 ∧ (True ∧ Q none (sM mo G (up2 I 43 x1.toNatClampNeg x2) J)))) :=
  (sm_blk X 78 5 (tt_lin 78 (by decide)) rfl rfl _ _ _ _).trans rfl
set_option maxRecDepth 100000 in
theorem bk_78_15 (X : (Nat → Int32) × Nat) (mo : Bool) (G : Nat × Nat) (I : Nat → Nat → Int32) (J : Nat → Nat → Int64) (Q : Option Value → sm_M → Prop) (x1 : Int32) (x2 : Int32) :
    sm_wp X 78 15 [some (.ref 31), some (.int x1), some (.int x2)] [] (sM mo G I J) Q =
    (True ∧ Q none (sM mo G I J)) :=
  (sm_blk X 78 15 (tt_lin 78 (by decide)) rfl rfl _ _ _ _).trans rfl
set_option maxRecDepth 100000 in
theorem bk_79_0 (X : (Nat → Int32) × Nat) (mo : Bool) (G : Nat × Nat) (I : Nat → Nat → Int32) (J : Nat → Nat → Int64) (Q : Option Value → sm_M → Prop) (x1 : Int32) (x2 : Int32) :
    sm_wp X 79 0 [some (.ref 31), some (.int x1), some (.int x2)] [] (sM mo G I J) Q =
    (sm_wp X 66 0 [some (.ref 31), some (.int x1)] [] (sM mo G I J) (fun v M => sm_wp X 79 5 [some (.ref 31), some (.int x1), some (.int x2)] (v.toList ++ []) M Q)) :=
  (sm_blk X 79 0 (tt_lin 79 (by decide)) rfl rfl _ _ _ _).trans rfl
set_option maxRecDepth 100000 in
theorem bk_79_5 (X : (Nat → Int32) × Nat) (mo : Bool) (G : Nat × Nat) (I : Nat → Nat → Int32) (J : Nat → Nat → Int64) (Q : Option Value → sm_M → Prop) (x1 : Int32) (x2 : Int32) (s0 : Int32) :
    sm_wp X 79 5 [some (.ref 31), some (.int x1), some (.int x2)] [.int s0] (sM mo G I J) Q =
    (if (s0 : Int32) = 0 then sm_wp X 79 15 [some (.ref 31), some (.int x1), some (.int x2)] [] (sM mo G I J) Q else (vp_in x1 60 ∧ (True ∧ Q none (sM mo G (up2 I 44 x1.toNatClampNeg x2) J)))) :=
  (sm_blk X 79 5 (tt_lin 79 (by decide)) rfl rfl _ _ _ _).trans rfl
set_option maxRecDepth 100000 in
theorem bk_79_15 (X : (Nat → Int32) × Nat) (mo : Bool) (G : Nat × Nat) (I : Nat → Nat → Int32) (J : Nat → Nat → Int64) (Q : Option Value → sm_M → Prop) (x1 : Int32) (x2 : Int32) :
    sm_wp X 79 15 [some (.ref 31), some (.int x1), some (.int x2)] [] (sM mo G I J) Q =
    (True ∧ Q none (sM mo G I J)) :=
  (sm_blk X 79 15 (tt_lin 79 (by decide)) rfl rfl _ _ _ _).trans rfl
set_option maxRecDepth 100000 in
theorem bk_80_0 (X : (Nat → Int32) × Nat) (mo : Bool) (G : Nat × Nat) (I : Nat → Nat → Int32) (J : Nat → Nat → Int64) (Q : Option Value → sm_M → Prop) (x1 : Int32) :
    sm_wp X 80 0 [some (.ref 31), some (.int x1)] [] (sM mo G I J) Q =
    (sm_wp X 66 0 [some (.ref 31), some (.int x1)] [] (sM mo G I J) (fun v M => sm_wp X 80 5 [some (.ref 31), some (.int x1)] (v.toList ++ []) M Q)) :=
  (sm_blk X 80 0 (tt_lin 80 (by decide)) rfl rfl _ _ _ _).trans rfl
set_option maxRecDepth 100000 in
theorem bk_80_5 (X : (Nat → Int32) × Nat) (mo : Bool) (G : Nat × Nat) (I : Nat → Nat → Int32) (J : Nat → Nat → Int64) (Q : Option Value → sm_M → Prop) (x1 : Int32) (s0 : Int32) :
    sm_wp X 80 5 [some (.ref 31), some (.int x1)] [.int s0] (sM mo G I J) Q =
    (if (s0 : Int32) = 0 then sm_wp X 80 17 [some (.ref 31), some (.int x1)] [] (sM mo G I J) Q else (vp_in x1 60 ∧ (sm_wp X 80 18 [some (.ref 31), some (.int x1)] [.int (I 44 (x1.toNatClampNeg))] (sM mo G I J) Q))) :=
  (sm_blk X 80 5 (tt_lin 80 (by decide)) rfl rfl _ _ _ _).trans rfl
set_option maxRecDepth 100000 in
theorem bk_80_17 (X : (Nat → Int32) × Nat) (mo : Bool) (G : Nat × Nat) (I : Nat → Nat → Int32) (J : Nat → Nat → Int64) (Q : Option Value → sm_M → Prop) (x1 : Int32) :
    sm_wp X 80 17 [some (.ref 31), some (.int x1)] [] (sM mo G I J) Q =
    (True ∧ Q (some (.int (-1))) (sM mo G I J)) :=
  (sm_blk X 80 17 (tt_lin 80 (by decide)) rfl rfl _ _ _ _).trans rfl
set_option maxRecDepth 100000 in
theorem bk_80_18 (X : (Nat → Int32) × Nat) (mo : Bool) (G : Nat × Nat) (I : Nat → Nat → Int32) (J : Nat → Nat → Int64) (Q : Option Value → sm_M → Prop) (x1 : Int32) (s0 : Int32) :
    sm_wp X 80 18 [some (.ref 31), some (.int x1)] [.int s0] (sM mo G I J) Q =
    (True ∧ Q (some (.int s0)) (sM mo G I J)) :=
  (sm_blk X 80 18 (tt_lin 80 (by decide)) rfl rfl _ _ _ _).trans rfl
set_option maxRecDepth 100000 in
theorem bk_81_0 (X : (Nat → Int32) × Nat) (mo : Bool) (G : Nat × Nat) (I : Nat → Nat → Int32) (J : Nat → Nat → Int64) (Q : Option Value → sm_M → Prop) (x1 : Int32) (x2 : Int32) :
    sm_wp X 81 0 [some (.ref 31), some (.int x1), some (.int x2)] [] (sM mo G I J) Q =
    (sm_wp X 66 0 [some (.ref 31), some (.int x1)] [] (sM mo G I J) (fun v M => sm_wp X 81 5 [some (.ref 31), some (.int x1), some (.int x2)] (v.toList ++ []) M Q)) :=
  (sm_blk X 81 0 (tt_lin 81 (by decide)) rfl rfl _ _ _ _).trans rfl
set_option maxRecDepth 100000 in
theorem bk_81_5 (X : (Nat → Int32) × Nat) (mo : Bool) (G : Nat × Nat) (I : Nat → Nat → Int32) (J : Nat → Nat → Int64) (Q : Option Value → sm_M → Prop) (x1 : Int32) (x2 : Int32) (s0 : Int32) :
    sm_wp X 81 5 [some (.ref 31), some (.int x1), some (.int x2)] [.int s0] (sM mo G I J) Q =
    (if (s0 : Int32) = 0 then sm_wp X 81 45 [some (.ref 31), some (.int x1), some (.int x2)] [] (sM mo G I J) Q else (sm_wp X 66 0 [some (.ref 31), some (.int x2)] [] (sM mo G I J) (fun v M => sm_wp X 81 13 [some (.ref 31), some (.int x1), some (.int x2)] (v.toList ++ []) M Q))) :=
  (sm_blk X 81 5 (tt_lin 81 (by decide)) rfl rfl _ _ _ _).trans rfl
set_option maxRecDepth 100000 in
theorem bk_81_13 (X : (Nat → Int32) × Nat) (mo : Bool) (G : Nat × Nat) (I : Nat → Nat → Int32) (J : Nat → Nat → Int64) (Q : Option Value → sm_M → Prop) (x1 : Int32) (x2 : Int32) (s0 : Int32) :
    sm_wp X 81 13 [some (.ref 31), some (.int x1), some (.int x2)] [.int s0] (sM mo G I J) Q =
    (if (s0 : Int32) = 0 then sm_wp X 81 45 [some (.ref 31), some (.int x1), some (.int x2)] [] (sM mo G I J) Q else (vp_in x1 60 ∧ (vp_in x2 60 ∧ (if ¬ (I 41 (x1.toNatClampNeg) : Int32) = (I 41 (x2.toNatClampNeg) : Int32) then sm_wp X 81 45 [some (.ref 31), some (.int x1), some (.int x2)] [] (sM mo G I J) Q else (vp_in x1 60 ∧ (if (I 41 (x1.toNatClampNeg) : Int32) = ((-1) : Int32) then sm_wp X 81 45 [some (.ref 31), some (.int x1), some (.int x2)] [] (sM mo G I J) Q else (sm_wp X 81 46 [some (.ref 31), some (.int x1), some (.int x2)] [.int 1] (sM mo G I J) Q))))))) :=
  (sm_blk X 81 13 (tt_lin 81 (by decide)) rfl rfl _ _ _ _).trans rfl
set_option maxRecDepth 100000 in
theorem bk_81_45 (X : (Nat → Int32) × Nat) (mo : Bool) (G : Nat × Nat) (I : Nat → Nat → Int32) (J : Nat → Nat → Int64) (Q : Option Value → sm_M → Prop) (x1 : Int32) (x2 : Int32) :
    sm_wp X 81 45 [some (.ref 31), some (.int x1), some (.int x2)] [] (sM mo G I J) Q =
    (sm_zb 0 ∧ Q (some (.int 0)) (sM mo G I J)) :=
  (sm_blk X 81 45 (tt_lin 81 (by decide)) rfl rfl _ _ _ _).trans rfl
set_option maxRecDepth 100000 in
theorem bk_81_46 (X : (Nat → Int32) × Nat) (mo : Bool) (G : Nat × Nat) (I : Nat → Nat → Int32) (J : Nat → Nat → Int64) (Q : Option Value → sm_M → Prop) (x1 : Int32) (x2 : Int32) (s0 : Int32) :
    sm_wp X 81 46 [some (.ref 31), some (.int x1), some (.int x2)] [.int s0] (sM mo G I J) Q =
    (sm_zb s0 ∧ Q (some (.int s0)) (sM mo G I J)) :=
  (sm_blk X 81 46 (tt_lin 81 (by decide)) rfl rfl _ _ _ _).trans rfl
set_option maxRecDepth 100000 in
theorem bk_82_0 (X : (Nat → Int32) × Nat) (mo : Bool) (G : Nat × Nat) (I : Nat → Nat → Int32) (J : Nat → Nat → Int64) (Q : Option Value → sm_M → Prop) (x1 : Int32) :
    sm_wp X 82 0 [some (.ref 31), some (.int x1), none] [] (sM mo G I J) Q =
    (sm_wp X 70 0 [some (.ref 31), some (.int x1)] [] (sM mo G I J) (fun v M => sm_wp X 82 5 [some (.ref 31), some (.int x1), none] (v.toList ++ []) M Q)) :=
  (sm_blk X 82 0 (tt_lin 82 (by decide)) rfl rfl _ _ _ _).trans rfl
set_option maxRecDepth 100000 in
theorem bk_82_5 (X : (Nat → Int32) × Nat) (mo : Bool) (G : Nat × Nat) (I : Nat → Nat → Int32) (J : Nat → Nat → Int64) (Q : Option Value → sm_M → Prop) (x1 : Int32) (s0 : Int32) :
    sm_wp X 82 5 [some (.ref 31), some (.int x1), none] [.int s0] (sM mo G I J) Q =
    (if (s0 : Int32) = 0 then sm_wp X 82 20 [some (.ref 31), some (.int x1), some (.int s0)] [] (sM mo G I J) Q else (if (s0 : Int32) = (1 : Int32) then sm_wp X 82 20 [some (.ref 31), some (.int x1), some (.int s0)] [] (sM mo G I J) Q else (if ¬ (s0 : Int32) = (2 : Int32) then sm_wp X 82 24 [some (.ref 31), some (.int x1), some (.int s0)] [] (sM mo G I J) Q else (sm_wp X 82 25 [some (.ref 31), some (.int x1), some (.int s0)] [.int 1] (sM mo G I J) Q)))) :=
  (sm_blk X 82 5 (tt_lin 82 (by decide)) rfl rfl _ _ _ _).trans rfl
set_option maxRecDepth 100000 in
theorem bk_82_20 (X : (Nat → Int32) × Nat) (mo : Bool) (G : Nat × Nat) (I : Nat → Nat → Int32) (J : Nat → Nat → Int64) (Q : Option Value → sm_M → Prop) (x1 : Int32) (x2 : Int32) :
    sm_wp X 82 20 [some (.ref 31), some (.int x1), some (.int x2)] [] (sM mo G I J) Q =
    (sm_wp X 82 25 [some (.ref 31), some (.int x1), some (.int x2)] [.int 1] (sM mo G I J) Q) :=
  (sm_blk X 82 20 (tt_lin 82 (by decide)) rfl rfl _ _ _ _).trans rfl
set_option maxRecDepth 100000 in
theorem bk_82_24 (X : (Nat → Int32) × Nat) (mo : Bool) (G : Nat × Nat) (I : Nat → Nat → Int32) (J : Nat → Nat → Int64) (Q : Option Value → sm_M → Prop) (x1 : Int32) (x2 : Int32) :
    sm_wp X 82 24 [some (.ref 31), some (.int x1), some (.int x2)] [] (sM mo G I J) Q =
    (sm_zb 0 ∧ Q (some (.int 0)) (sM mo G I J)) :=
  (sm_blk X 82 24 (tt_lin 82 (by decide)) rfl rfl _ _ _ _).trans rfl
set_option maxRecDepth 100000 in
theorem bk_82_25 (X : (Nat → Int32) × Nat) (mo : Bool) (G : Nat × Nat) (I : Nat → Nat → Int32) (J : Nat → Nat → Int64) (Q : Option Value → sm_M → Prop) (x1 : Int32) (x2 : Int32) (s0 : Int32) :
    sm_wp X 82 25 [some (.ref 31), some (.int x1), some (.int x2)] [.int s0] (sM mo G I J) Q =
    (sm_zb s0 ∧ Q (some (.int s0)) (sM mo G I J)) :=
  (sm_blk X 82 25 (tt_lin 82 (by decide)) rfl rfl _ _ _ _).trans rfl
set_option maxRecDepth 100000 in
theorem bk_83_0 (X : (Nat → Int32) × Nat) (mo : Bool) (G : Nat × Nat) (I : Nat → Nat → Int32) (J : Nat → Nat → Int64) (Q : Option Value → sm_M → Prop) (x1 : Int32) (x2 : Int32) :
    sm_wp X 83 0 [some (.ref 31), some (.int x1), some (.int x2)] [] (sM mo G I J) Q =
    (sm_wp X 66 0 [some (.ref 31), some (.int x1)] [] (sM mo G I J) (fun v M => sm_wp X 83 5 [some (.ref 31), some (.int x1), some (.int x2)] (v.toList ++ []) M Q)) :=
  (sm_blk X 83 0 (tt_lin 83 (by decide)) rfl rfl _ _ _ _).trans rfl
set_option maxRecDepth 100000 in
theorem bk_83_5 (X : (Nat → Int32) × Nat) (mo : Bool) (G : Nat × Nat) (I : Nat → Nat → Int32) (J : Nat → Nat → Int64) (Q : Option Value → sm_M → Prop) (x1 : Int32) (x2 : Int32) (s0 : Int32) :
    sm_wp X 83 5 [some (.ref 31), some (.int x1), some (.int x2)] [.int s0] (sM mo G I J) Q =
    (if ¬ (s0 : Int32) = 0 then sm_wp X 83 11 [some (.ref 31), some (.int x1), some (.int x2)] [] (sM mo G I J) Q else (True ∧ Q (some (.int (-2))) (sM mo G I J))) :=
  (sm_blk X 83 5 (tt_lin 83 (by decide)) rfl rfl _ _ _ _).trans rfl
set_option maxRecDepth 100000 in
theorem bk_83_11 (X : (Nat → Int32) × Nat) (mo : Bool) (G : Nat × Nat) (I : Nat → Nat → Int32) (J : Nat → Nat → Int64) (Q : Option Value → sm_M → Prop) (x1 : Int32) (x2 : Int32) :
    sm_wp X 83 11 [some (.ref 31), some (.int x1), some (.int x2)] [] (sM mo G I J) Q =
    (if (x2 : Int32) = 0 then sm_wp X 83 56 [some (.ref 31), some (.int x1), some (.int x2)] [] (sM mo G I J) Q else if (x2 : Int32) = 1 then sm_wp X 83 70 [some (.ref 31), some (.int x1), some (.int x2)] [] (sM mo G I J) Q else if (x2 : Int32) = 2 then sm_wp X 83 77 [some (.ref 31), some (.int x1), some (.int x2)] [] (sM mo G I J) Q else if (x2 : Int32) = 3 then sm_wp X 83 84 [some (.ref 31), some (.int x1), some (.int x2)] [] (sM mo G I J) Q else if (x2 : Int32) = 4 then sm_wp X 83 91 [some (.ref 31), some (.int x1), some (.int x2)] [] (sM mo G I J) Q else if (x2 : Int32) = 5 then sm_wp X 83 98 [some (.ref 31), some (.int x1), some (.int x2)] [] (sM mo G I J) Q else if (x2 : Int32) = 6 then sm_wp X 83 105 [some (.ref 31), some (.int x1), some (.int x2)] [] (sM mo G I J) Q else sm_wp X 83 112 [some (.ref 31), some (.int x1), some (.int x2)] [] (sM mo G I J) Q) :=
  (sm_blk X 83 11 (tt_lin 83 (by decide)) rfl rfl _ _ _ _).trans rfl
set_option maxRecDepth 100000 in
theorem bk_83_56 (X : (Nat → Int32) × Nat) (mo : Bool) (G : Nat × Nat) (I : Nat → Nat → Int32) (J : Nat → Nat → Int64) (Q : Option Value → sm_M → Prop) (x1 : Int32) (x2 : Int32) :
    sm_wp X 83 56 [some (.ref 31), some (.int x1), some (.int x2)] [] (sM mo G I J) Q =
    (sm_wp X 65 0 [some (.ref 31), some (.int x1)] [] (sM mo G I J) (fun v M => sm_wp X 83 61 [some (.ref 31), some (.int x1), some (.int x2)] (v.toList ++ []) M Q)) :=
  (sm_blk X 83 56 (tt_lin 83 (by decide)) rfl rfl _ _ _ _).trans rfl
set_option maxRecDepth 100000 in
theorem bk_83_61 (X : (Nat → Int32) × Nat) (mo : Bool) (G : Nat × Nat) (I : Nat → Nat → Int32) (J : Nat → Nat → Int64) (Q : Option Value → sm_M → Prop) (x1 : Int32) (x2 : Int32) (s0 : Int32) :
    sm_wp X 83 61 [some (.ref 31), some (.int x1), some (.int x2)] [.int s0] (sM mo G I J) Q =
    (if (s0 : Int32) = 0 then sm_wp X 83 68 [some (.ref 31), some (.int x1), some (.int x2)] [] (sM mo G I J) Q else (sm_wp X 83 69 [some (.ref 31), some (.int x1), some (.int x2)] [.int 0] (sM mo G I J) Q)) :=
  (sm_blk X 83 61 (tt_lin 83 (by decide)) rfl rfl _ _ _ _).trans rfl
set_option maxRecDepth 100000 in
theorem bk_83_68 (X : (Nat → Int32) × Nat) (mo : Bool) (G : Nat × Nat) (I : Nat → Nat → Int32) (J : Nat → Nat → Int64) (Q : Option Value → sm_M → Prop) (x1 : Int32) (x2 : Int32) :
    sm_wp X 83 68 [some (.ref 31), some (.int x1), some (.int x2)] [] (sM mo G I J) Q =
    (True ∧ Q (some (.int 1)) (sM mo G I J)) :=
  (sm_blk X 83 68 (tt_lin 83 (by decide)) rfl rfl _ _ _ _).trans rfl
set_option maxRecDepth 100000 in
theorem bk_83_69 (X : (Nat → Int32) × Nat) (mo : Bool) (G : Nat × Nat) (I : Nat → Nat → Int32) (J : Nat → Nat → Int64) (Q : Option Value → sm_M → Prop) (x1 : Int32) (x2 : Int32) (s0 : Int32) :
    sm_wp X 83 69 [some (.ref 31), some (.int x1), some (.int x2)] [.int s0] (sM mo G I J) Q =
    (True ∧ Q (some (.int s0)) (sM mo G I J)) :=
  (sm_blk X 83 69 (tt_lin 83 (by decide)) rfl rfl _ _ _ _).trans rfl
set_option maxRecDepth 100000 in
theorem bk_83_70 (X : (Nat → Int32) × Nat) (mo : Bool) (G : Nat × Nat) (I : Nat → Nat → Int32) (J : Nat → Nat → Int64) (Q : Option Value → sm_M → Prop) (x1 : Int32) (x2 : Int32) :
    sm_wp X 83 70 [some (.ref 31), some (.int x1), some (.int x2)] [] (sM mo G I J) Q =
    (vp_in x1 60 ∧ (True ∧ Q (some (.int (I 34 (x1.toNatClampNeg)))) (sM mo G I J))) :=
  (sm_blk X 83 70 (tt_lin 83 (by decide)) rfl rfl _ _ _ _).trans rfl
set_option maxRecDepth 100000 in
theorem bk_83_77 (X : (Nat → Int32) × Nat) (mo : Bool) (G : Nat × Nat) (I : Nat → Nat → Int32) (J : Nat → Nat → Int64) (Q : Option Value → sm_M → Prop) (x1 : Int32) (x2 : Int32) :
    sm_wp X 83 77 [some (.ref 31), some (.int x1), some (.int x2)] [] (sM mo G I J) Q =
    (vp_in x1 60 ∧ (True ∧ Q (some (.int (I 42 (x1.toNatClampNeg)))) (sM mo G I J))) :=
  (sm_blk X 83 77 (tt_lin 83 (by decide)) rfl rfl _ _ _ _).trans rfl
set_option maxRecDepth 100000 in
theorem bk_83_84 (X : (Nat → Int32) × Nat) (mo : Bool) (G : Nat × Nat) (I : Nat → Nat → Int32) (J : Nat → Nat → Int64) (Q : Option Value → sm_M → Prop) (x1 : Int32) (x2 : Int32) :
    sm_wp X 83 84 [some (.ref 31), some (.int x1), some (.int x2)] [] (sM mo G I J) Q =
    (vp_in x1 60 ∧ (True ∧ Q (some (.int (I 43 (x1.toNatClampNeg)))) (sM mo G I J))) :=
  (sm_blk X 83 84 (tt_lin 83 (by decide)) rfl rfl _ _ _ _).trans rfl
set_option maxRecDepth 100000 in
theorem bk_83_91 (X : (Nat → Int32) × Nat) (mo : Bool) (G : Nat × Nat) (I : Nat → Nat → Int32) (J : Nat → Nat → Int64) (Q : Option Value → sm_M → Prop) (x1 : Int32) (x2 : Int32) :
    sm_wp X 83 91 [some (.ref 31), some (.int x1), some (.int x2)] [] (sM mo G I J) Q =
    (vp_in x1 60 ∧ (True ∧ Q (some (.int (I 32 (x1.toNatClampNeg)))) (sM mo G I J))) :=
  (sm_blk X 83 91 (tt_lin 83 (by decide)) rfl rfl _ _ _ _).trans rfl
set_option maxRecDepth 100000 in
theorem bk_83_98 (X : (Nat → Int32) × Nat) (mo : Bool) (G : Nat × Nat) (I : Nat → Nat → Int32) (J : Nat → Nat → Int64) (Q : Option Value → sm_M → Prop) (x1 : Int32) (x2 : Int32) :
    sm_wp X 83 98 [some (.ref 31), some (.int x1), some (.int x2)] [] (sM mo G I J) Q =
    (vp_in x1 60 ∧ (True ∧ Q (some (.int (I 33 (x1.toNatClampNeg)))) (sM mo G I J))) :=
  (sm_blk X 83 98 (tt_lin 83 (by decide)) rfl rfl _ _ _ _).trans rfl
set_option maxRecDepth 100000 in
theorem bk_83_105 (X : (Nat → Int32) × Nat) (mo : Bool) (G : Nat × Nat) (I : Nat → Nat → Int32) (J : Nat → Nat → Int64) (Q : Option Value → sm_M → Prop) (x1 : Int32) (x2 : Int32) :
    sm_wp X 83 105 [some (.ref 31), some (.int x1), some (.int x2)] [] (sM mo G I J) Q =
    (vp_in x1 60 ∧ (True ∧ Q (some (.int (I 44 (x1.toNatClampNeg)))) (sM mo G I J))) :=
  (sm_blk X 83 105 (tt_lin 83 (by decide)) rfl rfl _ _ _ _).trans rfl
set_option maxRecDepth 100000 in
theorem bk_83_112 (X : (Nat → Int32) × Nat) (mo : Bool) (G : Nat × Nat) (I : Nat → Nat → Int32) (J : Nat → Nat → Int64) (Q : Option Value → sm_M → Prop) (x1 : Int32) (x2 : Int32) :
    sm_wp X 83 112 [some (.ref 31), some (.int x1), some (.int x2)] [] (sM mo G I J) Q =
    (True ∧ Q (some (.int (-2))) (sM mo G I J)) :=
  (sm_blk X 83 112 (tt_lin 83 (by decide)) rfl rfl _ _ _ _).trans rfl
set_option maxRecDepth 100000 in
theorem bk_84_0 (X : (Nat → Int32) × Nat) (mo : Bool) (G : Nat × Nat) (I : Nat → Nat → Int32) (J : Nat → Nat → Int64) (Q : Option Value → sm_M → Prop) (x1 : Int32) (x2 : Int32) :
    sm_wp X 84 0 [some (.ref 31), some (.int x1), some (.int x2)] [] (sM mo G I J) Q =
    (sm_wp X 66 0 [some (.ref 31), some (.int x1)] [] (sM mo G I J) (fun v M => sm_wp X 84 5 [some (.ref 31), some (.int x1), some (.int x2)] (v.toList ++ []) M Q)) :=
  (sm_blk X 84 0 (tt_lin 84 (by decide)) rfl rfl _ _ _ _).trans rfl
set_option maxRecDepth 100000 in
theorem bk_84_5 (X : (Nat → Int32) × Nat) (mo : Bool) (G : Nat × Nat) (I : Nat → Nat → Int32) (J : Nat → Nat → Int64) (Q : Option Value → sm_M → Prop) (x1 : Int32) (x2 : Int32) (s0 : Int32) :
    sm_wp X 84 5 [some (.ref 31), some (.int x1), some (.int x2)] [.int s0] (sM mo G I J) Q =
    (if ¬ (s0 : Int32) = 0 then sm_wp X 84 10 [some (.ref 31), some (.int x1), some (.int x2)] [] (sM mo G I J) Q else (True ∧ Q (some (.int (-1))) (sM mo G I J))) :=
  (sm_blk X 84 5 (tt_lin 84 (by decide)) rfl rfl _ _ _ _).trans rfl
set_option maxRecDepth 100000 in
theorem bk_84_10 (X : (Nat → Int32) × Nat) (mo : Bool) (G : Nat × Nat) (I : Nat → Nat → Int32) (J : Nat → Nat → Int64) (Q : Option Value → sm_M → Prop) (x1 : Int32) (x2 : Int32) :
    sm_wp X 84 10 [some (.ref 31), some (.int x1), some (.int x2)] [] (sM mo G I J) Q =
    (vp_in x1 60 ∧ (if (I 32 (x1.toNatClampNeg) : Int32) = (x2 : Int32) then sm_wp X 84 30 [some (.ref 31), some (.int x1), some (.int x2)] [] (sM mo G I J) Q else (vp_in x1 60 ∧ (if ¬ (I 33 (x1.toNatClampNeg) : Int32) = (x2 : Int32) then sm_wp X 84 37 [some (.ref 31), some (.int x1), some (.int x2)] [] (sM mo G I J) Q else (vp_in x1 60 ∧ (True ∧ Q (some (.int (I 34 (x1.toNatClampNeg)))) (sM mo G I J))))))) :=
  (sm_blk X 84 10 (tt_lin 84 (by decide)) rfl rfl _ _ _ _).trans rfl
set_option maxRecDepth 100000 in
theorem bk_84_30 (X : (Nat → Int32) × Nat) (mo : Bool) (G : Nat × Nat) (I : Nat → Nat → Int32) (J : Nat → Nat → Int64) (Q : Option Value → sm_M → Prop) (x1 : Int32) (x2 : Int32) :
    sm_wp X 84 30 [some (.ref 31), some (.int x1), some (.int x2)] [] (sM mo G I J) Q =
    (vp_in x1 60 ∧ (True ∧ Q (some (.int (I 34 (x1.toNatClampNeg)))) (sM mo G I J))) :=
  (sm_blk X 84 30 (tt_lin 84 (by decide)) rfl rfl _ _ _ _).trans rfl
set_option maxRecDepth 100000 in
theorem bk_84_37 (X : (Nat → Int32) × Nat) (mo : Bool) (G : Nat × Nat) (I : Nat → Nat → Int32) (J : Nat → Nat → Int64) (Q : Option Value → sm_M → Prop) (x1 : Int32) (x2 : Int32) :
    sm_wp X 84 37 [some (.ref 31), some (.int x1), some (.int x2)] [] (sM mo G I J) Q =
    (vp_in x1 60 ∧ (sm_wp X 169 0 [some (.int (I 36 (x1.toNatClampNeg))), some (.int x2)] [] (sM mo G I J) (fun v M => sm_wp X 84 47 [some (.ref 31), some (.int x1), some (.int x2)] (v.toList ++ []) M Q))) :=
  (sm_blk X 84 37 (tt_lin 84 (by decide)) rfl rfl _ _ _ _).trans rfl
set_option maxRecDepth 100000 in
theorem bk_84_47 (X : (Nat → Int32) × Nat) (mo : Bool) (G : Nat × Nat) (I : Nat → Nat → Int32) (J : Nat → Nat → Int64) (Q : Option Value → sm_M → Prop) (x1 : Int32) (x2 : Int32) (s0 : Int32) :
    sm_wp X 84 47 [some (.ref 31), some (.int x1), some (.int x2)] [.int s0] (sM mo G I J) Q =
    (if (s0 : Int32) = 0 then sm_wp X 84 61 [some (.ref 31), some (.int x1), some (.int x2)] [] (sM mo G I J) Q else (vp_in x1 60 ∧ (sm_wp X 84 62 [some (.ref 31), some (.int x1), some (.int x2)] [.int ((I 34 (x1.toNatClampNeg)) + 1)] (sM mo G I J) Q))) :=
  (sm_blk X 84 47 (tt_lin 84 (by decide)) rfl rfl _ _ _ _).trans rfl
set_option maxRecDepth 100000 in
theorem bk_84_61 (X : (Nat → Int32) × Nat) (mo : Bool) (G : Nat × Nat) (I : Nat → Nat → Int32) (J : Nat → Nat → Int64) (Q : Option Value → sm_M → Prop) (x1 : Int32) (x2 : Int32) :
    sm_wp X 84 61 [some (.ref 31), some (.int x1), some (.int x2)] [] (sM mo G I J) Q =
    (True ∧ Q (some (.int (-1))) (sM mo G I J)) :=
  (sm_blk X 84 61 (tt_lin 84 (by decide)) rfl rfl _ _ _ _).trans rfl
set_option maxRecDepth 100000 in
theorem bk_84_62 (X : (Nat → Int32) × Nat) (mo : Bool) (G : Nat × Nat) (I : Nat → Nat → Int32) (J : Nat → Nat → Int64) (Q : Option Value → sm_M → Prop) (x1 : Int32) (x2 : Int32) (s0 : Int32) :
    sm_wp X 84 62 [some (.ref 31), some (.int x1), some (.int x2)] [.int s0] (sM mo G I J) Q =
    (True ∧ Q (some (.int s0)) (sM mo G I J)) :=
  (sm_blk X 84 62 (tt_lin 84 (by decide)) rfl rfl _ _ _ _).trans rfl
set_option maxRecDepth 100000 in
theorem bk_85_0 (X : (Nat → Int32) × Nat) (mo : Bool) (G : Nat × Nat) (I : Nat → Nat → Int32) (J : Nat → Nat → Int64) (Q : Option Value → sm_M → Prop) (x1 : Int32) (x2 : Int32) (x3 : Int32) :
    sm_wp X 85 0 [some (.ref 31), some (.int x1), some (.int x2), some (.int x3), none, none, none] [] (sM mo G I J) Q =
    (sm_wp X 85 6 [some (.ref 31), some (.int x1), some (.int x2), some (.int x3), some (.int 0), some (.int 0), none] [] (sM mo G I J) Q) :=
  (sm_blk X 85 0 (tt_lin 85 (by decide)) rfl rfl _ _ _ _).trans rfl
set_option maxRecDepth 100000 in
theorem bk_85_6 (X : (Nat → Int32) × Nat) (mo : Bool) (G : Nat × Nat) (I : Nat → Nat → Int32) (J : Nat → Nat → Int64) (Q : Option Value → sm_M → Prop) (x1 : Int32) (x2 : Int32) (x3 : Int32) (x4 : Int32) (x5 : Int32) :
    sm_wp X 85 6 [some (.ref 31), some (.int x1), some (.int x2), some (.int x3), some (.int x4), some (.int x5), none] [] (sM mo G I J) Q =
    (if (I 31 0 : Int32) ≤ (x5 : Int32) then sm_wp X 85 72 [some (.ref 31), some (.int x1), some (.int x2), some (.int x3), some (.int x4), some (.int x5), none] [] (sM mo G I J) Q else (if (60 : Int32) ≤ (x5 : Int32) then sm_wp X 85 72 [some (.ref 31), some (.int x1), some (.int x2), some (.int x3), some (.int x4), some (.int x5), none] [] (sM mo G I J) Q else (sm_wp X 84 0 [some (.ref 31), some (.int x5), some (.int x1)] [] (sM mo G I J) (fun v M => sm_wp X 85 29 [some (.ref 31), some (.int x1), some (.int x2), some (.int x3), some (.int x4), some (.int x5), none] (v.toList ++ []) M Q)))) :=
  (sm_blk X 85 6 (tt_lin 85 (by decide)) rfl rfl _ _ _ _).trans rfl
set_option maxRecDepth 100000 in
theorem bk_85_29 (X : (Nat → Int32) × Nat) (mo : Bool) (G : Nat × Nat) (I : Nat → Nat → Int32) (J : Nat → Nat → Int64) (Q : Option Value → sm_M → Prop) (x1 : Int32) (x2 : Int32) (x3 : Int32) (x4 : Int32) (x5 : Int32) (s0 : Int32) :
    sm_wp X 85 29 [some (.ref 31), some (.int x1), some (.int x2), some (.int x3), some (.int x4), some (.int x5), none] [.int s0] (sM mo G I J) Q =
    (sm_wp X 65 0 [some (.ref 31), some (.int x5)] [] (sM mo G I J) (fun v M => sm_wp X 85 37 [some (.ref 31), some (.int x1), some (.int x2), some (.int x3), some (.int x4), some (.int x5), some (.int s0)] (v.toList ++ []) M Q)) :=
  (sm_blk X 85 29 (tt_lin 85 (by decide)) rfl rfl _ _ _ _).trans rfl
set_option maxRecDepth 100000 in
theorem bk_85_37 (X : (Nat → Int32) × Nat) (mo : Bool) (G : Nat × Nat) (I : Nat → Nat → Int32) (J : Nat → Nat → Int64) (Q : Option Value → sm_M → Prop) (x1 : Int32) (x2 : Int32) (x3 : Int32) (x4 : Int32) (x5 : Int32) (x6 : Int32) (s0 : Int32) :
    sm_wp X 85 37 [some (.ref 31), some (.int x1), some (.int x2), some (.int x3), some (.int x4), some (.int x5), some (.int x6)] [.int s0] (sM mo G I J) Q =
    (if ¬ (s0 : Int32) = 0 then sm_wp X 85 66 [some (.ref 31), some (.int x1), some (.int x2), some (.int x3), some (.int x4), some (.int x5), some (.int x6)] [] (sM mo G I J) Q else (vp_in x5 60 ∧ (if ¬ (I 35 (x5.toNatClampNeg) : Int32) = (x3 : Int32) then sm_wp X 85 66 [some (.ref 31), some (.int x1), some (.int x2), some (.int x3), some (.int x4), some (.int x5), some (.int x6)] [] (sM mo G I J) Q else (if (x6 : Int32) = ((-1) : Int32) then sm_wp X 85 66 [some (.ref 31), some (.int x1), some (.int x2), some (.int x3), some (.int x4), some (.int x5), some (.int x6)] [] (sM mo G I J) Q else (if (x2 : Int32) < (x6 : Int32) then sm_wp X 85 66 [some (.ref 31), some (.int x1), some (.int x2), some (.int x3), some (.int x4), some (.int x5), some (.int x6)] [] (sM mo G I J) Q else (sm_wp X 85 6 [some (.ref 31), some (.int x1), some (.int x2), some (.int x3), some (.int (x4 + 1)), some (.int (x5 + 1)), none] [] (sM mo G I J) Q)))))) :=
  (sm_blk X 85 37 (tt_lin 85 (by decide)) rfl rfl _ _ _ _).trans rfl
set_option maxRecDepth 100000 in
theorem bk_85_66 (X : (Nat → Int32) × Nat) (mo : Bool) (G : Nat × Nat) (I : Nat → Nat → Int32) (J : Nat → Nat → Int64) (Q : Option Value → sm_M → Prop) (x1 : Int32) (x2 : Int32) (x3 : Int32) (x4 : Int32) (x5 : Int32) (x6 : Int32) :
    sm_wp X 85 66 [some (.ref 31), some (.int x1), some (.int x2), some (.int x3), some (.int x4), some (.int x5), some (.int x6)] [] (sM mo G I J) Q =
    (sm_wp X 85 6 [some (.ref 31), some (.int x1), some (.int x2), some (.int x3), some (.int x4), some (.int (x5 + 1)), none] [] (sM mo G I J) Q) :=
  (sm_blk X 85 66 (tt_lin 85 (by decide)) rfl rfl _ _ _ _).trans rfl
set_option maxRecDepth 100000 in
theorem bk_85_72 (X : (Nat → Int32) × Nat) (mo : Bool) (G : Nat × Nat) (I : Nat → Nat → Int32) (J : Nat → Nat → Int64) (Q : Option Value → sm_M → Prop) (x1 : Int32) (x2 : Int32) (x3 : Int32) (x4 : Int32) (x5 : Int32) :
    sm_wp X 85 72 [some (.ref 31), some (.int x1), some (.int x2), some (.int x3), some (.int x4), some (.int x5), none] [] (sM mo G I J) Q =
    (True ∧ Q (some (.int x4)) (sM mo G I J)) :=
  (sm_blk X 85 72 (tt_lin 85 (by decide)) rfl rfl _ _ _ _).trans rfl
set_option maxRecDepth 100000 in
theorem bk_86_0 (X : (Nat → Int32) × Nat) (mo : Bool) (G : Nat × Nat) (I : Nat → Nat → Int32) (J : Nat → Nat → Int64) (Q : Option Value → sm_M → Prop) (x1 : Int32) :
    sm_wp X 86 0 [some (.ref 31), some (.int x1), none, none] [] (sM mo G I J) Q =
    (sm_wp X 86 4 [some (.ref 31), some (.int x1), some (.int 0), some (.int 0)] [] (sM mo G I J) Q) :=
  (sm_blk X 86 0 (tt_lin 86 (by decide)) rfl rfl _ _ _ _).trans rfl
set_option maxRecDepth 100000 in
theorem bk_86_4 (X : (Nat → Int32) × Nat) (mo : Bool) (G : Nat × Nat) (I : Nat → Nat → Int32) (J : Nat → Nat → Int64) (Q : Option Value → sm_M → Prop) (x1 : Int32) (x2 : Int32) (x3 : Int32) :
    sm_wp X 86 4 [some (.ref 31), some (.int x1), some (.int x2), some (.int x3)] [] (sM mo G I J) Q =
    (if (I 31 0 : Int32) ≤ (x3 : Int32) then sm_wp X 86 53 [some (.ref 31), some (.int x1), some (.int x2), some (.int x3)] [] (sM mo G I J) Q else (sm_wp X 82 0 [some (.ref 31), some (.int x3), none] [] (sM mo G I J) (fun v M => sm_wp X 86 17 [some (.ref 31), some (.int x1), some (.int x2), some (.int x3)] (v.toList ++ []) M Q))) :=
  (sm_blk X 86 4 (tt_lin 86 (by decide)) rfl rfl _ _ _ _).trans rfl
set_option maxRecDepth 100000 in
theorem bk_86_17 (X : (Nat → Int32) × Nat) (mo : Bool) (G : Nat × Nat) (I : Nat → Nat → Int32) (J : Nat → Nat → Int64) (Q : Option Value → sm_M → Prop) (x1 : Int32) (x2 : Int32) (x3 : Int32) (s0 : Int32) :
    sm_wp X 86 17 [some (.ref 31), some (.int x1), some (.int x2), some (.int x3)] [.int s0] (sM mo G I J) Q =
    (if (s0 : Int32) = 0 then sm_wp X 86 47 [some (.ref 31), some (.int x1), some (.int x2), some (.int x3)] [] (sM mo G I J) Q else (sm_wp X 72 0 [some (.ref 31), some (.int x3)] [] (sM mo G I J) (fun v M => sm_wp X 86 25 [some (.ref 31), some (.int x1), some (.int x2), some (.int x3)] (v.toList ++ []) M Q))) :=
  (sm_blk X 86 17 (tt_lin 86 (by decide)) rfl rfl _ _ _ _).trans rfl
set_option maxRecDepth 100000 in
theorem bk_86_25 (X : (Nat → Int32) × Nat) (mo : Bool) (G : Nat × Nat) (I : Nat → Nat → Int32) (J : Nat → Nat → Int64) (Q : Option Value → sm_M → Prop) (x1 : Int32) (x2 : Int32) (x3 : Int32) (s0 : Int32) :
    sm_wp X 86 25 [some (.ref 31), some (.int x1), some (.int x2), some (.int x3)] [.int s0] (sM mo G I J) Q =
    (if (s0 : Int32) = (x1 : Int32) then sm_wp X 86 38 [some (.ref 31), some (.int x1), some (.int x2), some (.int x3)] [] (sM mo G I J) Q else (sm_wp X 73 0 [some (.ref 31), some (.int x3)] [] (sM mo G I J) (fun v M => sm_wp X 86 34 [some (.ref 31), some (.int x1), some (.int x2), some (.int x3)] (v.toList ++ []) M Q))) :=
  (sm_blk X 86 25 (tt_lin 86 (by decide)) rfl rfl _ _ _ _).trans rfl
set_option maxRecDepth 100000 in
theorem bk_86_34 (X : (Nat → Int32) × Nat) (mo : Bool) (G : Nat × Nat) (I : Nat → Nat → Int32) (J : Nat → Nat → Int64) (Q : Option Value → sm_M → Prop) (x1 : Int32) (x2 : Int32) (x3 : Int32) (s0 : Int32) :
    sm_wp X 86 34 [some (.ref 31), some (.int x1), some (.int x2), some (.int x3)] [.int s0] (sM mo G I J) Q =
    (if ¬ (s0 : Int32) = (x1 : Int32) then sm_wp X 86 47 [some (.ref 31), some (.int x1), some (.int x2), some (.int x3)] [] (sM mo G I J) Q else (sm_wp X 74 0 [some (.ref 31), some (.int x3), some (.int 4)] [] (sM mo G I J) (fun v M => sm_wp X 86 44 [some (.ref 31), some (.int x1), some (.int x2), some (.int x3)] (v.toList ++ []) M Q))) :=
  (sm_blk X 86 34 (tt_lin 86 (by decide)) rfl rfl _ _ _ _).trans rfl
set_option maxRecDepth 100000 in
theorem bk_86_38 (X : (Nat → Int32) × Nat) (mo : Bool) (G : Nat × Nat) (I : Nat → Nat → Int32) (J : Nat → Nat → Int64) (Q : Option Value → sm_M → Prop) (x1 : Int32) (x2 : Int32) (x3 : Int32) :
    sm_wp X 86 38 [some (.ref 31), some (.int x1), some (.int x2), some (.int x3)] [] (sM mo G I J) Q =
    (sm_wp X 74 0 [some (.ref 31), some (.int x3), some (.int 4)] [] (sM mo G I J) (fun v M => sm_wp X 86 44 [some (.ref 31), some (.int x1), some (.int x2), some (.int x3)] (v.toList ++ []) M Q)) :=
  (sm_blk X 86 38 (tt_lin 86 (by decide)) rfl rfl _ _ _ _).trans rfl
set_option maxRecDepth 100000 in
theorem bk_86_44 (X : (Nat → Int32) × Nat) (mo : Bool) (G : Nat × Nat) (I : Nat → Nat → Int32) (J : Nat → Nat → Int64) (Q : Option Value → sm_M → Prop) (x1 : Int32) (x2 : Int32) (x3 : Int32) :
    sm_wp X 86 44 [some (.ref 31), some (.int x1), some (.int x2), some (.int x3)] [] (sM mo G I J) Q =
    (sm_wp X 86 4 [some (.ref 31), some (.int x1), some (.int (x2 + 1)), some (.int (x3 + 1))] [] (sM mo G I J) Q) :=
  (sm_blk X 86 44 (tt_lin 86 (by decide)) rfl rfl _ _ _ _).trans rfl
set_option maxRecDepth 100000 in
theorem bk_86_47 (X : (Nat → Int32) × Nat) (mo : Bool) (G : Nat × Nat) (I : Nat → Nat → Int32) (J : Nat → Nat → Int64) (Q : Option Value → sm_M → Prop) (x1 : Int32) (x2 : Int32) (x3 : Int32) :
    sm_wp X 86 47 [some (.ref 31), some (.int x1), some (.int x2), some (.int x3)] [] (sM mo G I J) Q =
    (sm_wp X 86 4 [some (.ref 31), some (.int x1), some (.int x2), some (.int (x3 + 1))] [] (sM mo G I J) Q) :=
  (sm_blk X 86 47 (tt_lin 86 (by decide)) rfl rfl _ _ _ _).trans rfl
set_option maxRecDepth 100000 in
theorem bk_86_53 (X : (Nat → Int32) × Nat) (mo : Bool) (G : Nat × Nat) (I : Nat → Nat → Int32) (J : Nat → Nat → Int64) (Q : Option Value → sm_M → Prop) (x1 : Int32) (x2 : Int32) (x3 : Int32) :
    sm_wp X 86 53 [some (.ref 31), some (.int x1), some (.int x2), some (.int x3)] [] (sM mo G I J) Q =
    (True ∧ Q (some (.int x2)) (sM mo G I J)) :=
  (sm_blk X 86 53 (tt_lin 86 (by decide)) rfl rfl _ _ _ _).trans rfl
end
section
set_option maxRecDepth 100000 in
theorem bk_47_0 (X : (Nat → Int32) × Nat) (mo : Bool) (G : Nat × Nat) (I : Nat → Nat → Int32) (J : Nat → Nat → Int64) (Q : Option Value → sm_M → Prop) (x1 : Int32) :
    sm_wp X 47 0 [some (.ref 16), some (.int x1), none] [] (sM mo G I J) Q =
    (sm_wp X 155 0 [some (.ref 14), some (.int x1)] [] (sM mo G (up2 (up2 (up2 (up2 (up2 (up2 (up2 (up2 (up2 I 16 0 0) 16 1 (-1)) 16 2 0) 16 3 0) 16 9 0) 16 10 0) 16 11 0) 16 12 0) 16 13 0) J) (fun v M => sm_wp X 47 53 [some (.ref 16), some (.int x1), none] (v.toList ++ []) M Q)) :=
  (sm_blk X 47 0 (tt_lin 47 (by decide)) rfl rfl _ _ _ _).trans rfl
set_option maxRecDepth 100000 in
theorem bk_47_53 (X : (Nat → Int32) × Nat) (mo : Bool) (G : Nat × Nat) (I : Nat → Nat → Int32) (J : Nat → Nat → Int64) (Q : Option Value → sm_M → Prop) (x1 : Int32) :
    sm_wp X 47 53 [some (.ref 16), some (.int x1), none] [] (sM mo G I J) Q =
    (sm_wp X 47 55 [some (.ref 16), some (.int x1), some (.int 0)] [] (sM mo G I J) Q) :=
  (sm_blk X 47 53 (tt_lin 47 (by decide)) rfl rfl _ _ _ _).trans rfl
set_option maxRecDepth 100000 in
theorem bk_47_55 (X : (Nat → Int32) × Nat) (mo : Bool) (G : Nat × Nat) (I : Nat → Nat → Int32) (J : Nat → Nat → Int64) (Q : Option Value → sm_M → Prop) (x1 : Int32) (x2 : Int32) :
    sm_wp X 47 55 [some (.ref 16), some (.int x1), some (.int x2)] [] (sM mo G I J) Q =
    (if (x1 : Int32) < (x2 : Int32) then sm_wp X 47 92 [some (.ref 16), some (.int x1), some (.int x2)] [] (sM mo G I J) Q else (if (I 16 10 : Int32) = (4 : Int32) then sm_wp X 47 92 [some (.ref 16), some (.int x1), some (.int x2)] [] (sM mo G I J) Q else (if ¬ (I 16 0 : Int32) = 0 then sm_wp X 47 92 [some (.ref 16), some (.int x1), some (.int x2)] [] (sM mo G I J) Q else (sm_wp X 156 0 [some (.ref 14), none] [] (sM mo G I J) (fun v M => sm_wp X 47 83 [some (.ref 16), some (.int x1), some (.int x2)] (v.toList ++ [.ref 16]) M Q))))) :=
  (sm_blk X 47 55 (tt_lin 47 (by decide)) rfl rfl _ _ _ _).trans rfl
set_option maxRecDepth 100000 in
theorem bk_47_83 (X : (Nat → Int32) × Nat) (mo : Bool) (G : Nat × Nat) (I : Nat → Nat → Int32) (J : Nat → Nat → Int64) (Q : Option Value → sm_M → Prop) (x1 : Int32) (x2 : Int32) (s1 : Int32) :
    sm_wp X 47 83 [some (.ref 16), some (.int x1), some (.int x2)] [.int s1, .ref 16] (sM mo G I J) Q =
    (sm_wp X 48 0 [some (.ref 16), some (.int s1)] [] (sM mo G I J) (fun v M => sm_wp X 47 86 [some (.ref 16), some (.int x1), some (.int x2)] (v.toList ++ []) M Q)) :=
  (sm_blk X 47 83 (tt_lin 47 (by decide)) rfl rfl _ _ _ _).trans rfl
set_option maxRecDepth 100000 in
theorem bk_47_86 (X : (Nat → Int32) × Nat) (mo : Bool) (G : Nat × Nat) (I : Nat → Nat → Int32) (J : Nat → Nat → Int64) (Q : Option Value → sm_M → Prop) (x1 : Int32) (x2 : Int32) :
    sm_wp X 47 86 [some (.ref 16), some (.int x1), some (.int x2)] [] (sM mo G I J) Q =
    (sm_wp X 47 55 [some (.ref 16), some (.int x1), some (.int (x2 + 1))] [] (sM mo G I J) Q) :=
  (sm_blk X 47 86 (tt_lin 47 (by decide)) rfl rfl _ _ _ _).trans rfl
set_option maxRecDepth 100000 in
theorem bk_47_92 (X : (Nat → Int32) × Nat) (mo : Bool) (G : Nat × Nat) (I : Nat → Nat → Int32) (J : Nat → Nat → Int64) (Q : Option Value → sm_M → Prop) (x1 : Int32) (x2 : Int32) :
    sm_wp X 47 92 [some (.ref 16), some (.int x1), some (.int x2)] [] (sM mo G I J) Q =
    (True ∧ Q none (sM mo G I J)) :=
  (sm_blk X 47 92 (tt_lin 47 (by decide)) rfl rfl _ _ _ _).trans rfl
set_option maxRecDepth 100000 in
theorem bk_48_0 (X : (Nat → Int32) × Nat) (mo : Bool) (G : Nat × Nat) (I : Nat → Nat → Int32) (J : Nat → Nat → Int64) (Q : Option Value → sm_M → Prop) (x1 : Int32) :
    sm_wp X 48 0 [some (.ref 16), some (.int x1)] [] (sM mo G I J) Q =
    (if ¬ (I 16 10 : Int32) = 0 then sm_wp X 48 15 [some (.ref 16), some (.int x1)] [] (sM mo G I J) Q else (sm_wp X 49 0 [some (.ref 16), some (.int x1)] [] (sM mo G I J) (fun v M => sm_wp X 48 12 [some (.ref 16), some (.int x1)] (v.toList ++ []) M Q))) :=
  (sm_blk X 48 0 (tt_lin 48 (by decide)) rfl rfl _ _ _ _).trans rfl
set_option maxRecDepth 100000 in
theorem bk_48_12 (X : (Nat → Int32) × Nat) (mo : Bool) (G : Nat × Nat) (I : Nat → Nat → Int32) (J : Nat → Nat → Int64) (Q : Option Value → sm_M → Prop) (x1 : Int32) :
    sm_wp X 48 12 [some (.ref 16), some (.int x1)] [] (sM mo G I J) Q =
    (sm_wp X 48 36 [some (.ref 16), some (.int x1)] [] (sM mo G I J) Q) :=
  (sm_blk X 48 12 (tt_lin 48 (by decide)) rfl rfl _ _ _ _).trans rfl
set_option maxRecDepth 100000 in
theorem bk_48_15 (X : (Nat → Int32) × Nat) (mo : Bool) (G : Nat × Nat) (I : Nat → Nat → Int32) (J : Nat → Nat → Int64) (Q : Option Value → sm_M → Prop) (x1 : Int32) :
    sm_wp X 48 15 [some (.ref 16), some (.int x1)] [] (sM mo G I J) Q =
    (if ¬ (I 16 10 : Int32) = (3 : Int32) then sm_wp X 48 31 [some (.ref 16), some (.int x1)] [] (sM mo G I J) Q else (sm_wp X 51 0 [some (.ref 16), some (.int x1)] [] (sM mo G I J) (fun v M => sm_wp X 48 28 [some (.ref 16), some (.int x1)] (v.toList ++ []) M Q))) :=
  (sm_blk X 48 15 (tt_lin 48 (by decide)) rfl rfl _ _ _ _).trans rfl
set_option maxRecDepth 100000 in
theorem bk_48_28 (X : (Nat → Int32) × Nat) (mo : Bool) (G : Nat × Nat) (I : Nat → Nat → Int32) (J : Nat → Nat → Int64) (Q : Option Value → sm_M → Prop) (x1 : Int32) :
    sm_wp X 48 28 [some (.ref 16), some (.int x1)] [] (sM mo G I J) Q =
    (sm_wp X 48 36 [some (.ref 16), some (.int x1)] [] (sM mo G I J) Q) :=
  (sm_blk X 48 28 (tt_lin 48 (by decide)) rfl rfl _ _ _ _).trans rfl
set_option maxRecDepth 100000 in
theorem bk_48_31 (X : (Nat → Int32) × Nat) (mo : Bool) (G : Nat × Nat) (I : Nat → Nat → Int32) (J : Nat → Nat → Int64) (Q : Option Value → sm_M → Prop) (x1 : Int32) :
    sm_wp X 48 31 [some (.ref 16), some (.int x1)] [] (sM mo G I J) Q =
    (sm_wp X 59 0 [some (.ref 16), some (.int x1)] [] (sM mo G I J) (fun v M => sm_wp X 48 36 [some (.ref 16), some (.int x1)] (v.toList ++ []) M Q)) :=
  (sm_blk X 48 31 (tt_lin 48 (by decide)) rfl rfl _ _ _ _).trans rfl
set_option maxRecDepth 100000 in
theorem bk_48_36 (X : (Nat → Int32) × Nat) (mo : Bool) (G : Nat × Nat) (I : Nat → Nat → Int32) (J : Nat → Nat → Int64) (Q : Option Value → sm_M → Prop) (x1 : Int32) :
    sm_wp X 48 36 [some (.ref 16), some (.int x1)] [] (sM mo G I J) Q =
    (True ∧ Q none (sM mo G I J)) :=
  (sm_blk X 48 36 (tt_lin 48 (by decide)) rfl rfl _ _ _ _).trans rfl
set_option maxRecDepth 100000 in
theorem bk_49_0 (X : (Nat → Int32) × Nat) (mo : Bool) (G : Nat × Nat) (I : Nat → Nat → Int32) (J : Nat → Nat → Int64) (Q : Option Value → sm_M → Prop) (x1 : Int32) :
    sm_wp X 49 0 [some (.ref 16), some (.int x1)] [] (sM mo G I J) Q =
    (if ¬ (x1 : Int32) = (34 : Int32) then sm_wp X 49 14 [some (.ref 16), some (.int x1)] [] (sM mo G I J) Q else (sm_wp X 49 85 [some (.ref 16), some (.int x1)] [] (sM mo G (up2 I 16 10 4) J) Q)) :=
  (sm_blk X 49 0 (tt_lin 49 (by decide)) rfl rfl _ _ _ _).trans rfl
set_option maxRecDepth 100000 in
theorem bk_49_14 (X : (Nat → Int32) × Nat) (mo : Bool) (G : Nat × Nat) (I : Nat → Nat → Int32) (J : Nat → Nat → Int64) (Q : Option Value → sm_M → Prop) (x1 : Int32) :
    sm_wp X 49 14 [some (.ref 16), some (.int x1)] [] (sM mo G I J) Q =
    (if (x1 : Int32) < 0 then sm_wp X 49 23 [some (.ref 16), some (.int x1)] [] (sM mo G I J) Q else (if (x1 : Int32) ≤ (3 : Int32) then sm_wp X 49 31 [some (.ref 16), some (.int x1)] [] (sM mo G I J) Q else (sm_wp X 50 0 [some (.ref 16), some (.int 1)] [] (sM mo G I J) (fun v M => sm_wp X 49 28 [some (.ref 16), some (.int x1)] (v.toList ++ []) M Q)))) :=
  (sm_blk X 49 14 (tt_lin 49 (by decide)) rfl rfl _ _ _ _).trans rfl
set_option maxRecDepth 100000 in
theorem bk_49_23 (X : (Nat → Int32) × Nat) (mo : Bool) (G : Nat × Nat) (I : Nat → Nat → Int32) (J : Nat → Nat → Int64) (Q : Option Value → sm_M → Prop) (x1 : Int32) :
    sm_wp X 49 23 [some (.ref 16), some (.int x1)] [] (sM mo G I J) Q =
    (sm_wp X 50 0 [some (.ref 16), some (.int 1)] [] (sM mo G I J) (fun v M => sm_wp X 49 28 [some (.ref 16), some (.int x1)] (v.toList ++ []) M Q)) :=
  (sm_blk X 49 23 (tt_lin 49 (by decide)) rfl rfl _ _ _ _).trans rfl
set_option maxRecDepth 100000 in
theorem bk_49_28 (X : (Nat → Int32) × Nat) (mo : Bool) (G : Nat × Nat) (I : Nat → Nat → Int32) (J : Nat → Nat → Int64) (Q : Option Value → sm_M → Prop) (x1 : Int32) :
    sm_wp X 49 28 [some (.ref 16), some (.int x1)] [] (sM mo G I J) Q =
    (sm_wp X 49 85 [some (.ref 16), some (.int x1)] [] (sM mo G I J) Q) :=
  (sm_blk X 49 28 (tt_lin 49 (by decide)) rfl rfl _ _ _ _).trans rfl
set_option maxRecDepth 100000 in
theorem bk_49_31 (X : (Nat → Int32) × Nat) (mo : Bool) (G : Nat × Nat) (I : Nat → Nat → Int32) (J : Nat → Nat → Int64) (Q : Option Value → sm_M → Prop) (x1 : Int32) :
    sm_wp X 49 31 [some (.ref 16), some (.int x1)] [] (sM mo G I J) Q =
    (if (I 16 2 : Int32) < 0 then sm_wp X 49 47 [some (.ref 16), some (.int x1)] [] (sM mo G I J) Q else (if (I 16 2 : Int32) < (16 : Int32) then sm_wp X 49 55 [some (.ref 16), some (.int x1)] [] (sM mo G I J) Q else (sm_wp X 50 0 [some (.ref 16), some (.int 2)] [] (sM mo G I J) (fun v M => sm_wp X 49 52 [some (.ref 16), some (.int x1)] (v.toList ++ []) M Q)))) :=
  (sm_blk X 49 31 (tt_lin 49 (by decide)) rfl rfl _ _ _ _).trans rfl
set_option maxRecDepth 100000 in
theorem bk_49_47 (X : (Nat → Int32) × Nat) (mo : Bool) (G : Nat × Nat) (I : Nat → Nat → Int32) (J : Nat → Nat → Int64) (Q : Option Value → sm_M → Prop) (x1 : Int32) :
    sm_wp X 49 47 [some (.ref 16), some (.int x1)] [] (sM mo G I J) Q =
    (sm_wp X 50 0 [some (.ref 16), some (.int 2)] [] (sM mo G I J) (fun v M => sm_wp X 49 52 [some (.ref 16), some (.int x1)] (v.toList ++ []) M Q)) :=
  (sm_blk X 49 47 (tt_lin 49 (by decide)) rfl rfl _ _ _ _).trans rfl
set_option maxRecDepth 100000 in
theorem bk_49_52 (X : (Nat → Int32) × Nat) (mo : Bool) (G : Nat × Nat) (I : Nat → Nat → Int32) (J : Nat → Nat → Int64) (Q : Option Value → sm_M → Prop) (x1 : Int32) :
    sm_wp X 49 52 [some (.ref 16), some (.int x1)] [] (sM mo G I J) Q =
    (sm_wp X 49 85 [some (.ref 16), some (.int x1)] [] (sM mo G I J) Q) :=
  (sm_blk X 49 52 (tt_lin 49 (by decide)) rfl rfl _ _ _ _).trans rfl
set_option maxRecDepth 100000 in
theorem bk_49_55 (X : (Nat → Int32) × Nat) (mo : Bool) (G : Nat × Nat) (I : Nat → Nat → Int32) (J : Nat → Nat → Int64) (Q : Option Value → sm_M → Prop) (x1 : Int32) :
    sm_wp X 49 55 [some (.ref 16), some (.int x1)] [] (sM mo G I J) Q =
    (vp_in (I 16 2) 16 ∧ (True ∧ Q none (sM mo G (up2 (up2 (up2 (up2 I 18 (I 16 2).toNatClampNeg x1) 16 2 (((up2 I 18 (I 16 2).toNatClampNeg x1) 16 2) + 1)) 16 13 0) 16 10 1) J))) :=
  (sm_blk X 49 55 (tt_lin 49 (by decide)) rfl rfl _ _ _ _).trans rfl
set_option maxRecDepth 100000 in
theorem bk_49_85 (X : (Nat → Int32) × Nat) (mo : Bool) (G : Nat × Nat) (I : Nat → Nat → Int32) (J : Nat → Nat → Int64) (Q : Option Value → sm_M → Prop) (x1 : Int32) :
    sm_wp X 49 85 [some (.ref 16), some (.int x1)] [] (sM mo G I J) Q =
    (True ∧ Q none (sM mo G I J)) :=
  (sm_blk X 49 85 (tt_lin 49 (by decide)) rfl rfl _ _ _ _).trans rfl
set_option maxRecDepth 100000 in
theorem bk_50_0 (X : (Nat → Int32) × Nat) (mo : Bool) (G : Nat × Nat) (I : Nat → Nat → Int32) (J : Nat → Nat → Int64) (Q : Option Value → sm_M → Prop) (x1 : Int32) :
    sm_wp X 50 0 [some (.ref 16), some (.int x1)] [] (sM mo G I J) Q =
    (True ∧ Q none (sM mo G (up2 (up2 I 16 0 x1) 16 1 ((up2 I 16 0 x1) 14 1)) J)) :=
  (sm_blk X 50 0 (tt_lin 50 (by decide)) rfl rfl _ _ _ _).trans rfl
set_option maxRecDepth 100000 in
theorem bk_51_0 (X : (Nat → Int32) × Nat) (mo : Bool) (G : Nat × Nat) (I : Nat → Nat → Int32) (J : Nat → Nat → Int64) (Q : Option Value → sm_M → Prop) (x1 : Int32) :
    sm_wp X 51 0 [some (.ref 16), some (.int x1)] [] (sM mo G I J) Q =
    (if (x1 : Int32) < (19 : Int32) then sm_wp X 51 21 [some (.ref 16), some (.int x1)] [] (sM mo G I J) Q else (if (23 : Int32) < (x1 : Int32) then sm_wp X 51 21 [some (.ref 16), some (.int x1)] [] (sM mo G I J) Q else (sm_wp X 52 0 [some (.ref 16), some (.int x1), some (.int 2)] [] (sM mo G I J) (fun v M => sm_wp X 51 18 [some (.ref 16), some (.int x1)] (v.toList ++ []) M Q)))) :=
  (sm_blk X 51 0 (tt_lin 51 (by decide)) rfl rfl _ _ _ _).trans rfl
set_option maxRecDepth 100000 in
theorem bk_51_18 (X : (Nat → Int32) × Nat) (mo : Bool) (G : Nat × Nat) (I : Nat → Nat → Int32) (J : Nat → Nat → Int64) (Q : Option Value → sm_M → Prop) (x1 : Int32) :
    sm_wp X 51 18 [some (.ref 16), some (.int x1)] [] (sM mo G I J) Q =
    (sm_wp X 51 178 [some (.ref 16), some (.int x1)] [] (sM mo G I J) Q) :=
  (sm_blk X 51 18 (tt_lin 51 (by decide)) rfl rfl _ _ _ _).trans rfl
set_option maxRecDepth 100000 in
theorem bk_51_21 (X : (Nat → Int32) × Nat) (mo : Bool) (G : Nat × Nat) (I : Nat → Nat → Int32) (J : Nat → Nat → Int64) (Q : Option Value → sm_M → Prop) (x1 : Int32) :
    sm_wp X 51 21 [some (.ref 16), some (.int x1)] [] (sM mo G I J) Q =
    (if (x1 : Int32) < (24 : Int32) then sm_wp X 51 71 [some (.ref 16), some (.int x1)] [] (sM mo G I J) Q else (if (29 : Int32) < (x1 : Int32) then sm_wp X 51 71 [some (.ref 16), some (.int x1)] [] (sM mo G I J) Q else (sm_wp X 169 0 [some (.int (I 16 13)), some (.int (I 16 12))] [] (sM mo G I J) (fun v M => sm_wp X 51 44 [some (.ref 16), some (.int x1)] (v.toList ++ []) M Q)))) :=
  (sm_blk X 51 21 (tt_lin 51 (by decide)) rfl rfl _ _ _ _).trans rfl
set_option maxRecDepth 100000 in
theorem bk_51_44 (X : (Nat → Int32) × Nat) (mo : Bool) (G : Nat × Nat) (I : Nat → Nat → Int32) (J : Nat → Nat → Int64) (Q : Option Value → sm_M → Prop) (x1 : Int32) (s0 : Int32) :
    sm_wp X 51 44 [some (.ref 16), some (.int x1)] [.int s0] (sM mo G I J) Q =
    (if ¬ (s0 : Int32) = 0 then sm_wp X 51 71 [some (.ref 16), some (.int x1)] [] (sM mo G I J) Q else (sm_wp X 52 0 [some (.ref 16), some (.int x1), some (.int 2)] [] (sM mo G (up2 I 16 13 ((I 16 13) ||| (1 <<< ((I 16 12) &&& 31)))) J) (fun v M => sm_wp X 51 68 [some (.ref 16), some (.int x1)] (v.toList ++ []) M Q))) :=
  (sm_blk X 51 44 (tt_lin 51 (by decide)) rfl rfl _ _ _ _).trans rfl
set_option maxRecDepth 100000 in
theorem bk_51_68 (X : (Nat → Int32) × Nat) (mo : Bool) (G : Nat × Nat) (I : Nat → Nat → Int32) (J : Nat → Nat → Int64) (Q : Option Value → sm_M → Prop) (x1 : Int32) :
    sm_wp X 51 68 [some (.ref 16), some (.int x1)] [] (sM mo G I J) Q =
    (sm_wp X 51 178 [some (.ref 16), some (.int x1)] [] (sM mo G I J) Q) :=
  (sm_blk X 51 68 (tt_lin 51 (by decide)) rfl rfl _ _ _ _).trans rfl
set_option maxRecDepth 100000 in
theorem bk_51_71 (X : (Nat → Int32) × Nat) (mo : Bool) (G : Nat × Nat) (I : Nat → Nat → Int32) (J : Nat → Nat → Int64) (Q : Option Value → sm_M → Prop) (x1 : Int32) :
    sm_wp X 51 71 [some (.ref 16), some (.int x1)] [] (sM mo G I J) Q =
    (if (x1 : Int32) = (5 : Int32) then sm_wp X 51 82 [some (.ref 16), some (.int x1)] [] (sM mo G I J) Q else (if ¬ (x1 : Int32) = (6 : Int32) then sm_wp X 51 108 [some (.ref 16), some (.int x1)] [] (sM mo G I J) Q else (sm_wp X 52 0 [some (.ref 16), some (.int x1), some (.int 1)] [] (sM mo G (up2 I 16 13 ((I 16 13) &&& ((1 <<< ((I 16 12) &&& 31)) ^^^ (-1)))) J) (fun v M => sm_wp X 51 105 [some (.ref 16), some (.int x1)] (v.toList ++ []) M Q)))) :=
  (sm_blk X 51 71 (tt_lin 51 (by decide)) rfl rfl _ _ _ _).trans rfl
set_option maxRecDepth 100000 in
theorem bk_51_82 (X : (Nat → Int32) × Nat) (mo : Bool) (G : Nat × Nat) (I : Nat → Nat → Int32) (J : Nat → Nat → Int64) (Q : Option Value → sm_M → Prop) (x1 : Int32) :
    sm_wp X 51 82 [some (.ref 16), some (.int x1)] [] (sM mo G I J) Q =
    (sm_wp X 52 0 [some (.ref 16), some (.int x1), some (.int 1)] [] (sM mo G (up2 I 16 13 ((I 16 13) &&& ((1 <<< ((I 16 12) &&& 31)) ^^^ (-1)))) J) (fun v M => sm_wp X 51 105 [some (.ref 16), some (.int x1)] (v.toList ++ []) M Q)) :=
  (sm_blk X 51 82 (tt_lin 51 (by decide)) rfl rfl _ _ _ _).trans rfl
set_option maxRecDepth 100000 in
theorem bk_51_105 (X : (Nat → Int32) × Nat) (mo : Bool) (G : Nat × Nat) (I : Nat → Nat → Int32) (J : Nat → Nat → Int64) (Q : Option Value → sm_M → Prop) (x1 : Int32) :
    sm_wp X 51 105 [some (.ref 16), some (.int x1)] [] (sM mo G I J) Q =
    (sm_wp X 51 178 [some (.ref 16), some (.int x1)] [] (sM mo G I J) Q) :=
  (sm_blk X 51 105 (tt_lin 51 (by decide)) rfl rfl _ _ _ _).trans rfl
set_option maxRecDepth 100000 in
theorem bk_51_108 (X : (Nat → Int32) × Nat) (mo : Bool) (G : Nat × Nat) (I : Nat → Nat → Int32) (J : Nat → Nat → Int64) (Q : Option Value → sm_M → Prop) (x1 : Int32) :
    sm_wp X 51 108 [some (.ref 16), some (.int x1)] [] (sM mo G I J) Q =
    (if ¬ (x1 : Int32) = (31 : Int32) then sm_wp X 51 153 [some (.ref 16), some (.int x1)] [] (sM mo G I J) Q else (if (I 16 12 : Int32) ≤ 0 then sm_wp X 51 153 [some (.ref 16), some (.int x1)] [] (sM mo G I J) Q else (sm_wp X 55 0 [some (.ref 16), some (.int 1)] [] (sM mo G I J) (fun v M => sm_wp X 51 126 [some (.ref 16), some (.int x1)] (v.toList ++ []) M Q)))) :=
  (sm_blk X 51 108 (tt_lin 51 (by decide)) rfl rfl _ _ _ _).trans rfl
set_option maxRecDepth 100000 in
theorem bk_51_126 (X : (Nat → Int32) × Nat) (mo : Bool) (G : Nat × Nat) (I : Nat → Nat → Int32) (J : Nat → Nat → Int64) (Q : Option Value → sm_M → Prop) (x1 : Int32) :
    sm_wp X 51 126 [some (.ref 16), some (.int x1)] [] (sM mo G I J) Q =
    (True ∧ (sm_wp X 51 178 [some (.ref 16), some (.int x1)] [] (sM mo G (up2 (up2 I 16 9 (if (0 : Int32) < (I 16 9) - 1 then (I 16 9) - 1 else 0)) 16 12 (((up2 I 16 9 (if (0 : Int32) < (I 16 9) - 1 then (I 16 9) - 1 else 0)) 16 12) - 1)) J) Q)) :=
  (sm_blk X 51 126 (tt_lin 51 (by decide)) rfl rfl _ _ _ _).trans rfl
set_option maxRecDepth 100000 in
theorem bk_51_153 (X : (Nat → Int32) × Nat) (mo : Bool) (G : Nat × Nat) (I : Nat → Nat → Int32) (J : Nat → Nat → Int64) (Q : Option Value → sm_M → Prop) (x1 : Int32) :
    sm_wp X 51 153 [some (.ref 16), some (.int x1)] [] (sM mo G I J) Q =
    (if ¬ (x1 : Int32) = (32 : Int32) then sm_wp X 51 173 [some (.ref 16), some (.int x1)] [] (sM mo G I J) Q else (if ¬ (I 16 12 : Int32) = 0 then sm_wp X 51 173 [some (.ref 16), some (.int x1)] [] (sM mo G I J) Q else (sm_wp X 58 0 [some (.ref 16)] [] (sM mo G I J) (fun v M => sm_wp X 51 170 [some (.ref 16), some (.int x1)] (v.toList ++ []) M Q)))) :=
  (sm_blk X 51 153 (tt_lin 51 (by decide)) rfl rfl _ _ _ _).trans rfl
set_option maxRecDepth 100000 in
theorem bk_51_170 (X : (Nat → Int32) × Nat) (mo : Bool) (G : Nat × Nat) (I : Nat → Nat → Int32) (J : Nat → Nat → Int64) (Q : Option Value → sm_M → Prop) (x1 : Int32) :
    sm_wp X 51 170 [some (.ref 16), some (.int x1)] [] (sM mo G I J) Q =
    (sm_wp X 51 178 [some (.ref 16), some (.int x1)] [] (sM mo G I J) Q) :=
  (sm_blk X 51 170 (tt_lin 51 (by decide)) rfl rfl _ _ _ _).trans rfl
set_option maxRecDepth 100000 in
theorem bk_51_173 (X : (Nat → Int32) × Nat) (mo : Bool) (G : Nat × Nat) (I : Nat → Nat → Int32) (J : Nat → Nat → Int64) (Q : Option Value → sm_M → Prop) (x1 : Int32) :
    sm_wp X 51 173 [some (.ref 16), some (.int x1)] [] (sM mo G I J) Q =
    (sm_wp X 50 0 [some (.ref 16), some (.int 1)] [] (sM mo G I J) (fun v M => sm_wp X 51 178 [some (.ref 16), some (.int x1)] (v.toList ++ []) M Q)) :=
  (sm_blk X 51 173 (tt_lin 51 (by decide)) rfl rfl _ _ _ _).trans rfl
set_option maxRecDepth 100000 in
theorem bk_51_178 (X : (Nat → Int32) × Nat) (mo : Bool) (G : Nat × Nat) (I : Nat → Nat → Int32) (J : Nat → Nat → Int64) (Q : Option Value → sm_M → Prop) (x1 : Int32) :
    sm_wp X 51 178 [some (.ref 16), some (.int x1)] [] (sM mo G I J) Q =
    (True ∧ Q none (sM mo G I J)) :=
  (sm_blk X 51 178 (tt_lin 51 (by decide)) rfl rfl _ _ _ _).trans rfl
set_option maxRecDepth 100000 in
theorem bk_52_0 (X : (Nat → Int32) × Nat) (mo : Bool) (G : Nat × Nat) (I : Nat → Nat → Int32) (J : Nat → Nat → Int64) (Q : Option Value → sm_M → Prop) (x1 : Int32) (x2 : Int32) :
    sm_wp X 52 0 [some (.ref 16), some (.int x1), some (.int x2)] [] (sM mo G I J) Q =
    (sm_wp X 53 0 [some (.ref 16)] [] (sM mo G I J) (fun v M => sm_wp X 52 4 [some (.ref 16), some (.int x1), some (.int x2)] (v.toList ++ []) M Q)) :=
  (sm_blk X 52 0 (tt_lin 52 (by decide)) rfl rfl _ _ _ _).trans rfl
set_option maxRecDepth 100000 in
theorem bk_52_4 (X : (Nat → Int32) × Nat) (mo : Bool) (G : Nat × Nat) (I : Nat → Nat → Int32) (J : Nat → Nat → Int64) (Q : Option Value → sm_M → Prop) (x1 : Int32) (x2 : Int32) (s0 : Int32) :
    sm_wp X 52 4 [some (.ref 16), some (.int x1), some (.int x2)] [.int s0] (sM mo G I J) Q =
    (if (s0 : Int32) = 0 then sm_wp X 52 25 [some (.ref 16), some (.int x1), some (.int x2)] [] (sM mo G I J) Q else (sm_wp X 54 0 [some (.int x1)] [] (sM mo G I J) (fun v M => sm_wp X 52 12 [some (.ref 16), some (.int x1), some (.int x2)] (v.toList ++ [.ref 16]) M Q))) :=
  (sm_blk X 52 4 (tt_lin 52 (by decide)) rfl rfl _ _ _ _).trans rfl
set_option maxRecDepth 100000 in
theorem bk_52_12 (X : (Nat → Int32) × Nat) (mo : Bool) (G : Nat × Nat) (I : Nat → Nat → Int32) (J : Nat → Nat → Int64) (Q : Option Value → sm_M → Prop) (x1 : Int32) (x2 : Int32) (s1 : Int32) :
    sm_wp X 52 12 [some (.ref 16), some (.int x1), some (.int x2)] [.int s1, .ref 16] (sM mo G I J) Q =
    (sm_wp X 55 0 [some (.ref 16), some (.int s1)] [] (sM mo G I J) (fun v M => sm_wp X 52 15 [some (.ref 16), some (.int x1), some (.int x2)] (v.toList ++ []) M Q)) :=
  (sm_blk X 52 12 (tt_lin 52 (by decide)) rfl rfl _ _ _ _).trans rfl
set_option maxRecDepth 100000 in
theorem bk_52_15 (X : (Nat → Int32) × Nat) (mo : Bool) (G : Nat × Nat) (I : Nat → Nat → Int32) (J : Nat → Nat → Int64) (Q : Option Value → sm_M → Prop) (x1 : Int32) (x2 : Int32) :
    sm_wp X 52 15 [some (.ref 16), some (.int x1), some (.int x2)] [] (sM mo G I J) Q =
    (sm_wp X 57 0 [some (.ref 16), some (.int x1)] [] (sM mo G I J) (fun v M => sm_wp X 52 20 [some (.ref 16), some (.int x1), some (.int x2)] (v.toList ++ []) M Q)) :=
  (sm_blk X 52 15 (tt_lin 52 (by decide)) rfl rfl _ _ _ _).trans rfl
set_option maxRecDepth 100000 in
theorem bk_52_20 (X : (Nat → Int32) × Nat) (mo : Bool) (G : Nat × Nat) (I : Nat → Nat → Int32) (J : Nat → Nat → Int64) (Q : Option Value → sm_M → Prop) (x1 : Int32) (x2 : Int32) :
    sm_wp X 52 20 [some (.ref 16), some (.int x1), some (.int x2)] [] (sM mo G I J) Q =
    (True ∧ Q none (sM mo G (up2 I 16 10 x2) J)) :=
  (sm_blk X 52 20 (tt_lin 52 (by decide)) rfl rfl _ _ _ _).trans rfl
set_option maxRecDepth 100000 in
theorem bk_52_25 (X : (Nat → Int32) × Nat) (mo : Bool) (G : Nat × Nat) (I : Nat → Nat → Int32) (J : Nat → Nat → Int64) (Q : Option Value → sm_M → Prop) (x1 : Int32) (x2 : Int32) :
    sm_wp X 52 25 [some (.ref 16), some (.int x1), some (.int x2)] [] (sM mo G I J) Q =
    (True ∧ Q none (sM mo G I J)) :=
  (sm_blk X 52 25 (tt_lin 52 (by decide)) rfl rfl _ _ _ _).trans rfl
set_option maxRecDepth 100000 in
theorem bk_53_0 (X : (Nat → Int32) × Nat) (mo : Bool) (G : Nat × Nat) (I : Nat → Nat → Int32) (J : Nat → Nat → Int64) (Q : Option Value → sm_M → Prop)  :
    sm_wp X 53 0 [some (.ref 16)] [] (sM mo G I J) Q =
    (if (I 16 11 : Int32) < (64 : Int32) then sm_wp X 53 16 [some (.ref 16)] [] (sM mo G I J) Q else (sm_wp X 50 0 [some (.ref 16), some (.int 2)] [] (sM mo G I J) (fun v M => sm_wp X 53 14 [some (.ref 16)] (v.toList ++ []) M Q))) :=
  (sm_blk X 53 0 (tt_lin 53 (by decide)) rfl rfl _ _ _ _).trans rfl
set_option maxRecDepth 100000 in
theorem bk_53_14 (X : (Nat → Int32) × Nat) (mo : Bool) (G : Nat × Nat) (I : Nat → Nat → Int32) (J : Nat → Nat → Int64) (Q : Option Value → sm_M → Prop)  :
    sm_wp X 53 14 [some (.ref 16)] [] (sM mo G I J) Q =
    (sm_zb 0 ∧ Q (some (.int 0)) (sM mo G I J)) :=
  (sm_blk X 53 14 (tt_lin 53 (by decide)) rfl rfl _ _ _ _).trans rfl
set_option maxRecDepth 100000 in
theorem bk_53_16 (X : (Nat → Int32) × Nat) (mo : Bool) (G : Nat × Nat) (I : Nat → Nat → Int32) (J : Nat → Nat → Int64) (Q : Option Value → sm_M → Prop)  :
    sm_wp X 53 16 [some (.ref 16)] [] (sM mo G I J) Q =
    (sm_zb 1 ∧ Q (some (.int 1)) (sM mo G (up2 I 16 11 ((I 16 11) + 1)) J)) :=
  (sm_blk X 53 16 (tt_lin 53 (by decide)) rfl rfl _ _ _ _).trans rfl
set_option maxRecDepth 100000 in
theorem bk_54_0 (X : (Nat → Int32) × Nat) (mo : Bool) (G : Nat × Nat) (I : Nat → Nat → Int32) (J : Nat → Nat → Int64) (Q : Option Value → sm_M → Prop) (x0 : Int32) :
    sm_wp X 54 0 [some (.int x0)] [] (sM mo G I J) Q =
    (if (x0 : Int32) = 4 then sm_wp X 54 142 [some (.int x0)] [] (sM mo G I J) Q else if (x0 : Int32) = 5 then sm_wp X 54 140 [some (.int x0)] [] (sM mo G I J) Q else if (x0 : Int32) = 6 then sm_wp X 54 138 [some (.int x0)] [] (sM mo G I J) Q else if (x0 : Int32) = 7 then sm_wp X 54 152 [some (.int x0)] [] (sM mo G I J) Q else if (x0 : Int32) = 8 then sm_wp X 54 152 [some (.int x0)] [] (sM mo G I J) Q else if (x0 : Int32) = 9 then sm_wp X 54 152 [some (.int x0)] [] (sM mo G I J) Q else if (x0 : Int32) = 10 then sm_wp X 54 152 [some (.int x0)] [] (sM mo G I J) Q else if (x0 : Int32) = 11 then sm_wp X 54 152 [some (.int x0)] [] (sM mo G I J) Q else if (x0 : Int32) = 12 then sm_wp X 54 152 [some (.int x0)] [] (sM mo G I J) Q else if (x0 : Int32) = 13 then sm_wp X 54 152 [some (.int x0)] [] (sM mo G I J) Q else if (x0 : Int32) = 14 then sm_wp X 54 152 [some (.int x0)] [] (sM mo G I J) Q else if (x0 : Int32) = 15 then sm_wp X 54 152 [some (.int x0)] [] (sM mo G I J) Q else if (x0 : Int32) = 16 then sm_wp X 54 152 [some (.int x0)] [] (sM mo G I J) Q else if (x0 : Int32) = 17 then sm_wp X 54 152 [some (.int x0)] [] (sM mo G I J) Q else if (x0 : Int32) = 18 then sm_wp X 54 152 [some (.int x0)] [] (sM mo G I J) Q else if (x0 : Int32) = 19 then sm_wp X 54 144 [some (.int x0)] [] (sM mo G I J) Q else if (x0 : Int32) = 20 then sm_wp X 54 144 [some (.int x0)] [] (sM mo G I J) Q else if (x0 : Int32) = 21 then sm_wp X 54 146 [some (.int x0)] [] (sM mo G I J) Q else if (x0 : Int32) = 22 then sm_wp X 54 146 [some (.int x0)] [] (sM mo G I J) Q else if (x0 : Int32) = 23 then sm_wp X 54 146 [some (.int x0)] [] (sM mo G I J) Q else if (x0 : Int32) = 24 then sm_wp X 54 152 [some (.int x0)] [] (sM mo G I J) Q else if (x0 : Int32) = 25 then sm_wp X 54 152 [some (.int x0)] [] (sM mo G I J) Q else if (x0 : Int32) = 26 then sm_wp X 54 152 [some (.int x0)] [] (sM mo G I J) Q else if (x0 : Int32) = 27 then sm_wp X 54 152 [some (.int x0)] [] (sM mo G I J) Q else if (x0 : Int32) = 28 then sm_wp X 54 152 [some (.int x0)] [] (sM mo G I J) Q else if (x0 : Int32) = 29 then sm_wp X 54 152 [some (.int x0)] [] (sM mo G I J) Q else if (x0 : Int32) = 30 then sm_wp X 54 136 [some (.int x0)] [] (sM mo G I J) Q else if (x0 : Int32) = 31 then sm_wp X 54 152 [some (.int x0)] [] (sM mo G I J) Q else if (x0 : Int32) = 32 then sm_wp X 54 152 [some (.int x0)] [] (sM mo G I J) Q else if (x0 : Int32) = 33 then sm_wp X 54 149 [some (.int x0)] [] (sM mo G I J) Q else sm_wp X 54 152 [some (.int x0)] [] (sM mo G I J) Q) :=
  (sm_blk X 54 0 (tt_lin 54 (by decide)) rfl rfl _ _ _ _).trans rfl
set_option maxRecDepth 100000 in
theorem bk_54_136 (X : (Nat → Int32) × Nat) (mo : Bool) (G : Nat × Nat) (I : Nat → Nat → Int32) (J : Nat → Nat → Int64) (Q : Option Value → sm_M → Prop) (x0 : Int32) :
    sm_wp X 54 136 [some (.int x0)] [] (sM mo G I J) Q =
    (True ∧ Q (some (.int 0)) (sM mo G I J)) :=
  (sm_blk X 54 136 (tt_lin 54 (by decide)) rfl rfl _ _ _ _).trans rfl
set_option maxRecDepth 100000 in
theorem bk_54_138 (X : (Nat → Int32) × Nat) (mo : Bool) (G : Nat × Nat) (I : Nat → Nat → Int32) (J : Nat → Nat → Int64) (Q : Option Value → sm_M → Prop) (x0 : Int32) :
    sm_wp X 54 138 [some (.int x0)] [] (sM mo G I J) Q =
    (True ∧ Q (some (.int 1)) (sM mo G I J)) :=
  (sm_blk X 54 138 (tt_lin 54 (by decide)) rfl rfl _ _ _ _).trans rfl
set_option maxRecDepth 100000 in
theorem bk_54_140 (X : (Nat → Int32) × Nat) (mo : Bool) (G : Nat × Nat) (I : Nat → Nat → Int32) (J : Nat → Nat → Int64) (Q : Option Value → sm_M → Prop) (x0 : Int32) :
    sm_wp X 54 140 [some (.int x0)] [] (sM mo G I J) Q =
    (True ∧ Q (some (.int 2)) (sM mo G I J)) :=
  (sm_blk X 54 140 (tt_lin 54 (by decide)) rfl rfl _ _ _ _).trans rfl
set_option maxRecDepth 100000 in
theorem bk_54_142 (X : (Nat → Int32) × Nat) (mo : Bool) (G : Nat × Nat) (I : Nat → Nat → Int32) (J : Nat → Nat → Int64) (Q : Option Value → sm_M → Prop) (x0 : Int32) :
    sm_wp X 54 142 [some (.int x0)] [] (sM mo G I J) Q =
    (True ∧ Q (some (.int 3)) (sM mo G I J)) :=
  (sm_blk X 54 142 (tt_lin 54 (by decide)) rfl rfl _ _ _ _).trans rfl
set_option maxRecDepth 100000 in
theorem bk_54_144 (X : (Nat → Int32) × Nat) (mo : Bool) (G : Nat × Nat) (I : Nat → Nat → Int32) (J : Nat → Nat → Int64) (Q : Option Value → sm_M → Prop) (x0 : Int32) :
    sm_wp X 54 144 [some (.int x0)] [] (sM mo G I J) Q =
    (True ∧ Q (some (.int 5)) (sM mo G I J)) :=
  (sm_blk X 54 144 (tt_lin 54 (by decide)) rfl rfl _ _ _ _).trans rfl
set_option maxRecDepth 100000 in
theorem bk_54_146 (X : (Nat → Int32) × Nat) (mo : Bool) (G : Nat × Nat) (I : Nat → Nat → Int32) (J : Nat → Nat → Int64) (Q : Option Value → sm_M → Prop) (x0 : Int32) :
    sm_wp X 54 146 [some (.int x0)] [] (sM mo G I J) Q =
    (True ∧ Q (some (.int 6)) (sM mo G I J)) :=
  (sm_blk X 54 146 (tt_lin 54 (by decide)) rfl rfl _ _ _ _).trans rfl
set_option maxRecDepth 100000 in
theorem bk_54_149 (X : (Nat → Int32) × Nat) (mo : Bool) (G : Nat × Nat) (I : Nat → Nat → Int32) (J : Nat → Nat → Int64) (Q : Option Value → sm_M → Prop) (x0 : Int32) :
    sm_wp X 54 149 [some (.int x0)] [] (sM mo G I J) Q =
    (True ∧ Q (some (.int 7)) (sM mo G I J)) :=
  (sm_blk X 54 149 (tt_lin 54 (by decide)) rfl rfl _ _ _ _).trans rfl
set_option maxRecDepth 100000 in
theorem bk_54_152 (X : (Nat → Int32) × Nat) (mo : Bool) (G : Nat × Nat) (I : Nat → Nat → Int32) (J : Nat → Nat → Int64) (Q : Option Value → sm_M → Prop) (x0 : Int32) :
    sm_wp X 54 152 [some (.int x0)] [] (sM mo G I J) Q =
    (True ∧ Q (some (.int 4)) (sM mo G I J)) :=
  (sm_blk X 54 152 (tt_lin 54 (by decide)) rfl rfl _ _ _ _).trans rfl
set_option maxRecDepth 100000 in
theorem bk_55_0 (X : (Nat → Int32) × Nat) (mo : Bool) (G : Nat × Nat) (I : Nat → Nat → Int32) (J : Nat → Nat → Int64) (Q : Option Value → sm_M → Prop) (x1 : Int32) :
    sm_wp X 55 0 [some (.ref 16), some (.int x1)] [] (sM mo G I J) Q =
    (if (I 16 9 : Int32) ≤ 0 then sm_wp X 55 60 [some (.ref 16), some (.int x1)] [] (sM mo G I J) Q else (if (72 : Int32) < (I 16 9 : Int32) then sm_wp X 55 60 [some (.ref 16), some (.int x1)] [] (sM mo G I J) Q else (vp_in ((I 16 9) - 1) 72 ∧ (sm_wp X 54 0 [some (.int (I 20 (((I 16 9) - 1).toNatClampNeg)))] [] (sM mo G I J) (fun v M => sm_wp X 55 30 [some (.ref 16), some (.int x1)] (v.toList ++ []) M Q))))) :=
  (sm_blk X 55 0 (tt_lin 55 (by decide)) rfl rfl _ _ _ _).trans rfl
set_option maxRecDepth 100000 in
theorem bk_55_30 (X : (Nat → Int32) × Nat) (mo : Bool) (G : Nat × Nat) (I : Nat → Nat → Int32) (J : Nat → Nat → Int64) (Q : Option Value → sm_M → Prop) (x1 : Int32) (s0 : Int32) :
    sm_wp X 55 30 [some (.ref 16), some (.int x1)] [.int s0] (sM mo G I J) Q =
    (if (s0 : Int32) < (x1 : Int32) then sm_wp X 55 60 [some (.ref 16), some (.int x1)] [] (sM mo G I J) Q else (vp_in ((up2 I 16 9 ((I 16 9) - 1)) 16 9) 72 ∧ (sm_wp X 56 0 [some (.ref 16), some (.int ((up2 I 16 9 ((I 16 9) - 1)) 20 (((up2 I 16 9 ((I 16 9) - 1)) 16 9).toNatClampNeg)))] [] (sM mo G (up2 I 16 9 ((I 16 9) - 1)) J) (fun v M => sm_wp X 55 57 [some (.ref 16), some (.int x1)] (v.toList ++ []) M Q)))) :=
  (sm_blk X 55 30 (tt_lin 55 (by decide)) rfl rfl _ _ _ _).trans rfl
set_option maxRecDepth 100000 in
theorem bk_55_57 (X : (Nat → Int32) × Nat) (mo : Bool) (G : Nat × Nat) (I : Nat → Nat → Int32) (J : Nat → Nat → Int64) (Q : Option Value → sm_M → Prop) (x1 : Int32) :
    sm_wp X 55 57 [some (.ref 16), some (.int x1)] [] (sM mo G I J) Q =
    (sm_wp X 55 0 [some (.ref 16), some (.int x1)] [] (sM mo G I J) Q) :=
  (sm_blk X 55 57 (tt_lin 55 (by decide)) rfl rfl _ _ _ _).trans rfl
set_option maxRecDepth 100000 in
theorem bk_55_60 (X : (Nat → Int32) × Nat) (mo : Bool) (G : Nat × Nat) (I : Nat → Nat → Int32) (J : Nat → Nat → Int64) (Q : Option Value → sm_M → Prop) (x1 : Int32) :
    sm_wp X 55 60 [some (.ref 16), some (.int x1)] [] (sM mo G I J) Q =
    (True ∧ Q none (sM mo G I J)) :=
  (sm_blk X 55 60 (tt_lin 55 (by decide)) rfl rfl _ _ _ _).trans rfl
set_option maxRecDepth 100000 in
theorem bk_56_0 (X : (Nat → Int32) × Nat) (mo : Bool) (G : Nat × Nat) (I : Nat → Nat → Int32) (J : Nat → Nat → Int64) (Q : Option Value → sm_M → Prop) (x1 : Int32) :
    sm_wp X 56 0 [some (.ref 16), some (.int x1)] [] (sM mo G I J) Q =
    (if (I 16 3 : Int32) < 0 then sm_wp X 56 36 [some (.ref 16), some (.int x1)] [] (sM mo G I J) Q else (if (64 : Int32) ≤ (I 16 3 : Int32) then sm_wp X 56 36 [some (.ref 16), some (.int x1)] [] (sM mo G I J) Q else (vp_in (I 16 3) 64 ∧ (True ∧ Q none (sM mo G (up2 (up2 I 17 (I 16 3).toNatClampNeg x1) 16 3 (((up2 I 17 (I 16 3).toNatClampNeg x1) 16 3) + 1)) J))))) :=
  (sm_blk X 56 0 (tt_lin 56 (by decide)) rfl rfl _ _ _ _).trans rfl
set_option maxRecDepth 100000 in
theorem bk_56_36 (X : (Nat → Int32) × Nat) (mo : Bool) (G : Nat × Nat) (I : Nat → Nat → Int32) (J : Nat → Nat → Int64) (Q : Option Value → sm_M → Prop) (x1 : Int32) :
    sm_wp X 56 36 [some (.ref 16), some (.int x1)] [] (sM mo G I J) Q =
    (True ∧ Q none (sM mo G I J)) :=
  (sm_blk X 56 36 (tt_lin 56 (by decide)) rfl rfl _ _ _ _).trans rfl
set_option maxRecDepth 100000 in
theorem bk_57_0 (X : (Nat → Int32) × Nat) (mo : Bool) (G : Nat × Nat) (I : Nat → Nat → Int32) (J : Nat → Nat → Int64) (Q : Option Value → sm_M → Prop) (x1 : Int32) :
    sm_wp X 57 0 [some (.ref 16), some (.int x1)] [] (sM mo G I J) Q =
    (if (I 16 9 : Int32) < 0 then sm_wp X 57 36 [some (.ref 16), some (.int x1)] [] (sM mo G I J) Q else (if (72 : Int32) ≤ (I 16 9 : Int32) then sm_wp X 57 36 [some (.ref 16), some (.int x1)] [] (sM mo G I J) Q else (vp_in (I 16 9) 72 ∧ (True ∧ Q none (sM mo G (up2 (up2 I 20 (I 16 9).toNatClampNeg x1) 16 9 (((up2 I 20 (I 16 9).toNatClampNeg x1) 16 9) + 1)) J))))) :=
  (sm_blk X 57 0 (tt_lin 57 (by decide)) rfl rfl _ _ _ _).trans rfl
set_option maxRecDepth 100000 in
theorem bk_57_36 (X : (Nat → Int32) × Nat) (mo : Bool) (G : Nat × Nat) (I : Nat → Nat → Int32) (J : Nat → Nat → Int64) (Q : Option Value → sm_M → Prop) (x1 : Int32) :
    sm_wp X 57 36 [some (.ref 16), some (.int x1)] [] (sM mo G I J) Q =
    (True ∧ Q none (sM mo G I J)) :=
  (sm_blk X 57 36 (tt_lin 57 (by decide)) rfl rfl _ _ _ _).trans rfl
set_option maxRecDepth 100000 in
theorem bk_58_0 (X : (Nat → Int32) × Nat) (mo : Bool) (G : Nat × Nat) (I : Nat → Nat → Int32) (J : Nat → Nat → Int64) (Q : Option Value → sm_M → Prop)  :
    sm_wp X 58 0 [some (.ref 16)] [] (sM mo G I J) Q =
    (sm_wp X 55 0 [some (.ref 16), some (.int 1)] [] (sM mo G I J) (fun v M => sm_wp X 58 5 [some (.ref 16)] (v.toList ++ []) M Q)) :=
  (sm_blk X 58 0 (tt_lin 58 (by decide)) rfl rfl _ _ _ _).trans rfl
set_option maxRecDepth 100000 in
theorem bk_58_5 (X : (Nat → Int32) × Nat) (mo : Bool) (G : Nat × Nat) (I : Nat → Nat → Int32) (J : Nat → Nat → Int64) (Q : Option Value → sm_M → Prop)  :
    sm_wp X 58 5 [some (.ref 16)] [] (sM mo G I J) Q =
    (if (I 16 2 : Int32) < (1 : Int32) then sm_wp X 58 37 [some (.ref 16)] [] (sM mo G I J) Q else (if (16 : Int32) < (I 16 2 : Int32) then sm_wp X 58 37 [some (.ref 16)] [] (sM mo G I J) Q else (vp_in ((I 16 2) - 1) 16 ∧ (True ∧ Q none (sM mo G (up2 (up2 I 19 ((I 16 2) - 1).toNatClampNeg (I 16 3)) 16 10 0) J))))) :=
  (sm_blk X 58 5 (tt_lin 58 (by decide)) rfl rfl _ _ _ _).trans rfl
set_option maxRecDepth 100000 in
theorem bk_58_37 (X : (Nat → Int32) × Nat) (mo : Bool) (G : Nat × Nat) (I : Nat → Nat → Int32) (J : Nat → Nat → Int64) (Q : Option Value → sm_M → Prop)  :
    sm_wp X 58 37 [some (.ref 16)] [] (sM mo G I J) Q =
    (True ∧ Q none (sM mo G (up2 I 16 10 0) J)) :=
  (sm_blk X 58 37 (tt_lin 58 (by decide)) rfl rfl _ _ _ _).trans rfl
set_option maxRecDepth 100000 in
theorem bk_59_0 (X : (Nat → Int32) × Nat) (mo : Bool) (G : Nat × Nat) (I : Nat → Nat → Int32) (J : Nat → Nat → Int64) (Q : Option Value → sm_M → Prop) (x1 : Int32) :
    sm_wp X 59 0 [some (.ref 16), some (.int x1)] [] (sM mo G I J) Q =
    (if ¬ (x1 : Int32) = (36 : Int32) then sm_wp X 59 13 [some (.ref 16), some (.int x1)] [] (sM mo G I J) Q else (sm_wp X 60 0 [some (.ref 16)] [] (sM mo G I J) (fun v M => sm_wp X 59 10 [some (.ref 16), some (.int x1)] (v.toList ++ []) M Q))) :=
  (sm_blk X 59 0 (tt_lin 59 (by decide)) rfl rfl _ _ _ _).trans rfl
set_option maxRecDepth 100000 in
theorem bk_59_10 (X : (Nat → Int32) × Nat) (mo : Bool) (G : Nat × Nat) (I : Nat → Nat → Int32) (J : Nat → Nat → Int64) (Q : Option Value → sm_M → Prop) (x1 : Int32) :
    sm_wp X 59 10 [some (.ref 16), some (.int x1)] [] (sM mo G I J) Q =
    (sm_wp X 59 101 [some (.ref 16), some (.int x1)] [] (sM mo G I J) Q) :=
  (sm_blk X 59 10 (tt_lin 59 (by decide)) rfl rfl _ _ _ _).trans rfl
set_option maxRecDepth 100000 in
theorem bk_59_13 (X : (Nat → Int32) × Nat) (mo : Bool) (G : Nat × Nat) (I : Nat → Nat → Int32) (J : Nat → Nat → Int64) (Q : Option Value → sm_M → Prop) (x1 : Int32) :
    sm_wp X 59 13 [some (.ref 16), some (.int x1)] [] (sM mo G I J) Q =
    (if (x1 : Int32) < (7 : Int32) then sm_wp X 59 45 [some (.ref 16), some (.int x1)] [] (sM mo G I J) Q else (if (19 : Int32) ≤ (x1 : Int32) then sm_wp X 59 45 [some (.ref 16), some (.int x1)] [] (sM mo G I J) Q else (sm_wp X 53 0 [some (.ref 16)] [] (sM mo G I J) (fun v M => sm_wp X 59 29 [some (.ref 16), some (.int x1)] (v.toList ++ []) M Q)))) :=
  (sm_blk X 59 13 (tt_lin 59 (by decide)) rfl rfl _ _ _ _).trans rfl
set_option maxRecDepth 100000 in
theorem bk_59_29 (X : (Nat → Int32) × Nat) (mo : Bool) (G : Nat × Nat) (I : Nat → Nat → Int32) (J : Nat → Nat → Int64) (Q : Option Value → sm_M → Prop) (x1 : Int32) (s0 : Int32) :
    sm_wp X 59 29 [some (.ref 16), some (.int x1)] [.int s0] (sM mo G I J) Q =
    (if (s0 : Int32) = 0 then sm_wp X 59 101 [some (.ref 16), some (.int x1)] [] (sM mo G I J) Q else (sm_wp X 56 0 [some (.ref 16), some (.int x1)] [] (sM mo G I J) (fun v M => sm_wp X 59 37 [some (.ref 16), some (.int x1)] (v.toList ++ []) M Q))) :=
  (sm_blk X 59 29 (tt_lin 59 (by decide)) rfl rfl _ _ _ _).trans rfl
set_option maxRecDepth 100000 in
theorem bk_59_37 (X : (Nat → Int32) × Nat) (mo : Bool) (G : Nat × Nat) (I : Nat → Nat → Int32) (J : Nat → Nat → Int64) (Q : Option Value → sm_M → Prop) (x1 : Int32) :
    sm_wp X 59 37 [some (.ref 16), some (.int x1)] [] (sM mo G I J) Q =
    (sm_wp X 59 101 [some (.ref 16), some (.int x1)] [] (sM mo G (up2 I 16 10 3) J) Q) :=
  (sm_blk X 59 37 (tt_lin 59 (by decide)) rfl rfl _ _ _ _).trans rfl
set_option maxRecDepth 100000 in
theorem bk_59_45 (X : (Nat → Int32) × Nat) (mo : Bool) (G : Nat × Nat) (I : Nat → Nat → Int32) (J : Nat → Nat → Int64) (Q : Option Value → sm_M → Prop) (x1 : Int32) :
    sm_wp X 59 45 [some (.ref 16), some (.int x1)] [] (sM mo G I J) Q =
    (if ¬ (x1 : Int32) = (30 : Int32) then sm_wp X 59 58 [some (.ref 16), some (.int x1)] [] (sM mo G I J) Q else (sm_wp X 61 0 [some (.ref 16)] [] (sM mo G I J) (fun v M => sm_wp X 59 55 [some (.ref 16), some (.int x1)] (v.toList ++ []) M Q))) :=
  (sm_blk X 59 45 (tt_lin 59 (by decide)) rfl rfl _ _ _ _).trans rfl
set_option maxRecDepth 100000 in
theorem bk_59_55 (X : (Nat → Int32) × Nat) (mo : Bool) (G : Nat × Nat) (I : Nat → Nat → Int32) (J : Nat → Nat → Int64) (Q : Option Value → sm_M → Prop) (x1 : Int32) :
    sm_wp X 59 55 [some (.ref 16), some (.int x1)] [] (sM mo G I J) Q =
    (sm_wp X 59 101 [some (.ref 16), some (.int x1)] [] (sM mo G I J) Q) :=
  (sm_blk X 59 55 (tt_lin 59 (by decide)) rfl rfl _ _ _ _).trans rfl
set_option maxRecDepth 100000 in
theorem bk_59_58 (X : (Nat → Int32) × Nat) (mo : Bool) (G : Nat × Nat) (I : Nat → Nat → Int32) (J : Nat → Nat → Int64) (Q : Option Value → sm_M → Prop) (x1 : Int32) :
    sm_wp X 59 58 [some (.ref 16), some (.int x1)] [] (sM mo G I J) Q =
    (if ¬ (x1 : Int32) = (20 : Int32) then sm_wp X 59 74 [some (.ref 16), some (.int x1)] [] (sM mo G I J) Q else (sm_wp X 62 0 [some (.ref 16), some (.int 33), some (.int 2)] [] (sM mo G I J) (fun v M => sm_wp X 59 71 [some (.ref 16), some (.int x1)] (v.toList ++ []) M Q))) :=
  (sm_blk X 59 58 (tt_lin 59 (by decide)) rfl rfl _ _ _ _).trans rfl
set_option maxRecDepth 100000 in
theorem bk_59_71 (X : (Nat → Int32) × Nat) (mo : Bool) (G : Nat × Nat) (I : Nat → Nat → Int32) (J : Nat → Nat → Int64) (Q : Option Value → sm_M → Prop) (x1 : Int32) :
    sm_wp X 59 71 [some (.ref 16), some (.int x1)] [] (sM mo G I J) Q =
    (sm_wp X 59 101 [some (.ref 16), some (.int x1)] [] (sM mo G I J) Q) :=
  (sm_blk X 59 71 (tt_lin 59 (by decide)) rfl rfl _ _ _ _).trans rfl
set_option maxRecDepth 100000 in
theorem bk_59_74 (X : (Nat → Int32) × Nat) (mo : Bool) (G : Nat × Nat) (I : Nat → Nat → Int32) (J : Nat → Nat → Int64) (Q : Option Value → sm_M → Prop) (x1 : Int32) :
    sm_wp X 59 74 [some (.ref 16), some (.int x1)] [] (sM mo G I J) Q =
    (if ¬ (x1 : Int32) = (4 : Int32) then sm_wp X 59 96 [some (.ref 16), some (.int x1)] [] (sM mo G I J) Q else (if ¬ (I 16 10 : Int32) = (1 : Int32) then sm_wp X 59 96 [some (.ref 16), some (.int x1)] [] (sM mo G I J) Q else (sm_wp X 62 0 [some (.ref 16), some (.int 4), some (.int 1)] [] (sM mo G I J) (fun v M => sm_wp X 59 93 [some (.ref 16), some (.int x1)] (v.toList ++ []) M Q)))) :=
  (sm_blk X 59 74 (tt_lin 59 (by decide)) rfl rfl _ _ _ _).trans rfl
set_option maxRecDepth 100000 in
theorem bk_59_93 (X : (Nat → Int32) × Nat) (mo : Bool) (G : Nat × Nat) (I : Nat → Nat → Int32) (J : Nat → Nat → Int64) (Q : Option Value → sm_M → Prop) (x1 : Int32) :
    sm_wp X 59 93 [some (.ref 16), some (.int x1)] [] (sM mo G I J) Q =
    (sm_wp X 59 101 [some (.ref 16), some (.int x1)] [] (sM mo G I J) Q) :=
  (sm_blk X 59 93 (tt_lin 59 (by decide)) rfl rfl _ _ _ _).trans rfl
set_option maxRecDepth 100000 in
theorem bk_59_96 (X : (Nat → Int32) × Nat) (mo : Bool) (G : Nat × Nat) (I : Nat → Nat → Int32) (J : Nat → Nat → Int64) (Q : Option Value → sm_M → Prop) (x1 : Int32) :
    sm_wp X 59 96 [some (.ref 16), some (.int x1)] [] (sM mo G I J) Q =
    (sm_wp X 50 0 [some (.ref 16), some (.int 1)] [] (sM mo G I J) (fun v M => sm_wp X 59 101 [some (.ref 16), some (.int x1)] (v.toList ++ []) M Q)) :=
  (sm_blk X 59 96 (tt_lin 59 (by decide)) rfl rfl _ _ _ _).trans rfl
set_option maxRecDepth 100000 in
theorem bk_59_101 (X : (Nat → Int32) × Nat) (mo : Bool) (G : Nat × Nat) (I : Nat → Nat → Int32) (J : Nat → Nat → Int64) (Q : Option Value → sm_M → Prop) (x1 : Int32) :
    sm_wp X 59 101 [some (.ref 16), some (.int x1)] [] (sM mo G I J) Q =
    (True ∧ Q none (sM mo G I J)) :=
  (sm_blk X 59 101 (tt_lin 59 (by decide)) rfl rfl _ _ _ _).trans rfl
set_option maxRecDepth 100000 in
theorem bk_60_0 (X : (Nat → Int32) × Nat) (mo : Bool) (G : Nat × Nat) (I : Nat → Nat → Int32) (J : Nat → Nat → Int64) (Q : Option Value → sm_M → Prop)  :
    sm_wp X 60 0 [some (.ref 16)] [] (sM mo G I J) Q =
    (if (I 14 2 : Int32) ≤ (99999 : Int32) then sm_wp X 60 20 [some (.ref 16)] [] (sM mo G I J) Q else (sm_wp X 50 0 [some (.ref 16), some (.int 2)] [] (sM mo G I J) (fun v M => sm_wp X 60 17 [some (.ref 16)] (v.toList ++ []) M Q))) :=
  (sm_blk X 60 0 (tt_lin 60 (by decide)) rfl rfl _ _ _ _).trans rfl
set_option maxRecDepth 100000 in
theorem bk_60_17 (X : (Nat → Int32) × Nat) (mo : Bool) (G : Nat × Nat) (I : Nat → Nat → Int32) (J : Nat → Nat → Int64) (Q : Option Value → sm_M → Prop)  :
    sm_wp X 60 17 [some (.ref 16)] [] (sM mo G I J) Q =
    (sm_wp X 60 46 [some (.ref 16)] [] (sM mo G I J) Q) :=
  (sm_blk X 60 17 (tt_lin 60 (by decide)) rfl rfl _ _ _ _).trans rfl
set_option maxRecDepth 100000 in
theorem bk_60_20 (X : (Nat → Int32) × Nat) (mo : Bool) (G : Nat × Nat) (I : Nat → Nat → Int32) (J : Nat → Nat → Int64) (Q : Option Value → sm_M → Prop)  :
    sm_wp X 60 20 [some (.ref 16)] [] (sM mo G I J) Q =
    (sm_wp X 53 0 [some (.ref 16)] [] (sM mo G I J) (fun v M => sm_wp X 60 24 [some (.ref 16)] (v.toList ++ []) M Q)) :=
  (sm_blk X 60 20 (tt_lin 60 (by decide)) rfl rfl _ _ _ _).trans rfl
set_option maxRecDepth 100000 in
theorem bk_60_24 (X : (Nat → Int32) × Nat) (mo : Bool) (G : Nat × Nat) (I : Nat → Nat → Int32) (J : Nat → Nat → Int64) (Q : Option Value → sm_M → Prop) (s0 : Int32) :
    sm_wp X 60 24 [some (.ref 16)] [.int s0] (sM mo G I J) Q =
    (if (s0 : Int32) = 0 then sm_wp X 60 46 [some (.ref 16)] [] (sM mo G I J) Q else (sm_wp X 56 0 [some (.ref 16), some (.int (100 + (I 14 2)))] [] (sM mo G I J) (fun v M => sm_wp X 60 41 [some (.ref 16)] (v.toList ++ []) M Q))) :=
  (sm_blk X 60 24 (tt_lin 60 (by decide)) rfl rfl _ _ _ _).trans rfl
set_option maxRecDepth 100000 in
theorem bk_60_41 (X : (Nat → Int32) × Nat) (mo : Bool) (G : Nat × Nat) (I : Nat → Nat → Int32) (J : Nat → Nat → Int64) (Q : Option Value → sm_M → Prop)  :
    sm_wp X 60 41 [some (.ref 16)] [] (sM mo G I J) Q =
    (True ∧ Q none (sM mo G (up2 I 16 10 3) J)) :=
  (sm_blk X 60 41 (tt_lin 60 (by decide)) rfl rfl _ _ _ _).trans rfl
set_option maxRecDepth 100000 in
theorem bk_60_46 (X : (Nat → Int32) × Nat) (mo : Bool) (G : Nat × Nat) (I : Nat → Nat → Int32) (J : Nat → Nat → Int64) (Q : Option Value → sm_M → Prop)  :
    sm_wp X 60 46 [some (.ref 16)] [] (sM mo G I J) Q =
    (True ∧ Q none (sM mo G I J)) :=
  (sm_blk X 60 46 (tt_lin 60 (by decide)) rfl rfl _ _ _ _).trans rfl
set_option maxRecDepth 100000 in
theorem bk_61_0 (X : (Nat → Int32) × Nat) (mo : Bool) (G : Nat × Nat) (I : Nat → Nat → Int32) (J : Nat → Nat → Int64) (Q : Option Value → sm_M → Prop)  :
    sm_wp X 61 0 [some (.ref 16)] [] (sM mo G I J) Q =
    (if (I 16 12 : Int32) < (8 : Int32) then sm_wp X 61 15 [some (.ref 16)] [] (sM mo G I J) Q else (sm_wp X 50 0 [some (.ref 16), some (.int 2)] [] (sM mo G I J) (fun v M => sm_wp X 61 14 [some (.ref 16)] (v.toList ++ []) M Q))) :=
  (sm_blk X 61 0 (tt_lin 61 (by decide)) rfl rfl _ _ _ _).trans rfl
set_option maxRecDepth 100000 in
theorem bk_61_14 (X : (Nat → Int32) × Nat) (mo : Bool) (G : Nat × Nat) (I : Nat → Nat → Int32) (J : Nat → Nat → Int64) (Q : Option Value → sm_M → Prop)  :
    sm_wp X 61 14 [some (.ref 16)] [] (sM mo G I J) Q =
    (True ∧ Q none (sM mo G I J)) :=
  (sm_blk X 61 14 (tt_lin 61 (by decide)) rfl rfl _ _ _ _).trans rfl
set_option maxRecDepth 100000 in
theorem bk_61_15 (X : (Nat → Int32) × Nat) (mo : Bool) (G : Nat × Nat) (I : Nat → Nat → Int32) (J : Nat → Nat → Int64) (Q : Option Value → sm_M → Prop)  :
    sm_wp X 61 15 [some (.ref 16)] [] (sM mo G I J) Q =
    (sm_wp X 57 0 [some (.ref 16), some (.int 30)] [] (sM mo G (up2 (up2 I 16 12 ((I 16 12) + 1)) 16 13 (((up2 I 16 12 ((I 16 12) + 1)) 16 13) &&& ((1 <<< (((up2 I 16 12 ((I 16 12) + 1)) 16 12) &&& 31)) ^^^ (-1)))) J) (fun v M => sm_wp X 61 48 [some (.ref 16)] (v.toList ++ []) M Q)) :=
  (sm_blk X 61 15 (tt_lin 61 (by decide)) rfl rfl _ _ _ _).trans rfl
set_option maxRecDepth 100000 in
theorem bk_61_48 (X : (Nat → Int32) × Nat) (mo : Bool) (G : Nat × Nat) (I : Nat → Nat → Int32) (J : Nat → Nat → Int64) (Q : Option Value → sm_M → Prop)  :
    sm_wp X 61 48 [some (.ref 16)] [] (sM mo G I J) Q =
    (True ∧ Q none (sM mo G (up2 I 16 10 1) J)) :=
  (sm_blk X 61 48 (tt_lin 61 (by decide)) rfl rfl _ _ _ _).trans rfl
set_option maxRecDepth 100000 in
theorem bk_62_0 (X : (Nat → Int32) × Nat) (mo : Bool) (G : Nat × Nat) (I : Nat → Nat → Int32) (J : Nat → Nat → Int64) (Q : Option Value → sm_M → Prop) (x1 : Int32) (x2 : Int32) :
    sm_wp X 62 0 [some (.ref 16), some (.int x1), some (.int x2)] [] (sM mo G I J) Q =
    (sm_wp X 53 0 [some (.ref 16)] [] (sM mo G I J) (fun v M => sm_wp X 62 4 [some (.ref 16), some (.int x1), some (.int x2)] (v.toList ++ []) M Q)) :=
  (sm_blk X 62 0 (tt_lin 62 (by decide)) rfl rfl _ _ _ _).trans rfl
set_option maxRecDepth 100000 in
theorem bk_62_4 (X : (Nat → Int32) × Nat) (mo : Bool) (G : Nat × Nat) (I : Nat → Nat → Int32) (J : Nat → Nat → Int64) (Q : Option Value → sm_M → Prop) (x1 : Int32) (x2 : Int32) (s0 : Int32) :
    sm_wp X 62 4 [some (.ref 16), some (.int x1), some (.int x2)] [.int s0] (sM mo G I J) Q =
    (if (s0 : Int32) = 0 then sm_wp X 62 17 [some (.ref 16), some (.int x1), some (.int x2)] [] (sM mo G I J) Q else (sm_wp X 57 0 [some (.ref 16), some (.int x1)] [] (sM mo G I J) (fun v M => sm_wp X 62 12 [some (.ref 16), some (.int x1), some (.int x2)] (v.toList ++ []) M Q))) :=
  (sm_blk X 62 4 (tt_lin 62 (by decide)) rfl rfl _ _ _ _).trans rfl
set_option maxRecDepth 100000 in
theorem bk_62_12 (X : (Nat → Int32) × Nat) (mo : Bool) (G : Nat × Nat) (I : Nat → Nat → Int32) (J : Nat → Nat → Int64) (Q : Option Value → sm_M → Prop) (x1 : Int32) (x2 : Int32) :
    sm_wp X 62 12 [some (.ref 16), some (.int x1), some (.int x2)] [] (sM mo G I J) Q =
    (True ∧ Q none (sM mo G (up2 I 16 10 x2) J)) :=
  (sm_blk X 62 12 (tt_lin 62 (by decide)) rfl rfl _ _ _ _).trans rfl
set_option maxRecDepth 100000 in
theorem bk_62_17 (X : (Nat → Int32) × Nat) (mo : Bool) (G : Nat × Nat) (I : Nat → Nat → Int32) (J : Nat → Nat → Int64) (Q : Option Value → sm_M → Prop) (x1 : Int32) (x2 : Int32) :
    sm_wp X 62 17 [some (.ref 16), some (.int x1), some (.int x2)] [] (sM mo G I J) Q =
    (True ∧ Q none (sM mo G I J)) :=
  (sm_blk X 62 17 (tt_lin 62 (by decide)) rfl rfl _ _ _ _).trans rfl
end
section
set_option maxRecDepth 100000 in
theorem bk_88_0 (X : (Nat → Int32) × Nat) (mo : Bool) (G : Nat × Nat) (I : Nat → Nat → Int32) (J : Nat → Nat → Int64) (Q : Option Value → sm_M → Prop) (x1 : Int32) :
    sm_wp X 88 0 [some (.ref 1), some (.int x1)] [] (sM mo G I J) Q =
    (if (x1 : Int32) < 0 then sm_wp X 88 22 [some (.ref 1), some (.int x1)] [] (sM mo G I J) Q else (if (I 1 1 : Int32) ≤ (x1 : Int32) then sm_wp X 88 22 [some (.ref 1), some (.int x1)] [] (sM mo G I J) Q else (if (6 : Int32) ≤ (x1 : Int32) then sm_wp X 88 22 [some (.ref 1), some (.int x1)] [] (sM mo G I J) Q else (sm_wp X 88 23 [some (.ref 1), some (.int x1)] [.int 1] (sM mo G I J) Q)))) :=
  (sm_blk X 88 0 (tt_lin 88 (by decide)) rfl rfl _ _ _ _).trans rfl
set_option maxRecDepth 100000 in
theorem bk_88_22 (X : (Nat → Int32) × Nat) (mo : Bool) (G : Nat × Nat) (I : Nat → Nat → Int32) (J : Nat → Nat → Int64) (Q : Option Value → sm_M → Prop) (x1 : Int32) :
    sm_wp X 88 22 [some (.ref 1), some (.int x1)] [] (sM mo G I J) Q =
    (sm_zb 0 ∧ Q (some (.int 0)) (sM mo G I J)) :=
  (sm_blk X 88 22 (tt_lin 88 (by decide)) rfl rfl _ _ _ _).trans rfl
set_option maxRecDepth 100000 in
theorem bk_88_23 (X : (Nat → Int32) × Nat) (mo : Bool) (G : Nat × Nat) (I : Nat → Nat → Int32) (J : Nat → Nat → Int64) (Q : Option Value → sm_M → Prop) (x1 : Int32) (s0 : Int32) :
    sm_wp X 88 23 [some (.ref 1), some (.int x1)] [.int s0] (sM mo G I J) Q =
    (sm_zb s0 ∧ Q (some (.int s0)) (sM mo G I J)) :=
  (sm_blk X 88 23 (tt_lin 88 (by decide)) rfl rfl _ _ _ _).trans rfl
set_option maxRecDepth 100000 in
theorem bk_89_0 (X : (Nat → Int32) × Nat) (mo : Bool) (G : Nat × Nat) (I : Nat → Nat → Int32) (J : Nat → Nat → Int64) (Q : Option Value → sm_M → Prop) (x1 : Int32) :
    sm_wp X 89 0 [some (.ref 1), some (.int x1)] [] (sM mo G I J) Q =
    (if (I 1 0 : Int32) < (12 : Int32) then sm_wp X 89 11 [some (.ref 1), some (.int x1)] [] (sM mo G I J) Q else (True ∧ Q (some (.int (-1))) (sM mo G I J))) :=
  (sm_blk X 89 0 (tt_lin 89 (by decide)) rfl rfl _ _ _ _).trans rfl
set_option maxRecDepth 100000 in
theorem bk_89_11 (X : (Nat → Int32) × Nat) (mo : Bool) (G : Nat × Nat) (I : Nat → Nat → Int32) (J : Nat → Nat → Int64) (Q : Option Value → sm_M → Prop) (x1 : Int32) :
    sm_wp X 89 11 [some (.ref 1), some (.int x1)] [] (sM mo G I J) Q =
    (vp_in (I 1 0) 12 ∧ (vp_in ((up2 I 2 (I 1 0).toNatClampNeg x1) 1 0) 12 ∧ (True ∧ Q (some (.int (((up2 (up2 (up2 (up2 I 2 (I 1 0).toNatClampNeg x1) 4 ((up2 I 2 (I 1 0).toNatClampNeg x1) 1 0).toNatClampNeg (-1)) 1 0 (((up2 (up2 I 2 (I 1 0).toNatClampNeg x1) 4 ((up2 I 2 (I 1 0).toNatClampNeg x1) 1 0).toNatClampNeg (-1)) 1 0) + 1)) 1 4 (((up2 (up2 (up2 I 2 (I 1 0).toNatClampNeg x1) 4 ((up2 I 2 (I 1 0).toNatClampNeg x1) 1 0).toNatClampNeg (-1)) 1 0 (((up2 (up2 I 2 (I 1 0).toNatClampNeg x1) 4 ((up2 I 2 (I 1 0).toNatClampNeg x1) 1 0).toNatClampNeg (-1)) 1 0) + 1)) 1 4) + 1)) 1 0) - 1))) (sM mo G (up2 (up2 (up2 (up2 I 2 (I 1 0).toNatClampNeg x1) 4 ((up2 I 2 (I 1 0).toNatClampNeg x1) 1 0).toNatClampNeg (-1)) 1 0 (((up2 (up2 I 2 (I 1 0).toNatClampNeg x1) 4 ((up2 I 2 (I 1 0).toNatClampNeg x1) 1 0).toNatClampNeg (-1)) 1 0) + 1)) 1 4 (((up2 (up2 (up2 I 2 (I 1 0).toNatClampNeg x1) 4 ((up2 I 2 (I 1 0).toNatClampNeg x1) 1 0).toNatClampNeg (-1)) 1 0 (((up2 (up2 I 2 (I 1 0).toNatClampNeg x1) 4 ((up2 I 2 (I 1 0).toNatClampNeg x1) 1 0).toNatClampNeg (-1)) 1 0) + 1)) 1 4) + 1)) J)))) :=
  (sm_blk X 89 11 (tt_lin 89 (by decide)) rfl rfl _ _ _ _).trans rfl
set_option maxRecDepth 100000 in
theorem bk_90_0 (X : (Nat → Int32) × Nat) (mo : Bool) (G : Nat × Nat) (I : Nat → Nat → Int32) (J : Nat → Nat → Int64) (Q : Option Value → sm_M → Prop) (x1 : Int32) :
    sm_wp X 90 0 [some (.ref 1), some (.int x1)] [] (sM mo G I J) Q =
    (if (x1 : Int32) < 0 then sm_wp X 90 22 [some (.ref 1), some (.int x1)] [] (sM mo G I J) Q else (if (I 1 0 : Int32) ≤ (x1 : Int32) then sm_wp X 90 22 [some (.ref 1), some (.int x1)] [] (sM mo G I J) Q else (if (12 : Int32) ≤ (x1 : Int32) then sm_wp X 90 22 [some (.ref 1), some (.int x1)] [] (sM mo G I J) Q else (sm_wp X 90 23 [some (.ref 1), some (.int x1)] [.int 1] (sM mo G I J) Q)))) :=
  (sm_blk X 90 0 (tt_lin 90 (by decide)) rfl rfl _ _ _ _).trans rfl
set_option maxRecDepth 100000 in
theorem bk_90_22 (X : (Nat → Int32) × Nat) (mo : Bool) (G : Nat × Nat) (I : Nat → Nat → Int32) (J : Nat → Nat → Int64) (Q : Option Value → sm_M → Prop) (x1 : Int32) :
    sm_wp X 90 22 [some (.ref 1), some (.int x1)] [] (sM mo G I J) Q =
    (sm_zb 0 ∧ Q (some (.int 0)) (sM mo G I J)) :=
  (sm_blk X 90 22 (tt_lin 90 (by decide)) rfl rfl _ _ _ _).trans rfl
set_option maxRecDepth 100000 in
theorem bk_90_23 (X : (Nat → Int32) × Nat) (mo : Bool) (G : Nat × Nat) (I : Nat → Nat → Int32) (J : Nat → Nat → Int64) (Q : Option Value → sm_M → Prop) (x1 : Int32) (s0 : Int32) :
    sm_wp X 90 23 [some (.ref 1), some (.int x1)] [.int s0] (sM mo G I J) Q =
    (sm_zb s0 ∧ Q (some (.int s0)) (sM mo G I J)) :=
  (sm_blk X 90 23 (tt_lin 90 (by decide)) rfl rfl _ _ _ _).trans rfl
set_option maxRecDepth 100000 in
theorem bk_91_0 (X : (Nat → Int32) × Nat) (mo : Bool) (G : Nat × Nat) (I : Nat → Nat → Int32) (J : Nat → Nat → Int64) (Q : Option Value → sm_M → Prop) (x1 : Int32) (x2 : Int32) :
    sm_wp X 91 0 [some (.ref 1), some (.int x1), some (.int x2)] [] (sM mo G I J) Q =
    (sm_wp X 90 0 [some (.ref 1), some (.int x1)] [] (sM mo G I J) (fun v M => sm_wp X 91 5 [some (.ref 1), some (.int x1), some (.int x2)] (v.toList ++ []) M Q)) :=
  (sm_blk X 91 0 (tt_lin 91 (by decide)) rfl rfl _ _ _ _).trans rfl
set_option maxRecDepth 100000 in
theorem bk_91_5 (X : (Nat → Int32) × Nat) (mo : Bool) (G : Nat × Nat) (I : Nat → Nat → Int32) (J : Nat → Nat → Int64) (Q : Option Value → sm_M → Prop) (x1 : Int32) (x2 : Int32) (s0 : Int32) :
    sm_wp X 91 5 [some (.ref 1), some (.int x1), some (.int x2)] [.int s0] (sM mo G I J) Q =
    (if (s0 : Int32) = 0 then sm_wp X 91 25 [some (.ref 1), some (.int x1), some (.int x2)] [] (sM mo G I J) Q else (vp_in x1 12 ∧ (sm_wp X 169 0 [some (.int (I 3 (x1.toNatClampNeg))), some (.int x2)] [] (sM mo G I J) (fun v M => sm_wp X 91 18 [some (.ref 1), some (.int x1), some (.int x2)] (v.toList ++ []) M Q)))) :=
  (sm_blk X 91 5 (tt_lin 91 (by decide)) rfl rfl _ _ _ _).trans rfl
set_option maxRecDepth 100000 in
theorem bk_91_18 (X : (Nat → Int32) × Nat) (mo : Bool) (G : Nat × Nat) (I : Nat → Nat → Int32) (J : Nat → Nat → Int64) (Q : Option Value → sm_M → Prop) (x1 : Int32) (x2 : Int32) (s0 : Int32) :
    sm_wp X 91 18 [some (.ref 1), some (.int x1), some (.int x2)] [.int s0] (sM mo G I J) Q =
    (if (s0 : Int32) = 0 then sm_wp X 91 25 [some (.ref 1), some (.int x1), some (.int x2)] [] (sM mo G I J) Q else (sm_wp X 91 26 [some (.ref 1), some (.int x1), some (.int x2)] [.int 1] (sM mo G I J) Q)) :=
  (sm_blk X 91 18 (tt_lin 91 (by decide)) rfl rfl _ _ _ _).trans rfl
set_option maxRecDepth 100000 in
theorem bk_91_25 (X : (Nat → Int32) × Nat) (mo : Bool) (G : Nat × Nat) (I : Nat → Nat → Int32) (J : Nat → Nat → Int64) (Q : Option Value → sm_M → Prop) (x1 : Int32) (x2 : Int32) :
    sm_wp X 91 25 [some (.ref 1), some (.int x1), some (.int x2)] [] (sM mo G I J) Q =
    (sm_zb 0 ∧ Q (some (.int 0)) (sM mo G I J)) :=
  (sm_blk X 91 25 (tt_lin 91 (by decide)) rfl rfl _ _ _ _).trans rfl
set_option maxRecDepth 100000 in
theorem bk_91_26 (X : (Nat → Int32) × Nat) (mo : Bool) (G : Nat × Nat) (I : Nat → Nat → Int32) (J : Nat → Nat → Int64) (Q : Option Value → sm_M → Prop) (x1 : Int32) (x2 : Int32) (s0 : Int32) :
    sm_wp X 91 26 [some (.ref 1), some (.int x1), some (.int x2)] [.int s0] (sM mo G I J) Q =
    (sm_zb s0 ∧ Q (some (.int s0)) (sM mo G I J)) :=
  (sm_blk X 91 26 (tt_lin 91 (by decide)) rfl rfl _ _ _ _).trans rfl
set_option maxRecDepth 100000 in
theorem bk_92_0 (X : (Nat → Int32) × Nat) (mo : Bool) (G : Nat × Nat) (I : Nat → Nat → Int32) (J : Nat → Nat → Int64) (Q : Option Value → sm_M → Prop) (x1 : Int32) (x2 : Int32) :
    sm_wp X 92 0 [some (.ref 1), some (.int x1), some (.int x2)] [] (sM mo G I J) Q =
    (sm_wp X 90 0 [some (.ref 1), some (.int x1)] [] (sM mo G I J) (fun v M => sm_wp X 92 5 [some (.ref 1), some (.int x1), some (.int x2)] (v.toList ++ []) M Q)) :=
  (sm_blk X 92 0 (tt_lin 92 (by decide)) rfl rfl _ _ _ _).trans rfl
set_option maxRecDepth 100000 in
theorem bk_92_5 (X : (Nat → Int32) × Nat) (mo : Bool) (G : Nat × Nat) (I : Nat → Nat → Int32) (J : Nat → Nat → Int64) (Q : Option Value → sm_M → Prop) (x1 : Int32) (x2 : Int32) (s0 : Int32) :
    sm_wp X 92 5 [some (.ref 1), some (.int x1), some (.int x2)] [.int s0] (sM mo G I J) Q =
    (if (s0 : Int32) = 0 then sm_wp X 92 40 [some (.ref 1), some (.int x1), some (.int x2)] [] (sM mo G I J) Q else (sm_wp X 90 0 [some (.ref 1), some (.int x2)] [] (sM mo G I J) (fun v M => sm_wp X 92 13 [some (.ref 1), some (.int x1), some (.int x2)] (v.toList ++ []) M Q))) :=
  (sm_blk X 92 5 (tt_lin 92 (by decide)) rfl rfl _ _ _ _).trans rfl
set_option maxRecDepth 100000 in
theorem bk_92_13 (X : (Nat → Int32) × Nat) (mo : Bool) (G : Nat × Nat) (I : Nat → Nat → Int32) (J : Nat → Nat → Int64) (Q : Option Value → sm_M → Prop) (x1 : Int32) (x2 : Int32) (s0 : Int32) :
    sm_wp X 92 13 [some (.ref 1), some (.int x1), some (.int x2)] [.int s0] (sM mo G I J) Q =
    (if (s0 : Int32) = 0 then sm_wp X 92 40 [some (.ref 1), some (.int x1), some (.int x2)] [] (sM mo G I J) Q else (vp_in x1 12 ∧ (vp_in x1 12 ∧ (vp_in x2 12 ∧ (vp_in x2 12 ∧ (True ∧ Q none (sM mo G (up2 (up2 I 3 x1.toNatClampNeg ((I 3 (x1.toNatClampNeg)) ||| (1 <<< (x2 &&& 31)))) 3 x2.toNatClampNeg (((up2 I 3 x1.toNatClampNeg ((I 3 (x1.toNatClampNeg)) ||| (1 <<< (x2 &&& 31)))) 3 (x2.toNatClampNeg)) ||| (1 <<< (x1 &&& 31)))) J))))))) :=
  (sm_blk X 92 13 (tt_lin 92 (by decide)) rfl rfl _ _ _ _).trans rfl
set_option maxRecDepth 100000 in
theorem bk_92_40 (X : (Nat → Int32) × Nat) (mo : Bool) (G : Nat × Nat) (I : Nat → Nat → Int32) (J : Nat → Nat → Int64) (Q : Option Value → sm_M → Prop) (x1 : Int32) (x2 : Int32) :
    sm_wp X 92 40 [some (.ref 1), some (.int x1), some (.int x2)] [] (sM mo G I J) Q =
    (True ∧ Q none (sM mo G I J)) :=
  (sm_blk X 92 40 (tt_lin 92 (by decide)) rfl rfl _ _ _ _).trans rfl
set_option maxRecDepth 100000 in
theorem bk_93_0 (X : (Nat → Int32) × Nat) (mo : Bool) (G : Nat × Nat) (I : Nat → Nat → Int32) (J : Nat → Nat → Int64) (Q : Option Value → sm_M → Prop) (x1 : Int32) (x2 : Int32) :
    sm_wp X 93 0 [some (.ref 1), some (.int x1), some (.int x2)] [] (sM mo G I J) Q =
    (if (I 1 1 : Int32) < (6 : Int32) then sm_wp X 93 11 [some (.ref 1), some (.int x1), some (.int x2)] [] (sM mo G I J) Q else (True ∧ Q (some (.int (-1))) (sM mo G I J))) :=
  (sm_blk X 93 0 (tt_lin 93 (by decide)) rfl rfl _ _ _ _).trans rfl
set_option maxRecDepth 100000 in
theorem bk_93_11 (X : (Nat → Int32) × Nat) (mo : Bool) (G : Nat × Nat) (I : Nat → Nat → Int32) (J : Nat → Nat → Int64) (Q : Option Value → sm_M → Prop) (x1 : Int32) (x2 : Int32) :
    sm_wp X 93 11 [some (.ref 1), some (.int x1), some (.int x2)] [] (sM mo G I J) Q =
    (vp_in (I 1 1) 6 ∧ (vp_in ((up2 I 10 (I 1 1).toNatClampNeg x1) 1 1) 6 ∧ (True ∧ Q (some (.int (((up2 (up2 (up2 (up2 (up2 I 10 (I 1 1).toNatClampNeg x1) 11 ((up2 I 10 (I 1 1).toNatClampNeg x1) 1 1).toNatClampNeg x2) 1 2 (((up2 (up2 I 10 (I 1 1).toNatClampNeg x1) 11 ((up2 I 10 (I 1 1).toNatClampNeg x1) 1 1).toNatClampNeg x2) 1 2) ||| (1 <<< (((up2 (up2 I 10 (I 1 1).toNatClampNeg x1) 11 ((up2 I 10 (I 1 1).toNatClampNeg x1) 1 1).toNatClampNeg x2) 1 1) &&& 31)))) 1 1 (((up2 (up2 (up2 I 10 (I 1 1).toNatClampNeg x1) 11 ((up2 I 10 (I 1 1).toNatClampNeg x1) 1 1).toNatClampNeg x2) 1 2 (((up2 (up2 I 10 (I 1 1).toNatClampNeg x1) 11 ((up2 I 10 (I 1 1).toNatClampNeg x1) 1 1).toNatClampNeg x2) 1 2) ||| (1 <<< (((up2 (up2 I 10 (I 1 1).toNatClampNeg x1) 11 ((up2 I 10 (I 1 1).toNatClampNeg x1) 1 1).toNatClampNeg x2) 1 1) &&& 31)))) 1 1) + 1)) 1 4 (((up2 (up2 (up2 (up2 I 10 (I 1 1).toNatClampNeg x1) 11 ((up2 I 10 (I 1 1).toNatClampNeg x1) 1 1).toNatClampNeg x2) 1 2 (((up2 (up2 I 10 (I 1 1).toNatClampNeg x1) 11 ((up2 I 10 (I 1 1).toNatClampNeg x1) 1 1).toNatClampNeg x2) 1 2) ||| (1 <<< (((up2 (up2 I 10 (I 1 1).toNatClampNeg x1) 11 ((up2 I 10 (I 1 1).toNatClampNeg x1) 1 1).toNatClampNeg x2) 1 1) &&& 31)))) 1 1 (((up2 (up2 (up2 I 10 (I 1 1).toNatClampNeg x1) 11 ((up2 I 10 (I 1 1).toNatClampNeg x1) 1 1).toNatClampNeg x2) 1 2 (((up2 (up2 I 10 (I 1 1).toNatClampNeg x1) 11 ((up2 I 10 (I 1 1).toNatClampNeg x1) 1 1).toNatClampNeg x2) 1 2) ||| (1 <<< (((up2 (up2 I 10 (I 1 1).toNatClampNeg x1) 11 ((up2 I 10 (I 1 1).toNatClampNeg x1) 1 1).toNatClampNeg x2) 1 1) &&& 31)))) 1 1) + 1)) 1 4) + 1)) 1 1) - 1))) (sM mo G (up2 (up2 (up2 (up2 (up2 I 10 (I 1 1).toNatClampNeg x1) 11 ((up2 I 10 (I 1 1).toNatClampNeg x1) 1 1).toNatClampNeg x2) 1 2 (((up2 (up2 I 10 (I 1 1).toNatClampNeg x1) 11 ((up2 I 10 (I 1 1).toNatClampNeg x1) 1 1).toNatClampNeg x2) 1 2) ||| (1 <<< (((up2 (up2 I 10 (I 1 1).toNatClampNeg x1) 11 ((up2 I 10 (I 1 1).toNatClampNeg x1) 1 1).toNatClampNeg x2) 1 1) &&& 31)))) 1 1 (((up2 (up2 (up2 I 10 (I 1 1).toNatClampNeg x1) 11 ((up2 I 10 (I 1 1).toNatClampNeg x1) 1 1).toNatClampNeg x2) 1 2 (((up2 (up2 I 10 (I 1 1).toNatClampNeg x1) 11 ((up2 I 10 (I 1 1).toNatClampNeg x1) 1 1).toNatClampNeg x2) 1 2) ||| (1 <<< (((up2 (up2 I 10 (I 1 1).toNatClampNeg x1) 11 ((up2 I 10 (I 1 1).toNatClampNeg x1) 1 1).toNatClampNeg x2) 1 1) &&& 31)))) 1 1) + 1)) 1 4 (((up2 (up2 (up2 (up2 I 10 (I 1 1).toNatClampNeg x1) 11 ((up2 I 10 (I 1 1).toNatClampNeg x1) 1 1).toNatClampNeg x2) 1 2 (((up2 (up2 I 10 (I 1 1).toNatClampNeg x1) 11 ((up2 I 10 (I 1 1).toNatClampNeg x1) 1 1).toNatClampNeg x2) 1 2) ||| (1 <<< (((up2 (up2 I 10 (I 1 1).toNatClampNeg x1) 11 ((up2 I 10 (I 1 1).toNatClampNeg x1) 1 1).toNatClampNeg x2) 1 1) &&& 31)))) 1 1 (((up2 (up2 (up2 I 10 (I 1 1).toNatClampNeg x1) 11 ((up2 I 10 (I 1 1).toNatClampNeg x1) 1 1).toNatClampNeg x2) 1 2 (((up2 (up2 I 10 (I 1 1).toNatClampNeg x1) 11 ((up2 I 10 (I 1 1).toNatClampNeg x1) 1 1).toNatClampNeg x2) 1 2) ||| (1 <<< (((up2 (up2 I 10 (I 1 1).toNatClampNeg x1) 11 ((up2 I 10 (I 1 1).toNatClampNeg x1) 1 1).toNatClampNeg x2) 1 1) &&& 31)))) 1 1) + 1)) 1 4) + 1)) J)))) :=
  (sm_blk X 93 11 (tt_lin 93 (by decide)) rfl rfl _ _ _ _).trans rfl
set_option maxRecDepth 100000 in
theorem bk_94_0 (X : (Nat → Int32) × Nat) (mo : Bool) (G : Nat × Nat) (I : Nat → Nat → Int32) (J : Nat → Nat → Int64) (Q : Option Value → sm_M → Prop) (x1 : Int32) :
    sm_wp X 94 0 [some (.ref 1), some (.int x1)] [] (sM mo G I J) Q =
    (sm_wp X 88 0 [some (.ref 1), some (.int x1)] [] (sM mo G I J) (fun v M => sm_wp X 94 5 [some (.ref 1), some (.int x1)] (v.toList ++ []) M Q)) :=
  (sm_blk X 94 0 (tt_lin 94 (by decide)) rfl rfl _ _ _ _).trans rfl
set_option maxRecDepth 100000 in
theorem bk_94_5 (X : (Nat → Int32) × Nat) (mo : Bool) (G : Nat × Nat) (I : Nat → Nat → Int32) (J : Nat → Nat → Int64) (Q : Option Value → sm_M → Prop) (x1 : Int32) (s0 : Int32) :
    sm_wp X 94 5 [some (.ref 1), some (.int x1)] [.int s0] (sM mo G I J) Q =
    (if (s0 : Int32) = 0 then sm_wp X 94 23 [some (.ref 1), some (.int x1)] [] (sM mo G I J) Q else (sm_wp X 169 0 [some (.int (I 1 2)), some (.int x1)] [] (sM mo G I J) (fun v M => sm_wp X 94 16 [some (.ref 1), some (.int x1)] (v.toList ++ []) M Q))) :=
  (sm_blk X 94 5 (tt_lin 94 (by decide)) rfl rfl _ _ _ _).trans rfl
set_option maxRecDepth 100000 in
theorem bk_94_16 (X : (Nat → Int32) × Nat) (mo : Bool) (G : Nat × Nat) (I : Nat → Nat → Int32) (J : Nat → Nat → Int64) (Q : Option Value → sm_M → Prop) (x1 : Int32) (s0 : Int32) :
    sm_wp X 94 16 [some (.ref 1), some (.int x1)] [.int s0] (sM mo G I J) Q =
    (if (s0 : Int32) = 0 then sm_wp X 94 23 [some (.ref 1), some (.int x1)] [] (sM mo G I J) Q else (sm_wp X 94 24 [some (.ref 1), some (.int x1)] [.int 1] (sM mo G I J) Q)) :=
  (sm_blk X 94 16 (tt_lin 94 (by decide)) rfl rfl _ _ _ _).trans rfl
set_option maxRecDepth 100000 in
theorem bk_94_23 (X : (Nat → Int32) × Nat) (mo : Bool) (G : Nat × Nat) (I : Nat → Nat → Int32) (J : Nat → Nat → Int64) (Q : Option Value → sm_M → Prop) (x1 : Int32) :
    sm_wp X 94 23 [some (.ref 1), some (.int x1)] [] (sM mo G I J) Q =
    (sm_zb 0 ∧ Q (some (.int 0)) (sM mo G I J)) :=
  (sm_blk X 94 23 (tt_lin 94 (by decide)) rfl rfl _ _ _ _).trans rfl
set_option maxRecDepth 100000 in
theorem bk_94_24 (X : (Nat → Int32) × Nat) (mo : Bool) (G : Nat × Nat) (I : Nat → Nat → Int32) (J : Nat → Nat → Int64) (Q : Option Value → sm_M → Prop) (x1 : Int32) (s0 : Int32) :
    sm_wp X 94 24 [some (.ref 1), some (.int x1)] [.int s0] (sM mo G I J) Q =
    (sm_zb s0 ∧ Q (some (.int s0)) (sM mo G I J)) :=
  (sm_blk X 94 24 (tt_lin 94 (by decide)) rfl rfl _ _ _ _).trans rfl
set_option maxRecDepth 100000 in
theorem bk_95_0 (X : (Nat → Int32) × Nat) (mo : Bool) (G : Nat × Nat) (I : Nat → Nat → Int32) (J : Nat → Nat → Int64) (Q : Option Value → sm_M → Prop) (x1 : Int32) :
    sm_wp X 95 0 [some (.ref 1), some (.int x1)] [] (sM mo G I J) Q =
    (sm_wp X 90 0 [some (.ref 1), some (.int x1)] [] (sM mo G I J) (fun v M => sm_wp X 95 5 [some (.ref 1), some (.int x1)] (v.toList ++ []) M Q)) :=
  (sm_blk X 95 0 (tt_lin 95 (by decide)) rfl rfl _ _ _ _).trans rfl
set_option maxRecDepth 100000 in
theorem bk_95_5 (X : (Nat → Int32) × Nat) (mo : Bool) (G : Nat × Nat) (I : Nat → Nat → Int32) (J : Nat → Nat → Int64) (Q : Option Value → sm_M → Prop) (x1 : Int32) (s0 : Int32) :
    sm_wp X 95 5 [some (.ref 1), some (.int x1)] [.int s0] (sM mo G I J) Q =
    (if (s0 : Int32) = 0 then sm_wp X 95 17 [some (.ref 1), some (.int x1)] [] (sM mo G I J) Q else (vp_in x1 12 ∧ (sm_wp X 95 18 [some (.ref 1), some (.int x1)] [.int (I 4 (x1.toNatClampNeg))] (sM mo G I J) Q))) :=
  (sm_blk X 95 5 (tt_lin 95 (by decide)) rfl rfl _ _ _ _).trans rfl
set_option maxRecDepth 100000 in
theorem bk_95_17 (X : (Nat → Int32) × Nat) (mo : Bool) (G : Nat × Nat) (I : Nat → Nat → Int32) (J : Nat → Nat → Int64) (Q : Option Value → sm_M → Prop) (x1 : Int32) :
    sm_wp X 95 17 [some (.ref 1), some (.int x1)] [] (sM mo G I J) Q =
    (True ∧ Q (some (.int (-1))) (sM mo G I J)) :=
  (sm_blk X 95 17 (tt_lin 95 (by decide)) rfl rfl _ _ _ _).trans rfl
set_option maxRecDepth 100000 in
theorem bk_95_18 (X : (Nat → Int32) × Nat) (mo : Bool) (G : Nat × Nat) (I : Nat → Nat → Int32) (J : Nat → Nat → Int64) (Q : Option Value → sm_M → Prop) (x1 : Int32) (s0 : Int32) :
    sm_wp X 95 18 [some (.ref 1), some (.int x1)] [.int s0] (sM mo G I J) Q =
    (True ∧ Q (some (.int s0)) (sM mo G I J)) :=
  (sm_blk X 95 18 (tt_lin 95 (by decide)) rfl rfl _ _ _ _).trans rfl
set_option maxRecDepth 100000 in
theorem bk_96_0 (X : (Nat → Int32) × Nat) (mo : Bool) (G : Nat × Nat) (I : Nat → Nat → Int32) (J : Nat → Nat → Int64) (Q : Option Value → sm_M → Prop) (x1 : Int32) :
    sm_wp X 96 0 [some (.ref 1), some (.int x1)] [] (sM mo G I J) Q =
    (sm_wp X 90 0 [some (.ref 1), some (.int x1)] [] (sM mo G I J) (fun v M => sm_wp X 96 5 [some (.ref 1), some (.int x1)] (v.toList ++ []) M Q)) :=
  (sm_blk X 96 0 (tt_lin 96 (by decide)) rfl rfl _ _ _ _).trans rfl
set_option maxRecDepth 100000 in
theorem bk_96_5 (X : (Nat → Int32) × Nat) (mo : Bool) (G : Nat × Nat) (I : Nat → Nat → Int32) (J : Nat → Nat → Int64) (Q : Option Value → sm_M → Prop) (x1 : Int32) (s0 : Int32) :
    sm_wp X 96 5 [some (.ref 1), some (.int x1)] [.int s0] (sM mo G I J) Q =
    (if (s0 : Int32) = 0 then sm_wp X 96 17 [some (.ref 1), some (.int x1)] [] (sM mo G I J) Q else (vp_in x1 12 ∧ (sm_wp X 96 18 [some (.ref 1), some (.int x1)] [.int (I 6 (x1.toNatClampNeg))] (sM mo G I J) Q))) :=
  (sm_blk X 96 5 (tt_lin 96 (by decide)) rfl rfl _ _ _ _).trans rfl
set_option maxRecDepth 100000 in
theorem bk_96_17 (X : (Nat → Int32) × Nat) (mo : Bool) (G : Nat × Nat) (I : Nat → Nat → Int32) (J : Nat → Nat → Int64) (Q : Option Value → sm_M → Prop) (x1 : Int32) :
    sm_wp X 96 17 [some (.ref 1), some (.int x1)] [] (sM mo G I J) Q =
    (True ∧ Q (some (.int 0)) (sM mo G I J)) :=
  (sm_blk X 96 17 (tt_lin 96 (by decide)) rfl rfl _ _ _ _).trans rfl
set_option maxRecDepth 100000 in
theorem bk_96_18 (X : (Nat → Int32) × Nat) (mo : Bool) (G : Nat × Nat) (I : Nat → Nat → Int32) (J : Nat → Nat → Int64) (Q : Option Value → sm_M → Prop) (x1 : Int32) (s0 : Int32) :
    sm_wp X 96 18 [some (.ref 1), some (.int x1)] [.int s0] (sM mo G I J) Q =
    (True ∧ Q (some (.int s0)) (sM mo G I J)) :=
  (sm_blk X 96 18 (tt_lin 96 (by decide)) rfl rfl _ _ _ _).trans rfl
set_option maxRecDepth 100000 in
theorem bk_97_0 (X : (Nat → Int32) × Nat) (mo : Bool) (G : Nat × Nat) (I : Nat → Nat → Int32) (J : Nat → Nat → Int64) (Q : Option Value → sm_M → Prop) (x1 : Int32) (x2 : Int32) (x3 : Int32) :
    sm_wp X 97 0 [some (.ref 1), some (.int x1), some (.int x2), some (.int x3), none, none] [] (sM mo G I J) Q =
    (sm_wp X 90 0 [some (.ref 1), some (.int x1)] [] (sM mo G I J) (fun v M => sm_wp X 97 5 [some (.ref 1), some (.int x1), some (.int x2), some (.int x3), none, none] (v.toList ++ []) M Q)) :=
  (sm_blk X 97 0 (tt_lin 97 (by decide)) rfl rfl _ _ _ _).trans rfl
set_option maxRecDepth 100000 in
theorem bk_97_5 (X : (Nat → Int32) × Nat) (mo : Bool) (G : Nat × Nat) (I : Nat → Nat → Int32) (J : Nat → Nat → Int64) (Q : Option Value → sm_M → Prop) (x1 : Int32) (x2 : Int32) (x3 : Int32) (s0 : Int32) :
    sm_wp X 97 5 [some (.ref 1), some (.int x1), some (.int x2), some (.int x3), none, none] [.int s0] (sM mo G I J) Q =
    (if ¬ (s0 : Int32) = 0 then sm_wp X 97 9 [some (.ref 1), some (.int x1), some (.int x2), some (.int x3), none, none] [] (sM mo G I J) Q else (True ∧ Q none (sM mo G I J))) :=
  (sm_blk X 97 5 (tt_lin 97 (by decide)) rfl rfl _ _ _ _).trans rfl
set_option maxRecDepth 100000 in
theorem bk_97_9 (X : (Nat → Int32) × Nat) (mo : Bool) (G : Nat × Nat) (I : Nat → Nat → Int32) (J : Nat → Nat → Int64) (Q : Option Value → sm_M → Prop) (x1 : Int32) (x2 : Int32) (x3 : Int32) :
    sm_wp X 97 9 [some (.ref 1), some (.int x1), some (.int x2), some (.int x3), none, none] [] (sM mo G I J) Q =
    (vp_in x1 12 ∧ (if (I 6 (x1.toNatClampNeg) : Int32) < 0 then sm_wp X 97 75 [some (.ref 1), some (.int x1), some (.int x2), some (.int x3), some (.int (I 6 (x1.toNatClampNeg))), none] [] (sM mo G I J) Q else (if (80 : Int32) ≤ (I 6 (x1.toNatClampNeg) : Int32) then sm_wp X 97 75 [some (.ref 1), some (.int x1), some (.int x2), some (.int x3), some (.int (I 6 (x1.toNatClampNeg))), none] [] (sM mo G I J) Q else (vp_in ((x1 * 80) + (I 6 (x1.toNatClampNeg))) 960 ∧ (vp_in ((x1 * 80) + (I 6 (x1.toNatClampNeg))) 960 ∧ (vp_in ((x1 * 80) + (I 6 (x1.toNatClampNeg))) 960 ∧ (vp_in x1 12 ∧ (vp_in x1 12 ∧ (True ∧ Q none (sM mo G (up2 (up2 (up2 (up2 (up2 (up2 I 7 ((x1 * 80) + (I 6 (x1.toNatClampNeg))).toNatClampNeg x2) 8 ((x1 * 80) + (I 6 (x1.toNatClampNeg))).toNatClampNeg ((up2 I 7 ((x1 * 80) + (I 6 (x1.toNatClampNeg))).toNatClampNeg x2) 1 3)) 9 ((x1 * 80) + (I 6 (x1.toNatClampNeg))).toNatClampNeg x3) 6 x1.toNatClampNeg ((I 6 (x1.toNatClampNeg)) + 1)) 4 x1.toNatClampNeg x2) 1 4 (((up2 (up2 (up2 (up2 (up2 I 7 ((x1 * 80) + (I 6 (x1.toNatClampNeg))).toNatClampNeg x2) 8 ((x1 * 80) + (I 6 (x1.toNatClampNeg))).toNatClampNeg ((up2 I 7 ((x1 * 80) + (I 6 (x1.toNatClampNeg))).toNatClampNeg x2) 1 3)) 9 ((x1 * 80) + (I 6 (x1.toNatClampNeg))).toNatClampNeg x3) 6 x1.toNatClampNeg ((I 6 (x1.toNatClampNeg)) + 1)) 4 x1.toNatClampNeg x2) 1 4) + 1)) J)))))))))) :=
  (sm_blk X 97 9 (tt_lin 97 (by decide)) rfl rfl _ _ _ _).trans rfl
set_option maxRecDepth 100000 in
theorem bk_97_75 (X : (Nat → Int32) × Nat) (mo : Bool) (G : Nat × Nat) (I : Nat → Nat → Int32) (J : Nat → Nat → Int64) (Q : Option Value → sm_M → Prop) (x1 : Int32) (x2 : Int32) (x3 : Int32) (x4 : Int32) :
    sm_wp X 97 75 [some (.ref 1), some (.int x1), some (.int x2), some (.int x3), some (.int x4), none] [] (sM mo G I J) Q =
    (vp_in x1 12 ∧ (True ∧ Q none (sM mo G (up2 (up2 I 4 x1.toNatClampNeg x2) 1 4 (((up2 I 4 x1.toNatClampNeg x2) 1 4) + 1)) J))) :=
  (sm_blk X 97 75 (tt_lin 97 (by decide)) rfl rfl _ _ _ _).trans rfl
set_option maxRecDepth 100000 in
theorem bk_98_0 (X : (Nat → Int32) × Nat) (mo : Bool) (G : Nat × Nat) (I : Nat → Nat → Int32) (J : Nat → Nat → Int64) (Q : Option Value → sm_M → Prop) (x1 : Int32) :
    sm_wp X 98 0 [some (.ref 1), some (.int x1)] [] (sM mo G I J) Q =
    (sm_wp X 90 0 [some (.ref 1), some (.int x1)] [] (sM mo G I J) (fun v M => sm_wp X 98 5 [some (.ref 1), some (.int x1)] (v.toList ++ []) M Q)) :=
  (sm_blk X 98 0 (tt_lin 98 (by decide)) rfl rfl _ _ _ _).trans rfl
set_option maxRecDepth 100000 in
theorem bk_98_5 (X : (Nat → Int32) × Nat) (mo : Bool) (G : Nat × Nat) (I : Nat → Nat → Int32) (J : Nat → Nat → Int64) (Q : Option Value → sm_M → Prop) (x1 : Int32) (s0 : Int32) :
    sm_wp X 98 5 [some (.ref 1), some (.int x1)] [.int s0] (sM mo G I J) Q =
    (if (s0 : Int32) = 0 then sm_wp X 98 17 [some (.ref 1), some (.int x1)] [] (sM mo G I J) Q else (vp_in x1 12 ∧ (sm_wp X 98 18 [some (.ref 1), some (.int x1)] [.int (I 5 (x1.toNatClampNeg))] (sM mo G I J) Q))) :=
  (sm_blk X 98 5 (tt_lin 98 (by decide)) rfl rfl _ _ _ _).trans rfl
set_option maxRecDepth 100000 in
theorem bk_98_17 (X : (Nat → Int32) × Nat) (mo : Bool) (G : Nat × Nat) (I : Nat → Nat → Int32) (J : Nat → Nat → Int64) (Q : Option Value → sm_M → Prop) (x1 : Int32) :
    sm_wp X 98 17 [some (.ref 1), some (.int x1)] [] (sM mo G I J) Q =
    (True ∧ Q (some (.int 0)) (sM mo G I J)) :=
  (sm_blk X 98 17 (tt_lin 98 (by decide)) rfl rfl _ _ _ _).trans rfl
set_option maxRecDepth 100000 in
theorem bk_98_18 (X : (Nat → Int32) × Nat) (mo : Bool) (G : Nat × Nat) (I : Nat → Nat → Int32) (J : Nat → Nat → Int64) (Q : Option Value → sm_M → Prop) (x1 : Int32) (s0 : Int32) :
    sm_wp X 98 18 [some (.ref 1), some (.int x1)] [.int s0] (sM mo G I J) Q =
    (True ∧ Q (some (.int s0)) (sM mo G I J)) :=
  (sm_blk X 98 18 (tt_lin 98 (by decide)) rfl rfl _ _ _ _).trans rfl
set_option maxRecDepth 100000 in
theorem bk_99_0 (X : (Nat → Int32) × Nat) (mo : Bool) (G : Nat × Nat) (I : Nat → Nat → Int32) (J : Nat → Nat → Int64) (Q : Option Value → sm_M → Prop) (x1 : Int32) (x2 : Int32) :
    sm_wp X 99 0 [some (.ref 1), some (.int x1), some (.int x2)] [] (sM mo G I J) Q =
    (sm_wp X 90 0 [some (.ref 1), some (.int x1)] [] (sM mo G I J) (fun v M => sm_wp X 99 5 [some (.ref 1), some (.int x1), some (.int x2)] (v.toList ++ []) M Q)) :=
  (sm_blk X 99 0 (tt_lin 99 (by decide)) rfl rfl _ _ _ _).trans rfl
set_option maxRecDepth 100000 in
theorem bk_99_5 (X : (Nat → Int32) × Nat) (mo : Bool) (G : Nat × Nat) (I : Nat → Nat → Int32) (J : Nat → Nat → Int64) (Q : Option Value → sm_M → Prop) (x1 : Int32) (x2 : Int32) (s0 : Int32) :
    sm_wp X 99 5 [some (.ref 1), some (.int x1), some (.int x2)] [.int s0] (sM mo G I J) Q =
    (if (s0 : Int32) = 0 then sm_wp X 99 25 [some (.ref 1), some (.int x1), some (.int x2)] [] (sM mo G I J) Q else (vp_in x1 12 ∧ (True ∧ Q none (sM mo G (up2 (up2 I 5 x1.toNatClampNeg x2) 1 4 (((up2 I 5 x1.toNatClampNeg x2) 1 4) + 1)) J)))) :=
  (sm_blk X 99 5 (tt_lin 99 (by decide)) rfl rfl _ _ _ _).trans rfl
set_option maxRecDepth 100000 in
theorem bk_99_25 (X : (Nat → Int32) × Nat) (mo : Bool) (G : Nat × Nat) (I : Nat → Nat → Int32) (J : Nat → Nat → Int64) (Q : Option Value → sm_M → Prop) (x1 : Int32) (x2 : Int32) :
    sm_wp X 99 25 [some (.ref 1), some (.int x1), some (.int x2)] [] (sM mo G I J) Q =
    (True ∧ Q none (sM mo G I J)) :=
  (sm_blk X 99 25 (tt_lin 99 (by decide)) rfl rfl _ _ _ _).trans rfl
set_option maxRecDepth 100000 in
theorem bk_100_0 (X : (Nat → Int32) × Nat) (mo : Bool) (G : Nat × Nat) (I : Nat → Nat → Int32) (J : Nat → Nat → Int64) (Q : Option Value → sm_M → Prop) (x1 : Int32) (x2 : Int32) (x3 : Int32) :
    sm_wp X 100 0 [some (.ref 1), some (.int x1), some (.int x2), some (.int x3)] [] (sM mo G I J) Q =
    (sm_wp X 88 0 [some (.ref 1), some (.int x1)] [] (sM mo G I J) (fun v M => sm_wp X 100 5 [some (.ref 1), some (.int x1), some (.int x2), some (.int x3)] (v.toList ++ []) M Q)) :=
  (sm_blk X 100 0 (tt_lin 100 (by decide)) rfl rfl _ _ _ _).trans rfl
set_option maxRecDepth 100000 in
theorem bk_100_5 (X : (Nat → Int32) × Nat) (mo : Bool) (G : Nat × Nat) (I : Nat → Nat → Int32) (J : Nat → Nat → Int64) (Q : Option Value → sm_M → Prop) (x1 : Int32) (x2 : Int32) (x3 : Int32) (s0 : Int32) :
    sm_wp X 100 5 [some (.ref 1), some (.int x1), some (.int x2), some (.int x3)] [.int s0] (sM mo G I J) Q =
    (if (s0 : Int32) = 0 then sm_wp X 100 38 [some (.ref 1), some (.int x1), some (.int x2), some (.int x3)] [] (sM mo G I J) Q else (sm_wp X 90 0 [some (.ref 1), some (.int x2)] [] (sM mo G I J) (fun v M => sm_wp X 100 13 [some (.ref 1), some (.int x1), some (.int x2), some (.int x3)] (v.toList ++ []) M Q))) :=
  (sm_blk X 100 5 (tt_lin 100 (by decide)) rfl rfl _ _ _ _).trans rfl
set_option maxRecDepth 100000 in
theorem bk_100_13 (X : (Nat → Int32) × Nat) (mo : Bool) (G : Nat × Nat) (I : Nat → Nat → Int32) (J : Nat → Nat → Int64) (Q : Option Value → sm_M → Prop) (x1 : Int32) (x2 : Int32) (x3 : Int32) (s0 : Int32) :
    sm_wp X 100 13 [some (.ref 1), some (.int x1), some (.int x2), some (.int x3)] [.int s0] (sM mo G I J) Q =
    (if (s0 : Int32) = 0 then sm_wp X 100 38 [some (.ref 1), some (.int x1), some (.int x2), some (.int x3)] [] (sM mo G I J) Q else (vp_in ((x1 * 12) + x2) 72 ∧ (True ∧ Q none (sM mo G (up2 (up2 I 13 ((x1 * 12) + x2).toNatClampNeg x3) 1 4 (((up2 I 13 ((x1 * 12) + x2).toNatClampNeg x3) 1 4) + 1)) J)))) :=
  (sm_blk X 100 13 (tt_lin 100 (by decide)) rfl rfl _ _ _ _).trans rfl
set_option maxRecDepth 100000 in
theorem bk_100_38 (X : (Nat → Int32) × Nat) (mo : Bool) (G : Nat × Nat) (I : Nat → Nat → Int32) (J : Nat → Nat → Int64) (Q : Option Value → sm_M → Prop) (x1 : Int32) (x2 : Int32) (x3 : Int32) :
    sm_wp X 100 38 [some (.ref 1), some (.int x1), some (.int x2), some (.int x3)] [] (sM mo G I J) Q =
    (True ∧ Q none (sM mo G I J)) :=
  (sm_blk X 100 38 (tt_lin 100 (by decide)) rfl rfl _ _ _ _).trans rfl
set_option maxRecDepth 100000 in
theorem bk_101_0 (X : (Nat → Int32) × Nat) (mo : Bool) (G : Nat × Nat) (I : Nat → Nat → Int32) (J : Nat → Nat → Int64) (Q : Option Value → sm_M → Prop) (x1 : Int32) (x2 : Int32) :
    sm_wp X 101 0 [some (.ref 1), some (.int x1), some (.int x2)] [] (sM mo G I J) Q =
    (sm_wp X 88 0 [some (.ref 1), some (.int x1)] [] (sM mo G I J) (fun v M => sm_wp X 101 5 [some (.ref 1), some (.int x1), some (.int x2)] (v.toList ++ []) M Q)) :=
  (sm_blk X 101 0 (tt_lin 101 (by decide)) rfl rfl _ _ _ _).trans rfl
set_option maxRecDepth 100000 in
theorem bk_101_5 (X : (Nat → Int32) × Nat) (mo : Bool) (G : Nat × Nat) (I : Nat → Nat → Int32) (J : Nat → Nat → Int64) (Q : Option Value → sm_M → Prop) (x1 : Int32) (x2 : Int32) (s0 : Int32) :
    sm_wp X 101 5 [some (.ref 1), some (.int x1), some (.int x2)] [.int s0] (sM mo G I J) Q =
    (if (s0 : Int32) = 0 then sm_wp X 101 25 [some (.ref 1), some (.int x1), some (.int x2)] [] (sM mo G I J) Q else (vp_in x1 6 ∧ (True ∧ Q none (sM mo G (up2 (up2 I 12 x1.toNatClampNeg x2) 1 4 (((up2 I 12 x1.toNatClampNeg x2) 1 4) + 1)) J)))) :=
  (sm_blk X 101 5 (tt_lin 101 (by decide)) rfl rfl _ _ _ _).trans rfl
set_option maxRecDepth 100000 in
theorem bk_101_25 (X : (Nat → Int32) × Nat) (mo : Bool) (G : Nat × Nat) (I : Nat → Nat → Int32) (J : Nat → Nat → Int64) (Q : Option Value → sm_M → Prop) (x1 : Int32) (x2 : Int32) :
    sm_wp X 101 25 [some (.ref 1), some (.int x1), some (.int x2)] [] (sM mo G I J) Q =
    (True ∧ Q none (sM mo G I J)) :=
  (sm_blk X 101 25 (tt_lin 101 (by decide)) rfl rfl _ _ _ _).trans rfl
set_option maxRecDepth 100000 in
theorem bk_102_0 (X : (Nat → Int32) × Nat) (mo : Bool) (G : Nat × Nat) (I : Nat → Nat → Int32) (J : Nat → Nat → Int64) (Q : Option Value → sm_M → Prop)  :
    sm_wp X 102 0 [some (.ref 1)] [] (sM mo G I J) Q =
    (True ∧ Q (some (.int ((1 <<< ((I 1 0) &&& 31)) - 1))) (sM mo G I J)) :=
  (sm_blk X 102 0 (tt_lin 102 (by decide)) rfl rfl _ _ _ _).trans rfl
set_option maxRecDepth 100000 in
theorem bk_103_0 (X : (Nat → Int32) × Nat) (mo : Bool) (G : Nat × Nat) (I : Nat → Nat → Int32) (J : Nat → Nat → Int64) (Q : Option Value → sm_M → Prop) (x1 : Int32) (x2 : Int32) :
    sm_wp X 103 0 [some (.ref 1), some (.int x1), some (.int x2), none, none] [] (sM mo G I J) Q =
    (sm_wp X 103 5 [some (.ref 1), some (.int x1), some (.int x2), some (.int 0), some (.int 0)] [] (sM mo G I J) Q) :=
  (sm_blk X 103 0 (tt_lin 103 (by decide)) rfl rfl _ _ _ _).trans rfl
set_option maxRecDepth 100000 in
theorem bk_103_5 (X : (Nat → Int32) × Nat) (mo : Bool) (G : Nat × Nat) (I : Nat → Nat → Int32) (J : Nat → Nat → Int64) (Q : Option Value → sm_M → Prop) (x1 : Int32) (x2 : Int32) (x3 : Int32) (x4 : Int32) :
    sm_wp X 103 5 [some (.ref 1), some (.int x1), some (.int x2), some (.int x3), some (.int x4)] [] (sM mo G I J) Q =
    (if (I 1 0 : Int32) ≤ (x4 : Int32) then sm_wp X 103 39 [some (.ref 1), some (.int x1), some (.int x2), some (.int x3), some (.int x4)] [] (sM mo G I J) Q else (sm_wp X 169 0 [some (.int x2), some (.int x4)] [] (sM mo G I J) (fun v M => sm_wp X 103 20 [some (.ref 1), some (.int x1), some (.int x2), some (.int x3), some (.int x4)] (v.toList ++ []) M Q))) :=
  (sm_blk X 103 5 (tt_lin 103 (by decide)) rfl rfl _ _ _ _).trans rfl
set_option maxRecDepth 100000 in
theorem bk_103_20 (X : (Nat → Int32) × Nat) (mo : Bool) (G : Nat × Nat) (I : Nat → Nat → Int32) (J : Nat → Nat → Int64) (Q : Option Value → sm_M → Prop) (x1 : Int32) (x2 : Int32) (x3 : Int32) (x4 : Int32) (s0 : Int32) :
    sm_wp X 103 20 [some (.ref 1), some (.int x1), some (.int x2), some (.int x3), some (.int x4)] [.int s0] (sM mo G I J) Q =
    (if (s0 : Int32) = 0 then sm_wp X 103 33 [some (.ref 1), some (.int x1), some (.int x2), some (.int x3), some (.int x4)] [] (sM mo G I J) Q else (sm_wp X 104 0 [some (.ref 1), some (.int x1), some (.int x4)] [] (sM mo G I J) (fun v M => sm_wp X 103 31 [some (.ref 1), some (.int x1), some (.int x2), some (.int x3), some (.int x4)] (v.toList ++ [.int x3]) M Q))) :=
  (sm_blk X 103 20 (tt_lin 103 (by decide)) rfl rfl _ _ _ _).trans rfl
set_option maxRecDepth 100000 in
theorem bk_103_31 (X : (Nat → Int32) × Nat) (mo : Bool) (G : Nat × Nat) (I : Nat → Nat → Int32) (J : Nat → Nat → Int64) (Q : Option Value → sm_M → Prop) (x1 : Int32) (x2 : Int32) (x3 : Int32) (x4 : Int32) (s0 : Int32) (s1 : Int32) :
    sm_wp X 103 31 [some (.ref 1), some (.int x1), some (.int x2), some (.int x3), some (.int x4)] [.int s1, .int s0] (sM mo G I J) Q =
    (sm_wp X 103 5 [some (.ref 1), some (.int x1), some (.int x2), some (.int (s0 + s1)), some (.int (x4 + 1))] [] (sM mo G I J) Q) :=
  (sm_blk X 103 31 (tt_lin 103 (by decide)) rfl rfl _ _ _ _).trans rfl
set_option maxRecDepth 100000 in
theorem bk_103_33 (X : (Nat → Int32) × Nat) (mo : Bool) (G : Nat × Nat) (I : Nat → Nat → Int32) (J : Nat → Nat → Int64) (Q : Option Value → sm_M → Prop) (x1 : Int32) (x2 : Int32) (x3 : Int32) (x4 : Int32) :
    sm_wp X 103 33 [some (.ref 1), some (.int x1), some (.int x2), some (.int x3), some (.int x4)] [] (sM mo G I J) Q =
    (sm_wp X 103 5 [some (.ref 1), some (.int x1), some (.int x2), some (.int x3), some (.int (x4 + 1))] [] (sM mo G I J) Q) :=
  (sm_blk X 103 33 (tt_lin 103 (by decide)) rfl rfl _ _ _ _).trans rfl
set_option maxRecDepth 100000 in
theorem bk_103_39 (X : (Nat → Int32) × Nat) (mo : Bool) (G : Nat × Nat) (I : Nat → Nat → Int32) (J : Nat → Nat → Int64) (Q : Option Value → sm_M → Prop) (x1 : Int32) (x2 : Int32) (x3 : Int32) (x4 : Int32) :
    sm_wp X 103 39 [some (.ref 1), some (.int x1), some (.int x2), some (.int x3), some (.int x4)] [] (sM mo G I J) Q =
    (True ∧ Q (some (.int x3)) (sM mo G I J)) :=
  (sm_blk X 103 39 (tt_lin 103 (by decide)) rfl rfl _ _ _ _).trans rfl
set_option maxRecDepth 100000 in
theorem bk_104_0 (X : (Nat → Int32) × Nat) (mo : Bool) (G : Nat × Nat) (I : Nat → Nat → Int32) (J : Nat → Nat → Int64) (Q : Option Value → sm_M → Prop) (x1 : Int32) (x2 : Int32) :
    sm_wp X 104 0 [some (.ref 1), some (.int x1), some (.int x2)] [] (sM mo G I J) Q =
    (if (x1 : Int32) < 0 then sm_wp X 104 20 [some (.ref 1), some (.int x1), some (.int x2)] [] (sM mo G I J) Q else (if (6 : Int32) ≤ (x1 : Int32) then sm_wp X 104 20 [some (.ref 1), some (.int x1), some (.int x2)] [] (sM mo G I J) Q else (if (x2 : Int32) < 0 then sm_wp X 104 20 [some (.ref 1), some (.int x1), some (.int x2)] [] (sM mo G I J) Q else (if (x2 : Int32) < (12 : Int32) then sm_wp X 104 22 [some (.ref 1), some (.int x1), some (.int x2)] [] (sM mo G I J) Q else (True ∧ Q (some (.int 0)) (sM mo G I J)))))) :=
  (sm_blk X 104 0 (tt_lin 104 (by decide)) rfl rfl _ _ _ _).trans rfl
set_option maxRecDepth 100000 in
theorem bk_104_20 (X : (Nat → Int32) × Nat) (mo : Bool) (G : Nat × Nat) (I : Nat → Nat → Int32) (J : Nat → Nat → Int64) (Q : Option Value → sm_M → Prop) (x1 : Int32) (x2 : Int32) :
    sm_wp X 104 20 [some (.ref 1), some (.int x1), some (.int x2)] [] (sM mo G I J) Q =
    (True ∧ Q (some (.int 0)) (sM mo G I J)) :=
  (sm_blk X 104 20 (tt_lin 104 (by decide)) rfl rfl _ _ _ _).trans rfl
set_option maxRecDepth 100000 in
theorem bk_104_22 (X : (Nat → Int32) × Nat) (mo : Bool) (G : Nat × Nat) (I : Nat → Nat → Int32) (J : Nat → Nat → Int64) (Q : Option Value → sm_M → Prop) (x1 : Int32) (x2 : Int32) :
    sm_wp X 104 22 [some (.ref 1), some (.int x1), some (.int x2)] [] (sM mo G I J) Q =
    (vp_in ((x1 * 12) + x2) 72 ∧ (True ∧ Q (some (.int (I 13 (((x1 * 12) + x2).toNatClampNeg)))) (sM mo G I J))) :=
  (sm_blk X 104 22 (tt_lin 104 (by decide)) rfl rfl _ _ _ _).trans rfl
set_option maxRecDepth 100000 in
theorem bk_105_0 (X : (Nat → Int32) × Nat) (mo : Bool) (G : Nat × Nat) (I : Nat → Nat → Int32) (J : Nat → Nat → Int64) (Q : Option Value → sm_M → Prop) (x1 : Int32) :
    sm_wp X 105 0 [some (.ref 1), some (.int x1), none, none] [] (sM mo G I J) Q =
    (sm_wp X 105 4 [some (.ref 1), some (.int x1), some (.int 0), some (.int 0)] [] (sM mo G I J) Q) :=
  (sm_blk X 105 0 (tt_lin 105 (by decide)) rfl rfl _ _ _ _).trans rfl
set_option maxRecDepth 100000 in
theorem bk_105_4 (X : (Nat → Int32) × Nat) (mo : Bool) (G : Nat × Nat) (I : Nat → Nat → Int32) (J : Nat → Nat → Int64) (Q : Option Value → sm_M → Prop) (x1 : Int32) (x2 : Int32) (x3 : Int32) :
    sm_wp X 105 4 [some (.ref 1), some (.int x1), some (.int x2), some (.int x3)] [] (sM mo G I J) Q =
    (if (I 1 0 : Int32) ≤ (x3 : Int32) then sm_wp X 105 40 [some (.ref 1), some (.int x1), some (.int x2), some (.int x3)] [] (sM mo G I J) Q else (if (12 : Int32) ≤ (x3 : Int32) then sm_wp X 105 40 [some (.ref 1), some (.int x1), some (.int x2), some (.int x3)] [] (sM mo G I J) Q else (vp_in x3 12 ∧ (if ¬ (I 4 (x3.toNatClampNeg) : Int32) = (x1 : Int32) then sm_wp X 105 34 [some (.ref 1), some (.int x1), some (.int x2), some (.int x3)] [] (sM mo G I J) Q else (sm_wp X 105 4 [some (.ref 1), some (.int x1), some (.int (x2 ||| (1 <<< (x3 &&& 31)))), some (.int (x3 + 1))] [] (sM mo G I J) Q))))) :=
  (sm_blk X 105 4 (tt_lin 105 (by decide)) rfl rfl _ _ _ _).trans rfl
set_option maxRecDepth 100000 in
theorem bk_105_34 (X : (Nat → Int32) × Nat) (mo : Bool) (G : Nat × Nat) (I : Nat → Nat → Int32) (J : Nat → Nat → Int64) (Q : Option Value → sm_M → Prop) (x1 : Int32) (x2 : Int32) (x3 : Int32) :
    sm_wp X 105 34 [some (.ref 1), some (.int x1), some (.int x2), some (.int x3)] [] (sM mo G I J) Q =
    (sm_wp X 105 4 [some (.ref 1), some (.int x1), some (.int x2), some (.int (x3 + 1))] [] (sM mo G I J) Q) :=
  (sm_blk X 105 34 (tt_lin 105 (by decide)) rfl rfl _ _ _ _).trans rfl
set_option maxRecDepth 100000 in
theorem bk_105_40 (X : (Nat → Int32) × Nat) (mo : Bool) (G : Nat × Nat) (I : Nat → Nat → Int32) (J : Nat → Nat → Int64) (Q : Option Value → sm_M → Prop) (x1 : Int32) (x2 : Int32) (x3 : Int32) :
    sm_wp X 105 40 [some (.ref 1), some (.int x1), some (.int x2), some (.int x3)] [] (sM mo G I J) Q =
    (True ∧ Q (some (.int x2)) (sM mo G I J)) :=
  (sm_blk X 105 40 (tt_lin 105 (by decide)) rfl rfl _ _ _ _).trans rfl
set_option maxRecDepth 100000 in
theorem bk_106_0 (X : (Nat → Int32) × Nat) (mo : Bool) (G : Nat × Nat) (I : Nat → Nat → Int32) (J : Nat → Nat → Int64) (Q : Option Value → sm_M → Prop) (x1 : Int32) :
    sm_wp X 106 0 [some (.ref 1), some (.int x1), none, none] [] (sM mo G I J) Q =
    (sm_wp X 106 4 [some (.ref 1), some (.int x1), some (.int 0), some (.int 0)] [] (sM mo G I J) Q) :=
  (sm_blk X 106 0 (tt_lin 106 (by decide)) rfl rfl _ _ _ _).trans rfl
set_option maxRecDepth 100000 in
theorem bk_106_4 (X : (Nat → Int32) × Nat) (mo : Bool) (G : Nat × Nat) (I : Nat → Nat → Int32) (J : Nat → Nat → Int64) (Q : Option Value → sm_M → Prop) (x1 : Int32) (x2 : Int32) (x3 : Int32) :
    sm_wp X 106 4 [some (.ref 1), some (.int x1), some (.int x2), some (.int x3)] [] (sM mo G I J) Q =
    (if (I 1 0 : Int32) ≤ (x3 : Int32) then sm_wp X 106 41 [some (.ref 1), some (.int x1), some (.int x2), some (.int x3)] [] (sM mo G I J) Q else (if (12 : Int32) ≤ (x3 : Int32) then sm_wp X 106 41 [some (.ref 1), some (.int x1), some (.int x2), some (.int x3)] [] (sM mo G I J) Q else (sm_wp X 169 0 [some (.int x1), some (.int x3)] [] (sM mo G I J) (fun v M => sm_wp X 106 23 [some (.ref 1), some (.int x1), some (.int x2), some (.int x3)] (v.toList ++ []) M Q)))) :=
  (sm_blk X 106 4 (tt_lin 106 (by decide)) rfl rfl _ _ _ _).trans rfl
set_option maxRecDepth 100000 in
theorem bk_106_23 (X : (Nat → Int32) × Nat) (mo : Bool) (G : Nat × Nat) (I : Nat → Nat → Int32) (J : Nat → Nat → Int64) (Q : Option Value → sm_M → Prop) (x1 : Int32) (x2 : Int32) (x3 : Int32) (s0 : Int32) :
    sm_wp X 106 23 [some (.ref 1), some (.int x1), some (.int x2), some (.int x3)] [.int s0] (sM mo G I J) Q =
    (if (s0 : Int32) = 0 then sm_wp X 106 35 [some (.ref 1), some (.int x1), some (.int x2), some (.int x3)] [] (sM mo G I J) Q else (vp_in x3 12 ∧ (sm_wp X 106 4 [some (.ref 1), some (.int x1), some (.int (x2 + (I 2 (x3.toNatClampNeg)))), some (.int (x3 + 1))] [] (sM mo G I J) Q))) :=
  (sm_blk X 106 23 (tt_lin 106 (by decide)) rfl rfl _ _ _ _).trans rfl
set_option maxRecDepth 100000 in
theorem bk_106_35 (X : (Nat → Int32) × Nat) (mo : Bool) (G : Nat × Nat) (I : Nat → Nat → Int32) (J : Nat → Nat → Int64) (Q : Option Value → sm_M → Prop) (x1 : Int32) (x2 : Int32) (x3 : Int32) :
    sm_wp X 106 35 [some (.ref 1), some (.int x1), some (.int x2), some (.int x3)] [] (sM mo G I J) Q =
    (sm_wp X 106 4 [some (.ref 1), some (.int x1), some (.int x2), some (.int (x3 + 1))] [] (sM mo G I J) Q) :=
  (sm_blk X 106 35 (tt_lin 106 (by decide)) rfl rfl _ _ _ _).trans rfl
set_option maxRecDepth 100000 in
theorem bk_106_41 (X : (Nat → Int32) × Nat) (mo : Bool) (G : Nat × Nat) (I : Nat → Nat → Int32) (J : Nat → Nat → Int64) (Q : Option Value → sm_M → Prop) (x1 : Int32) (x2 : Int32) (x3 : Int32) :
    sm_wp X 106 41 [some (.ref 1), some (.int x1), some (.int x2), some (.int x3)] [] (sM mo G I J) Q =
    (True ∧ Q (some (.int x2)) (sM mo G I J)) :=
  (sm_blk X 106 41 (tt_lin 106 (by decide)) rfl rfl _ _ _ _).trans rfl
set_option maxRecDepth 100000 in
theorem bk_107_0 (X : (Nat → Int32) × Nat) (mo : Bool) (G : Nat × Nat) (I : Nat → Nat → Int32) (J : Nat → Nat → Int64) (Q : Option Value → sm_M → Prop) (x1 : Int32) (x2 : Int32) :
    sm_wp X 107 0 [some (.ref 1), some (.int x1), some (.int x2), none, none] [] (sM mo G I J) Q =
    (sm_wp X 107 5 [some (.ref 1), some (.int x1), some (.int x2), some (.int 0), some (.int 0)] [] (sM mo G I J) Q) :=
  (sm_blk X 107 0 (tt_lin 107 (by decide)) rfl rfl _ _ _ _).trans rfl
set_option maxRecDepth 100000 in
theorem bk_107_5 (X : (Nat → Int32) × Nat) (mo : Bool) (G : Nat × Nat) (I : Nat → Nat → Int32) (J : Nat → Nat → Int64) (Q : Option Value → sm_M → Prop) (x1 : Int32) (x2 : Int32) (x3 : Int32) (x4 : Int32) :
    sm_wp X 107 5 [some (.ref 1), some (.int x1), some (.int x2), some (.int x3), some (.int x4)] [] (sM mo G I J) Q =
    (if (I 1 0 : Int32) ≤ (x4 : Int32) then sm_wp X 107 51 [some (.ref 1), some (.int x1), some (.int x2), some (.int x3), some (.int x4)] [] (sM mo G I J) Q else (if (12 : Int32) ≤ (x4 : Int32) then sm_wp X 107 51 [some (.ref 1), some (.int x1), some (.int x2), some (.int x3), some (.int x4)] [] (sM mo G I J) Q else (sm_wp X 169 0 [some (.int x1), some (.int x4)] [] (sM mo G I J) (fun v M => sm_wp X 107 27 [some (.ref 1), some (.int x1), some (.int x2), some (.int x3), some (.int x4)] (v.toList ++ []) M Q)))) :=
  (sm_blk X 107 5 (tt_lin 107 (by decide)) rfl rfl _ _ _ _).trans rfl
set_option maxRecDepth 100000 in
theorem bk_107_27 (X : (Nat → Int32) × Nat) (mo : Bool) (G : Nat × Nat) (I : Nat → Nat → Int32) (J : Nat → Nat → Int64) (Q : Option Value → sm_M → Prop) (x1 : Int32) (x2 : Int32) (x3 : Int32) (x4 : Int32) (s0 : Int32) :
    sm_wp X 107 27 [some (.ref 1), some (.int x1), some (.int x2), some (.int x3), some (.int x4)] [.int s0] (sM mo G I J) Q =
    (if (s0 : Int32) = 0 then sm_wp X 107 45 [some (.ref 1), some (.int x1), some (.int x2), some (.int x3), some (.int x4)] [] (sM mo G I J) Q else (vp_in x4 12 ∧ (if ((I 3 (x4.toNatClampNeg)) &&& x2 : Int32) = 0 then sm_wp X 107 45 [some (.ref 1), some (.int x1), some (.int x2), some (.int x3), some (.int x4)] [] (sM mo G I J) Q else (sm_wp X 107 5 [some (.ref 1), some (.int x1), some (.int x2), some (.int (x3 + 1)), some (.int (x4 + 1))] [] (sM mo G I J) Q)))) :=
  (sm_blk X 107 27 (tt_lin 107 (by decide)) rfl rfl _ _ _ _).trans rfl
set_option maxRecDepth 100000 in
theorem bk_107_45 (X : (Nat → Int32) × Nat) (mo : Bool) (G : Nat × Nat) (I : Nat → Nat → Int32) (J : Nat → Nat → Int64) (Q : Option Value → sm_M → Prop) (x1 : Int32) (x2 : Int32) (x3 : Int32) (x4 : Int32) :
    sm_wp X 107 45 [some (.ref 1), some (.int x1), some (.int x2), some (.int x3), some (.int x4)] [] (sM mo G I J) Q =
    (sm_wp X 107 5 [some (.ref 1), some (.int x1), some (.int x2), some (.int x3), some (.int (x4 + 1))] [] (sM mo G I J) Q) :=
  (sm_blk X 107 45 (tt_lin 107 (by decide)) rfl rfl _ _ _ _).trans rfl
set_option maxRecDepth 100000 in
theorem bk_107_51 (X : (Nat → Int32) × Nat) (mo : Bool) (G : Nat × Nat) (I : Nat → Nat → Int32) (J : Nat → Nat → Int64) (Q : Option Value → sm_M → Prop) (x1 : Int32) (x2 : Int32) (x3 : Int32) (x4 : Int32) :
    sm_wp X 107 51 [some (.ref 1), some (.int x1), some (.int x2), some (.int x3), some (.int x4)] [] (sM mo G I J) Q =
    (True ∧ Q (some (.int x3)) (sM mo G I J)) :=
  (sm_blk X 107 51 (tt_lin 107 (by decide)) rfl rfl _ _ _ _).trans rfl
set_option maxRecDepth 100000 in
theorem bk_108_0 (X : (Nat → Int32) × Nat) (mo : Bool) (G : Nat × Nat) (I : Nat → Nat → Int32) (J : Nat → Nat → Int64) (Q : Option Value → sm_M → Prop) (x1 : Int32) :
    sm_wp X 108 0 [some (.ref 1), some (.int x1)] [] (sM mo G I J) Q =
    (sm_wp X 88 0 [some (.ref 1), some (.int x1)] [] (sM mo G I J) (fun v M => sm_wp X 108 5 [some (.ref 1), some (.int x1)] (v.toList ++ []) M Q)) :=
  (sm_blk X 108 0 (tt_lin 108 (by decide)) rfl rfl _ _ _ _).trans rfl
set_option maxRecDepth 100000 in
theorem bk_108_5 (X : (Nat → Int32) × Nat) (mo : Bool) (G : Nat × Nat) (I : Nat → Nat → Int32) (J : Nat → Nat → Int64) (Q : Option Value → sm_M → Prop) (x1 : Int32) (s0 : Int32) :
    sm_wp X 108 5 [some (.ref 1), some (.int x1)] [.int s0] (sM mo G I J) Q =
    (if (s0 : Int32) = 0 then sm_wp X 108 17 [some (.ref 1), some (.int x1)] [] (sM mo G I J) Q else (vp_in x1 6 ∧ (sm_wp X 108 18 [some (.ref 1), some (.int x1)] [.int (I 12 (x1.toNatClampNeg))] (sM mo G I J) Q))) :=
  (sm_blk X 108 5 (tt_lin 108 (by decide)) rfl rfl _ _ _ _).trans rfl
set_option maxRecDepth 100000 in
theorem bk_108_17 (X : (Nat → Int32) × Nat) (mo : Bool) (G : Nat × Nat) (I : Nat → Nat → Int32) (J : Nat → Nat → Int64) (Q : Option Value → sm_M → Prop) (x1 : Int32) :
    sm_wp X 108 17 [some (.ref 1), some (.int x1)] [] (sM mo G I J) Q =
    (True ∧ Q (some (.int 0)) (sM mo G I J)) :=
  (sm_blk X 108 17 (tt_lin 108 (by decide)) rfl rfl _ _ _ _).trans rfl
set_option maxRecDepth 100000 in
theorem bk_108_18 (X : (Nat → Int32) × Nat) (mo : Bool) (G : Nat × Nat) (I : Nat → Nat → Int32) (J : Nat → Nat → Int64) (Q : Option Value → sm_M → Prop) (x1 : Int32) (s0 : Int32) :
    sm_wp X 108 18 [some (.ref 1), some (.int x1)] [.int s0] (sM mo G I J) Q =
    (True ∧ Q (some (.int s0)) (sM mo G I J)) :=
  (sm_blk X 108 18 (tt_lin 108 (by decide)) rfl rfl _ _ _ _).trans rfl
set_option maxRecDepth 100000 in
theorem bk_109_0 (X : (Nat → Int32) × Nat) (mo : Bool) (G : Nat × Nat) (I : Nat → Nat → Int32) (J : Nat → Nat → Int64) (Q : Option Value → sm_M → Prop) (x1 : Int32) :
    sm_wp X 109 0 [some (.ref 1), some (.int x1)] [] (sM mo G I J) Q =
    (sm_wp X 88 0 [some (.ref 1), some (.int x1)] [] (sM mo G I J) (fun v M => sm_wp X 109 5 [some (.ref 1), some (.int x1)] (v.toList ++ []) M Q)) :=
  (sm_blk X 109 0 (tt_lin 109 (by decide)) rfl rfl _ _ _ _).trans rfl
set_option maxRecDepth 100000 in
theorem bk_109_5 (X : (Nat → Int32) × Nat) (mo : Bool) (G : Nat × Nat) (I : Nat → Nat → Int32) (J : Nat → Nat → Int64) (Q : Option Value → sm_M → Prop) (x1 : Int32) (s0 : Int32) :
    sm_wp X 109 5 [some (.ref 1), some (.int x1)] [.int s0] (sM mo G I J) Q =
    (if (s0 : Int32) = 0 then sm_wp X 109 17 [some (.ref 1), some (.int x1)] [] (sM mo G I J) Q else (vp_in x1 6 ∧ (sm_wp X 109 18 [some (.ref 1), some (.int x1)] [.int (I 10 (x1.toNatClampNeg))] (sM mo G I J) Q))) :=
  (sm_blk X 109 5 (tt_lin 109 (by decide)) rfl rfl _ _ _ _).trans rfl
set_option maxRecDepth 100000 in
theorem bk_109_17 (X : (Nat → Int32) × Nat) (mo : Bool) (G : Nat × Nat) (I : Nat → Nat → Int32) (J : Nat → Nat → Int64) (Q : Option Value → sm_M → Prop) (x1 : Int32) :
    sm_wp X 109 17 [some (.ref 1), some (.int x1)] [] (sM mo G I J) Q =
    (True ∧ Q (some (.int 0)) (sM mo G I J)) :=
  (sm_blk X 109 17 (tt_lin 109 (by decide)) rfl rfl _ _ _ _).trans rfl
set_option maxRecDepth 100000 in
theorem bk_109_18 (X : (Nat → Int32) × Nat) (mo : Bool) (G : Nat × Nat) (I : Nat → Nat → Int32) (J : Nat → Nat → Int64) (Q : Option Value → sm_M → Prop) (x1 : Int32) (s0 : Int32) :
    sm_wp X 109 18 [some (.ref 1), some (.int x1)] [.int s0] (sM mo G I J) Q =
    (True ∧ Q (some (.int s0)) (sM mo G I J)) :=
  (sm_blk X 109 18 (tt_lin 109 (by decide)) rfl rfl _ _ _ _).trans rfl
set_option maxRecDepth 100000 in
theorem bk_110_0 (X : (Nat → Int32) × Nat) (mo : Bool) (G : Nat × Nat) (I : Nat → Nat → Int32) (J : Nat → Nat → Int64) (Q : Option Value → sm_M → Prop) (x1 : Int32) :
    sm_wp X 110 0 [some (.ref 1), some (.int x1)] [] (sM mo G I J) Q =
    (sm_wp X 88 0 [some (.ref 1), some (.int x1)] [] (sM mo G I J) (fun v M => sm_wp X 110 5 [some (.ref 1), some (.int x1)] (v.toList ++ []) M Q)) :=
  (sm_blk X 110 0 (tt_lin 110 (by decide)) rfl rfl _ _ _ _).trans rfl
set_option maxRecDepth 100000 in
theorem bk_110_5 (X : (Nat → Int32) × Nat) (mo : Bool) (G : Nat × Nat) (I : Nat → Nat → Int32) (J : Nat → Nat → Int64) (Q : Option Value → sm_M → Prop) (x1 : Int32) (s0 : Int32) :
    sm_wp X 110 5 [some (.ref 1), some (.int x1)] [.int s0] (sM mo G I J) Q =
    (if (s0 : Int32) = 0 then sm_wp X 110 17 [some (.ref 1), some (.int x1)] [] (sM mo G I J) Q else (vp_in x1 6 ∧ (sm_wp X 110 18 [some (.ref 1), some (.int x1)] [.int (I 11 (x1.toNatClampNeg))] (sM mo G I J) Q))) :=
  (sm_blk X 110 5 (tt_lin 110 (by decide)) rfl rfl _ _ _ _).trans rfl
set_option maxRecDepth 100000 in
theorem bk_110_17 (X : (Nat → Int32) × Nat) (mo : Bool) (G : Nat × Nat) (I : Nat → Nat → Int32) (J : Nat → Nat → Int64) (Q : Option Value → sm_M → Prop) (x1 : Int32) :
    sm_wp X 110 17 [some (.ref 1), some (.int x1)] [] (sM mo G I J) Q =
    (True ∧ Q (some (.int 0)) (sM mo G I J)) :=
  (sm_blk X 110 17 (tt_lin 110 (by decide)) rfl rfl _ _ _ _).trans rfl
set_option maxRecDepth 100000 in
theorem bk_110_18 (X : (Nat → Int32) × Nat) (mo : Bool) (G : Nat × Nat) (I : Nat → Nat → Int32) (J : Nat → Nat → Int64) (Q : Option Value → sm_M → Prop) (x1 : Int32) (s0 : Int32) :
    sm_wp X 110 18 [some (.ref 1), some (.int x1)] [.int s0] (sM mo G I J) Q =
    (True ∧ Q (some (.int s0)) (sM mo G I J)) :=
  (sm_blk X 110 18 (tt_lin 110 (by decide)) rfl rfl _ _ _ _).trans rfl
set_option maxRecDepth 100000 in
theorem bk_111_0 (X : (Nat → Int32) × Nat) (mo : Bool) (G : Nat × Nat) (I : Nat → Nat → Int32) (J : Nat → Nat → Int64) (Q : Option Value → sm_M → Prop) (x1 : Int32) :
    sm_wp X 111 0 [some (.ref 1), some (.int x1)] [] (sM mo G I J) Q =
    (sm_wp X 105 0 [some (.ref 1), some (.int x1), none, none] [] (sM mo G I J) (fun v M => sm_wp X 111 7 [some (.ref 1), some (.int x1)] (v.toList ++ [.int x1, .ref 1]) M Q)) :=
  (sm_blk X 111 0 (tt_lin 111 (by decide)) rfl rfl _ _ _ _).trans rfl
set_option maxRecDepth 100000 in
theorem bk_111_7 (X : (Nat → Int32) × Nat) (mo : Bool) (G : Nat × Nat) (I : Nat → Nat → Int32) (J : Nat → Nat → Int64) (Q : Option Value → sm_M → Prop) (x1 : Int32) (s1 : Int32) (s2 : Int32) :
    sm_wp X 111 7 [some (.ref 1), some (.int x1)] [.int s2, .int s1, .ref 1] (sM mo G I J) Q =
    (sm_wp X 103 0 [some (.ref 1), some (.int s1), some (.int s2), none, none] [] (sM mo G I J) (fun v M => sm_wp X 111 10 [some (.ref 1), some (.int x1)] (v.toList ++ []) M Q)) :=
  (sm_blk X 111 7 (tt_lin 111 (by decide)) rfl rfl _ _ _ _).trans rfl
set_option maxRecDepth 100000 in
theorem bk_111_10 (X : (Nat → Int32) × Nat) (mo : Bool) (G : Nat × Nat) (I : Nat → Nat → Int32) (J : Nat → Nat → Int64) (Q : Option Value → sm_M → Prop) (x1 : Int32) (s0 : Int32) :
    sm_wp X 111 10 [some (.ref 1), some (.int x1)] [.int s0] (sM mo G I J) Q =
    (True ∧ Q (some (.int s0)) (sM mo G I J)) :=
  (sm_blk X 111 10 (tt_lin 111 (by decide)) rfl rfl _ _ _ _).trans rfl
set_option maxRecDepth 100000 in
theorem bk_112_0 (X : (Nat → Int32) × Nat) (mo : Bool) (G : Nat × Nat) (I : Nat → Nat → Int32) (J : Nat → Nat → Int64) (Q : Option Value → sm_M → Prop) (x1 : Int32) :
    sm_wp X 112 0 [some (.ref 1), some (.int x1), none, none] [] (sM mo G I J) Q =
    (sm_wp X 112 4 [some (.ref 1), some (.int x1), some (.int 0), some (.int 0)] [] (sM mo G I J) Q) :=
  (sm_blk X 112 0 (tt_lin 112 (by decide)) rfl rfl _ _ _ _).trans rfl
set_option maxRecDepth 100000 in
theorem bk_112_4 (X : (Nat → Int32) × Nat) (mo : Bool) (G : Nat × Nat) (I : Nat → Nat → Int32) (J : Nat → Nat → Int64) (Q : Option Value → sm_M → Prop) (x1 : Int32) (x2 : Int32) (x3 : Int32) :
    sm_wp X 112 4 [some (.ref 1), some (.int x1), some (.int x2), some (.int x3)] [] (sM mo G I J) Q =
    (if (I 1 0 : Int32) ≤ (x3 : Int32) then sm_wp X 112 30 [some (.ref 1), some (.int x1), some (.int x2), some (.int x3)] [] (sM mo G I J) Q else (sm_wp X 113 0 [some (.ref 1), some (.int x3), some (.int x1)] [] (sM mo G I J) (fun v M => sm_wp X 112 18 [some (.ref 1), some (.int x1), some (.int x2), some (.int x3)] (v.toList ++ []) M Q))) :=
  (sm_blk X 112 4 (tt_lin 112 (by decide)) rfl rfl _ _ _ _).trans rfl
set_option maxRecDepth 100000 in
theorem bk_112_18 (X : (Nat → Int32) × Nat) (mo : Bool) (G : Nat × Nat) (I : Nat → Nat → Int32) (J : Nat → Nat → Int64) (Q : Option Value → sm_M → Prop) (x1 : Int32) (x2 : Int32) (x3 : Int32) (s0 : Int32) :
    sm_wp X 112 18 [some (.ref 1), some (.int x1), some (.int x2), some (.int x3)] [.int s0] (sM mo G I J) Q =
    (if (s0 : Int32) = 0 then sm_wp X 112 24 [some (.ref 1), some (.int x1), some (.int x2), some (.int x3)] [] (sM mo G I J) Q else (sm_wp X 112 4 [some (.ref 1), some (.int x1), some (.int (x2 + 1)), some (.int (x3 + 1))] [] (sM mo G I J) Q)) :=
  (sm_blk X 112 18 (tt_lin 112 (by decide)) rfl rfl _ _ _ _).trans rfl
set_option maxRecDepth 100000 in
theorem bk_112_24 (X : (Nat → Int32) × Nat) (mo : Bool) (G : Nat × Nat) (I : Nat → Nat → Int32) (J : Nat → Nat → Int64) (Q : Option Value → sm_M → Prop) (x1 : Int32) (x2 : Int32) (x3 : Int32) :
    sm_wp X 112 24 [some (.ref 1), some (.int x1), some (.int x2), some (.int x3)] [] (sM mo G I J) Q =
    (sm_wp X 112 4 [some (.ref 1), some (.int x1), some (.int x2), some (.int (x3 + 1))] [] (sM mo G I J) Q) :=
  (sm_blk X 112 24 (tt_lin 112 (by decide)) rfl rfl _ _ _ _).trans rfl
set_option maxRecDepth 100000 in
theorem bk_112_30 (X : (Nat → Int32) × Nat) (mo : Bool) (G : Nat × Nat) (I : Nat → Nat → Int32) (J : Nat → Nat → Int64) (Q : Option Value → sm_M → Prop) (x1 : Int32) (x2 : Int32) (x3 : Int32) :
    sm_wp X 112 30 [some (.ref 1), some (.int x1), some (.int x2), some (.int x3)] [] (sM mo G I J) Q =
    (True ∧ Q (some (.int x2)) (sM mo G I J)) :=
  (sm_blk X 112 30 (tt_lin 112 (by decide)) rfl rfl _ _ _ _).trans rfl
set_option maxRecDepth 100000 in
theorem bk_113_0 (X : (Nat → Int32) × Nat) (mo : Bool) (G : Nat × Nat) (I : Nat → Nat → Int32) (J : Nat → Nat → Int64) (Q : Option Value → sm_M → Prop) (x1 : Int32) (x2 : Int32) :
    sm_wp X 113 0 [some (.ref 1), some (.int x1), some (.int x2)] [] (sM mo G I J) Q =
    (sm_wp X 98 0 [some (.ref 1), some (.int x1)] [] (sM mo G I J) (fun v M => sm_wp X 113 5 [some (.ref 1), some (.int x1), some (.int x2)] (v.toList ++ []) M Q)) :=
  (sm_blk X 113 0 (tt_lin 113 (by decide)) rfl rfl _ _ _ _).trans rfl
set_option maxRecDepth 100000 in
theorem bk_113_5 (X : (Nat → Int32) × Nat) (mo : Bool) (G : Nat × Nat) (I : Nat → Nat → Int32) (J : Nat → Nat → Int64) (Q : Option Value → sm_M → Prop) (x1 : Int32) (x2 : Int32) (s0 : Int32) :
    sm_wp X 113 5 [some (.ref 1), some (.int x1), some (.int x2)] [.int s0] (sM mo G I J) Q =
    (sm_wp X 314 0 [some (.int (s0 &&& x2))] [] (sM mo G I J) (fun v M => sm_wp X 113 10 [some (.ref 1), some (.int x1), some (.int x2)] (v.toList ++ []) M Q)) :=
  (sm_blk X 113 5 (tt_lin 113 (by decide)) rfl rfl _ _ _ _).trans rfl
set_option maxRecDepth 100000 in
theorem bk_113_10 (X : (Nat → Int32) × Nat) (mo : Bool) (G : Nat × Nat) (I : Nat → Nat → Int32) (J : Nat → Nat → Int64) (Q : Option Value → sm_M → Prop) (x1 : Int32) (x2 : Int32) (s0 : Int32) :
    sm_wp X 113 10 [some (.ref 1), some (.int x1), some (.int x2)] [.int s0] (sM mo G I J) Q =
    (if (s0 : Int32) < (2 : Int32) then sm_wp X 113 18 [some (.ref 1), some (.int x1), some (.int x2)] [] (sM mo G I J) Q else (sm_wp X 113 19 [some (.ref 1), some (.int x1), some (.int x2)] [.int 1] (sM mo G I J) Q)) :=
  (sm_blk X 113 10 (tt_lin 113 (by decide)) rfl rfl _ _ _ _).trans rfl
set_option maxRecDepth 100000 in
theorem bk_113_18 (X : (Nat → Int32) × Nat) (mo : Bool) (G : Nat × Nat) (I : Nat → Nat → Int32) (J : Nat → Nat → Int64) (Q : Option Value → sm_M → Prop) (x1 : Int32) (x2 : Int32) :
    sm_wp X 113 18 [some (.ref 1), some (.int x1), some (.int x2)] [] (sM mo G I J) Q =
    (sm_zb 0 ∧ Q (some (.int 0)) (sM mo G I J)) :=
  (sm_blk X 113 18 (tt_lin 113 (by decide)) rfl rfl _ _ _ _).trans rfl
set_option maxRecDepth 100000 in
theorem bk_113_19 (X : (Nat → Int32) × Nat) (mo : Bool) (G : Nat × Nat) (I : Nat → Nat → Int32) (J : Nat → Nat → Int64) (Q : Option Value → sm_M → Prop) (x1 : Int32) (x2 : Int32) (s0 : Int32) :
    sm_wp X 113 19 [some (.ref 1), some (.int x1), some (.int x2)] [.int s0] (sM mo G I J) Q =
    (sm_zb s0 ∧ Q (some (.int s0)) (sM mo G I J)) :=
  (sm_blk X 113 19 (tt_lin 113 (by decide)) rfl rfl _ _ _ _).trans rfl
set_option maxRecDepth 100000 in
theorem bk_114_0 (X : (Nat → Int32) × Nat) (mo : Bool) (G : Nat × Nat) (I : Nat → Nat → Int32) (J : Nat → Nat → Int64) (Q : Option Value → sm_M → Prop) (x1 : Int32) :
    sm_wp X 114 0 [some (.ref 1), some (.int x1)] [] (sM mo G I J) Q =
    (sm_wp X 88 0 [some (.ref 1), some (.int x1)] [] (sM mo G I J) (fun v M => sm_wp X 114 5 [some (.ref 1), some (.int x1)] (v.toList ++ []) M Q)) :=
  (sm_blk X 114 0 (tt_lin 114 (by decide)) rfl rfl _ _ _ _).trans rfl
set_option maxRecDepth 100000 in
theorem bk_114_5 (X : (Nat → Int32) × Nat) (mo : Bool) (G : Nat × Nat) (I : Nat → Nat → Int32) (J : Nat → Nat → Int64) (Q : Option Value → sm_M → Prop) (x1 : Int32) (s0 : Int32) :
    sm_wp X 114 5 [some (.ref 1), some (.int x1)] [.int s0] (sM mo G I J) Q =
    (if (s0 : Int32) = 0 then sm_wp X 114 32 [some (.ref 1), some (.int x1)] [] (sM mo G I J) Q else (True ∧ Q none (sM mo G (up2 (up2 I 1 2 ((I 1 2) &&& ((1 <<< (x1 &&& 31)) ^^^ (-1)))) 1 4 (((up2 I 1 2 ((I 1 2) &&& ((1 <<< (x1 &&& 31)) ^^^ (-1)))) 1 4) + 1)) J))) :=
  (sm_blk X 114 5 (tt_lin 114 (by decide)) rfl rfl _ _ _ _).trans rfl
set_option maxRecDepth 100000 in
theorem bk_114_32 (X : (Nat → Int32) × Nat) (mo : Bool) (G : Nat × Nat) (I : Nat → Nat → Int32) (J : Nat → Nat → Int64) (Q : Option Value → sm_M → Prop) (x1 : Int32) :
    sm_wp X 114 32 [some (.ref 1), some (.int x1)] [] (sM mo G I J) Q =
    (True ∧ Q none (sM mo G I J)) :=
  (sm_blk X 114 32 (tt_lin 114 (by decide)) rfl rfl _ _ _ _).trans rfl
set_option maxRecDepth 100000 in
theorem bk_115_0 (X : (Nat → Int32) × Nat) (mo : Bool) (G : Nat × Nat) (I : Nat → Nat → Int32) (J : Nat → Nat → Int64) (Q : Option Value → sm_M → Prop) (x1 : Int32) (x2 : Int32) (x3 : Int32) :
    sm_wp X 115 0 [some (.ref 1), some (.int x1), some (.int x2), some (.int x3), none] [] (sM mo G I J) Q =
    (sm_wp X 90 0 [some (.ref 1), some (.int x1)] [] (sM mo G I J) (fun v M => sm_wp X 115 5 [some (.ref 1), some (.int x1), some (.int x2), some (.int x3), none] (v.toList ++ []) M Q)) :=
  (sm_blk X 115 0 (tt_lin 115 (by decide)) rfl rfl _ _ _ _).trans rfl
set_option maxRecDepth 100000 in
theorem bk_115_5 (X : (Nat → Int32) × Nat) (mo : Bool) (G : Nat × Nat) (I : Nat → Nat → Int32) (J : Nat → Nat → Int64) (Q : Option Value → sm_M → Prop) (x1 : Int32) (x2 : Int32) (x3 : Int32) (s0 : Int32) :
    sm_wp X 115 5 [some (.ref 1), some (.int x1), some (.int x2), some (.int x3), none] [.int s0] (sM mo G I J) Q =
    (if (s0 : Int32) = 0 then sm_wp X 115 28 [some (.ref 1), some (.int x1), some (.int x2), some (.int x3), none] [] (sM mo G I J) Q else (if (x2 : Int32) < 0 then sm_wp X 115 28 [some (.ref 1), some (.int x1), some (.int x2), some (.int x3), none] [] (sM mo G I J) Q else (vp_in x1 12 ∧ (if (I 6 (x1.toNatClampNeg) : Int32) ≤ (x2 : Int32) then sm_wp X 115 28 [some (.ref 1), some (.int x1), some (.int x2), some (.int x3), none] [] (sM mo G I J) Q else (if (x2 : Int32) < (80 : Int32) then sm_wp X 115 31 [some (.ref 1), some (.int x1), some (.int x2), some (.int x3), none] [] (sM mo G I J) Q else (True ∧ Q (some (.int (-2))) (sM mo G I J))))))) :=
  (sm_blk X 115 5 (tt_lin 115 (by decide)) rfl rfl _ _ _ _).trans rfl
set_option maxRecDepth 100000 in
theorem bk_115_28 (X : (Nat → Int32) × Nat) (mo : Bool) (G : Nat × Nat) (I : Nat → Nat → Int32) (J : Nat → Nat → Int64) (Q : Option Value → sm_M → Prop) (x1 : Int32) (x2 : Int32) (x3 : Int32) :
    sm_wp X 115 28 [some (.ref 1), some (.int x1), some (.int x2), some (.int x3), none] [] (sM mo G I J) Q =
    (True ∧ Q (some (.int (-2))) (sM mo G I J)) :=
  (sm_blk X 115 28 (tt_lin 115 (by decide)) rfl rfl _ _ _ _).trans rfl
set_option maxRecDepth 100000 in
theorem bk_115_31 (X : (Nat → Int32) × Nat) (mo : Bool) (G : Nat × Nat) (I : Nat → Nat → Int32) (J : Nat → Nat → Int64) (Q : Option Value → sm_M → Prop) (x1 : Int32) (x2 : Int32) (x3 : Int32) :
    sm_wp X 115 31 [some (.ref 1), some (.int x1), some (.int x2), some (.int x3), none] [] (sM mo G I J) Q =
    (if (x3 : Int32) = 0 then sm_wp X 115 68 [some (.ref 1), some (.int x1), some (.int x2), some (.int x3), some (.int ((x1 * 80) + x2))] [] (sM mo G I J) Q else if (x3 : Int32) = 1 then sm_wp X 115 76 [some (.ref 1), some (.int x1), some (.int x2), some (.int x3), some (.int ((x1 * 80) + x2))] [] (sM mo G I J) Q else if (x3 : Int32) = 2 then sm_wp X 115 84 [some (.ref 1), some (.int x1), some (.int x2), some (.int x3), some (.int ((x1 * 80) + x2))] [] (sM mo G I J) Q else sm_wp X 115 92 [some (.ref 1), some (.int x1), some (.int x2), some (.int x3), some (.int ((x1 * 80) + x2))] [] (sM mo G I J) Q) :=
  (sm_blk X 115 31 (tt_lin 115 (by decide)) rfl rfl _ _ _ _).trans rfl
set_option maxRecDepth 100000 in
theorem bk_115_68 (X : (Nat → Int32) × Nat) (mo : Bool) (G : Nat × Nat) (I : Nat → Nat → Int32) (J : Nat → Nat → Int64) (Q : Option Value → sm_M → Prop) (x1 : Int32) (x2 : Int32) (x3 : Int32) (x4 : Int32) :
    sm_wp X 115 68 [some (.ref 1), some (.int x1), some (.int x2), some (.int x3), some (.int x4)] [] (sM mo G I J) Q =
    (vp_in x4 960 ∧ (True ∧ Q (some (.int (I 7 (x4.toNatClampNeg)))) (sM mo G I J))) :=
  (sm_blk X 115 68 (tt_lin 115 (by decide)) rfl rfl _ _ _ _).trans rfl
set_option maxRecDepth 100000 in
theorem bk_115_76 (X : (Nat → Int32) × Nat) (mo : Bool) (G : Nat × Nat) (I : Nat → Nat → Int32) (J : Nat → Nat → Int64) (Q : Option Value → sm_M → Prop) (x1 : Int32) (x2 : Int32) (x3 : Int32) (x4 : Int32) :
    sm_wp X 115 76 [some (.ref 1), some (.int x1), some (.int x2), some (.int x3), some (.int x4)] [] (sM mo G I J) Q =
    (vp_in x4 960 ∧ (True ∧ Q (some (.int (I 8 (x4.toNatClampNeg)))) (sM mo G I J))) :=
  (sm_blk X 115 76 (tt_lin 115 (by decide)) rfl rfl _ _ _ _).trans rfl
set_option maxRecDepth 100000 in
theorem bk_115_84 (X : (Nat → Int32) × Nat) (mo : Bool) (G : Nat × Nat) (I : Nat → Nat → Int32) (J : Nat → Nat → Int64) (Q : Option Value → sm_M → Prop) (x1 : Int32) (x2 : Int32) (x3 : Int32) (x4 : Int32) :
    sm_wp X 115 84 [some (.ref 1), some (.int x1), some (.int x2), some (.int x3), some (.int x4)] [] (sM mo G I J) Q =
    (vp_in x4 960 ∧ (True ∧ Q (some (.int (I 9 (x4.toNatClampNeg)))) (sM mo G I J))) :=
  (sm_blk X 115 84 (tt_lin 115 (by decide)) rfl rfl _ _ _ _).trans rfl
set_option maxRecDepth 100000 in
theorem bk_115_92 (X : (Nat → Int32) × Nat) (mo : Bool) (G : Nat × Nat) (I : Nat → Nat → Int32) (J : Nat → Nat → Int64) (Q : Option Value → sm_M → Prop) (x1 : Int32) (x2 : Int32) (x3 : Int32) (x4 : Int32) :
    sm_wp X 115 92 [some (.ref 1), some (.int x1), some (.int x2), some (.int x3), some (.int x4)] [] (sM mo G I J) Q =
    (True ∧ Q (some (.int (-2))) (sM mo G I J)) :=
  (sm_blk X 115 92 (tt_lin 115 (by decide)) rfl rfl _ _ _ _).trans rfl
set_option maxRecDepth 100000 in
theorem bk_116_0 (X : (Nat → Int32) × Nat) (mo : Bool) (G : Nat × Nat) (I : Nat → Nat → Int32) (J : Nat → Nat → Int64) (Q : Option Value → sm_M → Prop)  :
    sm_wp X 116 0 [some (.ref 1)] [] (sM mo G I J) Q =
    (sm_wp X 102 0 [some (.ref 1)] [] (sM mo G I J) (fun v M => sm_wp X 116 5 [some (.ref 1)] (v.toList ++ [.ref 1]) M Q)) :=
  (sm_blk X 116 0 (tt_lin 116 (by decide)) rfl rfl _ _ _ _).trans rfl
set_option maxRecDepth 100000 in
theorem bk_116_5 (X : (Nat → Int32) × Nat) (mo : Bool) (G : Nat × Nat) (I : Nat → Nat → Int32) (J : Nat → Nat → Int64) (Q : Option Value → sm_M → Prop) (s1 : Int32) :
    sm_wp X 116 5 [some (.ref 1)] [.int s1, .ref 1] (sM mo G I J) Q =
    (sm_wp X 105 0 [some (.ref 1), some (.int (-1)), none, none] [] (sM mo G I J) (fun v M => sm_wp X 116 10 [some (.ref 1)] (v.toList ++ [.int s1, .ref 1]) M Q)) :=
  (sm_blk X 116 5 (tt_lin 116 (by decide)) rfl rfl _ _ _ _).trans rfl
set_option maxRecDepth 100000 in
theorem bk_116_10 (X : (Nat → Int32) × Nat) (mo : Bool) (G : Nat × Nat) (I : Nat → Nat → Int32) (J : Nat → Nat → Int64) (Q : Option Value → sm_M → Prop) (s1 : Int32) (s2 : Int32) :
    sm_wp X 116 10 [some (.ref 1)] [.int s2, .int s1, .ref 1] (sM mo G I J) Q =
    (sm_wp X 106 0 [some (.ref 1), some (.int (s1 &&& (s2 ^^^ (-1)))), none, none] [] (sM mo G I J) (fun v M => sm_wp X 116 16 [some (.ref 1)] (v.toList ++ []) M Q)) :=
  (sm_blk X 116 10 (tt_lin 116 (by decide)) rfl rfl _ _ _ _).trans rfl
set_option maxRecDepth 100000 in
theorem bk_116_16 (X : (Nat → Int32) × Nat) (mo : Bool) (G : Nat × Nat) (I : Nat → Nat → Int32) (J : Nat → Nat → Int64) (Q : Option Value → sm_M → Prop) (s0 : Int32) :
    sm_wp X 116 16 [some (.ref 1)] [.int s0] (sM mo G I J) Q =
    (True ∧ Q (some (.int s0)) (sM mo G I J)) :=
  (sm_blk X 116 16 (tt_lin 116 (by decide)) rfl rfl _ _ _ _).trans rfl
set_option maxRecDepth 100000 in
theorem bk_117_0 (X : (Nat → Int32) × Nat) (mo : Bool) (G : Nat × Nat) (I : Nat → Nat → Int32) (J : Nat → Nat → Int64) (Q : Option Value → sm_M → Prop) (x1 : Int32) :
    sm_wp X 117 0 [some (.ref 1), some (.int x1)] [] (sM mo G I J) Q =
    (sm_wp X 90 0 [some (.ref 1), some (.int x1)] [] (sM mo G I J) (fun v M => sm_wp X 117 5 [some (.ref 1), some (.int x1)] (v.toList ++ []) M Q)) :=
  (sm_blk X 117 0 (tt_lin 117 (by decide)) rfl rfl _ _ _ _).trans rfl
set_option maxRecDepth 100000 in
theorem bk_117_5 (X : (Nat → Int32) × Nat) (mo : Bool) (G : Nat × Nat) (I : Nat → Nat → Int32) (J : Nat → Nat → Int64) (Q : Option Value → sm_M → Prop) (x1 : Int32) (s0 : Int32) :
    sm_wp X 117 5 [some (.ref 1), some (.int x1)] [.int s0] (sM mo G I J) Q =
    (if (s0 : Int32) = 0 then sm_wp X 117 17 [some (.ref 1), some (.int x1)] [] (sM mo G I J) Q else (vp_in x1 12 ∧ (sm_wp X 117 18 [some (.ref 1), some (.int x1)] [.int (I 2 (x1.toNatClampNeg))] (sM mo G I J) Q))) :=
  (sm_blk X 117 5 (tt_lin 117 (by decide)) rfl rfl _ _ _ _).trans rfl
set_option maxRecDepth 100000 in
theorem bk_117_17 (X : (Nat → Int32) × Nat) (mo : Bool) (G : Nat × Nat) (I : Nat → Nat → Int32) (J : Nat → Nat → Int64) (Q : Option Value → sm_M → Prop) (x1 : Int32) :
    sm_wp X 117 17 [some (.ref 1), some (.int x1)] [] (sM mo G I J) Q =
    (True ∧ Q (some (.int 0)) (sM mo G I J)) :=
  (sm_blk X 117 17 (tt_lin 117 (by decide)) rfl rfl _ _ _ _).trans rfl
set_option maxRecDepth 100000 in
theorem bk_117_18 (X : (Nat → Int32) × Nat) (mo : Bool) (G : Nat × Nat) (I : Nat → Nat → Int32) (J : Nat → Nat → Int64) (Q : Option Value → sm_M → Prop) (x1 : Int32) (s0 : Int32) :
    sm_wp X 117 18 [some (.ref 1), some (.int x1)] [.int s0] (sM mo G I J) Q =
    (True ∧ Q (some (.int s0)) (sM mo G I J)) :=
  (sm_blk X 117 18 (tt_lin 117 (by decide)) rfl rfl _ _ _ _).trans rfl
end
section
set_option maxRecDepth 100000 in
theorem bk_119_0 (X : (Nat → Int32) × Nat) (mo : Bool) (G : Nat × Nat) (I : Nat → Nat → Int32) (J : Nat → Nat → Int64) (Q : Option Value → sm_M → Prop)  :
    sm_wp X 119 0 [some (.ref 68), none] [] (sM mo G I J) Q =
    (if ¬ (I 68 4 : Int32) = (I 1 4 : Int32) then sm_wp X 119 15 [some (.ref 68), none] [] (sM mo G I J) Q else (True ∧ Q none (sM mo G I J))) :=
  (sm_blk X 119 0 (tt_lin 119 (by decide)) rfl rfl _ _ _ _).trans rfl
set_option maxRecDepth 100000 in
theorem bk_119_15 (X : (Nat → Int32) × Nat) (mo : Bool) (G : Nat × Nat) (I : Nat → Nat → Int32) (J : Nat → Nat → Int64) (Q : Option Value → sm_M → Prop)  :
    sm_wp X 119 15 [some (.ref 68), none] [] (sM mo G I J) Q =
    (sm_wp X 119 33 [some (.ref 68), some (.int 2)] [] (sM mo G (up2 (up2 I 68 4 (I 1 4)) 68 3 0) J) Q) :=
  (sm_blk X 119 15 (tt_lin 119 (by decide)) rfl rfl _ _ _ _).trans rfl
set_option maxRecDepth 100000 in
theorem bk_119_33 (X : (Nat → Int32) × Nat) (mo : Bool) (G : Nat × Nat) (I : Nat → Nat → Int32) (J : Nat → Nat → Int64) (Q : Option Value → sm_M → Prop) (x1 : Int32) :
    sm_wp X 119 33 [some (.ref 68), some (.int x1)] [] (sM mo G I J) Q =
    (if (4 : Int32) < (x1 : Int32) then sm_wp X 119 64 [some (.ref 68), some (.int x1)] [] (sM mo G I J) Q else (if ¬ (I 68 3 : Int32) = 0 then sm_wp X 119 64 [some (.ref 68), some (.int x1)] [] (sM mo G I J) Q else (sm_wp X 120 0 [some (.ref 68), some (.int x1), none, none] [] (sM mo G I J) (fun v M => sm_wp X 119 50 [some (.ref 68), some (.int x1)] (v.toList ++ []) M Q)))) :=
  (sm_blk X 119 33 (tt_lin 119 (by decide)) rfl rfl _ _ _ _).trans rfl
set_option maxRecDepth 100000 in
theorem bk_119_50 (X : (Nat → Int32) × Nat) (mo : Bool) (G : Nat × Nat) (I : Nat → Nat → Int32) (J : Nat → Nat → Int64) (Q : Option Value → sm_M → Prop) (x1 : Int32) (s0 : Int32) :
    sm_wp X 119 50 [some (.ref 68), some (.int x1)] [.int s0] (sM mo G I J) Q =
    (if (s0 : Int32) = 0 then sm_wp X 119 58 [some (.ref 68), some (.int x1)] [] (sM mo G I J) Q else (sm_wp X 119 33 [some (.ref 68), some (.int (x1 + 1))] [] (sM mo G (up2 I 68 3 x1) J) Q)) :=
  (sm_blk X 119 50 (tt_lin 119 (by decide)) rfl rfl _ _ _ _).trans rfl
set_option maxRecDepth 100000 in
theorem bk_119_58 (X : (Nat → Int32) × Nat) (mo : Bool) (G : Nat × Nat) (I : Nat → Nat → Int32) (J : Nat → Nat → Int64) (Q : Option Value → sm_M → Prop) (x1 : Int32) :
    sm_wp X 119 58 [some (.ref 68), some (.int x1)] [] (sM mo G I J) Q =
    (sm_wp X 119 33 [some (.ref 68), some (.int (x1 + 1))] [] (sM mo G I J) Q) :=
  (sm_blk X 119 58 (tt_lin 119 (by decide)) rfl rfl _ _ _ _).trans rfl
set_option maxRecDepth 100000 in
theorem bk_119_64 (X : (Nat → Int32) × Nat) (mo : Bool) (G : Nat × Nat) (I : Nat → Nat → Int32) (J : Nat → Nat → Int64) (Q : Option Value → sm_M → Prop) (x1 : Int32) :
    sm_wp X 119 64 [some (.ref 68), some (.int x1)] [] (sM mo G I J) Q =
    (True ∧ Q none (sM mo G I J)) :=
  (sm_blk X 119 64 (tt_lin 119 (by decide)) rfl rfl _ _ _ _).trans rfl
set_option maxRecDepth 100000 in
theorem bk_120_0 (X : (Nat → Int32) × Nat) (mo : Bool) (G : Nat × Nat) (I : Nat → Nat → Int32) (J : Nat → Nat → Int64) (Q : Option Value → sm_M → Prop) (x1 : Int32) :
    sm_wp X 120 0 [some (.ref 68), some (.int x1), none, none] [] (sM mo G I J) Q =
    (vp_in 0 4 ∧ (sm_wp X 120 11 [some (.ref 68), some (.int x1), some (.int 0), some (.int 0)] [] (sM mo G (up2 I 69 (0 : Int32).toNatClampNeg (-1)) J) Q)) :=
  (sm_blk X 120 0 (tt_lin 120 (by decide)) rfl rfl _ _ _ _).trans rfl
set_option maxRecDepth 100000 in
theorem bk_120_11 (X : (Nat → Int32) × Nat) (mo : Bool) (G : Nat × Nat) (I : Nat → Nat → Int32) (J : Nat → Nat → Int64) (Q : Option Value → sm_M → Prop) (x1 : Int32) (x2 : Int32) (x3 : Int32) :
    sm_wp X 120 11 [some (.ref 68), some (.int x1), some (.int x2), some (.int x3)] [] (sM mo G I J) Q =
    (if (100000 : Int32) ≤ (x3 : Int32) then sm_wp X 120 101 [some (.ref 68), some (.int x1), some (.int x2), some (.int x3)] [] (sM mo G I J) Q else (if (x2 : Int32) < 0 then sm_wp X 120 101 [some (.ref 68), some (.int x1), some (.int x2), some (.int x3)] [] (sM mo G I J) Q else (if (4 : Int32) ≤ (x2 : Int32) then sm_wp X 120 101 [some (.ref 68), some (.int x1), some (.int x2), some (.int x3)] [] (sM mo G I J) Q else (sm_wp X 121 0 [some (.ref 68), some (.int x2), none] [] (sM mo G I J) (fun v M => sm_wp X 120 36 [some (.ref 68), some (.int x1), some (.int x2), some (.int x3)] (v.toList ++ [.int x2, .ref 69]) M Q))))) :=
  (sm_blk X 120 11 (tt_lin 120 (by decide)) rfl rfl _ _ _ _).trans rfl
set_option maxRecDepth 100000 in
theorem bk_120_36 (X : (Nat → Int32) × Nat) (mo : Bool) (G : Nat × Nat) (I : Nat → Nat → Int32) (J : Nat → Nat → Int64) (Q : Option Value → sm_M → Prop) (x1 : Int32) (x2 : Int32) (x3 : Int32) (s1 : Int32) (s2 : Int32) :
    sm_wp X 120 36 [some (.ref 68), some (.int x1), some (.int x2), some (.int x3)] [.int s2, .int s1, .ref 69] (sM mo G I J) Q =
    (vp_in s1 4 ∧ (vp_in x2 4 ∧ (if ¬ ((up2 I 69 s1.toNatClampNeg s2) 69 (x2.toNatClampNeg) : Int32) = ((-1) : Int32) then sm_wp X 120 53 [some (.ref 68), some (.int x1), some (.int x2), some (.int x3)] [] (sM mo G (up2 I 69 s1.toNatClampNeg s2) J) Q else (sm_wp X 120 95 [some (.ref 68), some (.int x1), some (.int (x2 + (-1))), some (.int x3)] [] (sM mo G (up2 I 69 s1.toNatClampNeg s2) J) Q)))) :=
  (sm_blk X 120 36 (tt_lin 120 (by decide)) rfl rfl _ _ _ _).trans rfl
set_option maxRecDepth 100000 in
theorem bk_120_53 (X : (Nat → Int32) × Nat) (mo : Bool) (G : Nat × Nat) (I : Nat → Nat → Int32) (J : Nat → Nat → Int64) (Q : Option Value → sm_M → Prop) (x1 : Int32) (x2 : Int32) (x3 : Int32) :
    sm_wp X 120 53 [some (.ref 68), some (.int x1), some (.int x2), some (.int x3)] [] (sM mo G I J) Q =
    (if (x1 - 1 : Int32) ≤ (x2 : Int32) then sm_wp X 120 85 [some (.ref 68), some (.int x1), some (.int x2), some (.int x3)] [] (sM mo G I J) Q else (if (4 : Int32) ≤ (x2 + 1 : Int32) then sm_wp X 120 85 [some (.ref 68), some (.int x1), some (.int x2), some (.int x3)] [] (sM mo G I J) Q else (vp_in 0 4 ∧ (vp_in (x2 + 1) 4 ∧ (sm_wp X 120 95 [some (.ref 68), some (.int x1), some (.int (x2 + 1)), some (.int x3)] [] (sM mo G (up2 I 69 (x2 + 1).toNatClampNeg (I 69 ((0 : Int32).toNatClampNeg))) J) Q))))) :=
  (sm_blk X 120 53 (tt_lin 120 (by decide)) rfl rfl _ _ _ _).trans rfl
set_option maxRecDepth 100000 in
theorem bk_120_85 (X : (Nat → Int32) × Nat) (mo : Bool) (G : Nat × Nat) (I : Nat → Nat → Int32) (J : Nat → Nat → Int64) (Q : Option Value → sm_M → Prop) (x1 : Int32) (x2 : Int32) (x3 : Int32) :
    sm_wp X 120 85 [some (.ref 68), some (.int x1), some (.int x2), some (.int x3)] [] (sM mo G I J) Q =
    (sm_wp X 123 0 [some (.ref 68), some (.int x1), none, none] [] (sM mo G I J) (fun v M => sm_wp X 120 90 [some (.ref 68), some (.int x1), some (.int x2), some (.int x3)] (v.toList ++ []) M Q)) :=
  (sm_blk X 120 85 (tt_lin 120 (by decide)) rfl rfl _ _ _ _).trans rfl
set_option maxRecDepth 100000 in
theorem bk_120_90 (X : (Nat → Int32) × Nat) (mo : Bool) (G : Nat × Nat) (I : Nat → Nat → Int32) (J : Nat → Nat → Int64) (Q : Option Value → sm_M → Prop) (x1 : Int32) (x2 : Int32) (x3 : Int32) (s0 : Int32) :
    sm_wp X 120 90 [some (.ref 68), some (.int x1), some (.int x2), some (.int x3)] [.int s0] (sM mo G I J) Q =
    (if (s0 : Int32) = 0 then sm_wp X 120 95 [some (.ref 68), some (.int x1), some (.int x2), some (.int x3)] [] (sM mo G I J) Q else (sm_zb 1 ∧ Q (some (.int 1)) (sM mo G I J))) :=
  (sm_blk X 120 90 (tt_lin 120 (by decide)) rfl rfl _ _ _ _).trans rfl
set_option maxRecDepth 100000 in
theorem bk_120_95 (X : (Nat → Int32) × Nat) (mo : Bool) (G : Nat × Nat) (I : Nat → Nat → Int32) (J : Nat → Nat → Int64) (Q : Option Value → sm_M → Prop) (x1 : Int32) (x2 : Int32) (x3 : Int32) :
    sm_wp X 120 95 [some (.ref 68), some (.int x1), some (.int x2), some (.int x3)] [] (sM mo G I J) Q =
    (sm_wp X 120 11 [some (.ref 68), some (.int x1), some (.int x2), some (.int (x3 + 1))] [] (sM mo G I J) Q) :=
  (sm_blk X 120 95 (tt_lin 120 (by decide)) rfl rfl _ _ _ _).trans rfl
set_option maxRecDepth 100000 in
theorem bk_120_101 (X : (Nat → Int32) × Nat) (mo : Bool) (G : Nat × Nat) (I : Nat → Nat → Int32) (J : Nat → Nat → Int64) (Q : Option Value → sm_M → Prop) (x1 : Int32) (x2 : Int32) (x3 : Int32) :
    sm_wp X 120 101 [some (.ref 68), some (.int x1), some (.int x2), some (.int x3)] [] (sM mo G I J) Q =
    (sm_zb 0 ∧ Q (some (.int 0)) (sM mo G I J)) :=
  (sm_blk X 120 101 (tt_lin 120 (by decide)) rfl rfl _ _ _ _).trans rfl
set_option maxRecDepth 100000 in
theorem bk_121_0 (X : (Nat → Int32) × Nat) (mo : Bool) (G : Nat × Nat) (I : Nat → Nat → Int32) (J : Nat → Nat → Int64) (Q : Option Value → sm_M → Prop) (x1 : Int32) :
    sm_wp X 121 0 [some (.ref 68), some (.int x1), none] [] (sM mo G I J) Q =
    (if (x1 : Int32) < 0 then sm_wp X 121 9 [some (.ref 68), some (.int x1), none] [] (sM mo G I J) Q else (if (x1 : Int32) < (4 : Int32) then sm_wp X 121 11 [some (.ref 68), some (.int x1), none] [] (sM mo G I J) Q else (True ∧ Q (some (.int (-1))) (sM mo G I J)))) :=
  (sm_blk X 121 0 (tt_lin 121 (by decide)) rfl rfl _ _ _ _).trans rfl
set_option maxRecDepth 100000 in
theorem bk_121_9 (X : (Nat → Int32) × Nat) (mo : Bool) (G : Nat × Nat) (I : Nat → Nat → Int32) (J : Nat → Nat → Int64) (Q : Option Value → sm_M → Prop) (x1 : Int32) :
    sm_wp X 121 9 [some (.ref 68), some (.int x1), none] [] (sM mo G I J) Q =
    (True ∧ Q (some (.int (-1))) (sM mo G I J)) :=
  (sm_blk X 121 9 (tt_lin 121 (by decide)) rfl rfl _ _ _ _).trans rfl
set_option maxRecDepth 100000 in
theorem bk_121_11 (X : (Nat → Int32) × Nat) (mo : Bool) (G : Nat × Nat) (I : Nat → Nat → Int32) (J : Nat → Nat → Int64) (Q : Option Value → sm_M → Prop) (x1 : Int32) :
    sm_wp X 121 11 [some (.ref 68), some (.int x1), none] [] (sM mo G I J) Q =
    (vp_in x1 4 ∧ (sm_wp X 121 20 [some (.ref 68), some (.int x1), some (.int ((I 69 (x1.toNatClampNeg)) + 1))] [] (sM mo G I J) Q)) :=
  (sm_blk X 121 11 (tt_lin 121 (by decide)) rfl rfl _ _ _ _).trans rfl
set_option maxRecDepth 100000 in
theorem bk_121_20 (X : (Nat → Int32) × Nat) (mo : Bool) (G : Nat × Nat) (I : Nat → Nat → Int32) (J : Nat → Nat → Int64) (Q : Option Value → sm_M → Prop) (x1 : Int32) (x2 : Int32) :
    sm_wp X 121 20 [some (.ref 68), some (.int x1), some (.int x2)] [] (sM mo G I J) Q =
    (if (6 : Int32) ≤ (x2 : Int32) then sm_wp X 121 54 [some (.ref 68), some (.int x1), some (.int x2)] [] (sM mo G I J) Q else (sm_wp X 94 0 [some (.ref 1), some (.int x2)] [] (sM mo G I J) (fun v M => sm_wp X 121 34 [some (.ref 68), some (.int x1), some (.int x2)] (v.toList ++ []) M Q))) :=
  (sm_blk X 121 20 (tt_lin 121 (by decide)) rfl rfl _ _ _ _).trans rfl
set_option maxRecDepth 100000 in
theorem bk_121_34 (X : (Nat → Int32) × Nat) (mo : Bool) (G : Nat × Nat) (I : Nat → Nat → Int32) (J : Nat → Nat → Int64) (Q : Option Value → sm_M → Prop) (x1 : Int32) (x2 : Int32) (s0 : Int32) :
    sm_wp X 121 34 [some (.ref 68), some (.int x1), some (.int x2)] [.int s0] (sM mo G I J) Q =
    (if (s0 : Int32) = 0 then sm_wp X 121 48 [some (.ref 68), some (.int x1), some (.int x2)] [] (sM mo G I J) Q else (sm_wp X 122 0 [some (.ref 68), some (.int x2), some (.int x1), none] [] (sM mo G I J) (fun v M => sm_wp X 121 43 [some (.ref 68), some (.int x1), some (.int x2)] (v.toList ++ []) M Q))) :=
  (sm_blk X 121 34 (tt_lin 121 (by decide)) rfl rfl _ _ _ _).trans rfl
set_option maxRecDepth 100000 in
theorem bk_121_43 (X : (Nat → Int32) × Nat) (mo : Bool) (G : Nat × Nat) (I : Nat → Nat → Int32) (J : Nat → Nat → Int64) (Q : Option Value → sm_M → Prop) (x1 : Int32) (x2 : Int32) (s0 : Int32) :
    sm_wp X 121 43 [some (.ref 68), some (.int x1), some (.int x2)] [.int s0] (sM mo G I J) Q =
    (if ¬ (s0 : Int32) = 0 then sm_wp X 121 48 [some (.ref 68), some (.int x1), some (.int x2)] [] (sM mo G I J) Q else (True ∧ Q (some (.int x2)) (sM mo G I J))) :=
  (sm_blk X 121 43 (tt_lin 121 (by decide)) rfl rfl _ _ _ _).trans rfl
set_option maxRecDepth 100000 in
theorem bk_121_48 (X : (Nat → Int32) × Nat) (mo : Bool) (G : Nat × Nat) (I : Nat → Nat → Int32) (J : Nat → Nat → Int64) (Q : Option Value → sm_M → Prop) (x1 : Int32) (x2 : Int32) :
    sm_wp X 121 48 [some (.ref 68), some (.int x1), some (.int x2)] [] (sM mo G I J) Q =
    (sm_wp X 121 20 [some (.ref 68), some (.int x1), some (.int (x2 + 1))] [] (sM mo G I J) Q) :=
  (sm_blk X 121 48 (tt_lin 121 (by decide)) rfl rfl _ _ _ _).trans rfl
set_option maxRecDepth 100000 in
theorem bk_121_54 (X : (Nat → Int32) × Nat) (mo : Bool) (G : Nat × Nat) (I : Nat → Nat → Int32) (J : Nat → Nat → Int64) (Q : Option Value → sm_M → Prop) (x1 : Int32) (x2 : Int32) :
    sm_wp X 121 54 [some (.ref 68), some (.int x1), some (.int x2)] [] (sM mo G I J) Q =
    (True ∧ Q (some (.int (-1))) (sM mo G I J)) :=
  (sm_blk X 121 54 (tt_lin 121 (by decide)) rfl rfl _ _ _ _).trans rfl
set_option maxRecDepth 100000 in
theorem bk_122_0 (X : (Nat → Int32) × Nat) (mo : Bool) (G : Nat × Nat) (I : Nat → Nat → Int32) (J : Nat → Nat → Int64) (Q : Option Value → sm_M → Prop) (x1 : Int32) (x2 : Int32) :
    sm_wp X 122 0 [some (.ref 68), some (.int x1), some (.int x2), none] [] (sM mo G I J) Q =
    (sm_wp X 122 2 [some (.ref 68), some (.int x1), some (.int x2), some (.int 0)] [] (sM mo G I J) Q) :=
  (sm_blk X 122 0 (tt_lin 122 (by decide)) rfl rfl _ _ _ _).trans rfl
set_option maxRecDepth 100000 in
theorem bk_122_2 (X : (Nat → Int32) × Nat) (mo : Bool) (G : Nat × Nat) (I : Nat → Nat → Int32) (J : Nat → Nat → Int64) (Q : Option Value → sm_M → Prop) (x1 : Int32) (x2 : Int32) (x3 : Int32) :
    sm_wp X 122 2 [some (.ref 68), some (.int x1), some (.int x2), some (.int x3)] [] (sM mo G I J) Q =
    (if (x2 : Int32) ≤ (x3 : Int32) then sm_wp X 122 30 [some (.ref 68), some (.int x1), some (.int x2), some (.int x3)] [] (sM mo G I J) Q else (if (4 : Int32) ≤ (x3 : Int32) then sm_wp X 122 30 [some (.ref 68), some (.int x1), some (.int x2), some (.int x3)] [] (sM mo G I J) Q else (vp_in x3 4 ∧ (if ¬ (I 69 (x3.toNatClampNeg) : Int32) = (x1 : Int32) then sm_wp X 122 24 [some (.ref 68), some (.int x1), some (.int x2), some (.int x3)] [] (sM mo G I J) Q else (sm_zb 1 ∧ Q (some (.int 1)) (sM mo G I J)))))) :=
  (sm_blk X 122 2 (tt_lin 122 (by decide)) rfl rfl _ _ _ _).trans rfl
set_option maxRecDepth 100000 in
theorem bk_122_24 (X : (Nat → Int32) × Nat) (mo : Bool) (G : Nat × Nat) (I : Nat → Nat → Int32) (J : Nat → Nat → Int64) (Q : Option Value → sm_M → Prop) (x1 : Int32) (x2 : Int32) (x3 : Int32) :
    sm_wp X 122 24 [some (.ref 68), some (.int x1), some (.int x2), some (.int x3)] [] (sM mo G I J) Q =
    (sm_wp X 122 2 [some (.ref 68), some (.int x1), some (.int x2), some (.int (x3 + 1))] [] (sM mo G I J) Q) :=
  (sm_blk X 122 24 (tt_lin 122 (by decide)) rfl rfl _ _ _ _).trans rfl
set_option maxRecDepth 100000 in
theorem bk_122_30 (X : (Nat → Int32) × Nat) (mo : Bool) (G : Nat × Nat) (I : Nat → Nat → Int32) (J : Nat → Nat → Int64) (Q : Option Value → sm_M → Prop) (x1 : Int32) (x2 : Int32) (x3 : Int32) :
    sm_wp X 122 30 [some (.ref 68), some (.int x1), some (.int x2), some (.int x3)] [] (sM mo G I J) Q =
    (sm_zb 0 ∧ Q (some (.int 0)) (sM mo G I J)) :=
  (sm_blk X 122 30 (tt_lin 122 (by decide)) rfl rfl _ _ _ _).trans rfl
set_option maxRecDepth 100000 in
theorem bk_123_0 (X : (Nat → Int32) × Nat) (mo : Bool) (G : Nat × Nat) (I : Nat → Nat → Int32) (J : Nat → Nat → Int64) (Q : Option Value → sm_M → Prop) (x1 : Int32) :
    sm_wp X 123 0 [some (.ref 68), some (.int x1), none, none] [] (sM mo G I J) Q =
    (vp_in 0 4 ∧ (sm_wp X 123 11 [some (.ref 68), some (.int x1), some (.int 0), some (.int 0)] [] (sM mo G (up2 I 70 (0 : Int32).toNatClampNeg (-1)) J) Q)) :=
  (sm_blk X 123 0 (tt_lin 123 (by decide)) rfl rfl _ _ _ _).trans rfl
set_option maxRecDepth 100000 in
theorem bk_123_11 (X : (Nat → Int32) × Nat) (mo : Bool) (G : Nat × Nat) (I : Nat → Nat → Int32) (J : Nat → Nat → Int64) (Q : Option Value → sm_M → Prop) (x1 : Int32) (x2 : Int32) (x3 : Int32) :
    sm_wp X 123 11 [some (.ref 68), some (.int x1), some (.int x2), some (.int x3)] [] (sM mo G I J) Q =
    (if (100000 : Int32) ≤ (x3 : Int32) then sm_wp X 123 113 [some (.ref 68), some (.int x1), some (.int x2), some (.int x3)] [] (sM mo G I J) Q else (if (x2 : Int32) < 0 then sm_wp X 123 113 [some (.ref 68), some (.int x1), some (.int x2), some (.int x3)] [] (sM mo G I J) Q else (if (4 : Int32) ≤ (x2 : Int32) then sm_wp X 123 113 [some (.ref 68), some (.int x1), some (.int x2), some (.int x3)] [] (sM mo G I J) Q else (sm_wp X 124 0 [some (.ref 68), some (.int x2), none, none] [] (sM mo G I J) (fun v M => sm_wp X 123 36 [some (.ref 68), some (.int x1), some (.int x2), some (.int x3)] (v.toList ++ [.int x2, .ref 70]) M Q))))) :=
  (sm_blk X 123 11 (tt_lin 123 (by decide)) rfl rfl _ _ _ _).trans rfl
set_option maxRecDepth 100000 in
theorem bk_123_36 (X : (Nat → Int32) × Nat) (mo : Bool) (G : Nat × Nat) (I : Nat → Nat → Int32) (J : Nat → Nat → Int64) (Q : Option Value → sm_M → Prop) (x1 : Int32) (x2 : Int32) (x3 : Int32) (s1 : Int32) (s2 : Int32) :
    sm_wp X 123 36 [some (.ref 68), some (.int x1), some (.int x2), some (.int x3)] [.int s2, .int s1, .ref 70] (sM mo G I J) Q =
    (vp_in s1 4 ∧ (vp_in x2 4 ∧ (if ¬ ((up2 I 70 s1.toNatClampNeg s2) 70 (x2.toNatClampNeg) : Int32) = ((-1) : Int32) then sm_wp X 123 53 [some (.ref 68), some (.int x1), some (.int x2), some (.int x3)] [] (sM mo G (up2 I 70 s1.toNatClampNeg s2) J) Q else (sm_wp X 123 107 [some (.ref 68), some (.int x1), some (.int (x2 + (-1))), some (.int x3)] [] (sM mo G (up2 I 70 s1.toNatClampNeg s2) J) Q)))) :=
  (sm_blk X 123 36 (tt_lin 123 (by decide)) rfl rfl _ _ _ _).trans rfl
set_option maxRecDepth 100000 in
theorem bk_123_53 (X : (Nat → Int32) × Nat) (mo : Bool) (G : Nat × Nat) (I : Nat → Nat → Int32) (J : Nat → Nat → Int64) (Q : Option Value → sm_M → Prop) (x1 : Int32) (x2 : Int32) (x3 : Int32) :
    sm_wp X 123 53 [some (.ref 68), some (.int x1), some (.int x2), some (.int x3)] [] (sM mo G I J) Q =
    (if (x1 - 1 : Int32) ≤ (x2 : Int32) then sm_wp X 123 80 [some (.ref 68), some (.int x1), some (.int x2), some (.int x3)] [] (sM mo G I J) Q else (if (4 : Int32) ≤ (x2 + 1 : Int32) then sm_wp X 123 80 [some (.ref 68), some (.int x1), some (.int x2), some (.int x3)] [] (sM mo G I J) Q else (vp_in (x2 + 1) 4 ∧ (sm_wp X 123 107 [some (.ref 68), some (.int x1), some (.int (x2 + 1)), some (.int x3)] [] (sM mo G (up2 I 70 (x2 + 1).toNatClampNeg (-1)) J) Q)))) :=
  (sm_blk X 123 53 (tt_lin 123 (by decide)) rfl rfl _ _ _ _).trans rfl
set_option maxRecDepth 100000 in
theorem bk_123_80 (X : (Nat → Int32) × Nat) (mo : Bool) (G : Nat × Nat) (I : Nat → Nat → Int32) (J : Nat → Nat → Int64) (Q : Option Value → sm_M → Prop) (x1 : Int32) (x2 : Int32) (x3 : Int32) :
    sm_wp X 123 80 [some (.ref 68), some (.int x1), some (.int x2), some (.int x3)] [] (sM mo G I J) Q =
    (vp_in 0 4 ∧ (vp_in x2 4 ∧ (vp_in 0 4 ∧ (sm_wp X 125 0 [some (.ref 68), some (.int (I 69 ((0 : Int32).toNatClampNeg))), some (.int (I 70 (x2.toNatClampNeg))), some (.int (I 70 ((0 : Int32).toNatClampNeg)))] [] (sM mo G I J) (fun v M => sm_wp X 123 102 [some (.ref 68), some (.int x1), some (.int x2), some (.int x3)] (v.toList ++ []) M Q))))) :=
  (sm_blk X 123 80 (tt_lin 123 (by decide)) rfl rfl _ _ _ _).trans rfl
set_option maxRecDepth 100000 in
theorem bk_123_102 (X : (Nat → Int32) × Nat) (mo : Bool) (G : Nat × Nat) (I : Nat → Nat → Int32) (J : Nat → Nat → Int64) (Q : Option Value → sm_M → Prop) (x1 : Int32) (x2 : Int32) (x3 : Int32) (s0 : Int32) :
    sm_wp X 123 102 [some (.ref 68), some (.int x1), some (.int x2), some (.int x3)] [.int s0] (sM mo G I J) Q =
    (if (s0 : Int32) = 0 then sm_wp X 123 107 [some (.ref 68), some (.int x1), some (.int x2), some (.int x3)] [] (sM mo G I J) Q else (sm_zb 1 ∧ Q (some (.int 1)) (sM mo G I J))) :=
  (sm_blk X 123 102 (tt_lin 123 (by decide)) rfl rfl _ _ _ _).trans rfl
set_option maxRecDepth 100000 in
theorem bk_123_107 (X : (Nat → Int32) × Nat) (mo : Bool) (G : Nat × Nat) (I : Nat → Nat → Int32) (J : Nat → Nat → Int64) (Q : Option Value → sm_M → Prop) (x1 : Int32) (x2 : Int32) (x3 : Int32) :
    sm_wp X 123 107 [some (.ref 68), some (.int x1), some (.int x2), some (.int x3)] [] (sM mo G I J) Q =
    (sm_wp X 123 11 [some (.ref 68), some (.int x1), some (.int x2), some (.int (x3 + 1))] [] (sM mo G I J) Q) :=
  (sm_blk X 123 107 (tt_lin 123 (by decide)) rfl rfl _ _ _ _).trans rfl
set_option maxRecDepth 100000 in
theorem bk_123_113 (X : (Nat → Int32) × Nat) (mo : Bool) (G : Nat × Nat) (I : Nat → Nat → Int32) (J : Nat → Nat → Int64) (Q : Option Value → sm_M → Prop) (x1 : Int32) (x2 : Int32) (x3 : Int32) :
    sm_wp X 123 113 [some (.ref 68), some (.int x1), some (.int x2), some (.int x3)] [] (sM mo G I J) Q =
    (sm_zb 0 ∧ Q (some (.int 0)) (sM mo G I J)) :=
  (sm_blk X 123 113 (tt_lin 123 (by decide)) rfl rfl _ _ _ _).trans rfl
set_option maxRecDepth 100000 in
theorem bk_124_0 (X : (Nat → Int32) × Nat) (mo : Bool) (G : Nat × Nat) (I : Nat → Nat → Int32) (J : Nat → Nat → Int64) (Q : Option Value → sm_M → Prop) (x1 : Int32) :
    sm_wp X 124 0 [some (.ref 68), some (.int x1), none, none] [] (sM mo G I J) Q =
    (if (x1 : Int32) < 0 then sm_wp X 124 9 [some (.ref 68), some (.int x1), none, none] [] (sM mo G I J) Q else (if (x1 : Int32) < (4 : Int32) then sm_wp X 124 11 [some (.ref 68), some (.int x1), none, none] [] (sM mo G I J) Q else (True ∧ Q (some (.int (-1))) (sM mo G I J)))) :=
  (sm_blk X 124 0 (tt_lin 124 (by decide)) rfl rfl _ _ _ _).trans rfl
set_option maxRecDepth 100000 in
theorem bk_124_9 (X : (Nat → Int32) × Nat) (mo : Bool) (G : Nat × Nat) (I : Nat → Nat → Int32) (J : Nat → Nat → Int64) (Q : Option Value → sm_M → Prop) (x1 : Int32) :
    sm_wp X 124 9 [some (.ref 68), some (.int x1), none, none] [] (sM mo G I J) Q =
    (True ∧ Q (some (.int (-1))) (sM mo G I J)) :=
  (sm_blk X 124 9 (tt_lin 124 (by decide)) rfl rfl _ _ _ _).trans rfl
set_option maxRecDepth 100000 in
theorem bk_124_11 (X : (Nat → Int32) × Nat) (mo : Bool) (G : Nat × Nat) (I : Nat → Nat → Int32) (J : Nat → Nat → Int64) (Q : Option Value → sm_M → Prop) (x1 : Int32) :
    sm_wp X 124 11 [some (.ref 68), some (.int x1), none, none] [] (sM mo G I J) Q =
    (vp_in x1 4 ∧ (sm_wp X 105 0 [some (.ref 1), some (.int (I 69 (x1.toNatClampNeg))), none, none] [] (sM mo G I J) (fun v M => sm_wp X 124 24 [some (.ref 68), some (.int x1), none, none] (v.toList ++ []) M Q))) :=
  (sm_blk X 124 11 (tt_lin 124 (by decide)) rfl rfl _ _ _ _).trans rfl
set_option maxRecDepth 100000 in
theorem bk_124_24 (X : (Nat → Int32) × Nat) (mo : Bool) (G : Nat × Nat) (I : Nat → Nat → Int32) (J : Nat → Nat → Int64) (Q : Option Value → sm_M → Prop) (x1 : Int32) (s0 : Int32) :
    sm_wp X 124 24 [some (.ref 68), some (.int x1), none, none] [.int s0] (sM mo G I J) Q =
    (vp_in x1 4 ∧ (sm_wp X 124 34 [some (.ref 68), some (.int x1), some (.int s0), some (.int ((I 70 (x1.toNatClampNeg)) + 1))] [] (sM mo G I J) Q)) :=
  (sm_blk X 124 24 (tt_lin 124 (by decide)) rfl rfl _ _ _ _).trans rfl
set_option maxRecDepth 100000 in
theorem bk_124_34 (X : (Nat → Int32) × Nat) (mo : Bool) (G : Nat × Nat) (I : Nat → Nat → Int32) (J : Nat → Nat → Int64) (Q : Option Value → sm_M → Prop) (x1 : Int32) (x2 : Int32) (x3 : Int32) :
    sm_wp X 124 34 [some (.ref 68), some (.int x1), some (.int x2), some (.int x3)] [] (sM mo G I J) Q =
    (if (12 : Int32) ≤ (x3 : Int32) then sm_wp X 124 82 [some (.ref 68), some (.int x1), some (.int x2), some (.int x3)] [] (sM mo G I J) Q else (sm_wp X 169 0 [some (.int x2), some (.int x3)] [] (sM mo G I J) (fun v M => sm_wp X 124 45 [some (.ref 68), some (.int x1), some (.int x2), some (.int x3)] (v.toList ++ []) M Q))) :=
  (sm_blk X 124 34 (tt_lin 124 (by decide)) rfl rfl _ _ _ _).trans rfl
set_option maxRecDepth 100000 in
theorem bk_124_45 (X : (Nat → Int32) × Nat) (mo : Bool) (G : Nat × Nat) (I : Nat → Nat → Int32) (J : Nat → Nat → Int64) (Q : Option Value → sm_M → Prop) (x1 : Int32) (x2 : Int32) (x3 : Int32) (s0 : Int32) :
    sm_wp X 124 45 [some (.ref 68), some (.int x1), some (.int x2), some (.int x3)] [.int s0] (sM mo G I J) Q =
    (if (s0 : Int32) = 0 then sm_wp X 124 76 [some (.ref 68), some (.int x1), some (.int x2), some (.int x3)] [] (sM mo G I J) Q else (if (x1 : Int32) = 0 then sm_wp X 124 74 [some (.ref 68), some (.int x1), some (.int x2), some (.int x3)] [] (sM mo G I J) Q else (vp_in x1 4 ∧ (vp_in (x1 - 1) 4 ∧ (sm_wp X 125 0 [some (.ref 68), some (.int (I 69 (x1.toNatClampNeg))), some (.int (I 70 ((x1 - 1).toNatClampNeg))), some (.int x3)] [] (sM mo G I J) (fun v M => sm_wp X 124 71 [some (.ref 68), some (.int x1), some (.int x2), some (.int x3)] (v.toList ++ []) M Q)))))) :=
  (sm_blk X 124 45 (tt_lin 124 (by decide)) rfl rfl _ _ _ _).trans rfl
set_option maxRecDepth 100000 in
theorem bk_124_71 (X : (Nat → Int32) × Nat) (mo : Bool) (G : Nat × Nat) (I : Nat → Nat → Int32) (J : Nat → Nat → Int64) (Q : Option Value → sm_M → Prop) (x1 : Int32) (x2 : Int32) (x3 : Int32) (s0 : Int32) :
    sm_wp X 124 71 [some (.ref 68), some (.int x1), some (.int x2), some (.int x3)] [.int s0] (sM mo G I J) Q =
    (if (s0 : Int32) = 0 then sm_wp X 124 76 [some (.ref 68), some (.int x1), some (.int x2), some (.int x3)] [] (sM mo G I J) Q else (True ∧ Q (some (.int x3)) (sM mo G I J))) :=
  (sm_blk X 124 71 (tt_lin 124 (by decide)) rfl rfl _ _ _ _).trans rfl
set_option maxRecDepth 100000 in
theorem bk_124_74 (X : (Nat → Int32) × Nat) (mo : Bool) (G : Nat × Nat) (I : Nat → Nat → Int32) (J : Nat → Nat → Int64) (Q : Option Value → sm_M → Prop) (x1 : Int32) (x2 : Int32) (x3 : Int32) :
    sm_wp X 124 74 [some (.ref 68), some (.int x1), some (.int x2), some (.int x3)] [] (sM mo G I J) Q =
    (True ∧ Q (some (.int x3)) (sM mo G I J)) :=
  (sm_blk X 124 74 (tt_lin 124 (by decide)) rfl rfl _ _ _ _).trans rfl
set_option maxRecDepth 100000 in
theorem bk_124_76 (X : (Nat → Int32) × Nat) (mo : Bool) (G : Nat × Nat) (I : Nat → Nat → Int32) (J : Nat → Nat → Int64) (Q : Option Value → sm_M → Prop) (x1 : Int32) (x2 : Int32) (x3 : Int32) :
    sm_wp X 124 76 [some (.ref 68), some (.int x1), some (.int x2), some (.int x3)] [] (sM mo G I J) Q =
    (sm_wp X 124 34 [some (.ref 68), some (.int x1), some (.int x2), some (.int (x3 + 1))] [] (sM mo G I J) Q) :=
  (sm_blk X 124 76 (tt_lin 124 (by decide)) rfl rfl _ _ _ _).trans rfl
set_option maxRecDepth 100000 in
theorem bk_124_82 (X : (Nat → Int32) × Nat) (mo : Bool) (G : Nat × Nat) (I : Nat → Nat → Int32) (J : Nat → Nat → Int64) (Q : Option Value → sm_M → Prop) (x1 : Int32) (x2 : Int32) (x3 : Int32) :
    sm_wp X 124 82 [some (.ref 68), some (.int x1), some (.int x2), some (.int x3)] [] (sM mo G I J) Q =
    (True ∧ Q (some (.int (-1))) (sM mo G I J)) :=
  (sm_blk X 124 82 (tt_lin 124 (by decide)) rfl rfl _ _ _ _).trans rfl
set_option maxRecDepth 100000 in
theorem bk_125_0 (X : (Nat → Int32) × Nat) (mo : Bool) (G : Nat × Nat) (I : Nat → Nat → Int32) (J : Nat → Nat → Int64) (Q : Option Value → sm_M → Prop) (x1 : Int32) (x2 : Int32) (x3 : Int32) :
    sm_wp X 125 0 [some (.ref 68), some (.int x1), some (.int x2), some (.int x3)] [] (sM mo G I J) Q =
    (sm_wp X 104 0 [some (.ref 1), some (.int x1), some (.int x2)] [] (sM mo G I J) (fun v M => sm_wp X 125 9 [some (.ref 68), some (.int x1), some (.int x2), some (.int x3)] (v.toList ++ []) M Q)) :=
  (sm_blk X 125 0 (tt_lin 125 (by decide)) rfl rfl _ _ _ _).trans rfl
set_option maxRecDepth 100000 in
theorem bk_125_9 (X : (Nat → Int32) × Nat) (mo : Bool) (G : Nat × Nat) (I : Nat → Nat → Int32) (J : Nat → Nat → Int64) (Q : Option Value → sm_M → Prop) (x1 : Int32) (x2 : Int32) (x3 : Int32) (s0 : Int32) :
    sm_wp X 125 9 [some (.ref 68), some (.int x1), some (.int x2), some (.int x3)] [.int s0] (sM mo G I J) Q =
    (sm_wp X 104 0 [some (.ref 1), some (.int x1), some (.int x3)] [] (sM mo G I J) (fun v M => sm_wp X 125 18 [some (.ref 68), some (.int x1), some (.int x2), some (.int x3)] (v.toList ++ [.int s0]) M Q)) :=
  (sm_blk X 125 9 (tt_lin 125 (by decide)) rfl rfl _ _ _ _).trans rfl
set_option maxRecDepth 100000 in
theorem bk_125_18 (X : (Nat → Int32) × Nat) (mo : Bool) (G : Nat × Nat) (I : Nat → Nat → Int32) (J : Nat → Nat → Int64) (Q : Option Value → sm_M → Prop) (x1 : Int32) (x2 : Int32) (x3 : Int32) (s0 : Int32) (s1 : Int32) :
    sm_wp X 125 18 [some (.ref 68), some (.int x1), some (.int x2), some (.int x3)] [.int s1, .int s0] (sM mo G I J) Q =
    (if (s0 : Int32) ≤ (s1 : Int32) then sm_wp X 125 25 [some (.ref 68), some (.int x1), some (.int x2), some (.int x3)] [] (sM mo G I J) Q else (sm_wp X 125 26 [some (.ref 68), some (.int x1), some (.int x2), some (.int x3)] [.int 1] (sM mo G I J) Q)) :=
  (sm_blk X 125 18 (tt_lin 125 (by decide)) rfl rfl _ _ _ _).trans rfl
set_option maxRecDepth 100000 in
theorem bk_125_25 (X : (Nat → Int32) × Nat) (mo : Bool) (G : Nat × Nat) (I : Nat → Nat → Int32) (J : Nat → Nat → Int64) (Q : Option Value → sm_M → Prop) (x1 : Int32) (x2 : Int32) (x3 : Int32) :
    sm_wp X 125 25 [some (.ref 68), some (.int x1), some (.int x2), some (.int x3)] [] (sM mo G I J) Q =
    (sm_zb 0 ∧ Q (some (.int 0)) (sM mo G I J)) :=
  (sm_blk X 125 25 (tt_lin 125 (by decide)) rfl rfl _ _ _ _).trans rfl
set_option maxRecDepth 100000 in
theorem bk_125_26 (X : (Nat → Int32) × Nat) (mo : Bool) (G : Nat × Nat) (I : Nat → Nat → Int32) (J : Nat → Nat → Int64) (Q : Option Value → sm_M → Prop) (x1 : Int32) (x2 : Int32) (x3 : Int32) (s0 : Int32) :
    sm_wp X 125 26 [some (.ref 68), some (.int x1), some (.int x2), some (.int x3)] [.int s0] (sM mo G I J) Q =
    (sm_zb s0 ∧ Q (some (.int s0)) (sM mo G I J)) :=
  (sm_blk X 125 26 (tt_lin 125 (by decide)) rfl rfl _ _ _ _).trans rfl
set_option maxRecDepth 100000 in
theorem bk_126_0 (X : (Nat → Int32) × Nat) (mo : Bool) (G : Nat × Nat) (I : Nat → Nat → Int32) (J : Nat → Nat → Int64) (Q : Option Value → sm_M → Prop) (x1 : Int32) :
    sm_wp X 126 0 [some (.ref 68), some (.int x1), none] [] (sM mo G I J) Q =
    (if ¬ (x1 : Int32) = 0 then sm_wp X 126 9 [some (.ref 68), some (.int x1), none] [] (sM mo G I J) Q else (True ∧ Q (some (.int (I 68 3))) (sM mo G I J))) :=
  (sm_blk X 126 0 (tt_lin 126 (by decide)) rfl rfl _ _ _ _).trans rfl
set_option maxRecDepth 100000 in
theorem bk_126_9 (X : (Nat → Int32) × Nat) (mo : Bool) (G : Nat × Nat) (I : Nat → Nat → Int32) (J : Nat → Nat → Int64) (Q : Option Value → sm_M → Prop) (x1 : Int32) :
    sm_wp X 126 9 [some (.ref 68), some (.int x1), none] [] (sM mo G I J) Q =
    (if (x1 : Int32) < (1 : Int32) then sm_wp X 126 40 [some (.ref 68), some (.int x1), none] [] (sM mo G I J) Q else (if (4 : Int32) < (x1 : Int32) then sm_wp X 126 40 [some (.ref 68), some (.int x1), none] [] (sM mo G I J) Q else (if (I 68 3 : Int32) < (x1 : Int32) then sm_wp X 126 38 [some (.ref 68), some (.int x1), none] [] (sM mo G I J) Q else (vp_in (x1 - 1) 4 ∧ (sm_wp X 126 39 [some (.ref 68), some (.int x1), none] [.int (I 69 ((x1 - 1).toNatClampNeg))] (sM mo G I J) Q))))) :=
  (sm_blk X 126 9 (tt_lin 126 (by decide)) rfl rfl _ _ _ _).trans rfl
set_option maxRecDepth 100000 in
theorem bk_126_38 (X : (Nat → Int32) × Nat) (mo : Bool) (G : Nat × Nat) (I : Nat → Nat → Int32) (J : Nat → Nat → Int64) (Q : Option Value → sm_M → Prop) (x1 : Int32) :
    sm_wp X 126 38 [some (.ref 68), some (.int x1), none] [] (sM mo G I J) Q =
    (True ∧ Q (some (.int (-1))) (sM mo G I J)) :=
  (sm_blk X 126 38 (tt_lin 126 (by decide)) rfl rfl _ _ _ _).trans rfl
set_option maxRecDepth 100000 in
theorem bk_126_39 (X : (Nat → Int32) × Nat) (mo : Bool) (G : Nat × Nat) (I : Nat → Nat → Int32) (J : Nat → Nat → Int64) (Q : Option Value → sm_M → Prop) (x1 : Int32) (s0 : Int32) :
    sm_wp X 126 39 [some (.ref 68), some (.int x1), none] [.int s0] (sM mo G I J) Q =
    (True ∧ Q (some (.int s0)) (sM mo G I J)) :=
  (sm_blk X 126 39 (tt_lin 126 (by decide)) rfl rfl _ _ _ _).trans rfl
set_option maxRecDepth 100000 in
theorem bk_126_40 (X : (Nat → Int32) × Nat) (mo : Bool) (G : Nat × Nat) (I : Nat → Nat → Int32) (J : Nat → Nat → Int64) (Q : Option Value → sm_M → Prop) (x1 : Int32) :
    sm_wp X 126 40 [some (.ref 68), some (.int x1), none] [] (sM mo G I J) Q =
    (if ((x1 - 1) - 4 : Int32) < 0 then sm_wp X 126 72 [some (.ref 68), some (.int x1), some (.int ((x1 - 1) - 4))] [] (sM mo G I J) Q else (if (4 : Int32) ≤ ((x1 - 1) - 4 : Int32) then sm_wp X 126 72 [some (.ref 68), some (.int x1), some (.int ((x1 - 1) - 4))] [] (sM mo G I J) Q else (if (I 68 3 : Int32) ≤ ((x1 - 1) - 4 : Int32) then sm_wp X 126 72 [some (.ref 68), some (.int x1), some (.int ((x1 - 1) - 4))] [] (sM mo G I J) Q else (vp_in ((x1 - 1) - 4) 4 ∧ (sm_wp X 126 73 [some (.ref 68), some (.int x1), some (.int ((x1 - 1) - 4))] [.int (I 70 (((x1 - 1) - 4).toNatClampNeg))] (sM mo G I J) Q))))) :=
  (sm_blk X 126 40 (tt_lin 126 (by decide)) rfl rfl _ _ _ _).trans rfl
set_option maxRecDepth 100000 in
theorem bk_126_72 (X : (Nat → Int32) × Nat) (mo : Bool) (G : Nat × Nat) (I : Nat → Nat → Int32) (J : Nat → Nat → Int64) (Q : Option Value → sm_M → Prop) (x1 : Int32) (x2 : Int32) :
    sm_wp X 126 72 [some (.ref 68), some (.int x1), some (.int x2)] [] (sM mo G I J) Q =
    (True ∧ Q (some (.int (-1))) (sM mo G I J)) :=
  (sm_blk X 126 72 (tt_lin 126 (by decide)) rfl rfl _ _ _ _).trans rfl
set_option maxRecDepth 100000 in
theorem bk_126_73 (X : (Nat → Int32) × Nat) (mo : Bool) (G : Nat × Nat) (I : Nat → Nat → Int32) (J : Nat → Nat → Int64) (Q : Option Value → sm_M → Prop) (x1 : Int32) (x2 : Int32) (s0 : Int32) :
    sm_wp X 126 73 [some (.ref 68), some (.int x1), some (.int x2)] [.int s0] (sM mo G I J) Q =
    (True ∧ Q (some (.int s0)) (sM mo G I J)) :=
  (sm_blk X 126 73 (tt_lin 126 (by decide)) rfl rfl _ _ _ _).trans rfl
end
