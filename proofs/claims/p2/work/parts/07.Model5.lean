set_option maxRecDepth 100000 in
theorem bk_293_0 (X : (Nat → Int32) × Nat) (mo : Bool) (G : Nat × Nat) (I : Nat → Nat → Int32) (J : Nat → Nat → Int64) (Q : Option Value → sm_M → Prop) (x1 : Int32) :
    sm_wp X 293 0 [some (.ref 81), some (.int x1)] [] (sM mo G I J) Q =
    (if (x1 : Int32) < 0 then sm_wp X 293 16 [some (.ref 81), some (.int x1)] [] (sM mo G I J) Q else (if (I 81 81 : Int32) ≤ (x1 : Int32) then sm_wp X 293 16 [some (.ref 81), some (.int x1)] [] (sM mo G I J) Q else (sm_wp X 293 17 [some (.ref 81), some (.int x1)] [.int 1] (sM mo G I J) Q))) :=
  (sm_blk X 293 0 (tt_lin 293 (by decide)) rfl rfl _ _ _ _).trans rfl
set_option maxRecDepth 100000 in
theorem bk_293_16 (X : (Nat → Int32) × Nat) (mo : Bool) (G : Nat × Nat) (I : Nat → Nat → Int32) (J : Nat → Nat → Int64) (Q : Option Value → sm_M → Prop) (x1 : Int32) :
    sm_wp X 293 16 [some (.ref 81), some (.int x1)] [] (sM mo G I J) Q =
    (sm_zb 0 ∧ Q (some (.int 0)) (sM mo G I J)) :=
  (sm_blk X 293 16 (tt_lin 293 (by decide)) rfl rfl _ _ _ _).trans rfl
set_option maxRecDepth 100000 in
theorem bk_293_17 (X : (Nat → Int32) × Nat) (mo : Bool) (G : Nat × Nat) (I : Nat → Nat → Int32) (J : Nat → Nat → Int64) (Q : Option Value → sm_M → Prop) (x1 : Int32) (s0 : Int32) :
    sm_wp X 293 17 [some (.ref 81), some (.int x1)] [.int s0] (sM mo G I J) Q =
    (sm_zb s0 ∧ Q (some (.int s0)) (sM mo G I J)) :=
  (sm_blk X 293 17 (tt_lin 293 (by decide)) rfl rfl _ _ _ _).trans rfl
set_option maxRecDepth 100000 in
theorem bk_294_0 (X : (Nat → Int32) × Nat) (mo : Bool) (G : Nat × Nat) (I : Nat → Nat → Int32) (J : Nat → Nat → Int64) (Q : Option Value → sm_M → Prop) (x1 : Int32) (x2 : Int32) (x3 : Int32) :
    sm_wp X 294 0 [some (.ref 81), some (.int x1), some (.int x2), some (.int x3)] [] (sM mo G I J) Q =
    (sm_wp X 293 0 [some (.ref 81), some (.int x1)] [] (sM mo G (up2 I 81 2 0) J) (fun v M => sm_wp X 294 10 [some (.ref 81), some (.int x1), some (.int x2), some (.int x3)] (v.toList ++ []) M Q)) :=
  (sm_blk X 294 0 (tt_lin 294 (by decide)) rfl rfl _ _ _ _).trans rfl
set_option maxRecDepth 100000 in
theorem bk_294_10 (X : (Nat → Int32) × Nat) (mo : Bool) (G : Nat × Nat) (I : Nat → Nat → Int32) (J : Nat → Nat → Int64) (Q : Option Value → sm_M → Prop) (x1 : Int32) (x2 : Int32) (x3 : Int32) (s0 : Int32) :
    sm_wp X 294 10 [some (.ref 81), some (.int x1), some (.int x2), some (.int x3)] [.int s0] (sM mo G I J) Q =
    (if (s0 : Int32) = 0 then sm_wp X 294 41 [some (.ref 81), some (.int x1), some (.int x2), some (.int x3)] [] (sM mo G I J) Q else (sm_wp X 293 0 [some (.ref 81), some (.int x2)] [] (sM mo G I J) (fun v M => sm_wp X 294 18 [some (.ref 81), some (.int x1), some (.int x2), some (.int x3)] (v.toList ++ []) M Q))) :=
  (sm_blk X 294 10 (tt_lin 294 (by decide)) rfl rfl _ _ _ _).trans rfl
set_option maxRecDepth 100000 in
theorem bk_294_18 (X : (Nat → Int32) × Nat) (mo : Bool) (G : Nat × Nat) (I : Nat → Nat → Int32) (J : Nat → Nat → Int64) (Q : Option Value → sm_M → Prop) (x1 : Int32) (x2 : Int32) (x3 : Int32) (s0 : Int32) :
    sm_wp X 294 18 [some (.ref 81), some (.int x1), some (.int x2), some (.int x3)] [.int s0] (sM mo G I J) Q =
    (if (s0 : Int32) = 0 then sm_wp X 294 41 [some (.ref 81), some (.int x1), some (.int x2), some (.int x3)] [] (sM mo G I J) Q else (if (x1 : Int32) = (x2 : Int32) then sm_wp X 294 41 [some (.ref 81), some (.int x1), some (.int x2), some (.int x3)] [] (sM mo G I J) Q else (vp_in ((8 * x1) + x2) 64 ∧ (if ¬ (I 137 (((8 * x1) + x2).toNatClampNeg) : Int32) = (x3 : Int32) then sm_wp X 294 43 [some (.ref 81), some (.int x1), some (.int x2), some (.int x3)] [] (sM mo G I J) Q else (sm_zb 0 ∧ Q (some (.int 0)) (sM mo G I J)))))) :=
  (sm_blk X 294 18 (tt_lin 294 (by decide)) rfl rfl _ _ _ _).trans rfl
set_option maxRecDepth 100000 in
theorem bk_294_41 (X : (Nat → Int32) × Nat) (mo : Bool) (G : Nat × Nat) (I : Nat → Nat → Int32) (J : Nat → Nat → Int64) (Q : Option Value → sm_M → Prop) (x1 : Int32) (x2 : Int32) (x3 : Int32) :
    sm_wp X 294 41 [some (.ref 81), some (.int x1), some (.int x2), some (.int x3)] [] (sM mo G I J) Q =
    (sm_zb 0 ∧ Q (some (.int 0)) (sM mo G I J)) :=
  (sm_blk X 294 41 (tt_lin 294 (by decide)) rfl rfl _ _ _ _).trans rfl
set_option maxRecDepth 100000 in
theorem bk_294_43 (X : (Nat → Int32) × Nat) (mo : Bool) (G : Nat × Nat) (I : Nat → Nat → Int32) (J : Nat → Nat → Int64) (Q : Option Value → sm_M → Prop) (x1 : Int32) (x2 : Int32) (x3 : Int32) :
    sm_wp X 294 43 [some (.ref 81), some (.int x1), some (.int x2), some (.int x3)] [] (sM mo G I J) Q =
    (vp_in ((8 * x1) + x2) 64 ∧ (sm_zb 1 ∧ Q (some (.int 1)) (sM mo G (up2 I 137 ((8 * x1) + x2).toNatClampNeg (vp_nar .boolean x3)) J))) :=
  (sm_blk X 294 43 (tt_lin 294 (by decide)) rfl rfl _ _ _ _).trans rfl
set_option maxRecDepth 100000 in
theorem bk_295_0 (X : (Nat → Int32) × Nat) (mo : Bool) (G : Nat × Nat) (I : Nat → Nat → Int32) (J : Nat → Nat → Int64) (Q : Option Value → sm_M → Prop) (x1 : Int32) (x2 : Int32) (x3 : Int32) :
    sm_wp X 295 0 [some (.ref 81), some (.int x1), some (.int x2), some (.int x3)] [] (sM mo G I J) Q =
    (sm_wp X 293 0 [some (.ref 81), some (.int x1)] [] (sM mo G (up2 I 81 2 0) J) (fun v M => sm_wp X 295 10 [some (.ref 81), some (.int x1), some (.int x2), some (.int x3)] (v.toList ++ []) M Q)) :=
  (sm_blk X 295 0 (tt_lin 295 (by decide)) rfl rfl _ _ _ _).trans rfl
set_option maxRecDepth 100000 in
theorem bk_295_10 (X : (Nat → Int32) × Nat) (mo : Bool) (G : Nat × Nat) (I : Nat → Nat → Int32) (J : Nat → Nat → Int64) (Q : Option Value → sm_M → Prop) (x1 : Int32) (x2 : Int32) (x3 : Int32) (s0 : Int32) :
    sm_wp X 295 10 [some (.ref 81), some (.int x1), some (.int x2), some (.int x3)] [.int s0] (sM mo G I J) Q =
    (if (s0 : Int32) = 0 then sm_wp X 295 44 [some (.ref 81), some (.int x1), some (.int x2), some (.int x3)] [] (sM mo G I J) Q else (sm_wp X 215 0 [some (.ref 81), some (.int x2)] [] (sM mo G I J) (fun v M => sm_wp X 295 18 [some (.ref 81), some (.int x1), some (.int x2), some (.int x3)] (v.toList ++ []) M Q))) :=
  (sm_blk X 295 10 (tt_lin 295 (by decide)) rfl rfl _ _ _ _).trans rfl
set_option maxRecDepth 100000 in
theorem bk_295_18 (X : (Nat → Int32) × Nat) (mo : Bool) (G : Nat × Nat) (I : Nat → Nat → Int32) (J : Nat → Nat → Int64) (Q : Option Value → sm_M → Prop) (x1 : Int32) (x2 : Int32) (x3 : Int32) (s0 : Int32) :
    sm_wp X 295 18 [some (.ref 81), some (.int x1), some (.int x2), some (.int x3)] [.int s0] (sM mo G I J) Q =
    (if (s0 : Int32) = 0 then sm_wp X 295 44 [some (.ref 81), some (.int x1), some (.int x2), some (.int x3)] [] (sM mo G I J) Q else (vp_in x1 8 ∧ (if ¬ (((I 138 (x1.toNatClampNeg)) >>> (x2 &&& 31)) &&& 1 : Int32) = (1 : Int32) then sm_wp X 295 39 [some (.ref 81), some (.int x1), some (.int x2), some (.int x3)] [] (sM mo G I J) Q else (sm_wp X 295 40 [some (.ref 81), some (.int x1), some (.int x2), some (.int x3)] [.int 1] (sM mo G I J) Q)))) :=
  (sm_blk X 295 18 (tt_lin 295 (by decide)) rfl rfl _ _ _ _).trans rfl
set_option maxRecDepth 100000 in
theorem bk_295_39 (X : (Nat → Int32) × Nat) (mo : Bool) (G : Nat × Nat) (I : Nat → Nat → Int32) (J : Nat → Nat → Int64) (Q : Option Value → sm_M → Prop) (x1 : Int32) (x2 : Int32) (x3 : Int32) :
    sm_wp X 295 39 [some (.ref 81), some (.int x1), some (.int x2), some (.int x3)] [] (sM mo G I J) Q =
    (if ¬ (0 : Int32) = (x3 : Int32) then sm_wp X 295 46 [some (.ref 81), some (.int x1), some (.int x2), some (.int x3)] [] (sM mo G I J) Q else (sm_zb 0 ∧ Q (some (.int 0)) (sM mo G I J))) :=
  (sm_blk X 295 39 (tt_lin 295 (by decide)) rfl rfl _ _ _ _).trans rfl
set_option maxRecDepth 100000 in
theorem bk_295_40 (X : (Nat → Int32) × Nat) (mo : Bool) (G : Nat × Nat) (I : Nat → Nat → Int32) (J : Nat → Nat → Int64) (Q : Option Value → sm_M → Prop) (x1 : Int32) (x2 : Int32) (x3 : Int32) (s0 : Int32) :
    sm_wp X 295 40 [some (.ref 81), some (.int x1), some (.int x2), some (.int x3)] [.int s0] (sM mo G I J) Q =
    (if ¬ (s0 : Int32) = (x3 : Int32) then sm_wp X 295 46 [some (.ref 81), some (.int x1), some (.int x2), some (.int x3)] [] (sM mo G I J) Q else (sm_zb 0 ∧ Q (some (.int 0)) (sM mo G I J))) :=
  (sm_blk X 295 40 (tt_lin 295 (by decide)) rfl rfl _ _ _ _).trans rfl
set_option maxRecDepth 100000 in
theorem bk_295_44 (X : (Nat → Int32) × Nat) (mo : Bool) (G : Nat × Nat) (I : Nat → Nat → Int32) (J : Nat → Nat → Int64) (Q : Option Value → sm_M → Prop) (x1 : Int32) (x2 : Int32) (x3 : Int32) :
    sm_wp X 295 44 [some (.ref 81), some (.int x1), some (.int x2), some (.int x3)] [] (sM mo G I J) Q =
    (sm_zb 0 ∧ Q (some (.int 0)) (sM mo G I J)) :=
  (sm_blk X 295 44 (tt_lin 295 (by decide)) rfl rfl _ _ _ _).trans rfl
set_option maxRecDepth 100000 in
theorem bk_295_46 (X : (Nat → Int32) × Nat) (mo : Bool) (G : Nat × Nat) (I : Nat → Nat → Int32) (J : Nat → Nat → Int64) (Q : Option Value → sm_M → Prop) (x1 : Int32) (x2 : Int32) (x3 : Int32) :
    sm_wp X 295 46 [some (.ref 81), some (.int x1), some (.int x2), some (.int x3)] [] (sM mo G I J) Q =
    (vp_in x1 8 ∧ (vp_in x1 8 ∧ (sm_zb 1 ∧ Q (some (.int 1)) (sM mo G (up2 I 138 x1.toNatClampNeg ((I 138 (x1.toNatClampNeg)) ^^^ (1 <<< (x2 &&& 31)))) J)))) :=
  (sm_blk X 295 46 (tt_lin 295 (by decide)) rfl rfl _ _ _ _).trans rfl
set_option maxRecDepth 100000 in
theorem bk_296_0 (X : (Nat → Int32) × Nat) (mo : Bool) (G : Nat × Nat) (I : Nat → Nat → Int32) (J : Nat → Nat → Int64) (Q : Option Value → sm_M → Prop) (x1 : Int32) (x2 : Int32) (x3 : Int32) :
    sm_wp X 296 0 [some (.ref 81), some (.int x1), some (.int x2), some (.int x3)] [] (sM mo G I J) Q =
    (sm_wp X 293 0 [some (.ref 81), some (.int x1)] [] (sM mo G (up2 I 81 2 0) J) (fun v M => sm_wp X 296 10 [some (.ref 81), some (.int x1), some (.int x2), some (.int x3)] (v.toList ++ []) M Q)) :=
  (sm_blk X 296 0 (tt_lin 296 (by decide)) rfl rfl _ _ _ _).trans rfl
set_option maxRecDepth 100000 in
theorem bk_296_10 (X : (Nat → Int32) × Nat) (mo : Bool) (G : Nat × Nat) (I : Nat → Nat → Int32) (J : Nat → Nat → Int64) (Q : Option Value → sm_M → Prop) (x1 : Int32) (x2 : Int32) (x3 : Int32) (s0 : Int32) :
    sm_wp X 296 10 [some (.ref 81), some (.int x1), some (.int x2), some (.int x3)] [.int s0] (sM mo G I J) Q =
    (if (s0 : Int32) = 0 then sm_wp X 296 57 [some (.ref 81), some (.int x1), some (.int x2), some (.int x3)] [] (sM mo G I J) Q else (sm_wp X 216 0 [some (.ref 81), some (.int x2)] [] (sM mo G I J) (fun v M => sm_wp X 296 18 [some (.ref 81), some (.int x1), some (.int x2), some (.int x3)] (v.toList ++ []) M Q))) :=
  (sm_blk X 296 10 (tt_lin 296 (by decide)) rfl rfl _ _ _ _).trans rfl
set_option maxRecDepth 100000 in
theorem bk_296_18 (X : (Nat → Int32) × Nat) (mo : Bool) (G : Nat × Nat) (I : Nat → Nat → Int32) (J : Nat → Nat → Int64) (Q : Option Value → sm_M → Prop) (x1 : Int32) (x2 : Int32) (x3 : Int32) (s0 : Int32) :
    sm_wp X 296 18 [some (.ref 81), some (.int x1), some (.int x2), some (.int x3)] [.int s0] (sM mo G I J) Q =
    (if (s0 : Int32) = 0 then sm_wp X 296 57 [some (.ref 81), some (.int x1), some (.int x2), some (.int x3)] [] (sM mo G I J) Q else (sm_wp X 216 0 [some (.ref 81), some (.int x3)] [] (sM mo G I J) (fun v M => sm_wp X 296 26 [some (.ref 81), some (.int x1), some (.int x2), some (.int x3)] (v.toList ++ []) M Q))) :=
  (sm_blk X 296 18 (tt_lin 296 (by decide)) rfl rfl _ _ _ _).trans rfl
set_option maxRecDepth 100000 in
theorem bk_296_26 (X : (Nat → Int32) × Nat) (mo : Bool) (G : Nat × Nat) (I : Nat → Nat → Int32) (J : Nat → Nat → Int64) (Q : Option Value → sm_M → Prop) (x1 : Int32) (x2 : Int32) (x3 : Int32) (s0 : Int32) :
    sm_wp X 296 26 [some (.ref 81), some (.int x1), some (.int x2), some (.int x3)] [.int s0] (sM mo G I J) Q =
    (if (s0 : Int32) = 0 then sm_wp X 296 57 [some (.ref 81), some (.int x1), some (.int x2), some (.int x3)] [] (sM mo G I J) Q else (vp_in ((6 * x1) + x2) 48 ∧ (if (I 135 (((6 * x1) + x2).toNatClampNeg) : Int32) = 0 then sm_wp X 296 57 [some (.ref 81), some (.int x1), some (.int x2), some (.int x3)] [] (sM mo G I J) Q else (vp_in ((6 * x1) + x3) 48 ∧ (if ¬ (I 135 (((6 * x1) + x3).toNatClampNeg) : Int32) = 0 then sm_wp X 296 59 [some (.ref 81), some (.int x1), some (.int x2), some (.int x3)] [] (sM mo G I J) Q else (True ∧ Q (some (.int (-1))) (sM mo G I J))))))) :=
  (sm_blk X 296 26 (tt_lin 296 (by decide)) rfl rfl _ _ _ _).trans rfl
set_option maxRecDepth 100000 in
theorem bk_296_57 (X : (Nat → Int32) × Nat) (mo : Bool) (G : Nat × Nat) (I : Nat → Nat → Int32) (J : Nat → Nat → Int64) (Q : Option Value → sm_M → Prop) (x1 : Int32) (x2 : Int32) (x3 : Int32) :
    sm_wp X 296 57 [some (.ref 81), some (.int x1), some (.int x2), some (.int x3)] [] (sM mo G I J) Q =
    (True ∧ Q (some (.int (-1))) (sM mo G I J)) :=
  (sm_blk X 296 57 (tt_lin 296 (by decide)) rfl rfl _ _ _ _).trans rfl
set_option maxRecDepth 100000 in
theorem bk_296_59 (X : (Nat → Int32) × Nat) (mo : Bool) (G : Nat × Nat) (I : Nat → Nat → Int32) (J : Nat → Nat → Int64) (Q : Option Value → sm_M → Prop) (x1 : Int32) (x2 : Int32) (x3 : Int32) :
    sm_wp X 296 59 [some (.ref 81), some (.int x1), some (.int x2), some (.int x3)] [] (sM mo G I J) Q =
    (sm_wp X 297 0 [some (.ref 81), some (.int ((6 * x1) + x2)), some (.int ((6 * x1) + x3)), none, none, none] [] (sM mo G I J) (fun v M => sm_wp X 296 75 [some (.ref 81), some (.int x1), some (.int x2), some (.int x3)] (v.toList ++ []) M Q)) :=
  (sm_blk X 296 59 (tt_lin 296 (by decide)) rfl rfl _ _ _ _).trans rfl
set_option maxRecDepth 100000 in
theorem bk_296_75 (X : (Nat → Int32) × Nat) (mo : Bool) (G : Nat × Nat) (I : Nat → Nat → Int32) (J : Nat → Nat → Int64) (Q : Option Value → sm_M → Prop) (x1 : Int32) (x2 : Int32) (x3 : Int32) (s0 : Int32) :
    sm_wp X 296 75 [some (.ref 81), some (.int x1), some (.int x2), some (.int x3)] [.int s0] (sM mo G I J) Q =
    (True ∧ Q (some (.int s0)) (sM mo G I J)) :=
  (sm_blk X 296 75 (tt_lin 296 (by decide)) rfl rfl _ _ _ _).trans rfl
set_option maxRecDepth 100000 in
theorem bk_297_0 (X : (Nat → Int32) × Nat) (mo : Bool) (G : Nat × Nat) (I : Nat → Nat → Int32) (J : Nat → Nat → Int64) (Q : Option Value → sm_M → Prop) (x1 : Int32) (x2 : Int32) :
    sm_wp X 297 0 [some (.ref 81), some (.int x1), some (.int x2), none, none, none] [] (sM mo G I J) Q =
    (vp_in x1 48 ∧ (sm_wp X 297 7 [some (.ref 81), some (.int x1), some (.int x2), some (.int (I 135 (x1.toNatClampNeg))), none, none] [] (sM mo G I J) Q)) :=
  (sm_blk X 297 0 (tt_lin 297 (by decide)) rfl rfl _ _ _ _).trans rfl
set_option maxRecDepth 100000 in
theorem bk_297_7 (X : (Nat → Int32) × Nat) (mo : Bool) (G : Nat × Nat) (I : Nat → Nat → Int32) (J : Nat → Nat → Int64) (Q : Option Value → sm_M → Prop) (x1 : Int32) (x2 : Int32) (x3 : Int32) :
    sm_wp X 297 7 [some (.ref 81), some (.int x1), some (.int x2), some (.int x3), none, none] [] (sM mo G I J) Q =
    (if (x3 : Int32) < 0 then sm_wp X 297 241 [some (.ref 81), some (.int x1), some (.int x2), some (.int x3), none, none] [] (sM mo G I J) Q else (vp_in x2 48 ∧ (sm_wp X 297 19 [some (.ref 81), some (.int x1), some (.int x2), some (.int x3), some (.int (I 135 (x2.toNatClampNeg))), none] [] (sM mo G I J) Q))) :=
  (sm_blk X 297 7 (tt_lin 297 (by decide)) rfl rfl _ _ _ _).trans rfl
set_option maxRecDepth 100000 in
theorem bk_297_19 (X : (Nat → Int32) × Nat) (mo : Bool) (G : Nat × Nat) (I : Nat → Nat → Int32) (J : Nat → Nat → Int64) (Q : Option Value → sm_M → Prop) (x1 : Int32) (x2 : Int32) (x3 : Int32) (x4 : Int32) :
    sm_wp X 297 19 [some (.ref 81), some (.int x1), some (.int x2), some (.int x3), some (.int x4), none] [] (sM mo G I J) Q =
    (if (x4 : Int32) < 0 then sm_wp X 297 235 [some (.ref 81), some (.int x1), some (.int x2), some (.int x3), some (.int x4), none] [] (sM mo G I J) Q else (vp_in x1 48 ∧ (if ¬ (x3 : Int32) = (I 135 (x1.toNatClampNeg) : Int32) then sm_wp X 297 46 [some (.ref 81), some (.int x1), some (.int x2), some (.int x3), some (.int x4), none] [] (sM mo G I J) Q else (vp_in x2 48 ∧ (sm_wp X 297 69 [some (.ref 81), some (.int x1), some (.int x2), some (.int x3), some (.int x4), none] [.int ((I 135 (x2.toNatClampNeg)) - x4)] (sM mo G I J) Q))))) :=
  (sm_blk X 297 19 (tt_lin 297 (by decide)) rfl rfl _ _ _ _).trans rfl
set_option maxRecDepth 100000 in
theorem bk_297_46 (X : (Nat → Int32) × Nat) (mo : Bool) (G : Nat × Nat) (I : Nat → Nat → Int32) (J : Nat → Nat → Int64) (Q : Option Value → sm_M → Prop) (x1 : Int32) (x2 : Int32) (x3 : Int32) (x4 : Int32) :
    sm_wp X 297 46 [some (.ref 81), some (.int x1), some (.int x2), some (.int x3), some (.int x4), none] [] (sM mo G I J) Q =
    (vp_in x2 48 ∧ (if ¬ (x4 : Int32) = (I 135 (x2.toNatClampNeg) : Int32) then sm_wp X 297 68 [some (.ref 81), some (.int x1), some (.int x2), some (.int x3), some (.int x4), none] [] (sM mo G I J) Q else (vp_in x1 48 ∧ (sm_wp X 297 69 [some (.ref 81), some (.int x1), some (.int x2), some (.int x3), some (.int x4), none] [.int ((I 135 (x1.toNatClampNeg)) - x3)] (sM mo G I J) Q)))) :=
  (sm_blk X 297 46 (tt_lin 297 (by decide)) rfl rfl _ _ _ _).trans rfl
set_option maxRecDepth 100000 in
theorem bk_297_68 (X : (Nat → Int32) × Nat) (mo : Bool) (G : Nat × Nat) (I : Nat → Nat → Int32) (J : Nat → Nat → Int64) (Q : Option Value → sm_M → Prop) (x1 : Int32) (x2 : Int32) (x3 : Int32) (x4 : Int32) :
    sm_wp X 297 68 [some (.ref 81), some (.int x1), some (.int x2), some (.int x3), some (.int x4), none] [] (sM mo G I J) Q =
    (if 0 ≤ ((-1) : Int32) then sm_wp X 297 215 [some (.ref 81), some (.int x1), some (.int x2), some (.int x3), some (.int x4), some (.int (-1))] [] (sM mo G I J) Q else (vp_in (((9 * x3) + x4) + 10) 81 ∧ (vp_in ((8 * x1) + x3) 384 ∧ (vp_in ((8 * x2) + x4) 384 ∧ (if ¬ (I 136 (((8 * x1) + x3).toNatClampNeg) : Int32) = (I 136 (((8 * x2) + x4).toNatClampNeg) : Int32) then sm_wp X 297 121 [some (.ref 81), some (.int x1), some (.int x2), some (.int x3), some (.int x4), some (.int (-1))] [.int (I 139 ((((9 * x3) + x4) + 10).toNatClampNeg))] (sM mo G I J) Q else (sm_wp X 297 122 [some (.ref 81), some (.int x1), some (.int x2), some (.int x3), some (.int x4), some (.int (-1))] [.int 0, .int (I 139 ((((9 * x3) + x4) + 10).toNatClampNeg))] (sM mo G I J) Q)))))) :=
  (sm_blk X 297 68 (tt_lin 297 (by decide)) rfl rfl _ _ _ _).trans rfl
set_option maxRecDepth 100000 in
theorem bk_297_69 (X : (Nat → Int32) × Nat) (mo : Bool) (G : Nat × Nat) (I : Nat → Nat → Int32) (J : Nat → Nat → Int64) (Q : Option Value → sm_M → Prop) (x1 : Int32) (x2 : Int32) (x3 : Int32) (x4 : Int32) (s0 : Int32) :
    sm_wp X 297 69 [some (.ref 81), some (.int x1), some (.int x2), some (.int x3), some (.int x4), none] [.int s0] (sM mo G I J) Q =
    (if 0 ≤ (s0 : Int32) then sm_wp X 297 215 [some (.ref 81), some (.int x1), some (.int x2), some (.int x3), some (.int x4), some (.int s0)] [] (sM mo G I J) Q else (vp_in (((9 * x3) + x4) + 10) 81 ∧ (vp_in ((8 * x1) + x3) 384 ∧ (vp_in ((8 * x2) + x4) 384 ∧ (if ¬ (I 136 (((8 * x1) + x3).toNatClampNeg) : Int32) = (I 136 (((8 * x2) + x4).toNatClampNeg) : Int32) then sm_wp X 297 121 [some (.ref 81), some (.int x1), some (.int x2), some (.int x3), some (.int x4), some (.int s0)] [.int (I 139 ((((9 * x3) + x4) + 10).toNatClampNeg))] (sM mo G I J) Q else (sm_wp X 297 122 [some (.ref 81), some (.int x1), some (.int x2), some (.int x3), some (.int x4), some (.int s0)] [.int 0, .int (I 139 ((((9 * x3) + x4) + 10).toNatClampNeg))] (sM mo G I J) Q)))))) :=
  (sm_blk X 297 69 (tt_lin 297 (by decide)) rfl rfl _ _ _ _).trans rfl
set_option maxRecDepth 100000 in
theorem bk_297_121 (X : (Nat → Int32) × Nat) (mo : Bool) (G : Nat × Nat) (I : Nat → Nat → Int32) (J : Nat → Nat → Int64) (Q : Option Value → sm_M → Prop) (x1 : Int32) (x2 : Int32) (x3 : Int32) (x4 : Int32) (x5 : Int32) (s0 : Int32) :
    sm_wp X 297 121 [some (.ref 81), some (.int x1), some (.int x2), some (.int x3), some (.int x4), some (.int x5)] [.int s0] (sM mo G I J) Q =
    (vp_in (((9 * x3) + x4) + 9) 81 ∧ (if (s0 + 1 : Int32) ≤ ((I 139 ((((9 * x3) + x4) + 9).toNatClampNeg)) + 1 : Int32) then sm_wp X 297 167 [some (.ref 81), some (.int x1), some (.int x2), some (.int x3), some (.int x4), some (.int (s0 + 1))] [] (sM mo G I J) Q else (vp_in (((9 * x3) + x4) + 9) 81 ∧ (sm_wp X 297 169 [some (.ref 81), some (.int x1), some (.int x2), some (.int x3), some (.int x4), some (.int (s0 + 1))] [.int ((I 139 ((((9 * x3) + x4) + 9).toNatClampNeg)) + 1)] (sM mo G I J) Q)))) :=
  (sm_blk X 297 121 (tt_lin 297 (by decide)) rfl rfl _ _ _ _).trans rfl
set_option maxRecDepth 100000 in
theorem bk_297_122 (X : (Nat → Int32) × Nat) (mo : Bool) (G : Nat × Nat) (I : Nat → Nat → Int32) (J : Nat → Nat → Int64) (Q : Option Value → sm_M → Prop) (x1 : Int32) (x2 : Int32) (x3 : Int32) (x4 : Int32) (x5 : Int32) (s0 : Int32) (s1 : Int32) :
    sm_wp X 297 122 [some (.ref 81), some (.int x1), some (.int x2), some (.int x3), some (.int x4), some (.int x5)] [.int s1, .int s0] (sM mo G I J) Q =
    (vp_in (((9 * x3) + x4) + 9) 81 ∧ (if (s0 + s1 : Int32) ≤ ((I 139 ((((9 * x3) + x4) + 9).toNatClampNeg)) + 1 : Int32) then sm_wp X 297 167 [some (.ref 81), some (.int x1), some (.int x2), some (.int x3), some (.int x4), some (.int (s0 + s1))] [] (sM mo G I J) Q else (vp_in (((9 * x3) + x4) + 9) 81 ∧ (sm_wp X 297 169 [some (.ref 81), some (.int x1), some (.int x2), some (.int x3), some (.int x4), some (.int (s0 + s1))] [.int ((I 139 ((((9 * x3) + x4) + 9).toNatClampNeg)) + 1)] (sM mo G I J) Q)))) :=
  (sm_blk X 297 122 (tt_lin 297 (by decide)) rfl rfl _ _ _ _).trans rfl
set_option maxRecDepth 100000 in
theorem bk_297_167 (X : (Nat → Int32) × Nat) (mo : Bool) (G : Nat × Nat) (I : Nat → Nat → Int32) (J : Nat → Nat → Int64) (Q : Option Value → sm_M → Prop) (x1 : Int32) (x2 : Int32) (x3 : Int32) (x4 : Int32) (x5 : Int32) :
    sm_wp X 297 167 [some (.ref 81), some (.int x1), some (.int x2), some (.int x3), some (.int x4), some (.int x5)] [] (sM mo G I J) Q =
    (vp_in (((9 * x3) + x4) + 1) 81 ∧ (if (x5 : Int32) ≤ ((I 139 ((((9 * x3) + x4) + 1).toNatClampNeg)) + 1 : Int32) then sm_wp X 297 211 [some (.ref 81), some (.int x1), some (.int x2), some (.int x3), some (.int x4), some (.int x5)] [] (sM mo G I J) Q else (vp_in (((9 * x3) + x4) + 1) 81 ∧ (sm_wp X 297 213 [some (.ref 81), some (.int x1), some (.int x2), some (.int x3), some (.int x4), some (.int x5)] [.int ((I 139 ((((9 * x3) + x4) + 1).toNatClampNeg)) + 1)] (sM mo G I J) Q)))) :=
  (sm_blk X 297 167 (tt_lin 297 (by decide)) rfl rfl _ _ _ _).trans rfl
set_option maxRecDepth 100000 in
theorem bk_297_169 (X : (Nat → Int32) × Nat) (mo : Bool) (G : Nat × Nat) (I : Nat → Nat → Int32) (J : Nat → Nat → Int64) (Q : Option Value → sm_M → Prop) (x1 : Int32) (x2 : Int32) (x3 : Int32) (x4 : Int32) (x5 : Int32) (s0 : Int32) :
    sm_wp X 297 169 [some (.ref 81), some (.int x1), some (.int x2), some (.int x3), some (.int x4), some (.int x5)] [.int s0] (sM mo G I J) Q =
    (vp_in (((9 * x3) + x4) + 1) 81 ∧ (if (s0 : Int32) ≤ ((I 139 ((((9 * x3) + x4) + 1).toNatClampNeg)) + 1 : Int32) then sm_wp X 297 211 [some (.ref 81), some (.int x1), some (.int x2), some (.int x3), some (.int x4), some (.int s0)] [] (sM mo G I J) Q else (vp_in (((9 * x3) + x4) + 1) 81 ∧ (sm_wp X 297 213 [some (.ref 81), some (.int x1), some (.int x2), some (.int x3), some (.int x4), some (.int s0)] [.int ((I 139 ((((9 * x3) + x4) + 1).toNatClampNeg)) + 1)] (sM mo G I J) Q)))) :=
  (sm_blk X 297 169 (tt_lin 297 (by decide)) rfl rfl _ _ _ _).trans rfl
set_option maxRecDepth 100000 in
theorem bk_297_211 (X : (Nat → Int32) × Nat) (mo : Bool) (G : Nat × Nat) (I : Nat → Nat → Int32) (J : Nat → Nat → Int64) (Q : Option Value → sm_M → Prop) (x1 : Int32) (x2 : Int32) (x3 : Int32) (x4 : Int32) (x5 : Int32) :
    sm_wp X 297 211 [some (.ref 81), some (.int x1), some (.int x2), some (.int x3), some (.int x4), some (.int x5)] [] (sM mo G I J) Q =
    (vp_in ((9 * x3) + x4) 81 ∧ (sm_wp X 297 19 [some (.ref 81), some (.int x1), some (.int x2), some (.int x3), some (.int (x4 + (-1))), none] [] (sM mo G (up2 I 139 ((9 * x3) + x4).toNatClampNeg x5) J) Q)) :=
  (sm_blk X 297 211 (tt_lin 297 (by decide)) rfl rfl _ _ _ _).trans rfl
set_option maxRecDepth 100000 in
theorem bk_297_213 (X : (Nat → Int32) × Nat) (mo : Bool) (G : Nat × Nat) (I : Nat → Nat → Int32) (J : Nat → Nat → Int64) (Q : Option Value → sm_M → Prop) (x1 : Int32) (x2 : Int32) (x3 : Int32) (x4 : Int32) (x5 : Int32) (s0 : Int32) :
    sm_wp X 297 213 [some (.ref 81), some (.int x1), some (.int x2), some (.int x3), some (.int x4), some (.int x5)] [.int s0] (sM mo G I J) Q =
    (vp_in ((9 * x3) + x4) 81 ∧ (sm_wp X 297 19 [some (.ref 81), some (.int x1), some (.int x2), some (.int x3), some (.int (x4 + (-1))), none] [] (sM mo G (up2 I 139 ((9 * x3) + x4).toNatClampNeg s0) J) Q)) :=
  (sm_blk X 297 213 (tt_lin 297 (by decide)) rfl rfl _ _ _ _).trans rfl
set_option maxRecDepth 100000 in
theorem bk_297_215 (X : (Nat → Int32) × Nat) (mo : Bool) (G : Nat × Nat) (I : Nat → Nat → Int32) (J : Nat → Nat → Int64) (Q : Option Value → sm_M → Prop) (x1 : Int32) (x2 : Int32) (x3 : Int32) (x4 : Int32) (x5 : Int32) :
    sm_wp X 297 215 [some (.ref 81), some (.int x1), some (.int x2), some (.int x3), some (.int x4), some (.int x5)] [] (sM mo G I J) Q =
    (vp_in ((9 * x3) + x4) 81 ∧ (sm_wp X 297 19 [some (.ref 81), some (.int x1), some (.int x2), some (.int x3), some (.int (x4 + (-1))), none] [] (sM mo G (up2 I 139 ((9 * x3) + x4).toNatClampNeg x5) J) Q)) :=
  (sm_blk X 297 215 (tt_lin 297 (by decide)) rfl rfl _ _ _ _).trans rfl
set_option maxRecDepth 100000 in
theorem bk_297_235 (X : (Nat → Int32) × Nat) (mo : Bool) (G : Nat × Nat) (I : Nat → Nat → Int32) (J : Nat → Nat → Int64) (Q : Option Value → sm_M → Prop) (x1 : Int32) (x2 : Int32) (x3 : Int32) (x4 : Int32) :
    sm_wp X 297 235 [some (.ref 81), some (.int x1), some (.int x2), some (.int x3), some (.int x4), none] [] (sM mo G I J) Q =
    (sm_wp X 297 7 [some (.ref 81), some (.int x1), some (.int x2), some (.int (x3 + (-1))), none, none] [] (sM mo G I J) Q) :=
  (sm_blk X 297 235 (tt_lin 297 (by decide)) rfl rfl _ _ _ _).trans rfl
set_option maxRecDepth 100000 in
theorem bk_297_241 (X : (Nat → Int32) × Nat) (mo : Bool) (G : Nat × Nat) (I : Nat → Nat → Int32) (J : Nat → Nat → Int64) (Q : Option Value → sm_M → Prop) (x1 : Int32) (x2 : Int32) (x3 : Int32) :
    sm_wp X 297 241 [some (.ref 81), some (.int x1), some (.int x2), some (.int x3), none, none] [] (sM mo G I J) Q =
    (vp_in 0 81 ∧ (True ∧ Q (some (.int (I 139 ((0 : Int32).toNatClampNeg)))) (sM mo G I J))) :=
  (sm_blk X 297 241 (tt_lin 297 (by decide)) rfl rfl _ _ _ _).trans rfl
set_option maxRecDepth 100000 in
theorem bk_298_0 (X : (Nat → Int32) × Nat) (mo : Bool) (G : Nat × Nat) (I : Nat → Nat → Int32) (J : Nat → Nat → Int64) (Q : Option Value → sm_M → Prop) (x1 : Int32) (x2 : Int32) :
    sm_wp X 298 0 [some (.ref 81), some (.int x1), some (.int x2), none, none, none] [] (sM mo G I J) Q =
    (sm_wp X 293 0 [some (.ref 81), some (.int x1)] [] (sM mo G (up2 I 81 2 0) J) (fun v M => sm_wp X 298 10 [some (.ref 81), some (.int x1), some (.int x2), none, none, none] (v.toList ++ []) M Q)) :=
  (sm_blk X 298 0 (tt_lin 298 (by decide)) rfl rfl _ _ _ _).trans rfl
set_option maxRecDepth 100000 in
theorem bk_298_10 (X : (Nat → Int32) × Nat) (mo : Bool) (G : Nat × Nat) (I : Nat → Nat → Int32) (J : Nat → Nat → Int64) (Q : Option Value → sm_M → Prop) (x1 : Int32) (x2 : Int32) (s0 : Int32) :
    sm_wp X 298 10 [some (.ref 81), some (.int x1), some (.int x2), none, none, none] [.int s0] (sM mo G I J) Q =
    (if (s0 : Int32) = 0 then sm_wp X 298 22 [some (.ref 81), some (.int x1), some (.int x2), none, none, none] [] (sM mo G I J) Q else (sm_wp X 210 0 [some (.int x2), some (.int 0), some (.int 3)] [] (sM mo G I J) (fun v M => sm_wp X 298 19 [some (.ref 81), some (.int x1), some (.int x2), none, none, none] (v.toList ++ []) M Q))) :=
  (sm_blk X 298 10 (tt_lin 298 (by decide)) rfl rfl _ _ _ _).trans rfl
set_option maxRecDepth 100000 in
theorem bk_298_19 (X : (Nat → Int32) × Nat) (mo : Bool) (G : Nat × Nat) (I : Nat → Nat → Int32) (J : Nat → Nat → Int64) (Q : Option Value → sm_M → Prop) (x1 : Int32) (x2 : Int32) (s0 : Int32) :
    sm_wp X 298 19 [some (.ref 81), some (.int x1), some (.int x2), none, none, none] [.int s0] (sM mo G I J) Q =
    (if ¬ (s0 : Int32) = 0 then sm_wp X 298 24 [some (.ref 81), some (.int x1), some (.int x2), none, none, none] [] (sM mo G I J) Q else (True ∧ Q (some (.int (-1))) (sM mo G I J))) :=
  (sm_blk X 298 19 (tt_lin 298 (by decide)) rfl rfl _ _ _ _).trans rfl
set_option maxRecDepth 100000 in
theorem bk_298_22 (X : (Nat → Int32) × Nat) (mo : Bool) (G : Nat × Nat) (I : Nat → Nat → Int32) (J : Nat → Nat → Int64) (Q : Option Value → sm_M → Prop) (x1 : Int32) (x2 : Int32) :
    sm_wp X 298 22 [some (.ref 81), some (.int x1), some (.int x2), none, none, none] [] (sM mo G I J) Q =
    (True ∧ Q (some (.int (-1))) (sM mo G I J)) :=
  (sm_blk X 298 22 (tt_lin 298 (by decide)) rfl rfl _ _ _ _).trans rfl
set_option maxRecDepth 100000 in
theorem bk_298_24 (X : (Nat → Int32) × Nat) (mo : Bool) (G : Nat × Nat) (I : Nat → Nat → Int32) (J : Nat → Nat → Int64) (Q : Option Value → sm_M → Prop) (x1 : Int32) (x2 : Int32) :
    sm_wp X 298 24 [some (.ref 81), some (.int x1), some (.int x2), none, none, none] [] (sM mo G I J) Q =
    (sm_wp X 299 0 [some (.ref 81), some (.int x1), none, none, none, none, none] [] (sM mo G I J) (fun v M => sm_wp X 298 29 [some (.ref 81), some (.int x1), some (.int x2), none, none, none] (v.toList ++ []) M Q)) :=
  (sm_blk X 298 24 (tt_lin 298 (by decide)) rfl rfl _ _ _ _).trans rfl
set_option maxRecDepth 100000 in
theorem bk_298_29 (X : (Nat → Int32) × Nat) (mo : Bool) (G : Nat × Nat) (I : Nat → Nat → Int32) (J : Nat → Nat → Int64) (Q : Option Value → sm_M → Prop) (x1 : Int32) (x2 : Int32) (s0 : Int32) :
    sm_wp X 298 29 [some (.ref 81), some (.int x1), some (.int x2), none, none, none] [.int s0] (sM mo G I J) Q =
    (if ¬ (x2 : Int32) = 0 then sm_wp X 298 36 [some (.ref 81), some (.int x1), some (.int x2), some (.int s0), none, none] [] (sM mo G I J) Q else (True ∧ Q (some (.int s0)) (sM mo G I J))) :=
  (sm_blk X 298 29 (tt_lin 298 (by decide)) rfl rfl _ _ _ _).trans rfl
set_option maxRecDepth 100000 in
theorem bk_298_36 (X : (Nat → Int32) × Nat) (mo : Bool) (G : Nat × Nat) (I : Nat → Nat → Int32) (J : Nat → Nat → Int64) (Q : Option Value → sm_M → Prop) (x1 : Int32) (x2 : Int32) (x3 : Int32) :
    sm_wp X 298 36 [some (.ref 81), some (.int x1), some (.int x2), some (.int x3), none, none] [] (sM mo G I J) Q =
    (if ¬ (x2 : Int32) = (1 : Int32) then sm_wp X 298 61 [some (.ref 81), some (.int x1), some (.int x2), some (.int x3), none, none] [] (sM mo G I J) Q else (if 0 ≤ (x3 : Int32) then sm_wp X 298 49 [some (.ref 81), some (.int x1), some (.int x2), some (.int x3), none, none] [] (sM mo G I J) Q else (sm_wp X 298 60 [some (.ref 81), some (.int x1), some (.int x2), some (.int x3), none, none] [.int 0] (sM mo G I J) Q))) :=
  (sm_blk X 298 36 (tt_lin 298 (by decide)) rfl rfl _ _ _ _).trans rfl
set_option maxRecDepth 100000 in
theorem bk_298_49 (X : (Nat → Int32) × Nat) (mo : Bool) (G : Nat × Nat) (I : Nat → Nat → Int32) (J : Nat → Nat → Int64) (Q : Option Value → sm_M → Prop) (x1 : Int32) (x2 : Int32) (x3 : Int32) :
    sm_wp X 298 49 [some (.ref 81), some (.int x1), some (.int x2), some (.int x3), none, none] [] (sM mo G I J) Q =
    (vp_in ((6 * x1) + x3) 48 ∧ (True ∧ Q (some (.int (I 135 (((6 * x1) + x3).toNatClampNeg)))) (sM mo G I J))) :=
  (sm_blk X 298 49 (tt_lin 298 (by decide)) rfl rfl _ _ _ _).trans rfl
set_option maxRecDepth 100000 in
theorem bk_298_60 (X : (Nat → Int32) × Nat) (mo : Bool) (G : Nat × Nat) (I : Nat → Nat → Int32) (J : Nat → Nat → Int64) (Q : Option Value → sm_M → Prop) (x1 : Int32) (x2 : Int32) (x3 : Int32) (s0 : Int32) :
    sm_wp X 298 60 [some (.ref 81), some (.int x1), some (.int x2), some (.int x3), none, none] [.int s0] (sM mo G I J) Q =
    (True ∧ Q (some (.int s0)) (sM mo G I J)) :=
  (sm_blk X 298 60 (tt_lin 298 (by decide)) rfl rfl _ _ _ _).trans rfl
set_option maxRecDepth 100000 in
theorem bk_298_61 (X : (Nat → Int32) × Nat) (mo : Bool) (G : Nat × Nat) (I : Nat → Nat → Int32) (J : Nat → Nat → Int64) (Q : Option Value → sm_M → Prop) (x1 : Int32) (x2 : Int32) (x3 : Int32) :
    sm_wp X 298 61 [some (.ref 81), some (.int x1), some (.int x2), some (.int x3), none, none] [] (sM mo G I J) Q =
    (sm_wp X 301 0 [some (.ref 81), some (.int x1), none, none, none] [] (sM mo G I J) (fun v M => sm_wp X 298 66 [some (.ref 81), some (.int x1), some (.int x2), some (.int x3), none, none] (v.toList ++ []) M Q)) :=
  (sm_blk X 298 61 (tt_lin 298 (by decide)) rfl rfl _ _ _ _).trans rfl
set_option maxRecDepth 100000 in
theorem bk_298_66 (X : (Nat → Int32) × Nat) (mo : Bool) (G : Nat × Nat) (I : Nat → Nat → Int32) (J : Nat → Nat → Int64) (Q : Option Value → sm_M → Prop) (x1 : Int32) (x2 : Int32) (x3 : Int32) (s0 : Int32) :
    sm_wp X 298 66 [some (.ref 81), some (.int x1), some (.int x2), some (.int x3), none, none] [.int s0] (sM mo G I J) Q =
    (if ¬ (x2 : Int32) = (2 : Int32) then sm_wp X 298 84 [some (.ref 81), some (.int x1), some (.int x2), some (.int x3), some (.int s0), none] [] (sM mo G I J) Q else (if (s0 : Int32) = 0 then sm_wp X 298 82 [some (.ref 81), some (.int x1), some (.int x2), some (.int x3), some (.int s0), none] [] (sM mo G I J) Q else (sm_wp X 298 83 [some (.ref 81), some (.int x1), some (.int x2), some (.int x3), some (.int s0), none] [.int 1] (sM mo G I J) Q))) :=
  (sm_blk X 298 66 (tt_lin 298 (by decide)) rfl rfl _ _ _ _).trans rfl
set_option maxRecDepth 100000 in
theorem bk_298_82 (X : (Nat → Int32) × Nat) (mo : Bool) (G : Nat × Nat) (I : Nat → Nat → Int32) (J : Nat → Nat → Int64) (Q : Option Value → sm_M → Prop) (x1 : Int32) (x2 : Int32) (x3 : Int32) (x4 : Int32) :
    sm_wp X 298 82 [some (.ref 81), some (.int x1), some (.int x2), some (.int x3), some (.int x4), none] [] (sM mo G I J) Q =
    (True ∧ Q (some (.int 0)) (sM mo G I J)) :=
  (sm_blk X 298 82 (tt_lin 298 (by decide)) rfl rfl _ _ _ _).trans rfl
set_option maxRecDepth 100000 in
theorem bk_298_83 (X : (Nat → Int32) × Nat) (mo : Bool) (G : Nat × Nat) (I : Nat → Nat → Int32) (J : Nat → Nat → Int64) (Q : Option Value → sm_M → Prop) (x1 : Int32) (x2 : Int32) (x3 : Int32) (x4 : Int32) (s0 : Int32) :
    sm_wp X 298 83 [some (.ref 81), some (.int x1), some (.int x2), some (.int x3), some (.int x4), none] [.int s0] (sM mo G I J) Q =
    (True ∧ Q (some (.int s0)) (sM mo G I J)) :=
  (sm_blk X 298 83 (tt_lin 298 (by decide)) rfl rfl _ _ _ _).trans rfl
set_option maxRecDepth 100000 in
theorem bk_298_84 (X : (Nat → Int32) × Nat) (mo : Bool) (G : Nat × Nat) (I : Nat → Nat → Int32) (J : Nat → Nat → Int64) (Q : Option Value → sm_M → Prop) (x1 : Int32) (x2 : Int32) (x3 : Int32) (x4 : Int32) :
    sm_wp X 298 84 [some (.ref 81), some (.int x1), some (.int x2), some (.int x3), some (.int x4), none] [] (sM mo G I J) Q =
    (vp_in x1 8 ∧ (sm_wp X 219 0 [some (.int ((I 81 15) &&& ((I 138 (x1.toNatClampNeg)) ^^^ (-1)))), none, none] [] (sM mo G I J) (fun v M => sm_wp X 298 100 [some (.ref 81), some (.int x1), some (.int x2), some (.int x3), some (.int x4), none] (v.toList ++ []) M Q))) :=
  (sm_blk X 298 84 (tt_lin 298 (by decide)) rfl rfl _ _ _ _).trans rfl
set_option maxRecDepth 100000 in
theorem bk_298_100 (X : (Nat → Int32) × Nat) (mo : Bool) (G : Nat × Nat) (I : Nat → Nat → Int32) (J : Nat → Nat → Int64) (Q : Option Value → sm_M → Prop) (x1 : Int32) (x2 : Int32) (x3 : Int32) (x4 : Int32) (s0 : Int32) :
    sm_wp X 298 100 [some (.ref 81), some (.int x1), some (.int x2), some (.int x3), some (.int x4), none] [.int s0] (sM mo G I J) Q =
    (if ¬ (x4 : Int32) = 0 then sm_wp X 298 113 [some (.ref 81), some (.int x1), some (.int x2), some (.int x3), some (.int x4), some (.int s0)] [] (sM mo G I J) Q else (if (2 : Int32) ≤ (s0 : Int32) then sm_wp X 298 117 [some (.ref 81), some (.int x1), some (.int x2), some (.int x3), some (.int x4), some (.int s0)] [] (sM mo G I J) Q else (sm_wp X 298 119 [some (.ref 81), some (.int x1), some (.int x2), some (.int x3), some (.int x4), some (.int s0)] [.int 0] (sM mo G I J) Q))) :=
  (sm_blk X 298 100 (tt_lin 298 (by decide)) rfl rfl _ _ _ _).trans rfl
set_option maxRecDepth 100000 in
theorem bk_298_113 (X : (Nat → Int32) × Nat) (mo : Bool) (G : Nat × Nat) (I : Nat → Nat → Int32) (J : Nat → Nat → Int64) (Q : Option Value → sm_M → Prop) (x1 : Int32) (x2 : Int32) (x3 : Int32) (x4 : Int32) (x5 : Int32) :
    sm_wp X 298 113 [some (.ref 81), some (.int x1), some (.int x2), some (.int x3), some (.int x4), some (.int x5)] [] (sM mo G I J) Q =
    (sm_wp X 298 119 [some (.ref 81), some (.int x1), some (.int x2), some (.int x3), some (.int x4), some (.int x5)] [.int 0] (sM mo G I J) Q) :=
  (sm_blk X 298 113 (tt_lin 298 (by decide)) rfl rfl _ _ _ _).trans rfl
set_option maxRecDepth 100000 in
theorem bk_298_117 (X : (Nat → Int32) × Nat) (mo : Bool) (G : Nat × Nat) (I : Nat → Nat → Int32) (J : Nat → Nat → Int64) (Q : Option Value → sm_M → Prop) (x1 : Int32) (x2 : Int32) (x3 : Int32) (x4 : Int32) (x5 : Int32) :
    sm_wp X 298 117 [some (.ref 81), some (.int x1), some (.int x2), some (.int x3), some (.int x4), some (.int x5)] [] (sM mo G I J) Q =
    (True ∧ Q (some (.int x5)) (sM mo G I J)) :=
  (sm_blk X 298 117 (tt_lin 298 (by decide)) rfl rfl _ _ _ _).trans rfl
set_option maxRecDepth 100000 in
theorem bk_298_119 (X : (Nat → Int32) × Nat) (mo : Bool) (G : Nat × Nat) (I : Nat → Nat → Int32) (J : Nat → Nat → Int64) (Q : Option Value → sm_M → Prop) (x1 : Int32) (x2 : Int32) (x3 : Int32) (x4 : Int32) (x5 : Int32) (s0 : Int32) :
    sm_wp X 298 119 [some (.ref 81), some (.int x1), some (.int x2), some (.int x3), some (.int x4), some (.int x5)] [.int s0] (sM mo G I J) Q =
    (True ∧ Q (some (.int s0)) (sM mo G I J)) :=
  (sm_blk X 298 119 (tt_lin 298 (by decide)) rfl rfl _ _ _ _).trans rfl
set_option maxRecDepth 100000 in
theorem bk_299_0 (X : (Nat → Int32) × Nat) (mo : Bool) (G : Nat × Nat) (I : Nat → Nat → Int32) (J : Nat → Nat → Int64) (Q : Option Value → sm_M → Prop) (x1 : Int32) :
    sm_wp X 299 0 [some (.ref 81), some (.int x1), none, none, none, none, none] [] (sM mo G I J) Q =
    (sm_wp X 299 7 [some (.ref 81), some (.int x1), some (.int (-1)), some (.int 0), some (.int 0), none, none] [] (sM mo G I J) Q) :=
  (sm_blk X 299 0 (tt_lin 299 (by decide)) rfl rfl _ _ _ _).trans rfl
set_option maxRecDepth 100000 in
theorem bk_299_7 (X : (Nat → Int32) × Nat) (mo : Bool) (G : Nat × Nat) (I : Nat → Nat → Int32) (J : Nat → Nat → Int64) (Q : Option Value → sm_M → Prop) (x1 : Int32) (x2 : Int32) (x3 : Int32) (x4 : Int32) :
    sm_wp X 299 7 [some (.ref 81), some (.int x1), some (.int x2), some (.int x3), some (.int x4), none, none] [] (sM mo G I J) Q =
    (if (I 81 10 : Int32) ≤ (x4 : Int32) then sm_wp X 299 134 [some (.ref 81), some (.int x1), some (.int x2), some (.int x3), some (.int x4), none, none] [] (sM mo G I J) Q else (sm_wp X 300 0 [some (.ref 81), some (.int x1), some (.int x4)] [] (sM mo G I J) (fun v M => sm_wp X 299 23 [some (.ref 81), some (.int x1), some (.int x2), some (.int x3), some (.int x4), none, none] (v.toList ++ []) M Q))) :=
  (sm_blk X 299 7 (tt_lin 299 (by decide)) rfl rfl _ _ _ _).trans rfl
set_option maxRecDepth 100000 in
theorem bk_299_23 (X : (Nat → Int32) × Nat) (mo : Bool) (G : Nat × Nat) (I : Nat → Nat → Int32) (J : Nat → Nat → Int64) (Q : Option Value → sm_M → Prop) (x1 : Int32) (x2 : Int32) (x3 : Int32) (x4 : Int32) (s0 : Int32) :
    sm_wp X 299 23 [some (.ref 81), some (.int x1), some (.int x2), some (.int x3), some (.int x4), none, none] [.int s0] (sM mo G I J) Q =
    (if ¬ (s0 : Int32) = 0 then sm_wp X 299 29 [some (.ref 81), some (.int x1), some (.int x2), some (.int x3), some (.int x4), none, none] [] (sM mo G I J) Q else (sm_wp X 299 128 [some (.ref 81), some (.int x1), some (.int x2), some (.int x3), some (.int x4), none, none] [] (sM mo G I J) Q)) :=
  (sm_blk X 299 23 (tt_lin 299 (by decide)) rfl rfl _ _ _ _).trans rfl
set_option maxRecDepth 100000 in
theorem bk_299_29 (X : (Nat → Int32) × Nat) (mo : Bool) (G : Nat × Nat) (I : Nat → Nat → Int32) (J : Nat → Nat → Int64) (Q : Option Value → sm_M → Prop) (x1 : Int32) (x2 : Int32) (x3 : Int32) (x4 : Int32) :
    sm_wp X 299 29 [some (.ref 81), some (.int x1), some (.int x2), some (.int x3), some (.int x4), none, none] [] (sM mo G I J) Q =
    (sm_wp X 299 35 [some (.ref 81), some (.int x1), some (.int x2), some (.int x3), some (.int x4), some (.int 0), some (.int 0)] [] (sM mo G I J) Q) :=
  (sm_blk X 299 29 (tt_lin 299 (by decide)) rfl rfl _ _ _ _).trans rfl
set_option maxRecDepth 100000 in
theorem bk_299_35 (X : (Nat → Int32) × Nat) (mo : Bool) (G : Nat × Nat) (I : Nat → Nat → Int32) (J : Nat → Nat → Int64) (Q : Option Value → sm_M → Prop) (x1 : Int32) (x2 : Int32) (x3 : Int32) (x4 : Int32) (x5 : Int32) (x6 : Int32) :
    sm_wp X 299 35 [some (.ref 81), some (.int x1), some (.int x2), some (.int x3), some (.int x4), some (.int x5), some (.int x6)] [] (sM mo G I J) Q =
    (if (I 81 10 : Int32) ≤ (x6 : Int32) then sm_wp X 299 87 [some (.ref 81), some (.int x1), some (.int x2), some (.int x3), some (.int x4), some (.int x5), some (.int x6)] [] (sM mo G I J) Q else (sm_wp X 300 0 [some (.ref 81), some (.int x1), some (.int x6)] [] (sM mo G I J) (fun v M => sm_wp X 299 53 [some (.ref 81), some (.int x1), some (.int x2), some (.int x3), some (.int x4), some (.int x5), some (.int x6)] (v.toList ++ [.int x5]) M Q))) :=
  (sm_blk X 299 35 (tt_lin 299 (by decide)) rfl rfl _ _ _ _).trans rfl
set_option maxRecDepth 100000 in
theorem bk_299_53 (X : (Nat → Int32) × Nat) (mo : Bool) (G : Nat × Nat) (I : Nat → Nat → Int32) (J : Nat → Nat → Int64) (Q : Option Value → sm_M → Prop) (x1 : Int32) (x2 : Int32) (x3 : Int32) (x4 : Int32) (x5 : Int32) (x6 : Int32) (s0 : Int32) (s1 : Int32) :
    sm_wp X 299 53 [some (.ref 81), some (.int x1), some (.int x2), some (.int x3), some (.int x4), some (.int x5), some (.int x6)] [.int s1, .int s0] (sM mo G I J) Q =
    (if (s1 : Int32) = 0 then sm_wp X 299 77 [some (.ref 81), some (.int x1), some (.int x2), some (.int x3), some (.int x4), some (.int x5), some (.int x6)] [.int s0] (sM mo G I J) Q else (sm_wp X 297 0 [some (.ref 81), some (.int ((6 * x1) + x4)), some (.int ((6 * x1) + x6)), none, none, none] [] (sM mo G I J) (fun v M => sm_wp X 299 74 [some (.ref 81), some (.int x1), some (.int x2), some (.int x3), some (.int x4), some (.int x5), some (.int x6)] (v.toList ++ [.int s0]) M Q))) :=
  (sm_blk X 299 53 (tt_lin 299 (by decide)) rfl rfl _ _ _ _).trans rfl
set_option maxRecDepth 100000 in
theorem bk_299_74 (X : (Nat → Int32) × Nat) (mo : Bool) (G : Nat × Nat) (I : Nat → Nat → Int32) (J : Nat → Nat → Int64) (Q : Option Value → sm_M → Prop) (x1 : Int32) (x2 : Int32) (x3 : Int32) (x4 : Int32) (x5 : Int32) (x6 : Int32) (s0 : Int32) (s1 : Int32) :
    sm_wp X 299 74 [some (.ref 81), some (.int x1), some (.int x2), some (.int x3), some (.int x4), some (.int x5), some (.int x6)] [.int s1, .int s0] (sM mo G I J) Q =
    (sm_wp X 299 78 [some (.ref 81), some (.int x1), some (.int x2), some (.int x3), some (.int x4), some (.int x5), some (.int x6)] [.int s1, .int s0] (sM mo G I J) Q) :=
  (sm_blk X 299 74 (tt_lin 299 (by decide)) rfl rfl _ _ _ _).trans rfl
set_option maxRecDepth 100000 in
theorem bk_299_77 (X : (Nat → Int32) × Nat) (mo : Bool) (G : Nat × Nat) (I : Nat → Nat → Int32) (J : Nat → Nat → Int64) (Q : Option Value → sm_M → Prop) (x1 : Int32) (x2 : Int32) (x3 : Int32) (x4 : Int32) (x5 : Int32) (x6 : Int32) (s0 : Int32) :
    sm_wp X 299 77 [some (.ref 81), some (.int x1), some (.int x2), some (.int x3), some (.int x4), some (.int x5), some (.int x6)] [.int s0] (sM mo G I J) Q =
    (sm_wp X 299 35 [some (.ref 81), some (.int x1), some (.int x2), some (.int x3), some (.int x4), some (.int (s0 + 0)), some (.int (x6 + 1))] [] (sM mo G I J) Q) :=
  (sm_blk X 299 77 (tt_lin 299 (by decide)) rfl rfl _ _ _ _).trans rfl
set_option maxRecDepth 100000 in
theorem bk_299_78 (X : (Nat → Int32) × Nat) (mo : Bool) (G : Nat × Nat) (I : Nat → Nat → Int32) (J : Nat → Nat → Int64) (Q : Option Value → sm_M → Prop) (x1 : Int32) (x2 : Int32) (x3 : Int32) (x4 : Int32) (x5 : Int32) (x6 : Int32) (s0 : Int32) (s1 : Int32) :
    sm_wp X 299 78 [some (.ref 81), some (.int x1), some (.int x2), some (.int x3), some (.int x4), some (.int x5), some (.int x6)] [.int s1, .int s0] (sM mo G I J) Q =
    (sm_wp X 299 35 [some (.ref 81), some (.int x1), some (.int x2), some (.int x3), some (.int x4), some (.int (s0 + s1)), some (.int (x6 + 1))] [] (sM mo G I J) Q) :=
  (sm_blk X 299 78 (tt_lin 299 (by decide)) rfl rfl _ _ _ _).trans rfl
set_option maxRecDepth 100000 in
theorem bk_299_87 (X : (Nat → Int32) × Nat) (mo : Bool) (G : Nat × Nat) (I : Nat → Nat → Int32) (J : Nat → Nat → Int64) (Q : Option Value → sm_M → Prop) (x1 : Int32) (x2 : Int32) (x3 : Int32) (x4 : Int32) (x5 : Int32) (x6 : Int32) :
    sm_wp X 299 87 [some (.ref 81), some (.int x1), some (.int x2), some (.int x3), some (.int x4), some (.int x5), some (.int x6)] [] (sM mo G I J) Q =
    (if (x2 : Int32) < 0 then sm_wp X 299 122 [some (.ref 81), some (.int x1), some (.int x2), some (.int x3), some (.int x4), some (.int x5), some (.int x6)] [] (sM mo G I J) Q else (if (x3 : Int32) < (x5 : Int32) then sm_wp X 299 128 [some (.ref 81), some (.int x1), some (.int x2), some (.int x3), some (.int x4), some (.int x5), some (.int x6)] [] (sM mo G I J) Q else (if ¬ (x5 : Int32) = (x3 : Int32) then sm_wp X 299 122 [some (.ref 81), some (.int x1), some (.int x2), some (.int x3), some (.int x4), some (.int x5), some (.int x6)] [] (sM mo G I J) Q else (vp_in x4 6 ∧ (vp_in x2 6 ∧ (if (I 89 (x4.toNatClampNeg) : Int32) < (I 89 (x2.toNatClampNeg) : Int32) then sm_wp X 299 122 [some (.ref 81), some (.int x1), some (.int x2), some (.int x3), some (.int x4), some (.int x5), some (.int x6)] [] (sM mo G I J) Q else (sm_wp X 299 128 [some (.ref 81), some (.int x1), some (.int x2), some (.int x3), some (.int x4), some (.int x5), some (.int x6)] [] (sM mo G I J) Q))))))) :=
  (sm_blk X 299 87 (tt_lin 299 (by decide)) rfl rfl _ _ _ _).trans rfl
set_option maxRecDepth 100000 in
theorem bk_299_122 (X : (Nat → Int32) × Nat) (mo : Bool) (G : Nat × Nat) (I : Nat → Nat → Int32) (J : Nat → Nat → Int64) (Q : Option Value → sm_M → Prop) (x1 : Int32) (x2 : Int32) (x3 : Int32) (x4 : Int32) (x5 : Int32) (x6 : Int32) :
    sm_wp X 299 122 [some (.ref 81), some (.int x1), some (.int x2), some (.int x3), some (.int x4), some (.int x5), some (.int x6)] [] (sM mo G I J) Q =
    (sm_wp X 299 7 [some (.ref 81), some (.int x1), some (.int x4), some (.int x5), some (.int (x4 + 1)), none, none] [] (sM mo G I J) Q) :=
  (sm_blk X 299 122 (tt_lin 299 (by decide)) rfl rfl _ _ _ _).trans rfl
set_option maxRecDepth 100000 in
theorem bk_299_128 (X : (Nat → Int32) × Nat) (mo : Bool) (G : Nat × Nat) (I : Nat → Nat → Int32) (J : Nat → Nat → Int64) (Q : Option Value → sm_M → Prop) (x1 : Int32) (x2 : Int32) (x3 : Int32) (x4 : Int32) :
    sm_wp X 299 128 [some (.ref 81), some (.int x1), some (.int x2), some (.int x3), some (.int x4), none, none] [] (sM mo G I J) Q =
    (sm_wp X 299 7 [some (.ref 81), some (.int x1), some (.int x2), some (.int x3), some (.int (x4 + 1)), none, none] [] (sM mo G I J) Q) :=
  (sm_blk X 299 128 (tt_lin 299 (by decide)) rfl rfl _ _ _ _).trans rfl
set_option maxRecDepth 100000 in
theorem bk_299_134 (X : (Nat → Int32) × Nat) (mo : Bool) (G : Nat × Nat) (I : Nat → Nat → Int32) (J : Nat → Nat → Int64) (Q : Option Value → sm_M → Prop) (x1 : Int32) (x2 : Int32) (x3 : Int32) (x4 : Int32) :
    sm_wp X 299 134 [some (.ref 81), some (.int x1), some (.int x2), some (.int x3), some (.int x4), none, none] [] (sM mo G I J) Q =
    (True ∧ Q (some (.int x2)) (sM mo G I J)) :=
  (sm_blk X 299 134 (tt_lin 299 (by decide)) rfl rfl _ _ _ _).trans rfl
set_option maxRecDepth 100000 in
theorem bk_300_0 (X : (Nat → Int32) × Nat) (mo : Bool) (G : Nat × Nat) (I : Nat → Nat → Int32) (J : Nat → Nat → Int64) (Q : Option Value → sm_M → Prop) (x1 : Int32) (x2 : Int32) :
    sm_wp X 300 0 [some (.ref 81), some (.int x1), some (.int x2)] [] (sM mo G I J) Q =
    (sm_wp X 215 0 [some (.ref 81), some (.int x2)] [] (sM mo G I J) (fun v M => sm_wp X 300 5 [some (.ref 81), some (.int x1), some (.int x2)] (v.toList ++ []) M Q)) :=
  (sm_blk X 300 0 (tt_lin 300 (by decide)) rfl rfl _ _ _ _).trans rfl
set_option maxRecDepth 100000 in
theorem bk_300_5 (X : (Nat → Int32) × Nat) (mo : Bool) (G : Nat × Nat) (I : Nat → Nat → Int32) (J : Nat → Nat → Int64) (Q : Option Value → sm_M → Prop) (x1 : Int32) (x2 : Int32) (s0 : Int32) :
    sm_wp X 300 5 [some (.ref 81), some (.int x1), some (.int x2)] [.int s0] (sM mo G I J) Q =
    (if (s0 : Int32) = 0 then sm_wp X 300 26 [some (.ref 81), some (.int x1), some (.int x2)] [] (sM mo G I J) Q else (vp_in ((6 * x1) + x2) 48 ∧ (if (I 135 (((6 * x1) + x2).toNatClampNeg) : Int32) ≤ 0 then sm_wp X 300 26 [some (.ref 81), some (.int x1), some (.int x2)] [] (sM mo G I J) Q else (sm_wp X 300 27 [some (.ref 81), some (.int x1), some (.int x2)] [.int 1] (sM mo G I J) Q)))) :=
  (sm_blk X 300 5 (tt_lin 300 (by decide)) rfl rfl _ _ _ _).trans rfl
set_option maxRecDepth 100000 in
theorem bk_300_26 (X : (Nat → Int32) × Nat) (mo : Bool) (G : Nat × Nat) (I : Nat → Nat → Int32) (J : Nat → Nat → Int64) (Q : Option Value → sm_M → Prop) (x1 : Int32) (x2 : Int32) :
    sm_wp X 300 26 [some (.ref 81), some (.int x1), some (.int x2)] [] (sM mo G I J) Q =
    (sm_zb 0 ∧ Q (some (.int 0)) (sM mo G I J)) :=
  (sm_blk X 300 26 (tt_lin 300 (by decide)) rfl rfl _ _ _ _).trans rfl
set_option maxRecDepth 100000 in
theorem bk_300_27 (X : (Nat → Int32) × Nat) (mo : Bool) (G : Nat × Nat) (I : Nat → Nat → Int32) (J : Nat → Nat → Int64) (Q : Option Value → sm_M → Prop) (x1 : Int32) (x2 : Int32) (s0 : Int32) :
    sm_wp X 300 27 [some (.ref 81), some (.int x1), some (.int x2)] [.int s0] (sM mo G I J) Q =
    (sm_zb s0 ∧ Q (some (.int s0)) (sM mo G I J)) :=
  (sm_blk X 300 27 (tt_lin 300 (by decide)) rfl rfl _ _ _ _).trans rfl
set_option maxRecDepth 100000 in
theorem bk_301_0 (X : (Nat → Int32) × Nat) (mo : Bool) (G : Nat × Nat) (I : Nat → Nat → Int32) (J : Nat → Nat → Int64) (Q : Option Value → sm_M → Prop) (x1 : Int32) :
    sm_wp X 301 0 [some (.ref 81), some (.int x1), none, none, none] [] (sM mo G I J) Q =
    (sm_wp X 301 2 [some (.ref 81), some (.int x1), some (.int 0), none, none] [] (sM mo G I J) Q) :=
  (sm_blk X 301 0 (tt_lin 301 (by decide)) rfl rfl _ _ _ _).trans rfl
set_option maxRecDepth 100000 in
theorem bk_301_2 (X : (Nat → Int32) × Nat) (mo : Bool) (G : Nat × Nat) (I : Nat → Nat → Int32) (J : Nat → Nat → Int64) (Q : Option Value → sm_M → Prop) (x1 : Int32) (x2 : Int32) :
    sm_wp X 301 2 [some (.ref 81), some (.int x1), some (.int x2), none, none] [] (sM mo G I J) Q =
    (if (I 81 81 : Int32) ≤ (x2 : Int32) then sm_wp X 301 27 [some (.ref 81), some (.int x1), some (.int x2), none, none] [] (sM mo G I J) Q else (sm_wp X 302 0 [some (.ref 81), some (.int x2), none, none] [] (sM mo G I J) (fun v M => sm_wp X 301 20 [some (.ref 81), some (.int x1), some (.int x2), none, none] (v.toList ++ [.int x2, .ref 141]) M Q))) :=
  (sm_blk X 301 2 (tt_lin 301 (by decide)) rfl rfl _ _ _ _).trans rfl
set_option maxRecDepth 100000 in
theorem bk_301_20 (X : (Nat → Int32) × Nat) (mo : Bool) (G : Nat × Nat) (I : Nat → Nat → Int32) (J : Nat → Nat → Int64) (Q : Option Value → sm_M → Prop) (x1 : Int32) (x2 : Int32) (s1 : Int32) (s2 : Int32) :
    sm_wp X 301 20 [some (.ref 81), some (.int x1), some (.int x2), none, none] [.int s2, .int s1, .ref 141] (sM mo G I J) Q =
    (vp_in s1 8 ∧ (sm_wp X 301 2 [some (.ref 81), some (.int x1), some (.int (x2 + 1)), none, none] [] (sM mo G (up2 I 141 s1.toNatClampNeg (vp_nar .boolean s2)) J) Q)) :=
  (sm_blk X 301 20 (tt_lin 301 (by decide)) rfl rfl _ _ _ _).trans rfl
set_option maxRecDepth 100000 in
theorem bk_301_27 (X : (Nat → Int32) × Nat) (mo : Bool) (G : Nat × Nat) (I : Nat → Nat → Int32) (J : Nat → Nat → Int64) (Q : Option Value → sm_M → Prop) (x1 : Int32) (x2 : Int32) :
    sm_wp X 301 27 [some (.ref 81), some (.int x1), some (.int x2), none, none] [] (sM mo G I J) Q =
    (sm_wp X 301 29 [some (.ref 81), some (.int x1), some (.int 0), none, none] [] (sM mo G I J) Q) :=
  (sm_blk X 301 27 (tt_lin 301 (by decide)) rfl rfl _ _ _ _).trans rfl
set_option maxRecDepth 100000 in
theorem bk_301_29 (X : (Nat → Int32) × Nat) (mo : Bool) (G : Nat × Nat) (I : Nat → Nat → Int32) (J : Nat → Nat → Int64) (Q : Option Value → sm_M → Prop) (x1 : Int32) (x2 : Int32) :
    sm_wp X 301 29 [some (.ref 81), some (.int x1), some (.int x2), none, none] [] (sM mo G I J) Q =
    (if (8 : Int32) ≤ (x2 : Int32) then sm_wp X 301 120 [some (.ref 81), some (.int x1), some (.int x2), none, none] [] (sM mo G I J) Q else (sm_wp X 301 37 [some (.ref 81), some (.int x1), some (.int x2), some (.int 0), none] [] (sM mo G I J) Q)) :=
  (sm_blk X 301 29 (tt_lin 301 (by decide)) rfl rfl _ _ _ _).trans rfl
set_option maxRecDepth 100000 in
theorem bk_301_37 (X : (Nat → Int32) × Nat) (mo : Bool) (G : Nat × Nat) (I : Nat → Nat → Int32) (J : Nat → Nat → Int64) (Q : Option Value → sm_M → Prop) (x1 : Int32) (x2 : Int32) (x3 : Int32) :
    sm_wp X 301 37 [some (.ref 81), some (.int x1), some (.int x2), some (.int x3), none] [] (sM mo G I J) Q =
    (if (I 81 81 : Int32) ≤ (x3 : Int32) then sm_wp X 301 114 [some (.ref 81), some (.int x1), some (.int x2), some (.int x3), none] [] (sM mo G I J) Q else (sm_wp X 301 48 [some (.ref 81), some (.int x1), some (.int x2), some (.int x3), some (.int 0)] [] (sM mo G I J) Q)) :=
  (sm_blk X 301 37 (tt_lin 301 (by decide)) rfl rfl _ _ _ _).trans rfl
set_option maxRecDepth 100000 in
theorem bk_301_48 (X : (Nat → Int32) × Nat) (mo : Bool) (G : Nat × Nat) (I : Nat → Nat → Int32) (J : Nat → Nat → Int64) (Q : Option Value → sm_M → Prop) (x1 : Int32) (x2 : Int32) (x3 : Int32) (x4 : Int32) :
    sm_wp X 301 48 [some (.ref 81), some (.int x1), some (.int x2), some (.int x3), some (.int x4)] [] (sM mo G I J) Q =
    (if (I 81 81 : Int32) ≤ (x4 : Int32) then sm_wp X 301 108 [some (.ref 81), some (.int x1), some (.int x2), some (.int x3), some (.int x4)] [] (sM mo G I J) Q else (vp_in x3 8 ∧ (if ¬ (I 141 (x3.toNatClampNeg) : Int32) = 0 then sm_wp X 301 96 [some (.ref 81), some (.int x1), some (.int x2), some (.int x3), some (.int x4)] [.int x3, .ref 141] (sM mo G I J) Q else (vp_in ((8 * x3) + x4) 64 ∧ (if (I 137 (((8 * x3) + x4).toNatClampNeg) : Int32) = 0 then sm_wp X 301 100 [some (.ref 81), some (.int x1), some (.int x2), some (.int x3), some (.int x4)] [.int x3, .ref 141] (sM mo G I J) Q else (vp_in x4 8 ∧ (if (I 141 (x4.toNatClampNeg) : Int32) = 0 then sm_wp X 301 100 [some (.ref 81), some (.int x1), some (.int x2), some (.int x3), some (.int x4)] [.int x3, .ref 141] (sM mo G I J) Q else (sm_wp X 301 101 [some (.ref 81), some (.int x1), some (.int x2), some (.int x3), some (.int x4)] [.int 1, .int x3, .ref 141] (sM mo G I J) Q)))))))) :=
  (sm_blk X 301 48 (tt_lin 301 (by decide)) rfl rfl _ _ _ _).trans rfl
set_option maxRecDepth 100000 in
theorem bk_301_96 (X : (Nat → Int32) × Nat) (mo : Bool) (G : Nat × Nat) (I : Nat → Nat → Int32) (J : Nat → Nat → Int64) (Q : Option Value → sm_M → Prop) (x1 : Int32) (x2 : Int32) (x3 : Int32) (x4 : Int32) (s1 : Int32) :
    sm_wp X 301 96 [some (.ref 81), some (.int x1), some (.int x2), some (.int x3), some (.int x4)] [.int s1, .ref 141] (sM mo G I J) Q =
    (sm_wp X 301 101 [some (.ref 81), some (.int x1), some (.int x2), some (.int x3), some (.int x4)] [.int 1, .int s1, .ref 141] (sM mo G I J) Q) :=
  (sm_blk X 301 96 (tt_lin 301 (by decide)) rfl rfl _ _ _ _).trans rfl
set_option maxRecDepth 100000 in
theorem bk_301_100 (X : (Nat → Int32) × Nat) (mo : Bool) (G : Nat × Nat) (I : Nat → Nat → Int32) (J : Nat → Nat → Int64) (Q : Option Value → sm_M → Prop) (x1 : Int32) (x2 : Int32) (x3 : Int32) (x4 : Int32) (s1 : Int32) :
    sm_wp X 301 100 [some (.ref 81), some (.int x1), some (.int x2), some (.int x3), some (.int x4)] [.int s1, .ref 141] (sM mo G I J) Q =
    (vp_in s1 8 ∧ (sm_wp X 301 48 [some (.ref 81), some (.int x1), some (.int x2), some (.int x3), some (.int (x4 + 1))] [] (sM mo G (up2 I 141 s1.toNatClampNeg (vp_nar .boolean 0)) J) Q)) :=
  (sm_blk X 301 100 (tt_lin 301 (by decide)) rfl rfl _ _ _ _).trans rfl
set_option maxRecDepth 100000 in
theorem bk_301_101 (X : (Nat → Int32) × Nat) (mo : Bool) (G : Nat × Nat) (I : Nat → Nat → Int32) (J : Nat → Nat → Int64) (Q : Option Value → sm_M → Prop) (x1 : Int32) (x2 : Int32) (x3 : Int32) (x4 : Int32) (s1 : Int32) (s2 : Int32) :
    sm_wp X 301 101 [some (.ref 81), some (.int x1), some (.int x2), some (.int x3), some (.int x4)] [.int s2, .int s1, .ref 141] (sM mo G I J) Q =
    (vp_in s1 8 ∧ (sm_wp X 301 48 [some (.ref 81), some (.int x1), some (.int x2), some (.int x3), some (.int (x4 + 1))] [] (sM mo G (up2 I 141 s1.toNatClampNeg (vp_nar .boolean s2)) J) Q)) :=
  (sm_blk X 301 101 (tt_lin 301 (by decide)) rfl rfl _ _ _ _).trans rfl
set_option maxRecDepth 100000 in
theorem bk_301_108 (X : (Nat → Int32) × Nat) (mo : Bool) (G : Nat × Nat) (I : Nat → Nat → Int32) (J : Nat → Nat → Int64) (Q : Option Value → sm_M → Prop) (x1 : Int32) (x2 : Int32) (x3 : Int32) (x4 : Int32) :
    sm_wp X 301 108 [some (.ref 81), some (.int x1), some (.int x2), some (.int x3), some (.int x4)] [] (sM mo G I J) Q =
    (sm_wp X 301 37 [some (.ref 81), some (.int x1), some (.int x2), some (.int (x3 + 1)), none] [] (sM mo G I J) Q) :=
  (sm_blk X 301 108 (tt_lin 301 (by decide)) rfl rfl _ _ _ _).trans rfl
set_option maxRecDepth 100000 in
theorem bk_301_114 (X : (Nat → Int32) × Nat) (mo : Bool) (G : Nat × Nat) (I : Nat → Nat → Int32) (J : Nat → Nat → Int64) (Q : Option Value → sm_M → Prop) (x1 : Int32) (x2 : Int32) (x3 : Int32) :
    sm_wp X 301 114 [some (.ref 81), some (.int x1), some (.int x2), some (.int x3), none] [] (sM mo G I J) Q =
    (sm_wp X 301 29 [some (.ref 81), some (.int x1), some (.int (x2 + 1)), none, none] [] (sM mo G I J) Q) :=
  (sm_blk X 301 114 (tt_lin 301 (by decide)) rfl rfl _ _ _ _).trans rfl
set_option maxRecDepth 100000 in
theorem bk_301_120 (X : (Nat → Int32) × Nat) (mo : Bool) (G : Nat × Nat) (I : Nat → Nat → Int32) (J : Nat → Nat → Int64) (Q : Option Value → sm_M → Prop) (x1 : Int32) (x2 : Int32) :
    sm_wp X 301 120 [some (.ref 81), some (.int x1), some (.int x2), none, none] [] (sM mo G I J) Q =
    (vp_in x1 8 ∧ (sm_zb (I 141 (x1.toNatClampNeg)) ∧ Q (some (.int (I 141 (x1.toNatClampNeg)))) (sM mo G I J))) :=
  (sm_blk X 301 120 (tt_lin 301 (by decide)) rfl rfl _ _ _ _).trans rfl
set_option maxRecDepth 100000 in
theorem bk_302_0 (X : (Nat → Int32) × Nat) (mo : Bool) (G : Nat × Nat) (I : Nat → Nat → Int32) (J : Nat → Nat → Int64) (Q : Option Value → sm_M → Prop) (x1 : Int32) :
    sm_wp X 302 0 [some (.ref 81), some (.int x1), none, none] [] (sM mo G I J) Q =
    (sm_wp X 299 0 [some (.ref 81), some (.int x1), none, none, none, none, none] [] (sM mo G I J) (fun v M => sm_wp X 302 5 [some (.ref 81), some (.int x1), none, none] (v.toList ++ []) M Q)) :=
  (sm_blk X 302 0 (tt_lin 302 (by decide)) rfl rfl _ _ _ _).trans rfl
set_option maxRecDepth 100000 in
theorem bk_302_5 (X : (Nat → Int32) × Nat) (mo : Bool) (G : Nat × Nat) (I : Nat → Nat → Int32) (J : Nat → Nat → Int64) (Q : Option Value → sm_M → Prop) (x1 : Int32) (s0 : Int32) :
    sm_wp X 302 5 [some (.ref 81), some (.int x1), none, none] [.int s0] (sM mo G I J) Q =
    (if 0 ≤ (s0 : Int32) then sm_wp X 302 12 [some (.ref 81), some (.int x1), some (.int s0), none] [] (sM mo G I J) Q else (sm_zb 1 ∧ Q (some (.int 1)) (sM mo G I J))) :=
  (sm_blk X 302 5 (tt_lin 302 (by decide)) rfl rfl _ _ _ _).trans rfl
set_option maxRecDepth 100000 in
theorem bk_302_12 (X : (Nat → Int32) × Nat) (mo : Bool) (G : Nat × Nat) (I : Nat → Nat → Int32) (J : Nat → Nat → Int64) (Q : Option Value → sm_M → Prop) (x1 : Int32) (x2 : Int32) :
    sm_wp X 302 12 [some (.ref 81), some (.int x1), some (.int x2), none] [] (sM mo G I J) Q =
    (sm_wp X 303 0 [some (.ref 81), some (.int x1), some (.int x2), none, none, none, none, none, none, none] [] (sM mo G I J) (fun v M => sm_wp X 302 18 [some (.ref 81), some (.int x1), some (.int x2), none] (v.toList ++ []) M Q)) :=
  (sm_blk X 302 12 (tt_lin 302 (by decide)) rfl rfl _ _ _ _).trans rfl
set_option maxRecDepth 100000 in
theorem bk_302_18 (X : (Nat → Int32) × Nat) (mo : Bool) (G : Nat × Nat) (I : Nat → Nat → Int32) (J : Nat → Nat → Int64) (Q : Option Value → sm_M → Prop) (x1 : Int32) (x2 : Int32) :
    sm_wp X 302 18 [some (.ref 81), some (.int x1), some (.int x2), none] [] (sM mo G I J) Q =
    (sm_wp X 302 20 [some (.ref 81), some (.int x1), some (.int x2), some (.int 0)] [] (sM mo G I J) Q) :=
  (sm_blk X 302 18 (tt_lin 302 (by decide)) rfl rfl _ _ _ _).trans rfl
set_option maxRecDepth 100000 in
theorem bk_302_20 (X : (Nat → Int32) × Nat) (mo : Bool) (G : Nat × Nat) (I : Nat → Nat → Int32) (J : Nat → Nat → Int64) (Q : Option Value → sm_M → Prop) (x1 : Int32) (x2 : Int32) (x3 : Int32) :
    sm_wp X 302 20 [some (.ref 81), some (.int x1), some (.int x2), some (.int x3)] [] (sM mo G I J) Q =
    (vp_in ((6 * x1) + x2) 48 ∧ (if (I 135 (((6 * x1) + x2).toNatClampNeg) : Int32) ≤ (x3 : Int32) then sm_wp X 302 51 [some (.ref 81), some (.int x1), some (.int x2), some (.int x3)] [] (sM mo G I J) Q else (sm_wp X 304 0 [some (.ref 81), some (.int x3)] [] (sM mo G I J) (fun v M => sm_wp X 302 40 [some (.ref 81), some (.int x1), some (.int x2), some (.int x3)] (v.toList ++ []) M Q)))) :=
  (sm_blk X 302 20 (tt_lin 302 (by decide)) rfl rfl _ _ _ _).trans rfl
set_option maxRecDepth 100000 in
theorem bk_302_40 (X : (Nat → Int32) × Nat) (mo : Bool) (G : Nat × Nat) (I : Nat → Nat → Int32) (J : Nat → Nat → Int64) (Q : Option Value → sm_M → Prop) (x1 : Int32) (x2 : Int32) (x3 : Int32) (s0 : Int32) :
    sm_wp X 302 40 [some (.ref 81), some (.int x1), some (.int x2), some (.int x3)] [.int s0] (sM mo G I J) Q =
    (if ¬ (s0 : Int32) = 0 then sm_wp X 302 45 [some (.ref 81), some (.int x1), some (.int x2), some (.int x3)] [] (sM mo G I J) Q else (sm_zb 1 ∧ Q (some (.int 1)) (sM mo G I J))) :=
  (sm_blk X 302 40 (tt_lin 302 (by decide)) rfl rfl _ _ _ _).trans rfl
set_option maxRecDepth 100000 in
theorem bk_302_45 (X : (Nat → Int32) × Nat) (mo : Bool) (G : Nat × Nat) (I : Nat → Nat → Int32) (J : Nat → Nat → Int64) (Q : Option Value → sm_M → Prop) (x1 : Int32) (x2 : Int32) (x3 : Int32) :
    sm_wp X 302 45 [some (.ref 81), some (.int x1), some (.int x2), some (.int x3)] [] (sM mo G I J) Q =
    (sm_wp X 302 20 [some (.ref 81), some (.int x1), some (.int x2), some (.int (x3 + 1))] [] (sM mo G I J) Q) :=
  (sm_blk X 302 45 (tt_lin 302 (by decide)) rfl rfl _ _ _ _).trans rfl
set_option maxRecDepth 100000 in
theorem bk_302_51 (X : (Nat → Int32) × Nat) (mo : Bool) (G : Nat × Nat) (I : Nat → Nat → Int32) (J : Nat → Nat → Int64) (Q : Option Value → sm_M → Prop) (x1 : Int32) (x2 : Int32) (x3 : Int32) :
    sm_wp X 302 51 [some (.ref 81), some (.int x1), some (.int x2), some (.int x3)] [] (sM mo G I J) Q =
    (sm_zb 0 ∧ Q (some (.int 0)) (sM mo G I J)) :=
  (sm_blk X 302 51 (tt_lin 302 (by decide)) rfl rfl _ _ _ _).trans rfl
set_option maxRecDepth 100000 in
theorem bk_303_0 (X : (Nat → Int32) × Nat) (mo : Bool) (G : Nat × Nat) (I : Nat → Nat → Int32) (J : Nat → Nat → Int64) (Q : Option Value → sm_M → Prop) (x1 : Int32) (x2 : Int32) :
    sm_wp X 303 0 [some (.ref 81), some (.int x1), some (.int x2), none, none, none, none, none, none, none] [] (sM mo G I J) Q =
    (sm_wp X 303 7 [some (.ref 81), some (.int x1), some (.int x2), some (.int 0), none, none, none, none, none, none] [] (sM mo G (up2 I 81 88 0) J) Q) :=
  (sm_blk X 303 0 (tt_lin 303 (by decide)) rfl rfl _ _ _ _).trans rfl
set_option maxRecDepth 100000 in
theorem bk_303_7 (X : (Nat → Int32) × Nat) (mo : Bool) (G : Nat × Nat) (I : Nat → Nat → Int32) (J : Nat → Nat → Int64) (Q : Option Value → sm_M → Prop) (x1 : Int32) (x2 : Int32) (x3 : Int32) :
    sm_wp X 303 7 [some (.ref 81), some (.int x1), some (.int x2), some (.int x3), none, none, none, none, none, none] [] (sM mo G I J) Q =
    (if (8 : Int32) ≤ (x3 : Int32) then sm_wp X 303 26 [some (.ref 81), some (.int x1), some (.int x2), some (.int x3), none, none, none, none, none, none] [] (sM mo G I J) Q else (vp_in x3 8 ∧ (sm_wp X 303 7 [some (.ref 81), some (.int x1), some (.int x2), some (.int (x3 + 1)), none, none, none, none, none, none] [] (sM mo G (up2 I 140 x3.toNatClampNeg 0) J) Q))) :=
  (sm_blk X 303 7 (tt_lin 303 (by decide)) rfl rfl _ _ _ _).trans rfl
set_option maxRecDepth 100000 in
theorem bk_303_26 (X : (Nat → Int32) × Nat) (mo : Bool) (G : Nat × Nat) (I : Nat → Nat → Int32) (J : Nat → Nat → Int64) (Q : Option Value → sm_M → Prop) (x1 : Int32) (x2 : Int32) (x3 : Int32) :
    sm_wp X 303 26 [some (.ref 81), some (.int x1), some (.int x2), some (.int x3), none, none, none, none, none, none] [] (sM mo G I J) Q =
    (sm_wp X 303 36 [some (.ref 81), some (.int x1), none, some (.int ((6 * x1) + x2)), some (.int 0), none, none, none, none, none] [] (sM mo G I J) Q) :=
  (sm_blk X 303 26 (tt_lin 303 (by decide)) rfl rfl _ _ _ _).trans rfl
set_option maxRecDepth 100000 in
theorem bk_303_36 (X : (Nat → Int32) × Nat) (mo : Bool) (G : Nat × Nat) (I : Nat → Nat → Int32) (J : Nat → Nat → Int64) (Q : Option Value → sm_M → Prop) (x1 : Int32) (x3 : Int32) (x4 : Int32) :
    sm_wp X 303 36 [some (.ref 81), some (.int x1), none, some (.int x3), some (.int x4), none, none, none, none, none] [] (sM mo G I J) Q =
    (if (I 81 10 : Int32) ≤ (x4 : Int32) then sm_wp X 303 286 [some (.ref 81), some (.int x1), none, some (.int x3), some (.int x4), none, none, none, none, none] [] (sM mo G I J) Q else (sm_wp X 300 0 [some (.ref 81), some (.int x1), some (.int x4)] [] (sM mo G I J) (fun v M => sm_wp X 303 52 [some (.ref 81), some (.int x1), none, some (.int x3), some (.int x4), none, none, none, none, none] (v.toList ++ []) M Q))) :=
  (sm_blk X 303 36 (tt_lin 303 (by decide)) rfl rfl _ _ _ _).trans rfl
set_option maxRecDepth 100000 in
theorem bk_303_52 (X : (Nat → Int32) × Nat) (mo : Bool) (G : Nat × Nat) (I : Nat → Nat → Int32) (J : Nat → Nat → Int64) (Q : Option Value → sm_M → Prop) (x1 : Int32) (x3 : Int32) (x4 : Int32) (s0 : Int32) :
    sm_wp X 303 52 [some (.ref 81), some (.int x1), none, some (.int x3), some (.int x4), none, none, none, none, none] [.int s0] (sM mo G I J) Q =
    (if ¬ (s0 : Int32) = 0 then sm_wp X 303 58 [some (.ref 81), some (.int x1), none, some (.int x3), some (.int x4), none, none, none, none, none] [] (sM mo G I J) Q else (sm_wp X 303 280 [some (.ref 81), some (.int x1), none, some (.int x3), some (.int x4), none, none, none, none, none] [] (sM mo G I J) Q)) :=
  (sm_blk X 303 52 (tt_lin 303 (by decide)) rfl rfl _ _ _ _).trans rfl
set_option maxRecDepth 100000 in
theorem bk_303_58 (X : (Nat → Int32) × Nat) (mo : Bool) (G : Nat × Nat) (I : Nat → Nat → Int32) (J : Nat → Nat → Int64) (Q : Option Value → sm_M → Prop) (x1 : Int32) (x3 : Int32) (x4 : Int32) :
    sm_wp X 303 58 [some (.ref 81), some (.int x1), none, some (.int x3), some (.int x4), none, none, none, none, none] [] (sM mo G I J) Q =
    (sm_wp X 297 0 [some (.ref 81), some (.int x3), some (.int ((6 * x1) + x4)), none, none, none] [] (sM mo G (up2 I 81 88 ((I 81 88) + 1)) J) (fun v M => sm_wp X 303 84 [some (.ref 81), some (.int x1), none, some (.int x3), some (.int x4), some (.int ((6 * x1) + x4)), none, none, none, none] (v.toList ++ []) M Q)) :=
  (sm_blk X 303 58 (tt_lin 303 (by decide)) rfl rfl _ _ _ _).trans rfl
set_option maxRecDepth 100000 in
theorem bk_303_84 (X : (Nat → Int32) × Nat) (mo : Bool) (G : Nat × Nat) (I : Nat → Nat → Int32) (J : Nat → Nat → Int64) (Q : Option Value → sm_M → Prop) (x1 : Int32) (x3 : Int32) (x4 : Int32) (x5 : Int32) (s0 : Int32) :
    sm_wp X 303 84 [some (.ref 81), some (.int x1), none, some (.int x3), some (.int x4), some (.int x5), none, none, none, none] [.int s0] (sM mo G I J) Q =
    (sm_wp X 303 92 [some (.ref 81), some (.int x1), none, some (.int x3), some (.int x4), some (.int x5), none, some (.int 0), some (.int 0), none] [] (sM mo G I J) Q) :=
  (sm_blk X 303 84 (tt_lin 303 (by decide)) rfl rfl _ _ _ _).trans rfl
set_option maxRecDepth 100000 in
theorem bk_303_92 (X : (Nat → Int32) × Nat) (mo : Bool) (G : Nat × Nat) (I : Nat → Nat → Int32) (J : Nat → Nat → Int64) (Q : Option Value → sm_M → Prop) (x1 : Int32) (x3 : Int32) (x4 : Int32) (x5 : Int32) (x7 : Int32) (x8 : Int32) :
    sm_wp X 303 92 [some (.ref 81), some (.int x1), none, some (.int x3), some (.int x4), some (.int x5), none, some (.int x7), some (.int x8), none] [] (sM mo G I J) Q =
    (vp_in x3 48 ∧ (if (I 135 (x3.toNatClampNeg) : Int32) ≤ (x7 : Int32) then sm_wp X 303 280 [some (.ref 81), some (.int x1), none, some (.int x3), some (.int x4), some (.int x5), none, some (.int x7), some (.int x8), none] [] (sM mo G I J) Q else (vp_in x5 48 ∧ (if (I 135 (x5.toNatClampNeg) : Int32) ≤ (x8 : Int32) then sm_wp X 303 147 [some (.ref 81), some (.int x1), none, some (.int x3), some (.int x4), some (.int x5), none, some (.int x7), some (.int x8), none] [] (sM mo G I J) Q else (vp_in ((8 * x3) + x7) 384 ∧ (vp_in ((8 * x5) + x8) 384 ∧ (if ¬ (I 136 (((8 * x3) + x7).toNatClampNeg) : Int32) = (I 136 (((8 * x5) + x8).toNatClampNeg) : Int32) then sm_wp X 303 147 [some (.ref 81), some (.int x1), none, some (.int x3), some (.int x4), some (.int x5), none, some (.int x7), some (.int x8), none] [] (sM mo G I J) Q else (sm_wp X 303 148 [some (.ref 81), some (.int x1), none, some (.int x3), some (.int x4), some (.int x5), none, some (.int x7), some (.int x8), none] [.int 1] (sM mo G I J) Q)))))))) :=
  (sm_blk X 303 92 (tt_lin 303 (by decide)) rfl rfl _ _ _ _).trans rfl
set_option maxRecDepth 100000 in
theorem bk_303_147 (X : (Nat → Int32) × Nat) (mo : Bool) (G : Nat × Nat) (I : Nat → Nat → Int32) (J : Nat → Nat → Int64) (Q : Option Value → sm_M → Prop) (x1 : Int32) (x3 : Int32) (x4 : Int32) (x5 : Int32) (x7 : Int32) (x8 : Int32) :
    sm_wp X 303 147 [some (.ref 81), some (.int x1), none, some (.int x3), some (.int x4), some (.int x5), none, some (.int x7), some (.int x8), none] [] (sM mo G I J) Q =
    (vp_in x5 48 ∧ (if (I 135 (x5.toNatClampNeg) : Int32) ≤ (x8 : Int32) then sm_wp X 303 234 [some (.ref 81), some (.int x1), none, some (.int x3), some (.int x4), some (.int x5), none, some (.int x7), some (.int x8), some (.int 0)] [] (sM mo G I J) Q else (vp_in ((9 * x7) + x8) 81 ∧ (vp_in (((9 * x7) + x8) + 10) 81 ∧ (if (0 : Int32) = 0 then sm_wp X 303 200 [some (.ref 81), some (.int x1), none, some (.int x3), some (.int x4), some (.int x5), none, some (.int x7), some (.int x8), some (.int 0)] [.int (I 139 ((((9 * x7) + x8) + 10).toNatClampNeg)), .int (I 139 (((9 * x7) + x8).toNatClampNeg))] (sM mo G I J) Q else (sm_wp X 303 201 [some (.ref 81), some (.int x1), none, some (.int x3), some (.int x4), some (.int x5), none, some (.int x7), some (.int x8), some (.int 0)] [.int 0, .int (I 139 ((((9 * x7) + x8) + 10).toNatClampNeg)), .int (I 139 (((9 * x7) + x8).toNatClampNeg))] (sM mo G I J) Q)))))) :=
  (sm_blk X 303 147 (tt_lin 303 (by decide)) rfl rfl _ _ _ _).trans rfl
set_option maxRecDepth 100000 in
theorem bk_303_148 (X : (Nat → Int32) × Nat) (mo : Bool) (G : Nat × Nat) (I : Nat → Nat → Int32) (J : Nat → Nat → Int64) (Q : Option Value → sm_M → Prop) (x1 : Int32) (x3 : Int32) (x4 : Int32) (x5 : Int32) (x7 : Int32) (x8 : Int32) (s0 : Int32) :
    sm_wp X 303 148 [some (.ref 81), some (.int x1), none, some (.int x3), some (.int x4), some (.int x5), none, some (.int x7), some (.int x8), none] [.int s0] (sM mo G I J) Q =
    (vp_in x5 48 ∧ (if (I 135 (x5.toNatClampNeg) : Int32) ≤ (x8 : Int32) then sm_wp X 303 234 [some (.ref 81), some (.int x1), none, some (.int x3), some (.int x4), some (.int x5), none, some (.int x7), some (.int x8), some (.int s0)] [] (sM mo G I J) Q else (vp_in ((9 * x7) + x8) 81 ∧ (vp_in (((9 * x7) + x8) + 10) 81 ∧ (if (s0 : Int32) = 0 then sm_wp X 303 200 [some (.ref 81), some (.int x1), none, some (.int x3), some (.int x4), some (.int x5), none, some (.int x7), some (.int x8), some (.int s0)] [.int (I 139 ((((9 * x7) + x8) + 10).toNatClampNeg)), .int (I 139 (((9 * x7) + x8).toNatClampNeg))] (sM mo G I J) Q else (sm_wp X 303 201 [some (.ref 81), some (.int x1), none, some (.int x3), some (.int x4), some (.int x5), none, some (.int x7), some (.int x8), some (.int s0)] [.int 0, .int (I 139 ((((9 * x7) + x8) + 10).toNatClampNeg)), .int (I 139 (((9 * x7) + x8).toNatClampNeg))] (sM mo G I J) Q)))))) :=
  (sm_blk X 303 148 (tt_lin 303 (by decide)) rfl rfl _ _ _ _).trans rfl
set_option maxRecDepth 100000 in
theorem bk_303_200 (X : (Nat → Int32) × Nat) (mo : Bool) (G : Nat × Nat) (I : Nat → Nat → Int32) (J : Nat → Nat → Int64) (Q : Option Value → sm_M → Prop) (x1 : Int32) (x3 : Int32) (x4 : Int32) (x5 : Int32) (x7 : Int32) (x8 : Int32) (x9 : Int32) (s0 : Int32) (s1 : Int32) :
    sm_wp X 303 200 [some (.ref 81), some (.int x1), none, some (.int x3), some (.int x4), some (.int x5), none, some (.int x7), some (.int x8), some (.int x9)] [.int s1, .int s0] (sM mo G I J) Q =
    (if ¬ (s0 : Int32) = (s1 + 1 : Int32) then sm_wp X 303 234 [some (.ref 81), some (.int x1), none, some (.int x3), some (.int x4), some (.int x5), none, some (.int x7), some (.int x8), some (.int x9)] [] (sM mo G I J) Q else (vp_in x7 8 ∧ (if (x9 : Int32) = 0 then sm_wp X 303 222 [some (.ref 81), some (.int x1), none, some (.int x3), some (.int x4), some (.int x5), none, some (.int x7), some (.int x8), some (.int x9)] [.int (I 140 (x7.toNatClampNeg)), .int x7, .ref 140] (sM mo G I J) Q else (sm_wp X 303 223 [some (.ref 81), some (.int x1), none, some (.int x3), some (.int x4), some (.int x5), none, some (.int x7), some (.int x8), some (.int x9)] [.int 1, .int (I 140 (x7.toNatClampNeg)), .int x7, .ref 140] (sM mo G I J) Q)))) :=
  (sm_blk X 303 200 (tt_lin 303 (by decide)) rfl rfl _ _ _ _).trans rfl
set_option maxRecDepth 100000 in
theorem bk_303_201 (X : (Nat → Int32) × Nat) (mo : Bool) (G : Nat × Nat) (I : Nat → Nat → Int32) (J : Nat → Nat → Int64) (Q : Option Value → sm_M → Prop) (x1 : Int32) (x3 : Int32) (x4 : Int32) (x5 : Int32) (x7 : Int32) (x8 : Int32) (x9 : Int32) (s0 : Int32) (s1 : Int32) (s2 : Int32) :
    sm_wp X 303 201 [some (.ref 81), some (.int x1), none, some (.int x3), some (.int x4), some (.int x5), none, some (.int x7), some (.int x8), some (.int x9)] [.int s2, .int s1, .int s0] (sM mo G I J) Q =
    (if ¬ (s0 : Int32) = (s1 + s2 : Int32) then sm_wp X 303 234 [some (.ref 81), some (.int x1), none, some (.int x3), some (.int x4), some (.int x5), none, some (.int x7), some (.int x8), some (.int x9)] [] (sM mo G I J) Q else (vp_in x7 8 ∧ (if (x9 : Int32) = 0 then sm_wp X 303 222 [some (.ref 81), some (.int x1), none, some (.int x3), some (.int x4), some (.int x5), none, some (.int x7), some (.int x8), some (.int x9)] [.int (I 140 (x7.toNatClampNeg)), .int x7, .ref 140] (sM mo G I J) Q else (sm_wp X 303 223 [some (.ref 81), some (.int x1), none, some (.int x3), some (.int x4), some (.int x5), none, some (.int x7), some (.int x8), some (.int x9)] [.int 1, .int (I 140 (x7.toNatClampNeg)), .int x7, .ref 140] (sM mo G I J) Q)))) :=
  (sm_blk X 303 201 (tt_lin 303 (by decide)) rfl rfl _ _ _ _).trans rfl
set_option maxRecDepth 100000 in
theorem bk_303_222 (X : (Nat → Int32) × Nat) (mo : Bool) (G : Nat × Nat) (I : Nat → Nat → Int32) (J : Nat → Nat → Int64) (Q : Option Value → sm_M → Prop) (x1 : Int32) (x3 : Int32) (x4 : Int32) (x5 : Int32) (x7 : Int32) (x8 : Int32) (x9 : Int32) (s1 : Int32) (s2 : Int32) :
    sm_wp X 303 222 [some (.ref 81), some (.int x1), none, some (.int x3), some (.int x4), some (.int x5), none, some (.int x7), some (.int x8), some (.int x9)] [.int s2, .int s1, .ref 140] (sM mo G I J) Q =
    (vp_in s1 8 ∧ (sm_wp X 303 277 [some (.ref 81), some (.int x1), none, some (.int x3), some (.int x4), some (.int x5), none, some (.int (x7 + 1)), some (.int (x8 + 1)), some (.int x9)] [] (sM mo G (up2 I 140 s1.toNatClampNeg (s2 + 0)) J) Q)) :=
  (sm_blk X 303 222 (tt_lin 303 (by decide)) rfl rfl _ _ _ _).trans rfl
set_option maxRecDepth 100000 in
theorem bk_303_223 (X : (Nat → Int32) × Nat) (mo : Bool) (G : Nat × Nat) (I : Nat → Nat → Int32) (J : Nat → Nat → Int64) (Q : Option Value → sm_M → Prop) (x1 : Int32) (x3 : Int32) (x4 : Int32) (x5 : Int32) (x7 : Int32) (x8 : Int32) (x9 : Int32) (s1 : Int32) (s2 : Int32) (s3 : Int32) :
    sm_wp X 303 223 [some (.ref 81), some (.int x1), none, some (.int x3), some (.int x4), some (.int x5), none, some (.int x7), some (.int x8), some (.int x9)] [.int s3, .int s2, .int s1, .ref 140] (sM mo G I J) Q =
    (vp_in s1 8 ∧ (sm_wp X 303 277 [some (.ref 81), some (.int x1), none, some (.int x3), some (.int x4), some (.int x5), none, some (.int (x7 + 1)), some (.int (x8 + 1)), some (.int x9)] [] (sM mo G (up2 I 140 s1.toNatClampNeg (s2 + s3)) J) Q)) :=
  (sm_blk X 303 223 (tt_lin 303 (by decide)) rfl rfl _ _ _ _).trans rfl
set_option maxRecDepth 100000 in
theorem bk_303_234 (X : (Nat → Int32) × Nat) (mo : Bool) (G : Nat × Nat) (I : Nat → Nat → Int32) (J : Nat → Nat → Int64) (Q : Option Value → sm_M → Prop) (x1 : Int32) (x3 : Int32) (x4 : Int32) (x5 : Int32) (x7 : Int32) (x8 : Int32) (x9 : Int32) :
    sm_wp X 303 234 [some (.ref 81), some (.int x1), none, some (.int x3), some (.int x4), some (.int x5), none, some (.int x7), some (.int x8), some (.int x9)] [] (sM mo G I J) Q =
    (vp_in ((9 * x7) + x8) 81 ∧ (vp_in (((9 * x7) + x8) + 9) 81 ∧ (if ¬ (I 139 (((9 * x7) + x8).toNatClampNeg) : Int32) = ((I 139 ((((9 * x7) + x8) + 9).toNatClampNeg)) + 1 : Int32) then sm_wp X 303 274 [some (.ref 81), some (.int x1), none, some (.int x3), some (.int x4), some (.int x5), none, some (.int x7), some (.int x8), some (.int x9)] [] (sM mo G I J) Q else (sm_wp X 303 277 [some (.ref 81), some (.int x1), none, some (.int x3), some (.int x4), some (.int x5), none, some (.int (x7 + 1)), some (.int x8), some (.int x9)] [] (sM mo G I J) Q)))) :=
  (sm_blk X 303 234 (tt_lin 303 (by decide)) rfl rfl _ _ _ _).trans rfl
set_option maxRecDepth 100000 in
theorem bk_303_274 (X : (Nat → Int32) × Nat) (mo : Bool) (G : Nat × Nat) (I : Nat → Nat → Int32) (J : Nat → Nat → Int64) (Q : Option Value → sm_M → Prop) (x1 : Int32) (x3 : Int32) (x4 : Int32) (x5 : Int32) (x7 : Int32) (x8 : Int32) (x9 : Int32) :
    sm_wp X 303 274 [some (.ref 81), some (.int x1), none, some (.int x3), some (.int x4), some (.int x5), none, some (.int x7), some (.int x8), some (.int x9)] [] (sM mo G I J) Q =
    (sm_wp X 303 92 [some (.ref 81), some (.int x1), none, some (.int x3), some (.int x4), some (.int x5), none, some (.int x7), some (.int (x8 + 1)), none] [] (sM mo G I J) Q) :=
  (sm_blk X 303 274 (tt_lin 303 (by decide)) rfl rfl _ _ _ _).trans rfl
set_option maxRecDepth 100000 in
theorem bk_303_277 (X : (Nat → Int32) × Nat) (mo : Bool) (G : Nat × Nat) (I : Nat → Nat → Int32) (J : Nat → Nat → Int64) (Q : Option Value → sm_M → Prop) (x1 : Int32) (x3 : Int32) (x4 : Int32) (x5 : Int32) (x7 : Int32) (x8 : Int32) (x9 : Int32) :
    sm_wp X 303 277 [some (.ref 81), some (.int x1), none, some (.int x3), some (.int x4), some (.int x5), none, some (.int x7), some (.int x8), some (.int x9)] [] (sM mo G I J) Q =
    (sm_wp X 303 92 [some (.ref 81), some (.int x1), none, some (.int x3), some (.int x4), some (.int x5), none, some (.int x7), some (.int x8), none] [] (sM mo G I J) Q) :=
  (sm_blk X 303 277 (tt_lin 303 (by decide)) rfl rfl _ _ _ _).trans rfl
set_option maxRecDepth 100000 in
theorem bk_303_280 (X : (Nat → Int32) × Nat) (mo : Bool) (G : Nat × Nat) (I : Nat → Nat → Int32) (J : Nat → Nat → Int64) (Q : Option Value → sm_M → Prop) (x1 : Int32) (x3 : Int32) (x4 : Int32) :
    sm_wp X 303 280 [some (.ref 81), some (.int x1), none, some (.int x3), some (.int x4), none, none, none, none, none] [] (sM mo G I J) Q =
    (sm_wp X 303 36 [some (.ref 81), some (.int x1), none, some (.int x3), some (.int (x4 + 1)), none, none, none, none, none] [] (sM mo G I J) Q) :=
  (sm_blk X 303 280 (tt_lin 303 (by decide)) rfl rfl _ _ _ _).trans rfl
set_option maxRecDepth 100000 in
theorem bk_303_286 (X : (Nat → Int32) × Nat) (mo : Bool) (G : Nat × Nat) (I : Nat → Nat → Int32) (J : Nat → Nat → Int64) (Q : Option Value → sm_M → Prop) (x1 : Int32) (x3 : Int32) (x4 : Int32) :
    sm_wp X 303 286 [some (.ref 81), some (.int x1), none, some (.int x3), some (.int x4), none, none, none, none, none] [] (sM mo G I J) Q =
    (True ∧ Q none (sM mo G I J)) :=
  (sm_blk X 303 286 (tt_lin 303 (by decide)) rfl rfl _ _ _ _).trans rfl
set_option maxRecDepth 100000 in
theorem bk_304_0 (X : (Nat → Int32) × Nat) (mo : Bool) (G : Nat × Nat) (I : Nat → Nat → Int32) (J : Nat → Nat → Int64) (Q : Option Value → sm_M → Prop) (x1 : Int32) :
    sm_wp X 304 0 [some (.ref 81), some (.int x1)] [] (sM mo G I J) Q =
    (vp_in x1 8 ∧ (if ¬ (I 140 (x1.toNatClampNeg) : Int32) = (I 81 88 : Int32) then sm_wp X 304 17 [some (.ref 81), some (.int x1)] [] (sM mo G I J) Q else (sm_wp X 304 37 [some (.ref 81), some (.int x1)] [.int 2] (sM mo G I J) Q))) :=
  (sm_blk X 304 0 (tt_lin 304 (by decide)) rfl rfl _ _ _ _).trans rfl
set_option maxRecDepth 100000 in
theorem bk_304_17 (X : (Nat → Int32) × Nat) (mo : Bool) (G : Nat × Nat) (I : Nat → Nat → Int32) (J : Nat → Nat → Int64) (Q : Option Value → sm_M → Prop) (x1 : Int32) :
    sm_wp X 304 17 [some (.ref 81), some (.int x1)] [] (sM mo G I J) Q =
    (vp_in x1 8 ∧ (if (I 81 88 : Int32) < (2 * (I 140 (x1.toNatClampNeg)) : Int32) then sm_wp X 304 36 [some (.ref 81), some (.int x1)] [] (sM mo G I J) Q else (sm_wp X 304 37 [some (.ref 81), some (.int x1)] [.int 0] (sM mo G I J) Q))) :=
  (sm_blk X 304 17 (tt_lin 304 (by decide)) rfl rfl _ _ _ _).trans rfl
set_option maxRecDepth 100000 in
theorem bk_304_36 (X : (Nat → Int32) × Nat) (mo : Bool) (G : Nat × Nat) (I : Nat → Nat → Int32) (J : Nat → Nat → Int64) (Q : Option Value → sm_M → Prop) (x1 : Int32) :
    sm_wp X 304 36 [some (.ref 81), some (.int x1)] [] (sM mo G I J) Q =
    (True ∧ Q (some (.int 1)) (sM mo G I J)) :=
  (sm_blk X 304 36 (tt_lin 304 (by decide)) rfl rfl _ _ _ _).trans rfl
set_option maxRecDepth 100000 in
theorem bk_304_37 (X : (Nat → Int32) × Nat) (mo : Bool) (G : Nat × Nat) (I : Nat → Nat → Int32) (J : Nat → Nat → Int64) (Q : Option Value → sm_M → Prop) (x1 : Int32) (s0 : Int32) :
    sm_wp X 304 37 [some (.ref 81), some (.int x1)] [.int s0] (sM mo G I J) Q =
    (True ∧ Q (some (.int s0)) (sM mo G I J)) :=
  (sm_blk X 304 37 (tt_lin 304 (by decide)) rfl rfl _ _ _ _).trans rfl
set_option maxRecDepth 100000 in
theorem bk_305_0 (X : (Nat → Int32) × Nat) (mo : Bool) (G : Nat × Nat) (I : Nat → Nat → Int32) (J : Nat → Nat → Int64) (Q : Option Value → sm_M → Prop) (x1 : Int32) (x2 : Int32) (x3 : Int32) :
    sm_wp X 305 0 [some (.ref 81), some (.int x1), some (.int x2), some (.int x3), none] [] (sM mo G I J) Q =
    (sm_wp X 293 0 [some (.ref 81), some (.int x1)] [] (sM mo G (up2 I 81 2 0) J) (fun v M => sm_wp X 305 10 [some (.ref 81), some (.int x1), some (.int x2), some (.int x3), none] (v.toList ++ []) M Q)) :=
  (sm_blk X 305 0 (tt_lin 305 (by decide)) rfl rfl _ _ _ _).trans rfl
set_option maxRecDepth 100000 in
theorem bk_305_10 (X : (Nat → Int32) × Nat) (mo : Bool) (G : Nat × Nat) (I : Nat → Nat → Int32) (J : Nat → Nat → Int64) (Q : Option Value → sm_M → Prop) (x1 : Int32) (x2 : Int32) (x3 : Int32) (s0 : Int32) :
    sm_wp X 305 10 [some (.ref 81), some (.int x1), some (.int x2), some (.int x3), none] [.int s0] (sM mo G I J) Q =
    (if (s0 : Int32) = 0 then sm_wp X 305 22 [some (.ref 81), some (.int x1), some (.int x2), some (.int x3), none] [] (sM mo G I J) Q else (sm_wp X 210 0 [some (.int x3), some (.int 0), some (.int 2)] [] (sM mo G I J) (fun v M => sm_wp X 305 19 [some (.ref 81), some (.int x1), some (.int x2), some (.int x3), none] (v.toList ++ []) M Q))) :=
  (sm_blk X 305 10 (tt_lin 305 (by decide)) rfl rfl _ _ _ _).trans rfl
set_option maxRecDepth 100000 in
theorem bk_305_19 (X : (Nat → Int32) × Nat) (mo : Bool) (G : Nat × Nat) (I : Nat → Nat → Int32) (J : Nat → Nat → Int64) (Q : Option Value → sm_M → Prop) (x1 : Int32) (x2 : Int32) (x3 : Int32) (s0 : Int32) :
    sm_wp X 305 19 [some (.ref 81), some (.int x1), some (.int x2), some (.int x3), none] [.int s0] (sM mo G I J) Q =
    (if ¬ (s0 : Int32) = 0 then sm_wp X 305 24 [some (.ref 81), some (.int x1), some (.int x2), some (.int x3), none] [] (sM mo G I J) Q else (True ∧ Q (some (.int (-1))) (sM mo G I J))) :=
  (sm_blk X 305 19 (tt_lin 305 (by decide)) rfl rfl _ _ _ _).trans rfl
set_option maxRecDepth 100000 in
theorem bk_305_22 (X : (Nat → Int32) × Nat) (mo : Bool) (G : Nat × Nat) (I : Nat → Nat → Int32) (J : Nat → Nat → Int64) (Q : Option Value → sm_M → Prop) (x1 : Int32) (x2 : Int32) (x3 : Int32) :
    sm_wp X 305 22 [some (.ref 81), some (.int x1), some (.int x2), some (.int x3), none] [] (sM mo G I J) Q =
    (True ∧ Q (some (.int (-1))) (sM mo G I J)) :=
  (sm_blk X 305 22 (tt_lin 305 (by decide)) rfl rfl _ _ _ _).trans rfl
set_option maxRecDepth 100000 in
theorem bk_305_24 (X : (Nat → Int32) × Nat) (mo : Bool) (G : Nat × Nat) (I : Nat → Nat → Int32) (J : Nat → Nat → Int64) (Q : Option Value → sm_M → Prop) (x1 : Int32) (x2 : Int32) (x3 : Int32) :
    sm_wp X 305 24 [some (.ref 81), some (.int x1), some (.int x2), some (.int x3), none] [] (sM mo G I J) Q =
    (sm_wp X 299 0 [some (.ref 81), some (.int x1), none, none, none, none, none] [] (sM mo G I J) (fun v M => sm_wp X 305 29 [some (.ref 81), some (.int x1), some (.int x2), some (.int x3), none] (v.toList ++ []) M Q)) :=
  (sm_blk X 305 24 (tt_lin 305 (by decide)) rfl rfl _ _ _ _).trans rfl
set_option maxRecDepth 100000 in
theorem bk_305_29 (X : (Nat → Int32) × Nat) (mo : Bool) (G : Nat × Nat) (I : Nat → Nat → Int32) (J : Nat → Nat → Int64) (Q : Option Value → sm_M → Prop) (x1 : Int32) (x2 : Int32) (x3 : Int32) (s0 : Int32) :
    sm_wp X 305 29 [some (.ref 81), some (.int x1), some (.int x2), some (.int x3), none] [.int s0] (sM mo G I J) Q =
    (if (s0 : Int32) < 0 then sm_wp X 305 56 [some (.ref 81), some (.int x1), some (.int x2), some (.int x3), some (.int s0)] [] (sM mo G I J) Q else (if (x2 : Int32) < 0 then sm_wp X 305 56 [some (.ref 81), some (.int x1), some (.int x2), some (.int x3), some (.int s0)] [] (sM mo G I J) Q else (vp_in ((6 * x1) + s0) 48 ∧ (if (x2 : Int32) < (I 135 (((6 * x1) + s0).toNatClampNeg) : Int32) then sm_wp X 305 58 [some (.ref 81), some (.int x1), some (.int x2), some (.int x3), some (.int s0)] [] (sM mo G I J) Q else (True ∧ Q (some (.int (-1))) (sM mo G I J)))))) :=
  (sm_blk X 305 29 (tt_lin 305 (by decide)) rfl rfl _ _ _ _).trans rfl
set_option maxRecDepth 100000 in
theorem bk_305_56 (X : (Nat → Int32) × Nat) (mo : Bool) (G : Nat × Nat) (I : Nat → Nat → Int32) (J : Nat → Nat → Int64) (Q : Option Value → sm_M → Prop) (x1 : Int32) (x2 : Int32) (x3 : Int32) (x4 : Int32) :
    sm_wp X 305 56 [some (.ref 81), some (.int x1), some (.int x2), some (.int x3), some (.int x4)] [] (sM mo G I J) Q =
    (True ∧ Q (some (.int (-1))) (sM mo G I J)) :=
  (sm_blk X 305 56 (tt_lin 305 (by decide)) rfl rfl _ _ _ _).trans rfl
set_option maxRecDepth 100000 in
theorem bk_305_58 (X : (Nat → Int32) × Nat) (mo : Bool) (G : Nat × Nat) (I : Nat → Nat → Int32) (J : Nat → Nat → Int64) (Q : Option Value → sm_M → Prop) (x1 : Int32) (x2 : Int32) (x3 : Int32) (x4 : Int32) :
    sm_wp X 305 58 [some (.ref 81), some (.int x1), some (.int x2), some (.int x3), some (.int x4)] [] (sM mo G I J) Q =
    (sm_wp X 303 0 [some (.ref 81), some (.int x1), some (.int x4), none, none, none, none, none, none, none] [] (sM mo G I J) (fun v M => sm_wp X 305 65 [some (.ref 81), some (.int x1), some (.int x2), some (.int x3), some (.int x4)] (v.toList ++ []) M Q)) :=
  (sm_blk X 305 58 (tt_lin 305 (by decide)) rfl rfl _ _ _ _).trans rfl
set_option maxRecDepth 100000 in
theorem bk_305_65 (X : (Nat → Int32) × Nat) (mo : Bool) (G : Nat × Nat) (I : Nat → Nat → Int32) (J : Nat → Nat → Int64) (Q : Option Value → sm_M → Prop) (x1 : Int32) (x2 : Int32) (x3 : Int32) (x4 : Int32) :
    sm_wp X 305 65 [some (.ref 81), some (.int x1), some (.int x2), some (.int x3), some (.int x4)] [] (sM mo G I J) Q =
    (if ¬ (x3 : Int32) = 0 then sm_wp X 305 89 [some (.ref 81), some (.int x1), some (.int x2), some (.int x3), some (.int x4)] [] (sM mo G I J) Q else (vp_in ((8 * ((6 * x1) + x4)) + x2) 384 ∧ (sm_wp X 305 108 [some (.ref 81), some (.int x1), some (.int x2), some (.int x3), some (.int x4)] [.int (I 136 (((8 * ((6 * x1) + x4)) + x2).toNatClampNeg))] (sM mo G I J) Q))) :=
  (sm_blk X 305 65 (tt_lin 305 (by decide)) rfl rfl _ _ _ _).trans rfl
set_option maxRecDepth 100000 in
theorem bk_305_89 (X : (Nat → Int32) × Nat) (mo : Bool) (G : Nat × Nat) (I : Nat → Nat → Int32) (J : Nat → Nat → Int64) (Q : Option Value → sm_M → Prop) (x1 : Int32) (x2 : Int32) (x3 : Int32) (x4 : Int32) :
    sm_wp X 305 89 [some (.ref 81), some (.int x1), some (.int x2), some (.int x3), some (.int x4)] [] (sM mo G I J) Q =
    (if ¬ (x3 : Int32) = (1 : Int32) then sm_wp X 305 103 [some (.ref 81), some (.int x1), some (.int x2), some (.int x3), some (.int x4)] [] (sM mo G I J) Q else (vp_in x2 8 ∧ (sm_wp X 305 108 [some (.ref 81), some (.int x1), some (.int x2), some (.int x3), some (.int x4)] [.int (I 140 (x2.toNatClampNeg))] (sM mo G I J) Q))) :=
  (sm_blk X 305 89 (tt_lin 305 (by decide)) rfl rfl _ _ _ _).trans rfl
set_option maxRecDepth 100000 in
theorem bk_305_103 (X : (Nat → Int32) × Nat) (mo : Bool) (G : Nat × Nat) (I : Nat → Nat → Int32) (J : Nat → Nat → Int64) (Q : Option Value → sm_M → Prop) (x1 : Int32) (x2 : Int32) (x3 : Int32) (x4 : Int32) :
    sm_wp X 305 103 [some (.ref 81), some (.int x1), some (.int x2), some (.int x3), some (.int x4)] [] (sM mo G I J) Q =
    (sm_wp X 304 0 [some (.ref 81), some (.int x2)] [] (sM mo G I J) (fun v M => sm_wp X 305 108 [some (.ref 81), some (.int x1), some (.int x2), some (.int x3), some (.int x4)] (v.toList ++ []) M Q)) :=
  (sm_blk X 305 103 (tt_lin 305 (by decide)) rfl rfl _ _ _ _).trans rfl
set_option maxRecDepth 100000 in
theorem bk_305_108 (X : (Nat → Int32) × Nat) (mo : Bool) (G : Nat × Nat) (I : Nat → Nat → Int32) (J : Nat → Nat → Int64) (Q : Option Value → sm_M → Prop) (x1 : Int32) (x2 : Int32) (x3 : Int32) (x4 : Int32) (s0 : Int32) :
    sm_wp X 305 108 [some (.ref 81), some (.int x1), some (.int x2), some (.int x3), some (.int x4)] [.int s0] (sM mo G I J) Q =
    (True ∧ Q (some (.int s0)) (sM mo G I J)) :=
  (sm_blk X 305 108 (tt_lin 305 (by decide)) rfl rfl _ _ _ _).trans rfl
set_option maxRecDepth 100000 in
theorem bk_306_0 (X : (Nat → Int32) × Nat) (mo : Bool) (G : Nat × Nat) (I : Nat → Nat → Int32) (J : Nat → Nat → Int64) (Q : Option Value → sm_M → Prop) (x1 : Int32) :
    sm_wp X 306 0 [some (.ref 81), some (.int x1), none, none] [] (sM mo G I J) Q =
    (sm_wp X 215 0 [some (.ref 81), some (.int x1)] [] (sM mo G (up2 I 81 2 0) J) (fun v M => sm_wp X 306 10 [some (.ref 81), some (.int x1), none, none] (v.toList ++ []) M Q)) :=
  (sm_blk X 306 0 (tt_lin 306 (by decide)) rfl rfl _ _ _ _).trans rfl
set_option maxRecDepth 100000 in
theorem bk_306_10 (X : (Nat → Int32) × Nat) (mo : Bool) (G : Nat × Nat) (I : Nat → Nat → Int32) (J : Nat → Nat → Int64) (Q : Option Value → sm_M → Prop) (x1 : Int32) (s0 : Int32) :
    sm_wp X 306 10 [some (.ref 81), some (.int x1), none, none] [.int s0] (sM mo G I J) Q =
    (if ¬ (s0 : Int32) = 0 then sm_wp X 306 15 [some (.ref 81), some (.int x1), none, none] [] (sM mo G I J) Q else (True ∧ Q (some (.int (-1))) (sM mo G I J))) :=
  (sm_blk X 306 10 (tt_lin 306 (by decide)) rfl rfl _ _ _ _).trans rfl
set_option maxRecDepth 100000 in
theorem bk_306_15 (X : (Nat → Int32) × Nat) (mo : Bool) (G : Nat × Nat) (I : Nat → Nat → Int32) (J : Nat → Nat → Int64) (Q : Option Value → sm_M → Prop) (x1 : Int32) :
    sm_wp X 306 15 [some (.ref 81), some (.int x1), none, none] [] (sM mo G I J) Q =
    (sm_wp X 306 31 [some (.ref 81), some (.int x1), some (.int 0), some (.int 0)] [] (sM mo G (up2 I 81 15 ((I 81 15) ^^^ (1 <<< (x1 &&& 31)))) J) Q) :=
  (sm_blk X 306 15 (tt_lin 306 (by decide)) rfl rfl _ _ _ _).trans rfl
set_option maxRecDepth 100000 in
theorem bk_306_31 (X : (Nat → Int32) × Nat) (mo : Bool) (G : Nat × Nat) (I : Nat → Nat → Int32) (J : Nat → Nat → Int64) (Q : Option Value → sm_M → Prop) (x1 : Int32) (x2 : Int32) (x3 : Int32) :
    sm_wp X 306 31 [some (.ref 81), some (.int x1), some (.int x2), some (.int x3)] [] (sM mo G I J) Q =
    (if (I 81 46 : Int32) ≤ (x3 : Int32) then sm_wp X 306 97 [some (.ref 81), some (.int x1), some (.int x2), some (.int x3)] [] (sM mo G I J) Q else (vp_in x3 60 ∧ (if ¬ (I 107 (x3.toNatClampNeg) : Int32) = 0 then sm_wp X 306 91 [some (.ref 81), some (.int x1), some (.int x2), some (.int x3)] [] (sM mo G I J) Q else (vp_in x3 60 ∧ (if (2 : Int32) < (I 117 (x3.toNatClampNeg) : Int32) then sm_wp X 306 91 [some (.ref 81), some (.int x1), some (.int x2), some (.int x3)] [] (sM mo G I J) Q else (vp_in x3 60 ∧ (if (I 108 (x3.toNatClampNeg) : Int32) = (x1 : Int32) then sm_wp X 306 81 [some (.ref 81), some (.int x1), some (.int x2), some (.int x3)] [] (sM mo G I J) Q else (vp_in x3 60 ∧ (if (I 109 (x3.toNatClampNeg) : Int32) = (x1 : Int32) then sm_wp X 306 81 [some (.ref 81), some (.int x1), some (.int x2), some (.int x3)] [] (sM mo G I J) Q else (sm_wp X 306 91 [some (.ref 81), some (.int x1), some (.int x2), some (.int x3)] [] (sM mo G I J) Q)))))))))) :=
  (sm_blk X 306 31 (tt_lin 306 (by decide)) rfl rfl _ _ _ _).trans rfl
set_option maxRecDepth 100000 in
theorem bk_306_81 (X : (Nat → Int32) × Nat) (mo : Bool) (G : Nat × Nat) (I : Nat → Nat → Int32) (J : Nat → Nat → Int64) (Q : Option Value → sm_M → Prop) (x1 : Int32) (x2 : Int32) (x3 : Int32) :
    sm_wp X 306 81 [some (.ref 81), some (.int x1), some (.int x2), some (.int x3)] [] (sM mo G I J) Q =
    (vp_in x3 60 ∧ (sm_wp X 306 31 [some (.ref 81), some (.int x1), some (.int (x2 + 1)), some (.int (x3 + 1))] [] (sM mo G (up2 I 117 x3.toNatClampNeg 4) J) Q)) :=
  (sm_blk X 306 81 (tt_lin 306 (by decide)) rfl rfl _ _ _ _).trans rfl
set_option maxRecDepth 100000 in
theorem bk_306_91 (X : (Nat → Int32) × Nat) (mo : Bool) (G : Nat × Nat) (I : Nat → Nat → Int32) (J : Nat → Nat → Int64) (Q : Option Value → sm_M → Prop) (x1 : Int32) (x2 : Int32) (x3 : Int32) :
    sm_wp X 306 91 [some (.ref 81), some (.int x1), some (.int x2), some (.int x3)] [] (sM mo G I J) Q =
    (sm_wp X 306 31 [some (.ref 81), some (.int x1), some (.int x2), some (.int (x3 + 1))] [] (sM mo G I J) Q) :=
  (sm_blk X 306 91 (tt_lin 306 (by decide)) rfl rfl _ _ _ _).trans rfl
set_option maxRecDepth 100000 in
theorem bk_306_97 (X : (Nat → Int32) × Nat) (mo : Bool) (G : Nat × Nat) (I : Nat → Nat → Int32) (J : Nat → Nat → Int64) (Q : Option Value → sm_M → Prop) (x1 : Int32) (x2 : Int32) (x3 : Int32) :
    sm_wp X 306 97 [some (.ref 81), some (.int x1), some (.int x2), some (.int x3)] [] (sM mo G I J) Q =
    (True ∧ Q (some (.int x2)) (sM mo G I J)) :=
  (sm_blk X 306 97 (tt_lin 306 (by decide)) rfl rfl _ _ _ _).trans rfl
set_option maxRecDepth 100000 in
theorem bk_307_0 (X : (Nat → Int32) × Nat) (mo : Bool) (G : Nat × Nat) (I : Nat → Nat → Int32) (J : Nat → Nat → Int64) (Q : Option Value → sm_M → Prop) (x1 : Int32) (x2 : Int32) (x3 : Int32) :
    sm_wp X 307 0 [some (.ref 81), some (.int x1), some (.int x2), some (.int x3)] [] (sM mo G I J) Q =
    (sm_wp X 212 0 [some (.ref 81), some (.int x1)] [] (sM mo G (up2 I 81 2 0) J) (fun v M => sm_wp X 307 10 [some (.ref 81), some (.int x1), some (.int x2), some (.int x3)] (v.toList ++ []) M Q)) :=
  (sm_blk X 307 0 (tt_lin 307 (by decide)) rfl rfl _ _ _ _).trans rfl
set_option maxRecDepth 100000 in
theorem bk_307_10 (X : (Nat → Int32) × Nat) (mo : Bool) (G : Nat × Nat) (I : Nat → Nat → Int32) (J : Nat → Nat → Int64) (Q : Option Value → sm_M → Prop) (x1 : Int32) (x2 : Int32) (x3 : Int32) (s0 : Int32) :
    sm_wp X 307 10 [some (.ref 81), some (.int x1), some (.int x2), some (.int x3)] [.int s0] (sM mo G I J) Q =
    (if (s0 : Int32) = 0 then sm_wp X 307 36 [some (.ref 81), some (.int x1), some (.int x2), some (.int x3)] [] (sM mo G I J) Q else (if (x2 : Int32) < 0 then sm_wp X 307 36 [some (.ref 81), some (.int x1), some (.int x2), some (.int x3)] [] (sM mo G I J) Q else (vp_in x1 12 ∧ (if (I 87 (x1.toNatClampNeg) : Int32) ≤ (x2 : Int32) then sm_wp X 307 36 [some (.ref 81), some (.int x1), some (.int x2), some (.int x3)] [] (sM mo G I J) Q else (sm_wp X 210 0 [some (.int x3), some (.int 0), some (.int 2)] [] (sM mo G I J) (fun v M => sm_wp X 307 33 [some (.ref 81), some (.int x1), some (.int x2), some (.int x3)] (v.toList ++ []) M Q)))))) :=
  (sm_blk X 307 10 (tt_lin 307 (by decide)) rfl rfl _ _ _ _).trans rfl
set_option maxRecDepth 100000 in
theorem bk_307_33 (X : (Nat → Int32) × Nat) (mo : Bool) (G : Nat × Nat) (I : Nat → Nat → Int32) (J : Nat → Nat → Int64) (Q : Option Value → sm_M → Prop) (x1 : Int32) (x2 : Int32) (x3 : Int32) (s0 : Int32) :
    sm_wp X 307 33 [some (.ref 81), some (.int x1), some (.int x2), some (.int x3)] [.int s0] (sM mo G I J) Q =
    (if ¬ (s0 : Int32) = 0 then sm_wp X 307 39 [some (.ref 81), some (.int x1), some (.int x2), some (.int x3)] [] (sM mo G I J) Q else (True ∧ Q (some (.int (-2))) (sM mo G I J))) :=
  (sm_blk X 307 33 (tt_lin 307 (by decide)) rfl rfl _ _ _ _).trans rfl
set_option maxRecDepth 100000 in
theorem bk_307_36 (X : (Nat → Int32) × Nat) (mo : Bool) (G : Nat × Nat) (I : Nat → Nat → Int32) (J : Nat → Nat → Int64) (Q : Option Value → sm_M → Prop) (x1 : Int32) (x2 : Int32) (x3 : Int32) :
    sm_wp X 307 36 [some (.ref 81), some (.int x1), some (.int x2), some (.int x3)] [] (sM mo G I J) Q =
    (True ∧ Q (some (.int (-2))) (sM mo G I J)) :=
  (sm_blk X 307 36 (tt_lin 307 (by decide)) rfl rfl _ _ _ _).trans rfl
set_option maxRecDepth 100000 in
theorem bk_307_39 (X : (Nat → Int32) × Nat) (mo : Bool) (G : Nat × Nat) (I : Nat → Nat → Int32) (J : Nat → Nat → Int64) (Q : Option Value → sm_M → Prop) (x1 : Int32) (x2 : Int32) (x3 : Int32) :
    sm_wp X 307 39 [some (.ref 81), some (.int x1), some (.int x2), some (.int x3)] [] (sM mo G I J) Q =
    (vp_in (((300 * x1) + (3 * x2)) + x3) 3600 ∧ (True ∧ Q (some (.int (I 88 ((((300 * x1) + (3 * x2)) + x3).toNatClampNeg)))) (sM mo G I J))) :=
  (sm_blk X 307 39 (tt_lin 307 (by decide)) rfl rfl _ _ _ _).trans rfl
set_option maxRecDepth 100000 in
theorem bk_308_0 (X : (Nat → Int32) × Nat) (mo : Bool) (G : Nat × Nat) (I : Nat → Nat → Int32) (J : Nat → Nat → Int64) (Q : Option Value → sm_M → Prop) (x1 : Int32) (x2 : Int32) :
    sm_wp X 308 0 [some (.ref 81), some (.int x1), some (.int x2)] [] (sM mo G I J) Q =
    (sm_wp X 212 0 [some (.ref 81), some (.int x1)] [] (sM mo G (up2 I 81 2 0) J) (fun v M => sm_wp X 308 10 [some (.ref 81), some (.int x1), some (.int x2)] (v.toList ++ []) M Q)) :=
  (sm_blk X 308 0 (tt_lin 308 (by decide)) rfl rfl _ _ _ _).trans rfl
set_option maxRecDepth 100000 in
theorem bk_308_10 (X : (Nat → Int32) × Nat) (mo : Bool) (G : Nat × Nat) (I : Nat → Nat → Int32) (J : Nat → Nat → Int64) (Q : Option Value → sm_M → Prop) (x1 : Int32) (x2 : Int32) (s0 : Int32) :
    sm_wp X 308 10 [some (.ref 81), some (.int x1), some (.int x2)] [.int s0] (sM mo G I J) Q =
    (if ¬ (s0 : Int32) = 0 then sm_wp X 308 19 [some (.ref 81), some (.int x1), some (.int x2)] [] (sM mo G I J) Q else (sm_wp X 309 0 [some (.ref 81), some (.int 1)] [] (sM mo G I J) (fun v M => sm_wp X 308 18 [some (.ref 81), some (.int x1), some (.int x2)] (v.toList ++ []) M Q))) :=
  (sm_blk X 308 10 (tt_lin 308 (by decide)) rfl rfl _ _ _ _).trans rfl
set_option maxRecDepth 100000 in
theorem bk_308_18 (X : (Nat → Int32) × Nat) (mo : Bool) (G : Nat × Nat) (I : Nat → Nat → Int32) (J : Nat → Nat → Int64) (Q : Option Value → sm_M → Prop) (x1 : Int32) (x2 : Int32) (s0 : Int32) :
    sm_wp X 308 18 [some (.ref 81), some (.int x1), some (.int x2)] [.int s0] (sM mo G I J) Q =
    (True ∧ Q (some (.int s0)) (sM mo G I J)) :=
  (sm_blk X 308 18 (tt_lin 308 (by decide)) rfl rfl _ _ _ _).trans rfl
set_option maxRecDepth 100000 in
theorem bk_308_19 (X : (Nat → Int32) × Nat) (mo : Bool) (G : Nat × Nat) (I : Nat → Nat → Int32) (J : Nat → Nat → Int64) (Q : Option Value → sm_M → Prop) (x1 : Int32) (x2 : Int32) :
    sm_wp X 308 19 [some (.ref 81), some (.int x1), some (.int x2)] [] (sM mo G I J) Q =
    (if ¬ (x2 : Int32) = 0 then sm_wp X 308 32 [some (.ref 81), some (.int x1), some (.int x2)] [] (sM mo G I J) Q else (vp_in x1 12 ∧ (sm_wp X 308 65 [some (.ref 81), some (.int x1), some (.int x2)] [.int (I 83 (x1.toNatClampNeg))] (sM mo G I J) Q))) :=
  (sm_blk X 308 19 (tt_lin 308 (by decide)) rfl rfl _ _ _ _).trans rfl
set_option maxRecDepth 100000 in
theorem bk_308_32 (X : (Nat → Int32) × Nat) (mo : Bool) (G : Nat × Nat) (I : Nat → Nat → Int32) (J : Nat → Nat → Int64) (Q : Option Value → sm_M → Prop) (x1 : Int32) (x2 : Int32) :
    sm_wp X 308 32 [some (.ref 81), some (.int x1), some (.int x2)] [] (sM mo G I J) Q =
    (if ¬ (x2 : Int32) = (1 : Int32) then sm_wp X 308 46 [some (.ref 81), some (.int x1), some (.int x2)] [] (sM mo G I J) Q else (vp_in x1 12 ∧ (sm_wp X 308 65 [some (.ref 81), some (.int x1), some (.int x2)] [.int (I 85 (x1.toNatClampNeg))] (sM mo G I J) Q))) :=
  (sm_blk X 308 32 (tt_lin 308 (by decide)) rfl rfl _ _ _ _).trans rfl
set_option maxRecDepth 100000 in
theorem bk_308_46 (X : (Nat → Int32) × Nat) (mo : Bool) (G : Nat × Nat) (I : Nat → Nat → Int32) (J : Nat → Nat → Int64) (Q : Option Value → sm_M → Prop) (x1 : Int32) (x2 : Int32) :
    sm_wp X 308 46 [some (.ref 81), some (.int x1), some (.int x2)] [] (sM mo G I J) Q =
    (if ¬ (x2 : Int32) = (2 : Int32) then sm_wp X 308 60 [some (.ref 81), some (.int x1), some (.int x2)] [] (sM mo G I J) Q else (vp_in x1 12 ∧ (sm_wp X 308 65 [some (.ref 81), some (.int x1), some (.int x2)] [.int (I 86 (x1.toNatClampNeg))] (sM mo G I J) Q))) :=
  (sm_blk X 308 46 (tt_lin 308 (by decide)) rfl rfl _ _ _ _).trans rfl
set_option maxRecDepth 100000 in
theorem bk_308_60 (X : (Nat → Int32) × Nat) (mo : Bool) (G : Nat × Nat) (I : Nat → Nat → Int32) (J : Nat → Nat → Int64) (Q : Option Value → sm_M → Prop) (x1 : Int32) (x2 : Int32) :
    sm_wp X 308 60 [some (.ref 81), some (.int x1), some (.int x2)] [] (sM mo G I J) Q =
    (sm_wp X 309 0 [some (.ref 81), some (.int 2)] [] (sM mo G I J) (fun v M => sm_wp X 308 65 [some (.ref 81), some (.int x1), some (.int x2)] (v.toList ++ []) M Q)) :=
  (sm_blk X 308 60 (tt_lin 308 (by decide)) rfl rfl _ _ _ _).trans rfl
set_option maxRecDepth 100000 in
theorem bk_308_65 (X : (Nat → Int32) × Nat) (mo : Bool) (G : Nat × Nat) (I : Nat → Nat → Int32) (J : Nat → Nat → Int64) (Q : Option Value → sm_M → Prop) (x1 : Int32) (x2 : Int32) (s0 : Int32) :
    sm_wp X 308 65 [some (.ref 81), some (.int x1), some (.int x2)] [.int s0] (sM mo G I J) Q =
    (True ∧ Q (some (.int s0)) (sM mo G I J)) :=
  (sm_blk X 308 65 (tt_lin 308 (by decide)) rfl rfl _ _ _ _).trans rfl
