set_option maxRecDepth 100000 in
theorem bk_278_0 (X : (Nat → Int32) × Nat) (mo : Bool) (G : Nat × Nat) (I : Nat → Nat → Int32) (J : Nat → Nat → Int64) (Q : Option Value → sm_M → Prop) (x1 : Int32) :
    sm_wp X 278 0 [some (.ref 81), some (.int x1), none, none] [] (sM mo G I J) Q =
    (sm_wp X 278 9 [some (.ref 81), none, some (.int x1), some (.int ((I 81 65) - 1))] [] (sM mo G I J) Q) :=
  (sm_blk X 278 0 (tt_lin 278 (by decide)) rfl rfl _ _ _ _).trans rfl
set_option maxRecDepth 100000 in
theorem bk_278_9 (X : (Nat → Int32) × Nat) (mo : Bool) (G : Nat × Nat) (I : Nat → Nat → Int32) (J : Nat → Nat → Int64) (Q : Option Value → sm_M → Prop) (x2 : Int32) (x3 : Int32) :
    sm_wp X 278 9 [some (.ref 81), none, some (.int x2), some (.int x3)] [] (sM mo G I J) Q =
    (if (x3 : Int32) < 0 then sm_wp X 278 51 [some (.ref 81), none, some (.int x2), some (.int x3)] [] (sM mo G I J) Q else (vp_in x3 8 ∧ (¬ (I 125 (x3.toNatClampNeg) : Int32) = 0 ∧ (vp_in ((3 * x3) + (x2 - x2 / (I 125 (x3.toNatClampNeg)) * (I 125 (x3.toNatClampNeg)))) 24 ∧ (vp_in x3 8 ∧ (vp_in x3 8 ∧ (¬ ((up2 I 129 x3.toNatClampNeg (I 124 (((3 * x3) + (x2 - x2 / (I 125 (x3.toNatClampNeg)) * (I 125 (x3.toNatClampNeg)))).toNatClampNeg))) 125 (x3.toNatClampNeg) : Int32) = 0 ∧ (sm_wp X 278 9 [some (.ref 81), none, some (.int (x2 / ((up2 I 129 x3.toNatClampNeg (I 124 (((3 * x3) + (x2 - x2 / (I 125 (x3.toNatClampNeg)) * (I 125 (x3.toNatClampNeg)))).toNatClampNeg))) 125 (x3.toNatClampNeg)))), some (.int (x3 + (-1)))] [] (sM mo G (up2 I 129 x3.toNatClampNeg (I 124 (((3 * x3) + (x2 - x2 / (I 125 (x3.toNatClampNeg)) * (I 125 (x3.toNatClampNeg)))).toNatClampNeg))) J) Q)))))))) :=
  (sm_blk X 278 9 (tt_lin 278 (by decide)) rfl rfl _ _ _ _).trans rfl
set_option maxRecDepth 100000 in
theorem bk_278_51 (X : (Nat → Int32) × Nat) (mo : Bool) (G : Nat × Nat) (I : Nat → Nat → Int32) (J : Nat → Nat → Int64) (Q : Option Value → sm_M → Prop) (x2 : Int32) (x3 : Int32) :
    sm_wp X 278 51 [some (.ref 81), none, some (.int x2), some (.int x3)] [] (sM mo G I J) Q =
    (sm_wp X 278 53 [some (.ref 81), none, none, some (.int 0)] [] (sM mo G I J) Q) :=
  (sm_blk X 278 51 (tt_lin 278 (by decide)) rfl rfl _ _ _ _).trans rfl
set_option maxRecDepth 100000 in
theorem bk_278_53 (X : (Nat → Int32) × Nat) (mo : Bool) (G : Nat × Nat) (I : Nat → Nat → Int32) (J : Nat → Nat → Int64) (Q : Option Value → sm_M → Prop) (x3 : Int32) :
    sm_wp X 278 53 [some (.ref 81), none, none, some (.int x3)] [] (sM mo G I J) Q =
    (if (6 : Int32) ≤ (x3 : Int32) then sm_wp X 278 77 [some (.ref 81), none, none, some (.int x3)] [] (sM mo G I J) Q else (vp_in x3 6 ∧ (vp_in x3 6 ∧ (sm_wp X 278 53 [some (.ref 81), none, none, some (.int (x3 + 1))] [] (sM mo G (up2 I 128 x3.toNatClampNeg (I 126 (x3.toNatClampNeg))) J) Q)))) :=
  (sm_blk X 278 53 (tt_lin 278 (by decide)) rfl rfl _ _ _ _).trans rfl
set_option maxRecDepth 100000 in
theorem bk_278_77 (X : (Nat → Int32) × Nat) (mo : Bool) (G : Nat × Nat) (I : Nat → Nat → Int32) (J : Nat → Nat → Int64) (Q : Option Value → sm_M → Prop) (x3 : Int32) :
    sm_wp X 278 77 [some (.ref 81), none, none, some (.int x3)] [] (sM mo G I J) Q =
    (sm_wp X 278 79 [some (.ref 81), none, none, some (.int 0)] [] (sM mo G I J) Q) :=
  (sm_blk X 278 77 (tt_lin 278 (by decide)) rfl rfl _ _ _ _).trans rfl
set_option maxRecDepth 100000 in
theorem bk_278_79 (X : (Nat → Int32) × Nat) (mo : Bool) (G : Nat × Nat) (I : Nat → Nat → Int32) (J : Nat → Nat → Int64) (Q : Option Value → sm_M → Prop) (x3 : Int32) :
    sm_wp X 278 79 [some (.ref 81), none, none, some (.int x3)] [] (sM mo G I J) Q =
    (if (I 81 65 : Int32) ≤ (x3 : Int32) then sm_wp X 278 128 [some (.ref 81), none, none, some (.int x3)] [] (sM mo G I J) Q else (vp_in x3 8 ∧ (vp_in (I 129 (x3.toNatClampNeg)) 6 ∧ (vp_in x3 8 ∧ (vp_in x3 12 ∧ (vp_in ((12 * (I 129 (x3.toNatClampNeg))) + (I 123 (x3.toNatClampNeg))) 72 ∧ (vp_in (I 129 (x3.toNatClampNeg)) 6 ∧ (sm_wp X 278 79 [some (.ref 81), none, none, some (.int (x3 + 1))] [] (sM mo G (up2 I 128 (I 129 (x3.toNatClampNeg)).toNatClampNeg ((I 128 ((I 129 (x3.toNatClampNeg)).toNatClampNeg)) + (I 91 (((12 * (I 129 (x3.toNatClampNeg))) + (I 123 (x3.toNatClampNeg))).toNatClampNeg)))) J) Q)))))))) :=
  (sm_blk X 278 79 (tt_lin 278 (by decide)) rfl rfl _ _ _ _).trans rfl
set_option maxRecDepth 100000 in
theorem bk_278_128 (X : (Nat → Int32) × Nat) (mo : Bool) (G : Nat × Nat) (I : Nat → Nat → Int32) (J : Nat → Nat → Int64) (Q : Option Value → sm_M → Prop) (x3 : Int32) :
    sm_wp X 278 128 [some (.ref 81), none, none, some (.int x3)] [] (sM mo G I J) Q =
    (True ∧ Q none (sM mo G I J)) :=
  (sm_blk X 278 128 (tt_lin 278 (by decide)) rfl rfl _ _ _ _).trans rfl
set_option maxRecDepth 100000 in
theorem bk_279_0 (X : (Nat → Int32) × Nat) (mo : Bool) (G : Nat × Nat) (I : Nat → Nat → Int32) (J : Nat → Nat → Int64) (Q : Option Value → sm_M → Prop)  :
    sm_wp X 279 0 [some (.ref 81), none] [] (sM mo G I J) Q =
    (sm_wp X 279 2 [some (.ref 81), some (.int 0)] [] (sM mo G I J) Q) :=
  (sm_blk X 279 0 (tt_lin 279 (by decide)) rfl rfl _ _ _ _).trans rfl
set_option maxRecDepth 100000 in
theorem bk_279_2 (X : (Nat → Int32) × Nat) (mo : Bool) (G : Nat × Nat) (I : Nat → Nat → Int32) (J : Nat → Nat → Int64) (Q : Option Value → sm_M → Prop) (x1 : Int32) :
    sm_wp X 279 2 [some (.ref 81), some (.int x1)] [] (sM mo G I J) Q =
    (if (I 81 10 : Int32) ≤ (x1 : Int32) then sm_wp X 279 41 [some (.ref 81), some (.int x1)] [] (sM mo G I J) Q else (sm_wp X 215 0 [some (.ref 81), some (.int x1)] [] (sM mo G I J) (fun v M => sm_wp X 279 15 [some (.ref 81), some (.int x1)] (v.toList ++ []) M Q))) :=
  (sm_blk X 279 2 (tt_lin 279 (by decide)) rfl rfl _ _ _ _).trans rfl
set_option maxRecDepth 100000 in
theorem bk_279_15 (X : (Nat → Int32) × Nat) (mo : Bool) (G : Nat × Nat) (I : Nat → Nat → Int32) (J : Nat → Nat → Int64) (Q : Option Value → sm_M → Prop) (x1 : Int32) (s0 : Int32) :
    sm_wp X 279 15 [some (.ref 81), some (.int x1)] [.int s0] (sM mo G I J) Q =
    (if (s0 : Int32) = 0 then sm_wp X 279 35 [some (.ref 81), some (.int x1)] [] (sM mo G I J) Q else (vp_in x1 6 ∧ (vp_in x1 6 ∧ (if (I 92 (x1.toNatClampNeg) : Int32) ≤ (I 128 (x1.toNatClampNeg) : Int32) then sm_wp X 279 35 [some (.ref 81), some (.int x1)] [] (sM mo G I J) Q else (sm_zb 0 ∧ Q (some (.int 0)) (sM mo G I J)))))) :=
  (sm_blk X 279 15 (tt_lin 279 (by decide)) rfl rfl _ _ _ _).trans rfl
set_option maxRecDepth 100000 in
theorem bk_279_35 (X : (Nat → Int32) × Nat) (mo : Bool) (G : Nat × Nat) (I : Nat → Nat → Int32) (J : Nat → Nat → Int64) (Q : Option Value → sm_M → Prop) (x1 : Int32) :
    sm_wp X 279 35 [some (.ref 81), some (.int x1)] [] (sM mo G I J) Q =
    (sm_wp X 279 2 [some (.ref 81), some (.int (x1 + 1))] [] (sM mo G I J) Q) :=
  (sm_blk X 279 35 (tt_lin 279 (by decide)) rfl rfl _ _ _ _).trans rfl
set_option maxRecDepth 100000 in
theorem bk_279_41 (X : (Nat → Int32) × Nat) (mo : Bool) (G : Nat × Nat) (I : Nat → Nat → Int32) (J : Nat → Nat → Int64) (Q : Option Value → sm_M → Prop) (x1 : Int32) :
    sm_wp X 279 41 [some (.ref 81), some (.int x1)] [] (sM mo G I J) Q =
    (sm_zb 1 ∧ Q (some (.int 1)) (sM mo G I J)) :=
  (sm_blk X 279 41 (tt_lin 279 (by decide)) rfl rfl _ _ _ _).trans rfl
set_option maxRecDepth 100000 in
theorem bk_280_0 (X : (Nat → Int32) × Nat) (mo : Bool) (G : Nat × Nat) (I : Nat → Nat → Int32) (J : Nat → Nat → Int64) (Q : Option Value → sm_M → Prop)  :
    sm_wp X 280 0 [some (.ref 81), none, none] [] (sM mo G I J) Q =
    (sm_wp X 280 2 [some (.ref 81), some (.int 0), none] [] (sM mo G I J) Q) :=
  (sm_blk X 280 0 (tt_lin 280 (by decide)) rfl rfl _ _ _ _).trans rfl
set_option maxRecDepth 100000 in
theorem bk_280_2 (X : (Nat → Int32) × Nat) (mo : Bool) (G : Nat × Nat) (I : Nat → Nat → Int32) (J : Nat → Nat → Int64) (Q : Option Value → sm_M → Prop) (x1 : Int32) :
    sm_wp X 280 2 [some (.ref 81), some (.int x1), none] [] (sM mo G I J) Q =
    (if (I 81 10 : Int32) ≤ (x1 : Int32) then sm_wp X 280 105 [some (.ref 81), some (.int x1), none] [] (sM mo G I J) Q else (sm_wp X 215 0 [some (.ref 81), some (.int x1)] [] (sM mo G I J) (fun v M => sm_wp X 280 15 [some (.ref 81), some (.int x1), none] (v.toList ++ []) M Q))) :=
  (sm_blk X 280 2 (tt_lin 280 (by decide)) rfl rfl _ _ _ _).trans rfl
set_option maxRecDepth 100000 in
theorem bk_280_15 (X : (Nat → Int32) × Nat) (mo : Bool) (G : Nat × Nat) (I : Nat → Nat → Int32) (J : Nat → Nat → Int64) (Q : Option Value → sm_M → Prop) (x1 : Int32) (s0 : Int32) :
    sm_wp X 280 15 [some (.ref 81), some (.int x1), none] [.int s0] (sM mo G I J) Q =
    (if ¬ (s0 : Int32) = 0 then sm_wp X 280 21 [some (.ref 81), some (.int x1), none] [] (sM mo G I J) Q else (sm_wp X 280 99 [some (.ref 81), some (.int x1), none] [] (sM mo G I J) Q)) :=
  (sm_blk X 280 15 (tt_lin 280 (by decide)) rfl rfl _ _ _ _).trans rfl
set_option maxRecDepth 100000 in
theorem bk_280_21 (X : (Nat → Int32) × Nat) (mo : Bool) (G : Nat × Nat) (I : Nat → Nat → Int32) (J : Nat → Nat → Int64) (Q : Option Value → sm_M → Prop) (x1 : Int32) :
    sm_wp X 280 21 [some (.ref 81), some (.int x1), none] [] (sM mo G I J) Q =
    (vp_in x1 6 ∧ (vp_in x1 6 ∧ (if (I 127 (x1.toNatClampNeg) : Int32) ≤ (I 128 (x1.toNatClampNeg) : Int32) then sm_wp X 280 38 [some (.ref 81), some (.int x1), none] [] (sM mo G I J) Q else (sm_zb 0 ∧ Q (some (.int 0)) (sM mo G I J))))) :=
  (sm_blk X 280 21 (tt_lin 280 (by decide)) rfl rfl _ _ _ _).trans rfl
set_option maxRecDepth 100000 in
theorem bk_280_38 (X : (Nat → Int32) × Nat) (mo : Bool) (G : Nat × Nat) (I : Nat → Nat → Int32) (J : Nat → Nat → Int64) (Q : Option Value → sm_M → Prop) (x1 : Int32) :
    sm_wp X 280 38 [some (.ref 81), some (.int x1), none] [] (sM mo G I J) Q =
    (sm_wp X 280 40 [some (.ref 81), some (.int x1), some (.int 0)] [] (sM mo G I J) Q) :=
  (sm_blk X 280 38 (tt_lin 280 (by decide)) rfl rfl _ _ _ _).trans rfl
set_option maxRecDepth 100000 in
theorem bk_280_40 (X : (Nat → Int32) × Nat) (mo : Bool) (G : Nat × Nat) (I : Nat → Nat → Int32) (J : Nat → Nat → Int64) (Q : Option Value → sm_M → Prop) (x1 : Int32) (x2 : Int32) :
    sm_wp X 280 40 [some (.ref 81), some (.int x1), some (.int x2)] [] (sM mo G I J) Q =
    (if (I 81 10 : Int32) ≤ (x2 : Int32) then sm_wp X 280 99 [some (.ref 81), some (.int x1), some (.int x2)] [] (sM mo G I J) Q else (vp_in x1 6 ∧ (if (1200 : Int32) ≤ (I 128 (x1.toNatClampNeg) : Int32) then sm_wp X 280 93 [some (.ref 81), some (.int x1), some (.int x2)] [] (sM mo G I J) Q else (vp_in x1 6 ∧ (vp_in ((1200 * ((6 * x1) + x2)) + (I 128 (x1.toNatClampNeg))) 43200 ∧ (vp_in x2 6 ∧ (if (I 130 (((1200 * ((6 * x1) + x2)) + (I 128 (x1.toNatClampNeg))).toNatClampNeg) : Int32) ≤ (I 128 (x2.toNatClampNeg) : Int32) then sm_wp X 280 93 [some (.ref 81), some (.int x1), some (.int x2)] [] (sM mo G I J) Q else (sm_zb 0 ∧ Q (some (.int 0)) (sM mo G I J))))))))) :=
  (sm_blk X 280 40 (tt_lin 280 (by decide)) rfl rfl _ _ _ _).trans rfl
set_option maxRecDepth 100000 in
theorem bk_280_93 (X : (Nat → Int32) × Nat) (mo : Bool) (G : Nat × Nat) (I : Nat → Nat → Int32) (J : Nat → Nat → Int64) (Q : Option Value → sm_M → Prop) (x1 : Int32) (x2 : Int32) :
    sm_wp X 280 93 [some (.ref 81), some (.int x1), some (.int x2)] [] (sM mo G I J) Q =
    (sm_wp X 280 40 [some (.ref 81), some (.int x1), some (.int (x2 + 1))] [] (sM mo G I J) Q) :=
  (sm_blk X 280 93 (tt_lin 280 (by decide)) rfl rfl _ _ _ _).trans rfl
set_option maxRecDepth 100000 in
theorem bk_280_99 (X : (Nat → Int32) × Nat) (mo : Bool) (G : Nat × Nat) (I : Nat → Nat → Int32) (J : Nat → Nat → Int64) (Q : Option Value → sm_M → Prop) (x1 : Int32) :
    sm_wp X 280 99 [some (.ref 81), some (.int x1), none] [] (sM mo G I J) Q =
    (sm_wp X 280 2 [some (.ref 81), some (.int (x1 + 1)), none] [] (sM mo G I J) Q) :=
  (sm_blk X 280 99 (tt_lin 280 (by decide)) rfl rfl _ _ _ _).trans rfl
set_option maxRecDepth 100000 in
theorem bk_280_105 (X : (Nat → Int32) × Nat) (mo : Bool) (G : Nat × Nat) (I : Nat → Nat → Int32) (J : Nat → Nat → Int64) (Q : Option Value → sm_M → Prop) (x1 : Int32) :
    sm_wp X 280 105 [some (.ref 81), some (.int x1), none] [] (sM mo G I J) Q =
    (sm_zb 1 ∧ Q (some (.int 1)) (sM mo G I J)) :=
  (sm_blk X 280 105 (tt_lin 280 (by decide)) rfl rfl _ _ _ _).trans rfl
set_option maxRecDepth 100000 in
theorem bk_281_0 (X : (Nat → Int32) × Nat) (mo : Bool) (G : Nat × Nat) (I : Nat → Nat → Int32) (J : Nat → Nat → Int64) (Q : Option Value → sm_M → Prop) (x1 : Int32) :
    sm_wp X 281 0 [some (.ref 81), some (.int x1)] [] (sM mo G I J) Q =
    (sm_wp X 282 0 [some (.ref 81), some (.int x1)] [] (sM mo G (up2 I 81 2 0) J) (fun v M => sm_wp X 281 10 [some (.ref 81), some (.int x1)] (v.toList ++ []) M Q)) :=
  (sm_blk X 281 0 (tt_lin 281 (by decide)) rfl rfl _ _ _ _).trans rfl
set_option maxRecDepth 100000 in
theorem bk_281_10 (X : (Nat → Int32) × Nat) (mo : Bool) (G : Nat × Nat) (I : Nat → Nat → Int32) (J : Nat → Nat → Int64) (Q : Option Value → sm_M → Prop) (x1 : Int32) (s0 : Int32) :
    sm_wp X 281 10 [some (.ref 81), some (.int x1)] [.int s0] (sM mo G I J) Q =
    (True ∧ Q (some (.int s0)) (sM mo G I J)) :=
  (sm_blk X 281 10 (tt_lin 281 (by decide)) rfl rfl _ _ _ _).trans rfl
set_option maxRecDepth 100000 in
theorem bk_282_0 (X : (Nat → Int32) × Nat) (mo : Bool) (G : Nat × Nat) (I : Nat → Nat → Int32) (J : Nat → Nat → Int64) (Q : Option Value → sm_M → Prop) (x1 : Int32) :
    sm_wp X 282 0 [some (.ref 81), some (.int x1)] [] (sM mo G I J) Q =
    (sm_wp X 210 0 [some (.int x1), some (.int 0), some (.int 13)] [] (sM mo G I J) (fun v M => sm_wp X 282 7 [some (.ref 81), some (.int x1)] (v.toList ++ []) M Q)) :=
  (sm_blk X 282 0 (tt_lin 282 (by decide)) rfl rfl _ _ _ _).trans rfl
set_option maxRecDepth 100000 in
theorem bk_282_7 (X : (Nat → Int32) × Nat) (mo : Bool) (G : Nat × Nat) (I : Nat → Nat → Int32) (J : Nat → Nat → Int64) (Q : Option Value → sm_M → Prop) (x1 : Int32) (s0 : Int32) :
    sm_wp X 282 7 [some (.ref 81), some (.int x1)] [.int s0] (sM mo G I J) Q =
    (if (s0 : Int32) = 0 then sm_wp X 282 31 [some (.ref 81), some (.int x1)] [] (sM mo G I J) Q else (if (12 : Int32) ≤ (x1 : Int32) then sm_wp X 282 24 [some (.ref 81), some (.int x1)] [] (sM mo G I J) Q else (sm_wp X 212 0 [some (.ref 81), some (.int x1)] [] (sM mo G I J) (fun v M => sm_wp X 282 21 [some (.ref 81), some (.int x1)] (v.toList ++ []) M Q)))) :=
  (sm_blk X 282 7 (tt_lin 282 (by decide)) rfl rfl _ _ _ _).trans rfl
set_option maxRecDepth 100000 in
theorem bk_282_21 (X : (Nat → Int32) × Nat) (mo : Bool) (G : Nat × Nat) (I : Nat → Nat → Int32) (J : Nat → Nat → Int64) (Q : Option Value → sm_M → Prop) (x1 : Int32) (s0 : Int32) :
    sm_wp X 282 21 [some (.ref 81), some (.int x1)] [.int s0] (sM mo G I J) Q =
    (if (s0 : Int32) = 0 then sm_wp X 282 31 [some (.ref 81), some (.int x1)] [] (sM mo G I J) Q else (sm_wp X 283 0 [some (.ref 81), none, none, none, none, none] [] (sM mo G I J) (fun v M => sm_wp X 282 28 [some (.ref 81), some (.int x1)] (v.toList ++ []) M Q))) :=
  (sm_blk X 282 21 (tt_lin 282 (by decide)) rfl rfl _ _ _ _).trans rfl
set_option maxRecDepth 100000 in
theorem bk_282_24 (X : (Nat → Int32) × Nat) (mo : Bool) (G : Nat × Nat) (I : Nat → Nat → Int32) (J : Nat → Nat → Int64) (Q : Option Value → sm_M → Prop) (x1 : Int32) :
    sm_wp X 282 24 [some (.ref 81), some (.int x1)] [] (sM mo G I J) Q =
    (sm_wp X 283 0 [some (.ref 81), none, none, none, none, none] [] (sM mo G I J) (fun v M => sm_wp X 282 28 [some (.ref 81), some (.int x1)] (v.toList ++ []) M Q)) :=
  (sm_blk X 282 24 (tt_lin 282 (by decide)) rfl rfl _ _ _ _).trans rfl
set_option maxRecDepth 100000 in
theorem bk_282_28 (X : (Nat → Int32) × Nat) (mo : Bool) (G : Nat × Nat) (I : Nat → Nat → Int32) (J : Nat → Nat → Int64) (Q : Option Value → sm_M → Prop) (x1 : Int32) (s0 : Int32) :
    sm_wp X 282 28 [some (.ref 81), some (.int x1)] [.int s0] (sM mo G I J) Q =
    (if ¬ (s0 : Int32) = 0 then sm_wp X 282 33 [some (.ref 81), some (.int x1)] [] (sM mo G I J) Q else (True ∧ Q (some (.int (-1))) (sM mo G I J))) :=
  (sm_blk X 282 28 (tt_lin 282 (by decide)) rfl rfl _ _ _ _).trans rfl
set_option maxRecDepth 100000 in
theorem bk_282_31 (X : (Nat → Int32) × Nat) (mo : Bool) (G : Nat × Nat) (I : Nat → Nat → Int32) (J : Nat → Nat → Int64) (Q : Option Value → sm_M → Prop) (x1 : Int32) :
    sm_wp X 282 31 [some (.ref 81), some (.int x1)] [] (sM mo G I J) Q =
    (True ∧ Q (some (.int (-1))) (sM mo G I J)) :=
  (sm_blk X 282 31 (tt_lin 282 (by decide)) rfl rfl _ _ _ _).trans rfl
set_option maxRecDepth 100000 in
theorem bk_282_33 (X : (Nat → Int32) × Nat) (mo : Bool) (G : Nat × Nat) (I : Nat → Nat → Int32) (J : Nat → Nat → Int64) (Q : Option Value → sm_M → Prop) (x1 : Int32) :
    sm_wp X 282 33 [some (.ref 81), some (.int x1)] [] (sM mo G I J) Q =
    (if (12 : Int32) ≤ (x1 : Int32) then sm_wp X 282 48 [some (.ref 81), some (.int x1)] [] (sM mo G I J) Q else (vp_in x1 12 ∧ (sm_wp X 282 65 [some (.ref 81), some (.int x1)] [.int (I 131 (x1.toNatClampNeg))] (sM mo G I J) Q))) :=
  (sm_blk X 282 33 (tt_lin 282 (by decide)) rfl rfl _ _ _ _).trans rfl
set_option maxRecDepth 100000 in
theorem bk_282_48 (X : (Nat → Int32) × Nat) (mo : Bool) (G : Nat × Nat) (I : Nat → Nat → Int32) (J : Nat → Nat → Int64) (Q : Option Value → sm_M → Prop) (x1 : Int32) :
    sm_wp X 282 48 [some (.ref 81), some (.int x1)] [] (sM mo G I J) Q =
    (if ¬ (x1 : Int32) = (12 : Int32) then sm_wp X 282 61 [some (.ref 81), some (.int x1)] [] (sM mo G I J) Q else (sm_wp X 282 65 [some (.ref 81), some (.int x1)] [.int (I 81 76)] (sM mo G I J) Q)) :=
  (sm_blk X 282 48 (tt_lin 282 (by decide)) rfl rfl _ _ _ _).trans rfl
set_option maxRecDepth 100000 in
theorem bk_282_61 (X : (Nat → Int32) × Nat) (mo : Bool) (G : Nat × Nat) (I : Nat → Nat → Int32) (J : Nat → Nat → Int64) (Q : Option Value → sm_M → Prop) (x1 : Int32) :
    sm_wp X 282 61 [some (.ref 81), some (.int x1)] [] (sM mo G I J) Q =
    (True ∧ Q (some (.int (I 81 77))) (sM mo G I J)) :=
  (sm_blk X 282 61 (tt_lin 282 (by decide)) rfl rfl _ _ _ _).trans rfl
set_option maxRecDepth 100000 in
theorem bk_282_65 (X : (Nat → Int32) × Nat) (mo : Bool) (G : Nat × Nat) (I : Nat → Nat → Int32) (J : Nat → Nat → Int64) (Q : Option Value → sm_M → Prop) (x1 : Int32) (s0 : Int32) :
    sm_wp X 282 65 [some (.ref 81), some (.int x1)] [.int s0] (sM mo G I J) Q =
    (True ∧ Q (some (.int s0)) (sM mo G I J)) :=
  (sm_blk X 282 65 (tt_lin 282 (by decide)) rfl rfl _ _ _ _).trans rfl
set_option maxRecDepth 100000 in
theorem bk_283_0 (X : (Nat → Int32) × Nat) (mo : Bool) (G : Nat × Nat) (I : Nat → Nat → Int32) (J : Nat → Nat → Int64) (Q : Option Value → sm_M → Prop)  :
    sm_wp X 283 0 [some (.ref 81), none, none, none, none, none] [] (sM mo G I J) Q =
    (sm_wp X 275 0 [some (.ref 81), none, none, none] [] (sM mo G I J) (fun v M => sm_wp X 283 4 [some (.ref 81), none, none, none, none, none] (v.toList ++ []) M Q)) :=
  (sm_blk X 283 0 (tt_lin 283 (by decide)) rfl rfl _ _ _ _).trans rfl
set_option maxRecDepth 100000 in
theorem bk_283_4 (X : (Nat → Int32) × Nat) (mo : Bool) (G : Nat × Nat) (I : Nat → Nat → Int32) (J : Nat → Nat → Int64) (Q : Option Value → sm_M → Prop)  :
    sm_wp X 283 4 [some (.ref 81), none, none, none, none, none] [] (sM mo G I J) Q =
    (sm_wp X 276 0 [some (.ref 81)] [] (sM mo G I J) (fun v M => sm_wp X 283 8 [some (.ref 81), none, none, none, none, none] (v.toList ++ []) M Q)) :=
  (sm_blk X 283 4 (tt_lin 283 (by decide)) rfl rfl _ _ _ _).trans rfl
set_option maxRecDepth 100000 in
theorem bk_283_8 (X : (Nat → Int32) × Nat) (mo : Bool) (G : Nat × Nat) (I : Nat → Nat → Int32) (J : Nat → Nat → Int64) (Q : Option Value → sm_M → Prop) (s0 : Int32) :
    sm_wp X 283 8 [some (.ref 81), none, none, none, none, none] [.int s0] (sM mo G I J) Q =
    (if ¬ (s0 : Int32) = 0 then sm_wp X 283 18 [some (.ref 81), none, none, none, none, none] [] (sM mo G I J) Q else (if ¬ (I 81 15 : Int32) = 0 then sm_wp X 283 20 [some (.ref 81), none, none, none, none, none] [] (sM mo G I J) Q else (sm_zb 0 ∧ Q (some (.int 0)) (sM mo G I J)))) :=
  (sm_blk X 283 8 (tt_lin 283 (by decide)) rfl rfl _ _ _ _).trans rfl
set_option maxRecDepth 100000 in
theorem bk_283_18 (X : (Nat → Int32) × Nat) (mo : Bool) (G : Nat × Nat) (I : Nat → Nat → Int32) (J : Nat → Nat → Int64) (Q : Option Value → sm_M → Prop)  :
    sm_wp X 283 18 [some (.ref 81), none, none, none, none, none] [] (sM mo G I J) Q =
    (sm_zb 0 ∧ Q (some (.int 0)) (sM mo G I J)) :=
  (sm_blk X 283 18 (tt_lin 283 (by decide)) rfl rfl _ _ _ _).trans rfl
set_option maxRecDepth 100000 in
theorem bk_283_20 (X : (Nat → Int32) × Nat) (mo : Bool) (G : Nat × Nat) (I : Nat → Nat → Int32) (J : Nat → Nat → Int64) (Q : Option Value → sm_M → Prop)  :
    sm_wp X 283 20 [some (.ref 81), none, none, none, none, none] [] (sM mo G I J) Q =
    (sm_wp X 277 0 [some (.ref 81), none, none, none, none, none, none, none] [] (sM mo G I J) (fun v M => sm_wp X 283 24 [some (.ref 81), none, none, none, none, none] (v.toList ++ []) M Q)) :=
  (sm_blk X 283 20 (tt_lin 283 (by decide)) rfl rfl _ _ _ _).trans rfl
set_option maxRecDepth 100000 in
theorem bk_283_24 (X : (Nat → Int32) × Nat) (mo : Bool) (G : Nat × Nat) (I : Nat → Nat → Int32) (J : Nat → Nat → Int64) (Q : Option Value → sm_M → Prop)  :
    sm_wp X 283 24 [some (.ref 81), none, none, none, none, none] [] (sM mo G I J) Q =
    (sm_wp X 283 28 [some (.ref 81), some (.int 0), some (.int 0), none, none, none] [] (sM mo G I J) Q) :=
  (sm_blk X 283 24 (tt_lin 283 (by decide)) rfl rfl _ _ _ _).trans rfl
set_option maxRecDepth 100000 in
theorem bk_283_28 (X : (Nat → Int32) × Nat) (mo : Bool) (G : Nat × Nat) (I : Nat → Nat → Int32) (J : Nat → Nat → Int64) (Q : Option Value → sm_M → Prop) (x1 : Int32) (x2 : Int32) :
    sm_wp X 283 28 [some (.ref 81), some (.int x1), some (.int x2), none, none, none] [] (sM mo G I J) Q =
    (if (I 81 69 : Int32) ≤ (x2 : Int32) then sm_wp X 283 266 [some (.ref 81), some (.int x1), some (.int x2), none, none, none] [] (sM mo G I J) Q else (sm_wp X 278 0 [some (.ref 81), some (.int x2), none, none] [] (sM mo G I J) (fun v M => sm_wp X 283 41 [some (.ref 81), some (.int x1), some (.int x2), none, none, none] (v.toList ++ []) M Q))) :=
  (sm_blk X 283 28 (tt_lin 283 (by decide)) rfl rfl _ _ _ _).trans rfl
set_option maxRecDepth 100000 in
theorem bk_283_41 (X : (Nat → Int32) × Nat) (mo : Bool) (G : Nat × Nat) (I : Nat → Nat → Int32) (J : Nat → Nat → Int64) (Q : Option Value → sm_M → Prop) (x1 : Int32) (x2 : Int32) :
    sm_wp X 283 41 [some (.ref 81), some (.int x1), some (.int x2), none, none, none] [] (sM mo G I J) Q =
    (sm_wp X 279 0 [some (.ref 81), none] [] (sM mo G I J) (fun v M => sm_wp X 283 45 [some (.ref 81), some (.int x1), some (.int x2), none, none, none] (v.toList ++ []) M Q)) :=
  (sm_blk X 283 41 (tt_lin 283 (by decide)) rfl rfl _ _ _ _).trans rfl
set_option maxRecDepth 100000 in
theorem bk_283_45 (X : (Nat → Int32) × Nat) (mo : Bool) (G : Nat × Nat) (I : Nat → Nat → Int32) (J : Nat → Nat → Int64) (Q : Option Value → sm_M → Prop) (x1 : Int32) (x2 : Int32) (s0 : Int32) :
    sm_wp X 283 45 [some (.ref 81), some (.int x1), some (.int x2), none, none, none] [.int s0] (sM mo G I J) Q =
    (if (s0 : Int32) = 0 then sm_wp X 283 260 [some (.ref 81), some (.int x1), some (.int x2), none, none, none] [] (sM mo G I J) Q else (sm_wp X 280 0 [some (.ref 81), none, none] [] (sM mo G I J) (fun v M => sm_wp X 283 52 [some (.ref 81), some (.int x1), some (.int x2), none, none, none] (v.toList ++ []) M Q))) :=
  (sm_blk X 283 45 (tt_lin 283 (by decide)) rfl rfl _ _ _ _).trans rfl
set_option maxRecDepth 100000 in
theorem bk_283_52 (X : (Nat → Int32) × Nat) (mo : Bool) (G : Nat × Nat) (I : Nat → Nat → Int32) (J : Nat → Nat → Int64) (Q : Option Value → sm_M → Prop) (x1 : Int32) (x2 : Int32) (s0 : Int32) :
    sm_wp X 283 52 [some (.ref 81), some (.int x1), some (.int x2), none, none, none] [.int s0] (sM mo G I J) Q =
    (if ¬ (s0 : Int32) = 0 then sm_wp X 283 58 [some (.ref 81), some (.int x1), some (.int x2), none, none, none] [] (sM mo G I J) Q else (sm_wp X 283 260 [some (.ref 81), some (.int x1), some (.int x2), none, none, none] [] (sM mo G I J) Q)) :=
  (sm_blk X 283 52 (tt_lin 283 (by decide)) rfl rfl _ _ _ _).trans rfl
set_option maxRecDepth 100000 in
theorem bk_283_58 (X : (Nat → Int32) × Nat) (mo : Bool) (G : Nat × Nat) (I : Nat → Nat → Int32) (J : Nat → Nat → Int64) (Q : Option Value → sm_M → Prop) (x1 : Int32) (x2 : Int32) :
    sm_wp X 283 58 [some (.ref 81), some (.int x1), some (.int x2), none, none, none] [] (sM mo G I J) Q =
    (sm_wp X 283 68 [some (.ref 81), some (.int x1), some (.int x2), some (.int 100000), some (.int 0), some (.int 0)] [] (sM mo G I J) Q) :=
  (sm_blk X 283 58 (tt_lin 283 (by decide)) rfl rfl _ _ _ _).trans rfl
set_option maxRecDepth 100000 in
theorem bk_283_68 (X : (Nat → Int32) × Nat) (mo : Bool) (G : Nat × Nat) (I : Nat → Nat → Int32) (J : Nat → Nat → Int64) (Q : Option Value → sm_M → Prop) (x1 : Int32) (x2 : Int32) (x3 : Int32) (x4 : Int32) (x5 : Int32) :
    sm_wp X 283 68 [some (.ref 81), some (.int x1), some (.int x2), some (.int x3), some (.int x4), some (.int x5)] [] (sM mo G I J) Q =
    (if (I 81 10 : Int32) ≤ (x5 : Int32) then sm_wp X 283 146 [some (.ref 81), some (.int x1), some (.int x2), some (.int x3), some (.int x4), some (.int x5)] [] (sM mo G I J) Q else (sm_wp X 215 0 [some (.ref 81), some (.int x5)] [] (sM mo G I J) (fun v M => sm_wp X 283 83 [some (.ref 81), some (.int x1), some (.int x2), some (.int x3), some (.int x4), some (.int x5)] (v.toList ++ []) M Q))) :=
  (sm_blk X 283 68 (tt_lin 283 (by decide)) rfl rfl _ _ _ _).trans rfl
set_option maxRecDepth 100000 in
theorem bk_283_83 (X : (Nat → Int32) × Nat) (mo : Bool) (G : Nat × Nat) (I : Nat → Nat → Int32) (J : Nat → Nat → Int64) (Q : Option Value → sm_M → Prop) (x1 : Int32) (x2 : Int32) (x3 : Int32) (x4 : Int32) (x5 : Int32) (s0 : Int32) :
    sm_wp X 283 83 [some (.ref 81), some (.int x1), some (.int x2), some (.int x3), some (.int x4), some (.int x5)] [.int s0] (sM mo G I J) Q =
    (if ¬ (s0 : Int32) = 0 then sm_wp X 283 89 [some (.ref 81), some (.int x1), some (.int x2), some (.int x3), some (.int x4), some (.int x5)] [] (sM mo G I J) Q else (sm_wp X 283 140 [some (.ref 81), some (.int x1), some (.int x2), some (.int x3), some (.int x4), some (.int x5)] [] (sM mo G I J) Q)) :=
  (sm_blk X 283 83 (tt_lin 283 (by decide)) rfl rfl _ _ _ _).trans rfl
set_option maxRecDepth 100000 in
theorem bk_283_89 (X : (Nat → Int32) × Nat) (mo : Bool) (G : Nat × Nat) (I : Nat → Nat → Int32) (J : Nat → Nat → Int64) (Q : Option Value → sm_M → Prop) (x1 : Int32) (x2 : Int32) (x3 : Int32) (x4 : Int32) (x5 : Int32) :
    sm_wp X 283 89 [some (.ref 81), some (.int x1), some (.int x2), some (.int x3), some (.int x4), some (.int x5)] [] (sM mo G I J) Q =
    (vp_in x5 6 ∧ (vp_in x5 6 ∧ (vp_in x5 6 ∧ (if (x3 : Int32) ≤ ((I 128 (x5.toNatClampNeg)) - (I 92 (x5.toNatClampNeg)) : Int32) then sm_wp X 283 138 [some (.ref 81), some (.int x1), some (.int x2), some (.int x3), some (.int (x4 + (I 128 (x5.toNatClampNeg)))), some (.int x5)] [] (sM mo G I J) Q else (vp_in x5 6 ∧ (vp_in x5 6 ∧ (sm_wp X 283 139 [some (.ref 81), some (.int x1), some (.int x2), some (.int x3), some (.int (x4 + (I 128 (x5.toNatClampNeg)))), some (.int x5)] [.int ((I 128 (x5.toNatClampNeg)) - (I 92 (x5.toNatClampNeg)))] (sM mo G I J) Q))))))) :=
  (sm_blk X 283 89 (tt_lin 283 (by decide)) rfl rfl _ _ _ _).trans rfl
set_option maxRecDepth 100000 in
theorem bk_283_138 (X : (Nat → Int32) × Nat) (mo : Bool) (G : Nat × Nat) (I : Nat → Nat → Int32) (J : Nat → Nat → Int64) (Q : Option Value → sm_M → Prop) (x1 : Int32) (x2 : Int32) (x3 : Int32) (x4 : Int32) (x5 : Int32) :
    sm_wp X 283 138 [some (.ref 81), some (.int x1), some (.int x2), some (.int x3), some (.int x4), some (.int x5)] [] (sM mo G I J) Q =
    (sm_wp X 283 68 [some (.ref 81), some (.int x1), some (.int x2), some (.int x3), some (.int x4), some (.int (x5 + 1))] [] (sM mo G I J) Q) :=
  (sm_blk X 283 138 (tt_lin 283 (by decide)) rfl rfl _ _ _ _).trans rfl
set_option maxRecDepth 100000 in
theorem bk_283_139 (X : (Nat → Int32) × Nat) (mo : Bool) (G : Nat × Nat) (I : Nat → Nat → Int32) (J : Nat → Nat → Int64) (Q : Option Value → sm_M → Prop) (x1 : Int32) (x2 : Int32) (x3 : Int32) (x4 : Int32) (x5 : Int32) (s0 : Int32) :
    sm_wp X 283 139 [some (.ref 81), some (.int x1), some (.int x2), some (.int x3), some (.int x4), some (.int x5)] [.int s0] (sM mo G I J) Q =
    (sm_wp X 283 68 [some (.ref 81), some (.int x1), some (.int x2), some (.int s0), some (.int x4), some (.int (x5 + 1))] [] (sM mo G I J) Q) :=
  (sm_blk X 283 139 (tt_lin 283 (by decide)) rfl rfl _ _ _ _).trans rfl
set_option maxRecDepth 100000 in
theorem bk_283_140 (X : (Nat → Int32) × Nat) (mo : Bool) (G : Nat × Nat) (I : Nat → Nat → Int32) (J : Nat → Nat → Int64) (Q : Option Value → sm_M → Prop) (x1 : Int32) (x2 : Int32) (x3 : Int32) (x4 : Int32) (x5 : Int32) :
    sm_wp X 283 140 [some (.ref 81), some (.int x1), some (.int x2), some (.int x3), some (.int x4), some (.int x5)] [] (sM mo G I J) Q =
    (sm_wp X 283 68 [some (.ref 81), some (.int x1), some (.int x2), some (.int x3), some (.int x4), some (.int (x5 + 1))] [] (sM mo G I J) Q) :=
  (sm_blk X 283 140 (tt_lin 283 (by decide)) rfl rfl _ _ _ _).trans rfl
set_option maxRecDepth 100000 in
theorem bk_283_146 (X : (Nat → Int32) × Nat) (mo : Bool) (G : Nat × Nat) (I : Nat → Nat → Int32) (J : Nat → Nat → Int64) (Q : Option Value → sm_M → Prop) (x1 : Int32) (x2 : Int32) (x3 : Int32) (x4 : Int32) (x5 : Int32) :
    sm_wp X 283 146 [some (.ref 81), some (.int x1), some (.int x2), some (.int x3), some (.int x4), some (.int x5)] [] (sM mo G I J) Q =
    (if (x1 : Int32) = 0 then sm_wp X 283 178 [some (.ref 81), some (.int x1), some (.int x2), some (.int x3), some (.int x4), some (.int x5)] [] (sM mo G I J) Q else (if (x3 : Int32) < (I 81 76 : Int32) then sm_wp X 283 260 [some (.ref 81), some (.int x1), some (.int x2), some (.int x3), some (.int x4), some (.int x5)] [] (sM mo G I J) Q else (if ¬ (x3 : Int32) = (I 81 76 : Int32) then sm_wp X 283 178 [some (.ref 81), some (.int x1), some (.int x2), some (.int x3), some (.int x4), some (.int x5)] [] (sM mo G I J) Q else (if (I 81 77 : Int32) < (x4 : Int32) then sm_wp X 283 178 [some (.ref 81), some (.int x1), some (.int x2), some (.int x3), some (.int x4), some (.int x5)] [] (sM mo G I J) Q else (sm_wp X 283 260 [some (.ref 81), some (.int x1), some (.int x2), some (.int x3), some (.int x4), some (.int x5)] [] (sM mo G I J) Q))))) :=
  (sm_blk X 283 146 (tt_lin 283 (by decide)) rfl rfl _ _ _ _).trans rfl
set_option maxRecDepth 100000 in
theorem bk_283_178 (X : (Nat → Int32) × Nat) (mo : Bool) (G : Nat × Nat) (I : Nat → Nat → Int32) (J : Nat → Nat → Int64) (Q : Option Value → sm_M → Prop) (x1 : Int32) (x2 : Int32) (x3 : Int32) (x4 : Int32) (x5 : Int32) :
    sm_wp X 283 178 [some (.ref 81), some (.int x1), some (.int x2), some (.int x3), some (.int x4), some (.int x5)] [] (sM mo G I J) Q =
    (sm_wp X 283 194 [some (.ref 81), some (.int 1), some (.int x2), none, none, some (.int 0)] [] (sM mo G (up2 (up2 I 81 76 x3) 81 77 x4) J) Q) :=
  (sm_blk X 283 178 (tt_lin 283 (by decide)) rfl rfl _ _ _ _).trans rfl
set_option maxRecDepth 100000 in
theorem bk_283_194 (X : (Nat → Int32) × Nat) (mo : Bool) (G : Nat × Nat) (I : Nat → Nat → Int32) (J : Nat → Nat → Int64) (Q : Option Value → sm_M → Prop) (x1 : Int32) (x2 : Int32) (x5 : Int32) :
    sm_wp X 283 194 [some (.ref 81), some (.int x1), some (.int x2), none, none, some (.int x5)] [] (sM mo G I J) Q =
    (if (I 81 3 : Int32) ≤ (x5 : Int32) then sm_wp X 283 223 [some (.ref 81), some (.int x1), some (.int x2), none, none, some (.int x5)] [] (sM mo G I J) Q else (vp_in x5 12 ∧ (vp_in x5 12 ∧ (sm_wp X 283 194 [some (.ref 81), some (.int x1), some (.int x2), none, none, some (.int (x5 + 1))] [] (sM mo G (up2 I 131 x5.toNatClampNeg (I 85 (x5.toNatClampNeg))) J) Q)))) :=
  (sm_blk X 283 194 (tt_lin 283 (by decide)) rfl rfl _ _ _ _).trans rfl
set_option maxRecDepth 100000 in
theorem bk_283_223 (X : (Nat → Int32) × Nat) (mo : Bool) (G : Nat × Nat) (I : Nat → Nat → Int32) (J : Nat → Nat → Int64) (Q : Option Value → sm_M → Prop) (x1 : Int32) (x2 : Int32) (x5 : Int32) :
    sm_wp X 283 223 [some (.ref 81), some (.int x1), some (.int x2), none, none, some (.int x5)] [] (sM mo G I J) Q =
    (sm_wp X 283 226 [some (.ref 81), some (.int x1), some (.int x2), none, none, some (.int 0)] [] (sM mo G I J) Q) :=
  (sm_blk X 283 223 (tt_lin 283 (by decide)) rfl rfl _ _ _ _).trans rfl
set_option maxRecDepth 100000 in
theorem bk_283_226 (X : (Nat → Int32) × Nat) (mo : Bool) (G : Nat × Nat) (I : Nat → Nat → Int32) (J : Nat → Nat → Int64) (Q : Option Value → sm_M → Prop) (x1 : Int32) (x2 : Int32) (x5 : Int32) :
    sm_wp X 283 226 [some (.ref 81), some (.int x1), some (.int x2), none, none, some (.int x5)] [] (sM mo G I J) Q =
    (if (I 81 65 : Int32) ≤ (x5 : Int32) then sm_wp X 283 260 [some (.ref 81), some (.int x1), some (.int x2), none, none, some (.int x5)] [] (sM mo G I J) Q else (vp_in x5 12 ∧ (vp_in x5 8 ∧ (vp_in (I 123 (x5.toNatClampNeg)) 12 ∧ (sm_wp X 283 226 [some (.ref 81), some (.int x1), some (.int x2), none, none, some (.int (x5 + 1))] [] (sM mo G (up2 I 131 (I 123 (x5.toNatClampNeg)).toNatClampNeg (I 129 (x5.toNatClampNeg))) J) Q))))) :=
  (sm_blk X 283 226 (tt_lin 283 (by decide)) rfl rfl _ _ _ _).trans rfl
set_option maxRecDepth 100000 in
theorem bk_283_260 (X : (Nat → Int32) × Nat) (mo : Bool) (G : Nat × Nat) (I : Nat → Nat → Int32) (J : Nat → Nat → Int64) (Q : Option Value → sm_M → Prop) (x1 : Int32) (x2 : Int32) :
    sm_wp X 283 260 [some (.ref 81), some (.int x1), some (.int x2), none, none, none] [] (sM mo G I J) Q =
    (sm_wp X 283 28 [some (.ref 81), some (.int x1), some (.int (x2 + 1)), none, none, none] [] (sM mo G I J) Q) :=
  (sm_blk X 283 260 (tt_lin 283 (by decide)) rfl rfl _ _ _ _).trans rfl
set_option maxRecDepth 100000 in
theorem bk_283_266 (X : (Nat → Int32) × Nat) (mo : Bool) (G : Nat × Nat) (I : Nat → Nat → Int32) (J : Nat → Nat → Int64) (Q : Option Value → sm_M → Prop) (x1 : Int32) (x2 : Int32) :
    sm_wp X 283 266 [some (.ref 81), some (.int x1), some (.int x2), none, none, none] [] (sM mo G I J) Q =
    (sm_zb x1 ∧ Q (some (.int x1)) (sM mo G I J)) :=
  (sm_blk X 283 266 (tt_lin 283 (by decide)) rfl rfl _ _ _ _).trans rfl
set_option maxRecDepth 100000 in
theorem bk_284_0 (X : (Nat → Int32) × Nat) (mo : Bool) (G : Nat × Nat) (I : Nat → Nat → Int32) (J : Nat → Nat → Int64) (Q : Option Value → sm_M → Prop) (x1 : Int32) (x2 : Int32) :
    sm_wp X 284 0 [some (.ref 81), some (.int x1), some (.int x2), none] [] (sM mo G I J) Q =
    (sm_wp X 215 0 [some (.ref 81), some (.int x1)] [] (sM mo G (up2 I 81 2 0) J) (fun v M => sm_wp X 284 10 [some (.ref 81), some (.int x1), some (.int x2), none] (v.toList ++ []) M Q)) :=
  (sm_blk X 284 0 (tt_lin 284 (by decide)) rfl rfl _ _ _ _).trans rfl
set_option maxRecDepth 100000 in
theorem bk_284_10 (X : (Nat → Int32) × Nat) (mo : Bool) (G : Nat × Nat) (I : Nat → Nat → Int32) (J : Nat → Nat → Int64) (Q : Option Value → sm_M → Prop) (x1 : Int32) (x2 : Int32) (s0 : Int32) :
    sm_wp X 284 10 [some (.ref 81), some (.int x1), some (.int x2), none] [.int s0] (sM mo G I J) Q =
    (if ¬ (s0 : Int32) = 0 then sm_wp X 284 15 [some (.ref 81), some (.int x1), some (.int x2), none] [] (sM mo G I J) Q else (True ∧ Q (some (.int (-1))) (sM mo G I J))) :=
  (sm_blk X 284 10 (tt_lin 284 (by decide)) rfl rfl _ _ _ _).trans rfl
set_option maxRecDepth 100000 in
theorem bk_284_15 (X : (Nat → Int32) × Nat) (mo : Bool) (G : Nat × Nat) (I : Nat → Nat → Int32) (J : Nat → Nat → Int64) (Q : Option Value → sm_M → Prop) (x1 : Int32) (x2 : Int32) :
    sm_wp X 284 15 [some (.ref 81), some (.int x1), some (.int x2), none] [] (sM mo G I J) Q =
    (sm_wp X 282 0 [some (.ref 81), some (.int x2)] [] (sM mo G (up2 I 81 15 ((I 81 15) ^^^ (1 <<< (x1 &&& 31)))) J) (fun v M => sm_wp X 284 32 [some (.ref 81), some (.int x1), some (.int x2), none] (v.toList ++ []) M Q)) :=
  (sm_blk X 284 15 (tt_lin 284 (by decide)) rfl rfl _ _ _ _).trans rfl
set_option maxRecDepth 100000 in
theorem bk_284_32 (X : (Nat → Int32) × Nat) (mo : Bool) (G : Nat × Nat) (I : Nat → Nat → Int32) (J : Nat → Nat → Int64) (Q : Option Value → sm_M → Prop) (x1 : Int32) (x2 : Int32) (s0 : Int32) :
    sm_wp X 284 32 [some (.ref 81), some (.int x1), some (.int x2), none] [.int s0] (sM mo G I J) Q =
    (True ∧ Q (some (.int s0)) (sM mo G (up2 I 81 15 ((I 81 15) ^^^ (1 <<< (x1 &&& 31)))) J)) :=
  (sm_blk X 284 32 (tt_lin 284 (by decide)) rfl rfl _ _ _ _).trans rfl
set_option maxRecDepth 100000 in
theorem bk_285_0 (X : (Nat → Int32) × Nat) (mo : Bool) (G : Nat × Nat) (I : Nat → Nat → Int32) (J : Nat → Nat → Int64) (Q : Option Value → sm_M → Prop)  :
    sm_wp X 285 0 [some (.ref 81), none, none, none, none] [] (sM mo G I J) Q =
    (sm_wp X 275 0 [some (.ref 81), none, none, none] [] (sM mo G (up2 I 81 2 0) J) (fun v M => sm_wp X 285 9 [some (.ref 81), none, none, none, none] (v.toList ++ []) M Q)) :=
  (sm_blk X 285 0 (tt_lin 285 (by decide)) rfl rfl _ _ _ _).trans rfl
set_option maxRecDepth 100000 in
theorem bk_285_9 (X : (Nat → Int32) × Nat) (mo : Bool) (G : Nat × Nat) (I : Nat → Nat → Int32) (J : Nat → Nat → Int64) (Q : Option Value → sm_M → Prop)  :
    sm_wp X 285 9 [some (.ref 81), none, none, none, none] [] (sM mo G I J) Q =
    (sm_wp X 276 0 [some (.ref 81)] [] (sM mo G I J) (fun v M => sm_wp X 285 13 [some (.ref 81), none, none, none, none] (v.toList ++ []) M Q)) :=
  (sm_blk X 285 9 (tt_lin 285 (by decide)) rfl rfl _ _ _ _).trans rfl
set_option maxRecDepth 100000 in
theorem bk_285_13 (X : (Nat → Int32) × Nat) (mo : Bool) (G : Nat × Nat) (I : Nat → Nat → Int32) (J : Nat → Nat → Int64) (Q : Option Value → sm_M → Prop) (s0 : Int32) :
    sm_wp X 285 13 [some (.ref 81), none, none, none, none] [.int s0] (sM mo G I J) Q =
    (if (s0 : Int32) = 0 then sm_wp X 285 18 [some (.ref 81), none, none, none, none] [] (sM mo G I J) Q else (True ∧ Q (some (.int (-1))) (sM mo G I J))) :=
  (sm_blk X 285 13 (tt_lin 285 (by decide)) rfl rfl _ _ _ _).trans rfl
set_option maxRecDepth 100000 in
theorem bk_285_18 (X : (Nat → Int32) × Nat) (mo : Bool) (G : Nat × Nat) (I : Nat → Nat → Int32) (J : Nat → Nat → Int64) (Q : Option Value → sm_M → Prop)  :
    sm_wp X 285 18 [some (.ref 81), none, none, none, none] [] (sM mo G I J) Q =
    (sm_wp X 285 20 [some (.ref 81), some (.int 0), none, none, none] [] (sM mo G I J) Q) :=
  (sm_blk X 285 18 (tt_lin 285 (by decide)) rfl rfl _ _ _ _).trans rfl
set_option maxRecDepth 100000 in
theorem bk_285_20 (X : (Nat → Int32) × Nat) (mo : Bool) (G : Nat × Nat) (I : Nat → Nat → Int32) (J : Nat → Nat → Int64) (Q : Option Value → sm_M → Prop) (x1 : Int32) :
    sm_wp X 285 20 [some (.ref 81), some (.int x1), none, none, none] [] (sM mo G I J) Q =
    (if (64 : Int32) ≤ (x1 : Int32) then sm_wp X 285 39 [some (.ref 81), some (.int x1), none, none, none] [] (sM mo G I J) Q else (vp_in x1 64 ∧ (sm_wp X 285 20 [some (.ref 81), some (.int (x1 + 1)), none, none, none] [] (sM mo G (up2 I 132 x1.toNatClampNeg (vp_nar .boolean 0)) J) Q))) :=
  (sm_blk X 285 20 (tt_lin 285 (by decide)) rfl rfl _ _ _ _).trans rfl
set_option maxRecDepth 100000 in
theorem bk_285_39 (X : (Nat → Int32) × Nat) (mo : Bool) (G : Nat × Nat) (I : Nat → Nat → Int32) (J : Nat → Nat → Int64) (Q : Option Value → sm_M → Prop) (x1 : Int32) :
    sm_wp X 285 39 [some (.ref 81), some (.int x1), none, none, none] [] (sM mo G I J) Q =
    (sm_wp X 285 41 [some (.ref 81), some (.int 0), none, none, none] [] (sM mo G I J) Q) :=
  (sm_blk X 285 39 (tt_lin 285 (by decide)) rfl rfl _ _ _ _).trans rfl
set_option maxRecDepth 100000 in
theorem bk_285_41 (X : (Nat → Int32) × Nat) (mo : Bool) (G : Nat × Nat) (I : Nat → Nat → Int32) (J : Nat → Nat → Int64) (Q : Option Value → sm_M → Prop) (x1 : Int32) :
    sm_wp X 285 41 [some (.ref 81), some (.int x1), none, none, none] [] (sM mo G I J) Q =
    (if (I 81 69 : Int32) ≤ (x1 : Int32) then sm_wp X 285 118 [some (.ref 81), some (.int x1), none, none, none] [] (sM mo G I J) Q else (sm_wp X 278 0 [some (.ref 81), some (.int x1), none, none] [] (sM mo G I J) (fun v M => sm_wp X 285 54 [some (.ref 81), some (.int x1), none, none, none] (v.toList ++ []) M Q))) :=
  (sm_blk X 285 41 (tt_lin 285 (by decide)) rfl rfl _ _ _ _).trans rfl
set_option maxRecDepth 100000 in
theorem bk_285_54 (X : (Nat → Int32) × Nat) (mo : Bool) (G : Nat × Nat) (I : Nat → Nat → Int32) (J : Nat → Nat → Int64) (Q : Option Value → sm_M → Prop) (x1 : Int32) :
    sm_wp X 285 54 [some (.ref 81), some (.int x1), none, none, none] [] (sM mo G I J) Q =
    (sm_wp X 285 58 [some (.ref 81), some (.int x1), some (.int 0), some (.int 0), none] [] (sM mo G I J) Q) :=
  (sm_blk X 285 54 (tt_lin 285 (by decide)) rfl rfl _ _ _ _).trans rfl
set_option maxRecDepth 100000 in
theorem bk_285_58 (X : (Nat → Int32) × Nat) (mo : Bool) (G : Nat × Nat) (I : Nat → Nat → Int32) (J : Nat → Nat → Int64) (Q : Option Value → sm_M → Prop) (x1 : Int32) (x2 : Int32) (x3 : Int32) :
    sm_wp X 285 58 [some (.ref 81), some (.int x1), some (.int x2), some (.int x3), none] [] (sM mo G I J) Q =
    (if (I 81 10 : Int32) ≤ (x3 : Int32) then sm_wp X 285 105 [some (.ref 81), some (.int x1), some (.int x2), some (.int x3), none] [] (sM mo G I J) Q else (sm_wp X 215 0 [some (.ref 81), some (.int x3)] [] (sM mo G I J) (fun v M => sm_wp X 285 72 [some (.ref 81), some (.int x1), some (.int x2), some (.int x3), none] (v.toList ++ [.int x2]) M Q))) :=
  (sm_blk X 285 58 (tt_lin 285 (by decide)) rfl rfl _ _ _ _).trans rfl
set_option maxRecDepth 100000 in
theorem bk_285_72 (X : (Nat → Int32) × Nat) (mo : Bool) (G : Nat × Nat) (I : Nat → Nat → Int32) (J : Nat → Nat → Int64) (Q : Option Value → sm_M → Prop) (x1 : Int32) (x2 : Int32) (x3 : Int32) (s0 : Int32) (s1 : Int32) :
    sm_wp X 285 72 [some (.ref 81), some (.int x1), some (.int x2), some (.int x3), none] [.int s1, .int s0] (sM mo G I J) Q =
    (if (s1 : Int32) = 0 then sm_wp X 285 96 [some (.ref 81), some (.int x1), some (.int x2), some (.int x3), none] [.int s0] (sM mo G I J) Q else (vp_in x3 6 ∧ (vp_in x3 6 ∧ (if (I 128 (x3.toNatClampNeg) : Int32) < (I 92 (x3.toNatClampNeg) : Int32) then sm_wp X 285 96 [some (.ref 81), some (.int x1), some (.int x2), some (.int x3), none] [.int s0] (sM mo G I J) Q else (sm_wp X 285 97 [some (.ref 81), some (.int x1), some (.int x2), some (.int x3), none] [.int (1 <<< (x3 &&& 31)), .int s0] (sM mo G I J) Q))))) :=
  (sm_blk X 285 72 (tt_lin 285 (by decide)) rfl rfl _ _ _ _).trans rfl
set_option maxRecDepth 100000 in
theorem bk_285_96 (X : (Nat → Int32) × Nat) (mo : Bool) (G : Nat × Nat) (I : Nat → Nat → Int32) (J : Nat → Nat → Int64) (Q : Option Value → sm_M → Prop) (x1 : Int32) (x2 : Int32) (x3 : Int32) (s0 : Int32) :
    sm_wp X 285 96 [some (.ref 81), some (.int x1), some (.int x2), some (.int x3), none] [.int s0] (sM mo G I J) Q =
    (sm_wp X 285 58 [some (.ref 81), some (.int x1), some (.int (s0 ||| 0)), some (.int (x3 + 1)), none] [] (sM mo G I J) Q) :=
  (sm_blk X 285 96 (tt_lin 285 (by decide)) rfl rfl _ _ _ _).trans rfl
set_option maxRecDepth 100000 in
theorem bk_285_97 (X : (Nat → Int32) × Nat) (mo : Bool) (G : Nat × Nat) (I : Nat → Nat → Int32) (J : Nat → Nat → Int64) (Q : Option Value → sm_M → Prop) (x1 : Int32) (x2 : Int32) (x3 : Int32) (s0 : Int32) (s1 : Int32) :
    sm_wp X 285 97 [some (.ref 81), some (.int x1), some (.int x2), some (.int x3), none] [.int s1, .int s0] (sM mo G I J) Q =
    (sm_wp X 285 58 [some (.ref 81), some (.int x1), some (.int (s0 ||| s1)), some (.int (x3 + 1)), none] [] (sM mo G I J) Q) :=
  (sm_blk X 285 97 (tt_lin 285 (by decide)) rfl rfl _ _ _ _).trans rfl
set_option maxRecDepth 100000 in
theorem bk_285_105 (X : (Nat → Int32) × Nat) (mo : Bool) (G : Nat × Nat) (I : Nat → Nat → Int32) (J : Nat → Nat → Int64) (Q : Option Value → sm_M → Prop) (x1 : Int32) (x2 : Int32) (x3 : Int32) :
    sm_wp X 285 105 [some (.ref 81), some (.int x1), some (.int x2), some (.int x3), none] [] (sM mo G I J) Q =
    (vp_in x2 64 ∧ (sm_wp X 285 41 [some (.ref 81), some (.int (x1 + 1)), none, none, none] [] (sM mo G (up2 I 132 x2.toNatClampNeg (vp_nar .boolean 1)) J) Q)) :=
  (sm_blk X 285 105 (tt_lin 285 (by decide)) rfl rfl _ _ _ _).trans rfl
set_option maxRecDepth 100000 in
theorem bk_285_118 (X : (Nat → Int32) × Nat) (mo : Bool) (G : Nat × Nat) (I : Nat → Nat → Int32) (J : Nat → Nat → Int64) (Q : Option Value → sm_M → Prop) (x1 : Int32) :
    sm_wp X 285 118 [some (.ref 81), some (.int x1), none, none, none] [] (sM mo G I J) Q =
    (sm_wp X 285 122 [some (.ref 81), some (.int 0), some (.int 1), none, none] [] (sM mo G I J) Q) :=
  (sm_blk X 285 118 (tt_lin 285 (by decide)) rfl rfl _ _ _ _).trans rfl
set_option maxRecDepth 100000 in
theorem bk_285_122 (X : (Nat → Int32) × Nat) (mo : Bool) (G : Nat × Nat) (I : Nat → Nat → Int32) (J : Nat → Nat → Int64) (Q : Option Value → sm_M → Prop) (x1 : Int32) (x2 : Int32) :
    sm_wp X 285 122 [some (.ref 81), some (.int x1), some (.int x2), none, none] [] (sM mo G I J) Q =
    (if (64 : Int32) ≤ (x2 : Int32) then sm_wp X 285 216 [some (.ref 81), some (.int x1), some (.int x2), none, none] [] (sM mo G I J) Q else (if (x2 &&& ((I 81 15) ^^^ (-1)) : Int32) = 0 then sm_wp X 285 142 [some (.ref 81), some (.int x1), some (.int x2), none, none] [] (sM mo G I J) Q else (sm_wp X 285 210 [some (.ref 81), some (.int x1), some (.int x2), none, none] [] (sM mo G I J) Q))) :=
  (sm_blk X 285 122 (tt_lin 285 (by decide)) rfl rfl _ _ _ _).trans rfl
set_option maxRecDepth 100000 in
theorem bk_285_142 (X : (Nat → Int32) × Nat) (mo : Bool) (G : Nat × Nat) (I : Nat → Nat → Int32) (J : Nat → Nat → Int64) (Q : Option Value → sm_M → Prop) (x1 : Int32) (x2 : Int32) :
    sm_wp X 285 142 [some (.ref 81), some (.int x1), some (.int x2), none, none] [] (sM mo G I J) Q =
    (sm_wp X 285 147 [some (.ref 81), some (.int x1), some (.int x2), some (.int 0), some (.int 0)] [] (sM mo G I J) Q) :=
  (sm_blk X 285 142 (tt_lin 285 (by decide)) rfl rfl _ _ _ _).trans rfl
set_option maxRecDepth 100000 in
theorem bk_285_147 (X : (Nat → Int32) × Nat) (mo : Bool) (G : Nat × Nat) (I : Nat → Nat → Int32) (J : Nat → Nat → Int64) (Q : Option Value → sm_M → Prop) (x1 : Int32) (x2 : Int32) (x3 : Int32) (x4 : Int32) :
    sm_wp X 285 147 [some (.ref 81), some (.int x1), some (.int x2), some (.int x3), some (.int x4)] [] (sM mo G I J) Q =
    (if (64 : Int32) ≤ (x4 : Int32) then sm_wp X 285 189 [some (.ref 81), some (.int x1), some (.int x2), some (.int x3), some (.int x4)] [] (sM mo G I J) Q else (if ¬ (x3 : Int32) = 0 then sm_wp X 285 177 [some (.ref 81), some (.int x1), some (.int x2), some (.int x3), some (.int x4)] [] (sM mo G I J) Q else (vp_in x4 64 ∧ (if (I 132 (x4.toNatClampNeg) : Int32) = 0 then sm_wp X 285 181 [some (.ref 81), some (.int x1), some (.int x2), some (.int x3), some (.int x4)] [] (sM mo G I J) Q else (if ¬ (x2 &&& (x4 ^^^ (-1)) : Int32) = 0 then sm_wp X 285 181 [some (.ref 81), some (.int x1), some (.int x2), some (.int x3), some (.int x4)] [] (sM mo G I J) Q else (sm_wp X 285 182 [some (.ref 81), some (.int x1), some (.int x2), some (.int x3), some (.int x4)] [.int 1] (sM mo G I J) Q)))))) :=
  (sm_blk X 285 147 (tt_lin 285 (by decide)) rfl rfl _ _ _ _).trans rfl
set_option maxRecDepth 100000 in
theorem bk_285_177 (X : (Nat → Int32) × Nat) (mo : Bool) (G : Nat × Nat) (I : Nat → Nat → Int32) (J : Nat → Nat → Int64) (Q : Option Value → sm_M → Prop) (x1 : Int32) (x2 : Int32) (x3 : Int32) (x4 : Int32) :
    sm_wp X 285 177 [some (.ref 81), some (.int x1), some (.int x2), some (.int x3), some (.int x4)] [] (sM mo G I J) Q =
    (sm_wp X 285 182 [some (.ref 81), some (.int x1), some (.int x2), some (.int x3), some (.int x4)] [.int 1] (sM mo G I J) Q) :=
  (sm_blk X 285 177 (tt_lin 285 (by decide)) rfl rfl _ _ _ _).trans rfl
set_option maxRecDepth 100000 in
theorem bk_285_181 (X : (Nat → Int32) × Nat) (mo : Bool) (G : Nat × Nat) (I : Nat → Nat → Int32) (J : Nat → Nat → Int64) (Q : Option Value → sm_M → Prop) (x1 : Int32) (x2 : Int32) (x3 : Int32) (x4 : Int32) :
    sm_wp X 285 181 [some (.ref 81), some (.int x1), some (.int x2), some (.int x3), some (.int x4)] [] (sM mo G I J) Q =
    (sm_wp X 285 147 [some (.ref 81), some (.int x1), some (.int x2), some (.int 0), some (.int (x4 + 1))] [] (sM mo G I J) Q) :=
  (sm_blk X 285 181 (tt_lin 285 (by decide)) rfl rfl _ _ _ _).trans rfl
set_option maxRecDepth 100000 in
theorem bk_285_182 (X : (Nat → Int32) × Nat) (mo : Bool) (G : Nat × Nat) (I : Nat → Nat → Int32) (J : Nat → Nat → Int64) (Q : Option Value → sm_M → Prop) (x1 : Int32) (x2 : Int32) (x3 : Int32) (x4 : Int32) (s0 : Int32) :
    sm_wp X 285 182 [some (.ref 81), some (.int x1), some (.int x2), some (.int x3), some (.int x4)] [.int s0] (sM mo G I J) Q =
    (sm_wp X 285 147 [some (.ref 81), some (.int x1), some (.int x2), some (.int s0), some (.int (x4 + 1))] [] (sM mo G I J) Q) :=
  (sm_blk X 285 182 (tt_lin 285 (by decide)) rfl rfl _ _ _ _).trans rfl
set_option maxRecDepth 100000 in
theorem bk_285_189 (X : (Nat → Int32) × Nat) (mo : Bool) (G : Nat × Nat) (I : Nat → Nat → Int32) (J : Nat → Nat → Int64) (Q : Option Value → sm_M → Prop) (x1 : Int32) (x2 : Int32) (x3 : Int32) (x4 : Int32) :
    sm_wp X 285 189 [some (.ref 81), some (.int x1), some (.int x2), some (.int x3), some (.int x4)] [] (sM mo G I J) Q =
    (if ¬ (x3 : Int32) = 0 then sm_wp X 285 210 [some (.ref 81), some (.int x1), some (.int x2), some (.int x3), some (.int x4)] [] (sM mo G I J) Q else (if (x1 : Int32) = 0 then sm_wp X 285 208 [some (.ref 81), some (.int x1), some (.int x2), some (.int x3), some (.int x4)] [] (sM mo G I J) Q else (sm_wp X 219 0 [some (.int x2), none, none] [] (sM mo G I J) (fun v M => sm_wp X 285 201 [some (.ref 81), some (.int x1), some (.int x2), some (.int x3), some (.int x4)] (v.toList ++ []) M Q)))) :=
  (sm_blk X 285 189 (tt_lin 285 (by decide)) rfl rfl _ _ _ _).trans rfl
set_option maxRecDepth 100000 in
theorem bk_285_201 (X : (Nat → Int32) × Nat) (mo : Bool) (G : Nat × Nat) (I : Nat → Nat → Int32) (J : Nat → Nat → Int64) (Q : Option Value → sm_M → Prop) (x1 : Int32) (x2 : Int32) (x3 : Int32) (x4 : Int32) (s0 : Int32) :
    sm_wp X 285 201 [some (.ref 81), some (.int x1), some (.int x2), some (.int x3), some (.int x4)] [.int s0] (sM mo G I J) Q =
    (sm_wp X 219 0 [some (.int x1), none, none] [] (sM mo G I J) (fun v M => sm_wp X 285 205 [some (.ref 81), some (.int x1), some (.int x2), some (.int x3), some (.int x4)] (v.toList ++ [.int s0]) M Q)) :=
  (sm_blk X 285 201 (tt_lin 285 (by decide)) rfl rfl _ _ _ _).trans rfl
set_option maxRecDepth 100000 in
theorem bk_285_205 (X : (Nat → Int32) × Nat) (mo : Bool) (G : Nat × Nat) (I : Nat → Nat → Int32) (J : Nat → Nat → Int64) (Q : Option Value → sm_M → Prop) (x1 : Int32) (x2 : Int32) (x3 : Int32) (x4 : Int32) (s0 : Int32) (s1 : Int32) :
    sm_wp X 285 205 [some (.ref 81), some (.int x1), some (.int x2), some (.int x3), some (.int x4)] [.int s1, .int s0] (sM mo G I J) Q =
    (if (s1 : Int32) ≤ (s0 : Int32) then sm_wp X 285 210 [some (.ref 81), some (.int x1), some (.int x2), some (.int x3), some (.int x4)] [] (sM mo G I J) Q else (sm_wp X 285 122 [some (.ref 81), some (.int x2), some (.int (x2 + 1)), none, none] [] (sM mo G I J) Q)) :=
  (sm_blk X 285 205 (tt_lin 285 (by decide)) rfl rfl _ _ _ _).trans rfl
set_option maxRecDepth 100000 in
theorem bk_285_208 (X : (Nat → Int32) × Nat) (mo : Bool) (G : Nat × Nat) (I : Nat → Nat → Int32) (J : Nat → Nat → Int64) (Q : Option Value → sm_M → Prop) (x1 : Int32) (x2 : Int32) (x3 : Int32) (x4 : Int32) :
    sm_wp X 285 208 [some (.ref 81), some (.int x1), some (.int x2), some (.int x3), some (.int x4)] [] (sM mo G I J) Q =
    (sm_wp X 285 122 [some (.ref 81), some (.int x2), some (.int (x2 + 1)), none, none] [] (sM mo G I J) Q) :=
  (sm_blk X 285 208 (tt_lin 285 (by decide)) rfl rfl _ _ _ _).trans rfl
set_option maxRecDepth 100000 in
theorem bk_285_210 (X : (Nat → Int32) × Nat) (mo : Bool) (G : Nat × Nat) (I : Nat → Nat → Int32) (J : Nat → Nat → Int64) (Q : Option Value → sm_M → Prop) (x1 : Int32) (x2 : Int32) :
    sm_wp X 285 210 [some (.ref 81), some (.int x1), some (.int x2), none, none] [] (sM mo G I J) Q =
    (sm_wp X 285 122 [some (.ref 81), some (.int x1), some (.int (x2 + 1)), none, none] [] (sM mo G I J) Q) :=
  (sm_blk X 285 210 (tt_lin 285 (by decide)) rfl rfl _ _ _ _).trans rfl
set_option maxRecDepth 100000 in
theorem bk_285_216 (X : (Nat → Int32) × Nat) (mo : Bool) (G : Nat × Nat) (I : Nat → Nat → Int32) (J : Nat → Nat → Int64) (Q : Option Value → sm_M → Prop) (x1 : Int32) (x2 : Int32) :
    sm_wp X 285 216 [some (.ref 81), some (.int x1), some (.int x2), none, none] [] (sM mo G I J) Q =
    (True ∧ Q (some (.int x1)) (sM mo G I J)) :=
  (sm_blk X 285 216 (tt_lin 285 (by decide)) rfl rfl _ _ _ _).trans rfl
set_option maxRecDepth 100000 in
theorem bk_286_0 (X : (Nat → Int32) × Nat) (mo : Bool) (G : Nat × Nat) (I : Nat → Nat → Int32) (J : Nat → Nat → Int64) (Q : Option Value → sm_M → Prop) (x1 : Int32) :
    sm_wp X 286 0 [some (.ref 81), some (.int x1), none, none] [] (sM mo G I J) Q =
    (sm_wp X 275 0 [some (.ref 81), none, none, none] [] (sM mo G (up2 I 81 2 0) J) (fun v M => sm_wp X 286 9 [some (.ref 81), some (.int x1), none, none] (v.toList ++ []) M Q)) :=
  (sm_blk X 286 0 (tt_lin 286 (by decide)) rfl rfl _ _ _ _).trans rfl
set_option maxRecDepth 100000 in
theorem bk_286_9 (X : (Nat → Int32) × Nat) (mo : Bool) (G : Nat × Nat) (I : Nat → Nat → Int32) (J : Nat → Nat → Int64) (Q : Option Value → sm_M → Prop) (x1 : Int32) :
    sm_wp X 286 9 [some (.ref 81), some (.int x1), none, none] [] (sM mo G I J) Q =
    (sm_wp X 276 0 [some (.ref 81)] [] (sM mo G I J) (fun v M => sm_wp X 286 13 [some (.ref 81), some (.int x1), none, none] (v.toList ++ []) M Q)) :=
  (sm_blk X 286 9 (tt_lin 286 (by decide)) rfl rfl _ _ _ _).trans rfl
set_option maxRecDepth 100000 in
theorem bk_286_13 (X : (Nat → Int32) × Nat) (mo : Bool) (G : Nat × Nat) (I : Nat → Nat → Int32) (J : Nat → Nat → Int64) (Q : Option Value → sm_M → Prop) (x1 : Int32) (s0 : Int32) :
    sm_wp X 286 13 [some (.ref 81), some (.int x1), none, none] [.int s0] (sM mo G I J) Q =
    (if (s0 : Int32) = 0 then sm_wp X 286 18 [some (.ref 81), some (.int x1), none, none] [] (sM mo G I J) Q else (True ∧ Q (some (.int (-1))) (sM mo G I J))) :=
  (sm_blk X 286 13 (tt_lin 286 (by decide)) rfl rfl _ _ _ _).trans rfl
set_option maxRecDepth 100000 in
theorem bk_286_18 (X : (Nat → Int32) × Nat) (mo : Bool) (G : Nat × Nat) (I : Nat → Nat → Int32) (J : Nat → Nat → Int64) (Q : Option Value → sm_M → Prop) (x1 : Int32) :
    sm_wp X 286 18 [some (.ref 81), some (.int x1), none, none] [] (sM mo G I J) Q =
    (sm_wp X 286 20 [some (.ref 81), some (.int x1), some (.int 0), none] [] (sM mo G I J) Q) :=
  (sm_blk X 286 18 (tt_lin 286 (by decide)) rfl rfl _ _ _ _).trans rfl
set_option maxRecDepth 100000 in
theorem bk_286_20 (X : (Nat → Int32) × Nat) (mo : Bool) (G : Nat × Nat) (I : Nat → Nat → Int32) (J : Nat → Nat → Int64) (Q : Option Value → sm_M → Prop) (x1 : Int32) (x2 : Int32) :
    sm_wp X 286 20 [some (.ref 81), some (.int x1), some (.int x2), none] [] (sM mo G I J) Q =
    (if (6 : Int32) ≤ (x2 : Int32) then sm_wp X 286 44 [some (.ref 81), some (.int x1), some (.int x2), none] [] (sM mo G I J) Q else (vp_in x2 6 ∧ (vp_in x2 6 ∧ (sm_wp X 286 20 [some (.ref 81), some (.int x1), some (.int (x2 + 1)), none] [] (sM mo G (up2 I 128 x2.toNatClampNeg (I 126 (x2.toNatClampNeg))) J) Q)))) :=
  (sm_blk X 286 20 (tt_lin 286 (by decide)) rfl rfl _ _ _ _).trans rfl
set_option maxRecDepth 100000 in
theorem bk_286_44 (X : (Nat → Int32) × Nat) (mo : Bool) (G : Nat × Nat) (I : Nat → Nat → Int32) (J : Nat → Nat → Int64) (Q : Option Value → sm_M → Prop) (x1 : Int32) (x2 : Int32) :
    sm_wp X 286 44 [some (.ref 81), some (.int x1), some (.int x2), none] [] (sM mo G I J) Q =
    (sm_wp X 286 46 [some (.ref 81), some (.int x1), some (.int 0), none] [] (sM mo G I J) Q) :=
  (sm_blk X 286 44 (tt_lin 286 (by decide)) rfl rfl _ _ _ _).trans rfl
set_option maxRecDepth 100000 in
theorem bk_286_46 (X : (Nat → Int32) × Nat) (mo : Bool) (G : Nat × Nat) (I : Nat → Nat → Int32) (J : Nat → Nat → Int64) (Q : Option Value → sm_M → Prop) (x1 : Int32) (x2 : Int32) :
    sm_wp X 286 46 [some (.ref 81), some (.int x1), some (.int x2), none] [] (sM mo G I J) Q =
    (if (I 81 65 : Int32) ≤ (x2 : Int32) then sm_wp X 286 122 [some (.ref 81), some (.int x1), some (.int x2), none] [] (sM mo G I J) Q else (sm_wp X 215 0 [some (.ref 81), some (.int ((x1 >>> ((3 * x2) &&& 31)) &&& 7))] [] (sM mo G I J) (fun v M => sm_wp X 286 68 [some (.ref 81), some (.int x1), some (.int x2), some (.int ((x1 >>> ((3 * x2) &&& 31)) &&& 7))] (v.toList ++ []) M Q))) :=
  (sm_blk X 286 46 (tt_lin 286 (by decide)) rfl rfl _ _ _ _).trans rfl
set_option maxRecDepth 100000 in
theorem bk_286_68 (X : (Nat → Int32) × Nat) (mo : Bool) (G : Nat × Nat) (I : Nat → Nat → Int32) (J : Nat → Nat → Int64) (Q : Option Value → sm_M → Prop) (x1 : Int32) (x2 : Int32) (x3 : Int32) (s0 : Int32) :
    sm_wp X 286 68 [some (.ref 81), some (.int x1), some (.int x2), some (.int x3)] [.int s0] (sM mo G I J) Q =
    (if (s0 : Int32) = 0 then sm_wp X 286 89 [some (.ref 81), some (.int x1), some (.int x2), some (.int x3)] [] (sM mo G I J) Q else (vp_in x2 12 ∧ (vp_in (I 123 (x2.toNatClampNeg)) 12 ∧ (if ¬ (((I 86 ((I 123 (x2.toNatClampNeg)).toNatClampNeg)) >>> (x3 &&& 31)) &&& 1 : Int32) = 0 then sm_wp X 286 91 [some (.ref 81), some (.int x1), some (.int x2), some (.int x3)] [] (sM mo G I J) Q else (True ∧ Q (some (.int 0)) (sM mo G I J)))))) :=
  (sm_blk X 286 68 (tt_lin 286 (by decide)) rfl rfl _ _ _ _).trans rfl
set_option maxRecDepth 100000 in
theorem bk_286_89 (X : (Nat → Int32) × Nat) (mo : Bool) (G : Nat × Nat) (I : Nat → Nat → Int32) (J : Nat → Nat → Int64) (Q : Option Value → sm_M → Prop) (x1 : Int32) (x2 : Int32) (x3 : Int32) :
    sm_wp X 286 89 [some (.ref 81), some (.int x1), some (.int x2), some (.int x3)] [] (sM mo G I J) Q =
    (True ∧ Q (some (.int 0)) (sM mo G I J)) :=
  (sm_blk X 286 89 (tt_lin 286 (by decide)) rfl rfl _ _ _ _).trans rfl
set_option maxRecDepth 100000 in
theorem bk_286_91 (X : (Nat → Int32) × Nat) (mo : Bool) (G : Nat × Nat) (I : Nat → Nat → Int32) (J : Nat → Nat → Int64) (Q : Option Value → sm_M → Prop) (x1 : Int32) (x2 : Int32) (x3 : Int32) :
    sm_wp X 286 91 [some (.ref 81), some (.int x1), some (.int x2), some (.int x3)] [] (sM mo G I J) Q =
    (vp_in x3 6 ∧ (vp_in x2 12 ∧ (vp_in ((12 * x3) + (I 123 (x2.toNatClampNeg))) 72 ∧ (vp_in x3 6 ∧ (sm_wp X 286 46 [some (.ref 81), some (.int x1), some (.int (x2 + 1)), none] [] (sM mo G (up2 I 128 x3.toNatClampNeg ((I 128 (x3.toNatClampNeg)) + (I 91 (((12 * x3) + (I 123 (x2.toNatClampNeg))).toNatClampNeg)))) J) Q))))) :=
  (sm_blk X 286 91 (tt_lin 286 (by decide)) rfl rfl _ _ _ _).trans rfl
set_option maxRecDepth 100000 in
theorem bk_286_122 (X : (Nat → Int32) × Nat) (mo : Bool) (G : Nat × Nat) (I : Nat → Nat → Int32) (J : Nat → Nat → Int64) (Q : Option Value → sm_M → Prop) (x1 : Int32) (x2 : Int32) :
    sm_wp X 286 122 [some (.ref 81), some (.int x1), some (.int x2), none] [] (sM mo G I J) Q =
    (sm_wp X 279 0 [some (.ref 81), none] [] (sM mo G I J) (fun v M => sm_wp X 286 126 [some (.ref 81), some (.int x1), some (.int x2), none] (v.toList ++ []) M Q)) :=
  (sm_blk X 286 122 (tt_lin 286 (by decide)) rfl rfl _ _ _ _).trans rfl
set_option maxRecDepth 100000 in
theorem bk_286_126 (X : (Nat → Int32) × Nat) (mo : Bool) (G : Nat × Nat) (I : Nat → Nat → Int32) (J : Nat → Nat → Int64) (Q : Option Value → sm_M → Prop) (x1 : Int32) (x2 : Int32) (s0 : Int32) :
    sm_wp X 286 126 [some (.ref 81), some (.int x1), some (.int x2), none] [.int s0] (sM mo G I J) Q =
    (if ¬ (s0 : Int32) = 0 then sm_wp X 286 131 [some (.ref 81), some (.int x1), some (.int x2), none] [] (sM mo G I J) Q else (True ∧ Q (some (.int 1)) (sM mo G I J))) :=
  (sm_blk X 286 126 (tt_lin 286 (by decide)) rfl rfl _ _ _ _).trans rfl
set_option maxRecDepth 100000 in
theorem bk_286_131 (X : (Nat → Int32) × Nat) (mo : Bool) (G : Nat × Nat) (I : Nat → Nat → Int32) (J : Nat → Nat → Int64) (Q : Option Value → sm_M → Prop) (x1 : Int32) (x2 : Int32) :
    sm_wp X 286 131 [some (.ref 81), some (.int x1), some (.int x2), none] [] (sM mo G I J) Q =
    (sm_wp X 277 0 [some (.ref 81), none, none, none, none, none, none, none] [] (sM mo G I J) (fun v M => sm_wp X 286 135 [some (.ref 81), some (.int x1), some (.int x2), none] (v.toList ++ []) M Q)) :=
  (sm_blk X 286 131 (tt_lin 286 (by decide)) rfl rfl _ _ _ _).trans rfl
set_option maxRecDepth 100000 in
theorem bk_286_135 (X : (Nat → Int32) × Nat) (mo : Bool) (G : Nat × Nat) (I : Nat → Nat → Int32) (J : Nat → Nat → Int64) (Q : Option Value → sm_M → Prop) (x1 : Int32) (x2 : Int32) :
    sm_wp X 286 135 [some (.ref 81), some (.int x1), some (.int x2), none] [] (sM mo G I J) Q =
    (sm_wp X 280 0 [some (.ref 81), none, none] [] (sM mo G I J) (fun v M => sm_wp X 286 139 [some (.ref 81), some (.int x1), some (.int x2), none] (v.toList ++ []) M Q)) :=
  (sm_blk X 286 135 (tt_lin 286 (by decide)) rfl rfl _ _ _ _).trans rfl
set_option maxRecDepth 100000 in
theorem bk_286_139 (X : (Nat → Int32) × Nat) (mo : Bool) (G : Nat × Nat) (I : Nat → Nat → Int32) (J : Nat → Nat → Int64) (Q : Option Value → sm_M → Prop) (x1 : Int32) (x2 : Int32) (s0 : Int32) :
    sm_wp X 286 139 [some (.ref 81), some (.int x1), some (.int x2), none] [.int s0] (sM mo G I J) Q =
    (if (s0 : Int32) = 0 then sm_wp X 286 146 [some (.ref 81), some (.int x1), some (.int x2), none] [] (sM mo G I J) Q else (sm_wp X 286 147 [some (.ref 81), some (.int x1), some (.int x2), none] [.int 3] (sM mo G I J) Q)) :=
  (sm_blk X 286 139 (tt_lin 286 (by decide)) rfl rfl _ _ _ _).trans rfl
set_option maxRecDepth 100000 in
theorem bk_286_146 (X : (Nat → Int32) × Nat) (mo : Bool) (G : Nat × Nat) (I : Nat → Nat → Int32) (J : Nat → Nat → Int64) (Q : Option Value → sm_M → Prop) (x1 : Int32) (x2 : Int32) :
    sm_wp X 286 146 [some (.ref 81), some (.int x1), some (.int x2), none] [] (sM mo G I J) Q =
    (True ∧ Q (some (.int 2)) (sM mo G I J)) :=
  (sm_blk X 286 146 (tt_lin 286 (by decide)) rfl rfl _ _ _ _).trans rfl
set_option maxRecDepth 100000 in
theorem bk_286_147 (X : (Nat → Int32) × Nat) (mo : Bool) (G : Nat × Nat) (I : Nat → Nat → Int32) (J : Nat → Nat → Int64) (Q : Option Value → sm_M → Prop) (x1 : Int32) (x2 : Int32) (s0 : Int32) :
    sm_wp X 286 147 [some (.ref 81), some (.int x1), some (.int x2), none] [.int s0] (sM mo G I J) Q =
    (True ∧ Q (some (.int s0)) (sM mo G I J)) :=
  (sm_blk X 286 147 (tt_lin 286 (by decide)) rfl rfl _ _ _ _).trans rfl
set_option maxRecDepth 100000 in
theorem bk_287_0 (X : (Nat → Int32) × Nat) (mo : Bool) (G : Nat × Nat) (I : Nat → Nat → Int32) (J : Nat → Nat → Int64) (Q : Option Value → sm_M → Prop) (x1 : Int32) :
    sm_wp X 287 0 [some (.ref 81), some (.int x1), none, none] [] (sM mo G I J) Q =
    (sm_wp X 210 0 [some (.int x1), some (.int 0), some (.int 8)] [] (sM mo G (up2 I 81 2 0) J) (fun v M => sm_wp X 287 12 [some (.ref 81), some (.int x1), none, none] (v.toList ++ []) M Q)) :=
  (sm_blk X 287 0 (tt_lin 287 (by decide)) rfl rfl _ _ _ _).trans rfl
set_option maxRecDepth 100000 in
theorem bk_287_12 (X : (Nat → Int32) × Nat) (mo : Bool) (G : Nat × Nat) (I : Nat → Nat → Int32) (J : Nat → Nat → Int64) (Q : Option Value → sm_M → Prop) (x1 : Int32) (s0 : Int32) :
    sm_wp X 287 12 [some (.ref 81), some (.int x1), none, none] [.int s0] (sM mo G I J) Q =
    (if ¬ (s0 : Int32) = 0 then sm_wp X 287 17 [some (.ref 81), some (.int x1), none, none] [] (sM mo G I J) Q else (True ∧ Q (some (.int (-1))) (sM mo G I J))) :=
  (sm_blk X 287 12 (tt_lin 287 (by decide)) rfl rfl _ _ _ _).trans rfl
set_option maxRecDepth 100000 in
theorem bk_287_17 (X : (Nat → Int32) × Nat) (mo : Bool) (G : Nat × Nat) (I : Nat → Nat → Int32) (J : Nat → Nat → Int64) (Q : Option Value → sm_M → Prop) (x1 : Int32) :
    sm_wp X 287 17 [some (.ref 81), some (.int x1), none, none] [] (sM mo G I J) Q =
    (sm_wp X 287 19 [some (.ref 81), some (.int x1), some (.int 2), none] [] (sM mo G I J) Q) :=
  (sm_blk X 287 17 (tt_lin 287 (by decide)) rfl rfl _ _ _ _).trans rfl
set_option maxRecDepth 100000 in
theorem bk_287_19 (X : (Nat → Int32) × Nat) (mo : Bool) (G : Nat × Nat) (I : Nat → Nat → Int32) (J : Nat → Nat → Int64) (Q : Option Value → sm_M → Prop) (x1 : Int32) (x2 : Int32) :
    sm_wp X 287 19 [some (.ref 81), some (.int x1), some (.int x2), none] [] (sM mo G I J) Q =
    (if (5 : Int32) ≤ (x2 : Int32) then sm_wp X 287 38 [some (.ref 81), some (.int x1), some (.int x2), none] [] (sM mo G I J) Q else (sm_wp X 288 0 [some (.ref 81), some (.int x2), none, none, none, none, none, none, none] [] (sM mo G I J) (fun v M => sm_wp X 287 29 [some (.ref 81), some (.int x1), some (.int x2), none] (v.toList ++ []) M Q))) :=
  (sm_blk X 287 19 (tt_lin 287 (by decide)) rfl rfl _ _ _ _).trans rfl
set_option maxRecDepth 100000 in
theorem bk_287_29 (X : (Nat → Int32) × Nat) (mo : Bool) (G : Nat × Nat) (I : Nat → Nat → Int32) (J : Nat → Nat → Int64) (Q : Option Value → sm_M → Prop) (x1 : Int32) (x2 : Int32) (s0 : Int32) :
    sm_wp X 287 29 [some (.ref 81), some (.int x1), some (.int x2), none] [.int s0] (sM mo G I J) Q =
    (if ¬ (s0 : Int32) = 0 then sm_wp X 287 38 [some (.ref 81), some (.int x1), some (.int x2), none] [] (sM mo G I J) Q else (sm_wp X 287 19 [some (.ref 81), some (.int x1), some (.int (x2 + 1)), none] [] (sM mo G I J) Q)) :=
  (sm_blk X 287 29 (tt_lin 287 (by decide)) rfl rfl _ _ _ _).trans rfl
set_option maxRecDepth 100000 in
theorem bk_287_38 (X : (Nat → Int32) × Nat) (mo : Bool) (G : Nat × Nat) (I : Nat → Nat → Int32) (J : Nat → Nat → Int64) (Q : Option Value → sm_M → Prop) (x1 : Int32) (x2 : Int32) :
    sm_wp X 287 38 [some (.ref 81), some (.int x1), some (.int x2), none] [] (sM mo G I J) Q =
    (if ¬ (x2 : Int32) = (5 : Int32) then sm_wp X 287 53 [some (.ref 81), some (.int x1), some (.int x2), none] [] (sM mo G I J) Q else (if ¬ (x1 : Int32) = 0 then sm_wp X 287 51 [some (.ref 81), some (.int x1), some (.int x2), none] [] (sM mo G I J) Q else (sm_wp X 287 52 [some (.ref 81), some (.int x1), some (.int x2), none] [.int 0] (sM mo G I J) Q))) :=
  (sm_blk X 287 38 (tt_lin 287 (by decide)) rfl rfl _ _ _ _).trans rfl
set_option maxRecDepth 100000 in
theorem bk_287_51 (X : (Nat → Int32) × Nat) (mo : Bool) (G : Nat × Nat) (I : Nat → Nat → Int32) (J : Nat → Nat → Int64) (Q : Option Value → sm_M → Prop) (x1 : Int32) (x2 : Int32) :
    sm_wp X 287 51 [some (.ref 81), some (.int x1), some (.int x2), none] [] (sM mo G I J) Q =
    (True ∧ Q (some (.int (-1))) (sM mo G I J)) :=
  (sm_blk X 287 51 (tt_lin 287 (by decide)) rfl rfl _ _ _ _).trans rfl
set_option maxRecDepth 100000 in
theorem bk_287_52 (X : (Nat → Int32) × Nat) (mo : Bool) (G : Nat × Nat) (I : Nat → Nat → Int32) (J : Nat → Nat → Int64) (Q : Option Value → sm_M → Prop) (x1 : Int32) (x2 : Int32) (s0 : Int32) :
    sm_wp X 287 52 [some (.ref 81), some (.int x1), some (.int x2), none] [.int s0] (sM mo G I J) Q =
    (True ∧ Q (some (.int s0)) (sM mo G I J)) :=
  (sm_blk X 287 52 (tt_lin 287 (by decide)) rfl rfl _ _ _ _).trans rfl
set_option maxRecDepth 100000 in
theorem bk_287_53 (X : (Nat → Int32) × Nat) (mo : Bool) (G : Nat × Nat) (I : Nat → Nat → Int32) (J : Nat → Nat → Int64) (Q : Option Value → sm_M → Prop) (x1 : Int32) (x2 : Int32) :
    sm_wp X 287 53 [some (.ref 81), some (.int x1), some (.int x2), none] [] (sM mo G I J) Q =
    (if ¬ (x1 : Int32) = 0 then sm_wp X 287 59 [some (.ref 81), some (.int x1), some (.int x2), none] [] (sM mo G I J) Q else (True ∧ Q (some (.int x2)) (sM mo G I J))) :=
  (sm_blk X 287 53 (tt_lin 287 (by decide)) rfl rfl _ _ _ _).trans rfl
set_option maxRecDepth 100000 in
theorem bk_287_59 (X : (Nat → Int32) × Nat) (mo : Bool) (G : Nat × Nat) (I : Nat → Nat → Int32) (J : Nat → Nat → Int64) (Q : Option Value → sm_M → Prop) (x1 : Int32) (x2 : Int32) :
    sm_wp X 287 59 [some (.ref 81), some (.int x1), some (.int x2), none] [] (sM mo G I J) Q =
    (if (5 : Int32) ≤ (x1 : Int32) then sm_wp X 287 70 [some (.ref 81), some (.int x1), some (.int x2), none] [] (sM mo G I J) Q else (sm_wp X 287 73 [some (.ref 81), some (.int x1), some (.int x2), none] [.int (x1 - 1)] (sM mo G I J) Q)) :=
  (sm_blk X 287 59 (tt_lin 287 (by decide)) rfl rfl _ _ _ _).trans rfl
set_option maxRecDepth 100000 in
theorem bk_287_70 (X : (Nat → Int32) × Nat) (mo : Bool) (G : Nat × Nat) (I : Nat → Nat → Int32) (J : Nat → Nat → Int64) (Q : Option Value → sm_M → Prop) (x1 : Int32) (x2 : Int32) :
    sm_wp X 287 70 [some (.ref 81), some (.int x1), some (.int x2), none] [] (sM mo G I J) Q =
    (if (x1 - 5 : Int32) < (x2 : Int32) then sm_wp X 287 81 [some (.ref 81), some (.int x1), some (.int x2), some (.int (x1 - 5))] [] (sM mo G I J) Q else (True ∧ Q (some (.int (-1))) (sM mo G I J))) :=
  (sm_blk X 287 70 (tt_lin 287 (by decide)) rfl rfl _ _ _ _).trans rfl
set_option maxRecDepth 100000 in
theorem bk_287_73 (X : (Nat → Int32) × Nat) (mo : Bool) (G : Nat × Nat) (I : Nat → Nat → Int32) (J : Nat → Nat → Int64) (Q : Option Value → sm_M → Prop) (x1 : Int32) (x2 : Int32) (s0 : Int32) :
    sm_wp X 287 73 [some (.ref 81), some (.int x1), some (.int x2), none] [.int s0] (sM mo G I J) Q =
    (if (s0 : Int32) < (x2 : Int32) then sm_wp X 287 81 [some (.ref 81), some (.int x1), some (.int x2), some (.int s0)] [] (sM mo G I J) Q else (True ∧ Q (some (.int (-1))) (sM mo G I J))) :=
  (sm_blk X 287 73 (tt_lin 287 (by decide)) rfl rfl _ _ _ _).trans rfl
set_option maxRecDepth 100000 in
theorem bk_287_81 (X : (Nat → Int32) × Nat) (mo : Bool) (G : Nat × Nat) (I : Nat → Nat → Int32) (J : Nat → Nat → Int64) (Q : Option Value → sm_M → Prop) (x1 : Int32) (x2 : Int32) (x3 : Int32) :
    sm_wp X 287 81 [some (.ref 81), some (.int x1), some (.int x2), some (.int x3)] [] (sM mo G I J) Q =
    (if (5 : Int32) ≤ (x1 : Int32) then sm_wp X 287 95 [some (.ref 81), some (.int x1), some (.int x2), some (.int x3)] [] (sM mo G I J) Q else (vp_in x3 4 ∧ (sm_wp X 287 101 [some (.ref 81), some (.int x1), some (.int x2), some (.int x3)] [.int (I 133 (x3.toNatClampNeg))] (sM mo G I J) Q))) :=
  (sm_blk X 287 81 (tt_lin 287 (by decide)) rfl rfl _ _ _ _).trans rfl
set_option maxRecDepth 100000 in
theorem bk_287_95 (X : (Nat → Int32) × Nat) (mo : Bool) (G : Nat × Nat) (I : Nat → Nat → Int32) (J : Nat → Nat → Int64) (Q : Option Value → sm_M → Prop) (x1 : Int32) (x2 : Int32) (x3 : Int32) :
    sm_wp X 287 95 [some (.ref 81), some (.int x1), some (.int x2), some (.int x3)] [] (sM mo G I J) Q =
    (vp_in x3 4 ∧ (True ∧ Q (some (.int (I 134 (x3.toNatClampNeg)))) (sM mo G I J))) :=
  (sm_blk X 287 95 (tt_lin 287 (by decide)) rfl rfl _ _ _ _).trans rfl
set_option maxRecDepth 100000 in
theorem bk_287_101 (X : (Nat → Int32) × Nat) (mo : Bool) (G : Nat × Nat) (I : Nat → Nat → Int32) (J : Nat → Nat → Int64) (Q : Option Value → sm_M → Prop) (x1 : Int32) (x2 : Int32) (x3 : Int32) (s0 : Int32) :
    sm_wp X 287 101 [some (.ref 81), some (.int x1), some (.int x2), some (.int x3)] [.int s0] (sM mo G I J) Q =
    (True ∧ Q (some (.int s0)) (sM mo G I J)) :=
  (sm_blk X 287 101 (tt_lin 287 (by decide)) rfl rfl _ _ _ _).trans rfl
set_option maxRecDepth 100000 in
theorem bk_288_0 (X : (Nat → Int32) × Nat) (mo : Bool) (G : Nat × Nat) (I : Nat → Nat → Int32) (J : Nat → Nat → Int64) (Q : Option Value → sm_M → Prop) (x1 : Int32) :
    sm_wp X 288 0 [some (.ref 81), some (.int x1), none, none, none, none, none, none, none] [] (sM mo G I J) Q =
    (sm_wp X 288 7 [some (.ref 81), some (.int x1), some (.int 1), some (.int 1), some (.int 0), none, none, none, none] [] (sM mo G I J) Q) :=
  (sm_blk X 288 0 (tt_lin 288 (by decide)) rfl rfl _ _ _ _).trans rfl
set_option maxRecDepth 100000 in
theorem bk_288_7 (X : (Nat → Int32) × Nat) (mo : Bool) (G : Nat × Nat) (I : Nat → Nat → Int32) (J : Nat → Nat → Int64) (Q : Option Value → sm_M → Prop) (x1 : Int32) (x2 : Int32) (x3 : Int32) (x4 : Int32) :
    sm_wp X 288 7 [some (.ref 81), some (.int x1), some (.int x2), some (.int x3), some (.int x4), none, none, none, none] [] (sM mo G I J) Q =
    (if (x1 : Int32) ≤ (x4 : Int32) then sm_wp X 288 31 [some (.ref 81), some (.int x1), some (.int x2), some (.int x3), some (.int x4), none, none, none, none] [] (sM mo G I J) Q else (sm_wp X 288 7 [some (.ref 81), some (.int x1), some (.int (x2 * 6)), some (.int (x3 * (I 81 3))), some (.int (x4 + 1)), none, none, none, none] [] (sM mo G I J) Q)) :=
  (sm_blk X 288 7 (tt_lin 288 (by decide)) rfl rfl _ _ _ _).trans rfl
set_option maxRecDepth 100000 in
theorem bk_288_31 (X : (Nat → Int32) × Nat) (mo : Bool) (G : Nat × Nat) (I : Nat → Nat → Int32) (J : Nat → Nat → Int64) (Q : Option Value → sm_M → Prop) (x1 : Int32) (x2 : Int32) (x3 : Int32) (x4 : Int32) :
    sm_wp X 288 31 [some (.ref 81), some (.int x1), some (.int x2), some (.int x3), some (.int x4), none, none, none, none] [] (sM mo G I J) Q =
    (sm_wp X 288 34 [some (.ref 81), some (.int x1), some (.int x2), some (.int x3), some (.int 0), none, none, none, none] [] (sM mo G I J) Q) :=
  (sm_blk X 288 31 (tt_lin 288 (by decide)) rfl rfl _ _ _ _).trans rfl
set_option maxRecDepth 100000 in
theorem bk_288_34 (X : (Nat → Int32) × Nat) (mo : Bool) (G : Nat × Nat) (I : Nat → Nat → Int32) (J : Nat → Nat → Int64) (Q : Option Value → sm_M → Prop) (x1 : Int32) (x2 : Int32) (x3 : Int32) (x4 : Int32) :
    sm_wp X 288 34 [some (.ref 81), some (.int x1), some (.int x2), some (.int x3), some (.int x4), none, none, none, none] [] (sM mo G I J) Q =
    (if (x2 : Int32) ≤ (x4 : Int32) then sm_wp X 288 164 [some (.ref 81), some (.int x1), some (.int x2), some (.int x3), some (.int x4), none, none, none, none] [] (sM mo G I J) Q else (sm_wp X 288 49 [some (.ref 81), some (.int x1), some (.int x2), some (.int x3), some (.int x4), some (.int x4), some (.int (x1 - 1)), none, none] [] (sM mo G I J) Q)) :=
  (sm_blk X 288 34 (tt_lin 288 (by decide)) rfl rfl _ _ _ _).trans rfl
set_option maxRecDepth 100000 in
theorem bk_288_49 (X : (Nat → Int32) × Nat) (mo : Bool) (G : Nat × Nat) (I : Nat → Nat → Int32) (J : Nat → Nat → Int64) (Q : Option Value → sm_M → Prop) (x1 : Int32) (x2 : Int32) (x3 : Int32) (x4 : Int32) (x5 : Int32) (x6 : Int32) :
    sm_wp X 288 49 [some (.ref 81), some (.int x1), some (.int x2), some (.int x3), some (.int x4), some (.int x5), some (.int x6), none, none] [] (sM mo G I J) Q =
    (if (x6 : Int32) < 0 then sm_wp X 288 79 [some (.ref 81), some (.int x1), some (.int x2), some (.int x3), some (.int x4), some (.int x5), some (.int x6), none, none] [] (sM mo G I J) Q else (¬ (6 : Int32) = 0 ∧ (vp_in x6 4 ∧ (¬ (6 : Int32) = 0 ∧ (sm_wp X 288 49 [some (.ref 81), some (.int x1), some (.int x2), some (.int x3), some (.int x4), some (.int (x5 / 6)), some (.int (x6 + (-1))), none, none] [] (sM mo G (up2 I 133 x6.toNatClampNeg (x5 - x5 / 6 * 6)) J) Q))))) :=
  (sm_blk X 288 49 (tt_lin 288 (by decide)) rfl rfl _ _ _ _).trans rfl
set_option maxRecDepth 100000 in
theorem bk_288_79 (X : (Nat → Int32) × Nat) (mo : Bool) (G : Nat × Nat) (I : Nat → Nat → Int32) (J : Nat → Nat → Int64) (Q : Option Value → sm_M → Prop) (x1 : Int32) (x2 : Int32) (x3 : Int32) (x4 : Int32) (x5 : Int32) (x6 : Int32) :
    sm_wp X 288 79 [some (.ref 81), some (.int x1), some (.int x2), some (.int x3), some (.int x4), some (.int x5), some (.int x6), none, none] [] (sM mo G I J) Q =
    (sm_wp X 289 0 [some (.ref 81), some (.int x1), none, none] [] (sM mo G I J) (fun v M => sm_wp X 288 84 [some (.ref 81), some (.int x1), some (.int x2), some (.int x3), some (.int x4), some (.int x5), some (.int x6), none, none] (v.toList ++ []) M Q)) :=
  (sm_blk X 288 79 (tt_lin 288 (by decide)) rfl rfl _ _ _ _).trans rfl
set_option maxRecDepth 100000 in
theorem bk_288_84 (X : (Nat → Int32) × Nat) (mo : Bool) (G : Nat × Nat) (I : Nat → Nat → Int32) (J : Nat → Nat → Int64) (Q : Option Value → sm_M → Prop) (x1 : Int32) (x2 : Int32) (x3 : Int32) (x4 : Int32) (x5 : Int32) (x6 : Int32) (s0 : Int32) :
    sm_wp X 288 84 [some (.ref 81), some (.int x1), some (.int x2), some (.int x3), some (.int x4), some (.int x5), some (.int x6), none, none] [.int s0] (sM mo G I J) Q =
    (if ¬ (s0 : Int32) = 0 then sm_wp X 288 90 [some (.ref 81), some (.int x1), some (.int x2), some (.int x3), some (.int x4), some (.int x5), some (.int x6), none, none] [] (sM mo G I J) Q else (sm_wp X 288 158 [some (.ref 81), some (.int x1), some (.int x2), some (.int x3), some (.int x4), some (.int x5), some (.int x6), none, none] [] (sM mo G I J) Q)) :=
  (sm_blk X 288 84 (tt_lin 288 (by decide)) rfl rfl _ _ _ _).trans rfl
set_option maxRecDepth 100000 in
theorem bk_288_90 (X : (Nat → Int32) × Nat) (mo : Bool) (G : Nat × Nat) (I : Nat → Nat → Int32) (J : Nat → Nat → Int64) (Q : Option Value → sm_M → Prop) (x1 : Int32) (x2 : Int32) (x3 : Int32) (x4 : Int32) (x5 : Int32) (x6 : Int32) :
    sm_wp X 288 90 [some (.ref 81), some (.int x1), some (.int x2), some (.int x3), some (.int x4), some (.int x5), some (.int x6), none, none] [] (sM mo G I J) Q =
    (sm_wp X 288 93 [some (.ref 81), some (.int x1), some (.int x2), some (.int x3), some (.int x4), none, some (.int 0), none, none] [] (sM mo G I J) Q) :=
  (sm_blk X 288 90 (tt_lin 288 (by decide)) rfl rfl _ _ _ _).trans rfl
set_option maxRecDepth 100000 in
theorem bk_288_93 (X : (Nat → Int32) × Nat) (mo : Bool) (G : Nat × Nat) (I : Nat → Nat → Int32) (J : Nat → Nat → Int64) (Q : Option Value → sm_M → Prop) (x1 : Int32) (x2 : Int32) (x3 : Int32) (x4 : Int32) (x6 : Int32) :
    sm_wp X 288 93 [some (.ref 81), some (.int x1), some (.int x2), some (.int x3), some (.int x4), none, some (.int x6), none, none] [] (sM mo G I J) Q =
    (if (x3 : Int32) ≤ (x6 : Int32) then sm_wp X 288 158 [some (.ref 81), some (.int x1), some (.int x2), some (.int x3), some (.int x4), none, some (.int x6), none, none] [] (sM mo G I J) Q else (sm_wp X 288 108 [some (.ref 81), some (.int x1), some (.int x2), some (.int x3), some (.int x4), none, some (.int x6), some (.int x6), some (.int (x1 - 1))] [] (sM mo G I J) Q)) :=
  (sm_blk X 288 93 (tt_lin 288 (by decide)) rfl rfl _ _ _ _).trans rfl
set_option maxRecDepth 100000 in
theorem bk_288_108 (X : (Nat → Int32) × Nat) (mo : Bool) (G : Nat × Nat) (I : Nat → Nat → Int32) (J : Nat → Nat → Int64) (Q : Option Value → sm_M → Prop) (x1 : Int32) (x2 : Int32) (x3 : Int32) (x4 : Int32) (x6 : Int32) (x7 : Int32) (x8 : Int32) :
    sm_wp X 288 108 [some (.ref 81), some (.int x1), some (.int x2), some (.int x3), some (.int x4), none, some (.int x6), some (.int x7), some (.int x8)] [] (sM mo G I J) Q =
    (if (x8 : Int32) < 0 then sm_wp X 288 142 [some (.ref 81), some (.int x1), some (.int x2), some (.int x3), some (.int x4), none, some (.int x6), some (.int x7), some (.int x8)] [] (sM mo G I J) Q else (¬ (I 81 3 : Int32) = 0 ∧ (vp_in x8 4 ∧ (¬ ((up2 I 134 x8.toNatClampNeg (x7 - x7 / (I 81 3) * (I 81 3))) 81 3 : Int32) = 0 ∧ (sm_wp X 288 108 [some (.ref 81), some (.int x1), some (.int x2), some (.int x3), some (.int x4), none, some (.int x6), some (.int (x7 / ((up2 I 134 x8.toNatClampNeg (x7 - x7 / (I 81 3) * (I 81 3))) 81 3))), some (.int (x8 + (-1)))] [] (sM mo G (up2 I 134 x8.toNatClampNeg (x7 - x7 / (I 81 3) * (I 81 3))) J) Q))))) :=
  (sm_blk X 288 108 (tt_lin 288 (by decide)) rfl rfl _ _ _ _).trans rfl
set_option maxRecDepth 100000 in
theorem bk_288_142 (X : (Nat → Int32) × Nat) (mo : Bool) (G : Nat × Nat) (I : Nat → Nat → Int32) (J : Nat → Nat → Int64) (Q : Option Value → sm_M → Prop) (x1 : Int32) (x2 : Int32) (x3 : Int32) (x4 : Int32) (x6 : Int32) (x7 : Int32) (x8 : Int32) :
    sm_wp X 288 142 [some (.ref 81), some (.int x1), some (.int x2), some (.int x3), some (.int x4), none, some (.int x6), some (.int x7), some (.int x8)] [] (sM mo G I J) Q =
    (sm_wp X 290 0 [some (.ref 81), some (.int x1), none, none, none] [] (sM mo G I J) (fun v M => sm_wp X 288 147 [some (.ref 81), some (.int x1), some (.int x2), some (.int x3), some (.int x4), none, some (.int x6), some (.int x7), some (.int x8)] (v.toList ++ []) M Q)) :=
  (sm_blk X 288 142 (tt_lin 288 (by decide)) rfl rfl _ _ _ _).trans rfl
set_option maxRecDepth 100000 in
theorem bk_288_147 (X : (Nat → Int32) × Nat) (mo : Bool) (G : Nat × Nat) (I : Nat → Nat → Int32) (J : Nat → Nat → Int64) (Q : Option Value → sm_M → Prop) (x1 : Int32) (x2 : Int32) (x3 : Int32) (x4 : Int32) (x6 : Int32) (x7 : Int32) (x8 : Int32) (s0 : Int32) :
    sm_wp X 288 147 [some (.ref 81), some (.int x1), some (.int x2), some (.int x3), some (.int x4), none, some (.int x6), some (.int x7), some (.int x8)] [.int s0] (sM mo G I J) Q =
    (if (s0 : Int32) = 0 then sm_wp X 288 152 [some (.ref 81), some (.int x1), some (.int x2), some (.int x3), some (.int x4), none, some (.int x6), some (.int x7), some (.int x8)] [] (sM mo G I J) Q else (sm_zb 1 ∧ Q (some (.int 1)) (sM mo G I J))) :=
  (sm_blk X 288 147 (tt_lin 288 (by decide)) rfl rfl _ _ _ _).trans rfl
set_option maxRecDepth 100000 in
theorem bk_288_152 (X : (Nat → Int32) × Nat) (mo : Bool) (G : Nat × Nat) (I : Nat → Nat → Int32) (J : Nat → Nat → Int64) (Q : Option Value → sm_M → Prop) (x1 : Int32) (x2 : Int32) (x3 : Int32) (x4 : Int32) (x6 : Int32) (x7 : Int32) (x8 : Int32) :
    sm_wp X 288 152 [some (.ref 81), some (.int x1), some (.int x2), some (.int x3), some (.int x4), none, some (.int x6), some (.int x7), some (.int x8)] [] (sM mo G I J) Q =
    (sm_wp X 288 93 [some (.ref 81), some (.int x1), some (.int x2), some (.int x3), some (.int x4), none, some (.int (x6 + 1)), none, none] [] (sM mo G I J) Q) :=
  (sm_blk X 288 152 (tt_lin 288 (by decide)) rfl rfl _ _ _ _).trans rfl
set_option maxRecDepth 100000 in
theorem bk_288_158 (X : (Nat → Int32) × Nat) (mo : Bool) (G : Nat × Nat) (I : Nat → Nat → Int32) (J : Nat → Nat → Int64) (Q : Option Value → sm_M → Prop) (x1 : Int32) (x2 : Int32) (x3 : Int32) (x4 : Int32) (x6 : Int32) :
    sm_wp X 288 158 [some (.ref 81), some (.int x1), some (.int x2), some (.int x3), some (.int x4), none, some (.int x6), none, none] [] (sM mo G I J) Q =
    (sm_wp X 288 34 [some (.ref 81), some (.int x1), some (.int x2), some (.int x3), some (.int (x4 + 1)), none, none, none, none] [] (sM mo G I J) Q) :=
  (sm_blk X 288 158 (tt_lin 288 (by decide)) rfl rfl _ _ _ _).trans rfl
set_option maxRecDepth 100000 in
theorem bk_288_164 (X : (Nat → Int32) × Nat) (mo : Bool) (G : Nat × Nat) (I : Nat → Nat → Int32) (J : Nat → Nat → Int64) (Q : Option Value → sm_M → Prop) (x1 : Int32) (x2 : Int32) (x3 : Int32) (x4 : Int32) :
    sm_wp X 288 164 [some (.ref 81), some (.int x1), some (.int x2), some (.int x3), some (.int x4), none, none, none, none] [] (sM mo G I J) Q =
    (sm_zb 0 ∧ Q (some (.int 0)) (sM mo G I J)) :=
  (sm_blk X 288 164 (tt_lin 288 (by decide)) rfl rfl _ _ _ _).trans rfl
set_option maxRecDepth 100000 in
theorem bk_289_0 (X : (Nat → Int32) × Nat) (mo : Bool) (G : Nat × Nat) (I : Nat → Nat → Int32) (J : Nat → Nat → Int64) (Q : Option Value → sm_M → Prop) (x1 : Int32) :
    sm_wp X 289 0 [some (.ref 81), some (.int x1), none, none] [] (sM mo G I J) Q =
    (sm_wp X 289 2 [some (.ref 81), some (.int x1), some (.int 0), none] [] (sM mo G I J) Q) :=
  (sm_blk X 289 0 (tt_lin 289 (by decide)) rfl rfl _ _ _ _).trans rfl
set_option maxRecDepth 100000 in
theorem bk_289_2 (X : (Nat → Int32) × Nat) (mo : Bool) (G : Nat × Nat) (I : Nat → Nat → Int32) (J : Nat → Nat → Int64) (Q : Option Value → sm_M → Prop) (x1 : Int32) (x2 : Int32) :
    sm_wp X 289 2 [some (.ref 81), some (.int x1), some (.int x2), none] [] (sM mo G I J) Q =
    (if (x1 : Int32) ≤ (x2 : Int32) then sm_wp X 289 77 [some (.ref 81), some (.int x1), some (.int x2), none] [] (sM mo G I J) Q else (vp_in x2 4 ∧ (sm_wp X 215 0 [some (.ref 81), some (.int (I 133 (x2.toNatClampNeg)))] [] (sM mo G I J) (fun v M => sm_wp X 289 17 [some (.ref 81), some (.int x1), some (.int x2), none] (v.toList ++ []) M Q)))) :=
  (sm_blk X 289 2 (tt_lin 289 (by decide)) rfl rfl _ _ _ _).trans rfl
set_option maxRecDepth 100000 in
theorem bk_289_17 (X : (Nat → Int32) × Nat) (mo : Bool) (G : Nat × Nat) (I : Nat → Nat → Int32) (J : Nat → Nat → Int64) (Q : Option Value → sm_M → Prop) (x1 : Int32) (x2 : Int32) (s0 : Int32) :
    sm_wp X 289 17 [some (.ref 81), some (.int x1), some (.int x2), none] [.int s0] (sM mo G I J) Q =
    (if (s0 : Int32) = 0 then sm_wp X 289 39 [some (.ref 81), some (.int x1), some (.int x2), none] [] (sM mo G I J) Q else (if (x2 : Int32) ≤ 0 then sm_wp X 289 41 [some (.ref 81), some (.int x1), some (.int x2), none] [] (sM mo G I J) Q else (vp_in x2 4 ∧ (vp_in 0 4 ∧ (if (I 133 ((0 : Int32).toNatClampNeg) : Int32) < (I 133 (x2.toNatClampNeg) : Int32) then sm_wp X 289 41 [some (.ref 81), some (.int x1), some (.int x2), none] [] (sM mo G I J) Q else (sm_zb 0 ∧ Q (some (.int 0)) (sM mo G I J))))))) :=
  (sm_blk X 289 17 (tt_lin 289 (by decide)) rfl rfl _ _ _ _).trans rfl
set_option maxRecDepth 100000 in
theorem bk_289_39 (X : (Nat → Int32) × Nat) (mo : Bool) (G : Nat × Nat) (I : Nat → Nat → Int32) (J : Nat → Nat → Int64) (Q : Option Value → sm_M → Prop) (x1 : Int32) (x2 : Int32) :
    sm_wp X 289 39 [some (.ref 81), some (.int x1), some (.int x2), none] [] (sM mo G I J) Q =
    (sm_zb 0 ∧ Q (some (.int 0)) (sM mo G I J)) :=
  (sm_blk X 289 39 (tt_lin 289 (by decide)) rfl rfl _ _ _ _).trans rfl
set_option maxRecDepth 100000 in
theorem bk_289_41 (X : (Nat → Int32) × Nat) (mo : Bool) (G : Nat × Nat) (I : Nat → Nat → Int32) (J : Nat → Nat → Int64) (Q : Option Value → sm_M → Prop) (x1 : Int32) (x2 : Int32) :
    sm_wp X 289 41 [some (.ref 81), some (.int x1), some (.int x2), none] [] (sM mo G I J) Q =
    (sm_wp X 289 43 [some (.ref 81), some (.int x1), some (.int x2), some (.int 0)] [] (sM mo G I J) Q) :=
  (sm_blk X 289 41 (tt_lin 289 (by decide)) rfl rfl _ _ _ _).trans rfl
set_option maxRecDepth 100000 in
theorem bk_289_43 (X : (Nat → Int32) × Nat) (mo : Bool) (G : Nat × Nat) (I : Nat → Nat → Int32) (J : Nat → Nat → Int64) (Q : Option Value → sm_M → Prop) (x1 : Int32) (x2 : Int32) (x3 : Int32) :
    sm_wp X 289 43 [some (.ref 81), some (.int x1), some (.int x2), some (.int x3)] [] (sM mo G I J) Q =
    (if (x2 : Int32) ≤ (x3 : Int32) then sm_wp X 289 71 [some (.ref 81), some (.int x1), some (.int x2), some (.int x3)] [] (sM mo G I J) Q else (vp_in x2 4 ∧ (vp_in x3 4 ∧ (if ¬ (I 133 (x2.toNatClampNeg) : Int32) = (I 133 (x3.toNatClampNeg) : Int32) then sm_wp X 289 65 [some (.ref 81), some (.int x1), some (.int x2), some (.int x3)] [] (sM mo G I J) Q else (sm_zb 0 ∧ Q (some (.int 0)) (sM mo G I J)))))) :=
  (sm_blk X 289 43 (tt_lin 289 (by decide)) rfl rfl _ _ _ _).trans rfl
set_option maxRecDepth 100000 in
theorem bk_289_65 (X : (Nat → Int32) × Nat) (mo : Bool) (G : Nat × Nat) (I : Nat → Nat → Int32) (J : Nat → Nat → Int64) (Q : Option Value → sm_M → Prop) (x1 : Int32) (x2 : Int32) (x3 : Int32) :
    sm_wp X 289 65 [some (.ref 81), some (.int x1), some (.int x2), some (.int x3)] [] (sM mo G I J) Q =
    (sm_wp X 289 43 [some (.ref 81), some (.int x1), some (.int x2), some (.int (x3 + 1))] [] (sM mo G I J) Q) :=
  (sm_blk X 289 65 (tt_lin 289 (by decide)) rfl rfl _ _ _ _).trans rfl
set_option maxRecDepth 100000 in
theorem bk_289_71 (X : (Nat → Int32) × Nat) (mo : Bool) (G : Nat × Nat) (I : Nat → Nat → Int32) (J : Nat → Nat → Int64) (Q : Option Value → sm_M → Prop) (x1 : Int32) (x2 : Int32) (x3 : Int32) :
    sm_wp X 289 71 [some (.ref 81), some (.int x1), some (.int x2), some (.int x3)] [] (sM mo G I J) Q =
    (sm_wp X 289 2 [some (.ref 81), some (.int x1), some (.int (x2 + 1)), none] [] (sM mo G I J) Q) :=
  (sm_blk X 289 71 (tt_lin 289 (by decide)) rfl rfl _ _ _ _).trans rfl
set_option maxRecDepth 100000 in
theorem bk_289_77 (X : (Nat → Int32) × Nat) (mo : Bool) (G : Nat × Nat) (I : Nat → Nat → Int32) (J : Nat → Nat → Int64) (Q : Option Value → sm_M → Prop) (x1 : Int32) (x2 : Int32) :
    sm_wp X 289 77 [some (.ref 81), some (.int x1), some (.int x2), none] [] (sM mo G I J) Q =
    (sm_zb 1 ∧ Q (some (.int 1)) (sM mo G I J)) :=
  (sm_blk X 289 77 (tt_lin 289 (by decide)) rfl rfl _ _ _ _).trans rfl
set_option maxRecDepth 100000 in
theorem bk_290_0 (X : (Nat → Int32) × Nat) (mo : Bool) (G : Nat × Nat) (I : Nat → Nat → Int32) (J : Nat → Nat → Int64) (Q : Option Value → sm_M → Prop) (x1 : Int32) :
    sm_wp X 290 0 [some (.ref 81), some (.int x1), none, none, none] [] (sM mo G I J) Q =
    (sm_wp X 290 2 [some (.ref 81), some (.int x1), some (.int 0), none, none] [] (sM mo G I J) Q) :=
  (sm_blk X 290 0 (tt_lin 290 (by decide)) rfl rfl _ _ _ _).trans rfl
set_option maxRecDepth 100000 in
theorem bk_290_2 (X : (Nat → Int32) × Nat) (mo : Bool) (G : Nat × Nat) (I : Nat → Nat → Int32) (J : Nat → Nat → Int64) (Q : Option Value → sm_M → Prop) (x1 : Int32) (x2 : Int32) :
    sm_wp X 290 2 [some (.ref 81), some (.int x1), some (.int x2), none, none] [] (sM mo G I J) Q =
    (if (x1 : Int32) ≤ (x2 : Int32) then sm_wp X 290 87 [some (.ref 81), some (.int x1), some (.int x2), none, none] [] (sM mo G I J) Q else (vp_in x2 4 ∧ (¬ (x1 : Int32) = 0 ∧ (vp_in (((x2 + x1) - 1) - ((x2 + x1) - 1) / x1 * x1) 4 ∧ (vp_in (I 134 (x2.toNatClampNeg)) 12 ∧ (vp_in x2 4 ∧ (if ¬ (I 85 ((I 134 (x2.toNatClampNeg)).toNatClampNeg) : Int32) = (I 133 (x2.toNatClampNeg) : Int32) then sm_wp X 290 79 [some (.ref 81), some (.int x1), some (.int x2), some (.int (I 134 (x2.toNatClampNeg))), some (.int (I 134 ((((x2 + x1) - 1) - ((x2 + x1) - 1) / x1 * x1).toNatClampNeg)))] [] (sM mo G I J) Q else (vp_in x2 4 ∧ (vp_in ((12 * (I 133 (x2.toNatClampNeg))) + (I 134 ((((x2 + x1) - 1) - ((x2 + x1) - 1) / x1 * x1).toNatClampNeg))) 72 ∧ (vp_in x2 4 ∧ (vp_in ((12 * (I 133 (x2.toNatClampNeg))) + (I 134 (x2.toNatClampNeg))) 72 ∧ (if (I 91 (((12 * (I 133 (x2.toNatClampNeg))) + (I 134 (x2.toNatClampNeg))).toNatClampNeg) : Int32) < (I 91 (((12 * (I 133 (x2.toNatClampNeg))) + (I 134 ((((x2 + x1) - 1) - ((x2 + x1) - 1) / x1 * x1).toNatClampNeg))).toNatClampNeg) : Int32) then sm_wp X 290 81 [some (.ref 81), some (.int x1), some (.int x2), some (.int (I 134 (x2.toNatClampNeg))), some (.int (I 134 ((((x2 + x1) - 1) - ((x2 + x1) - 1) / x1 * x1).toNatClampNeg)))] [] (sM mo G I J) Q else (sm_zb 0 ∧ Q (some (.int 0)) (sM mo G I J)))))))))))))) :=
  (sm_blk X 290 2 (tt_lin 290 (by decide)) rfl rfl _ _ _ _).trans rfl
set_option maxRecDepth 100000 in
theorem bk_290_79 (X : (Nat → Int32) × Nat) (mo : Bool) (G : Nat × Nat) (I : Nat → Nat → Int32) (J : Nat → Nat → Int64) (Q : Option Value → sm_M → Prop) (x1 : Int32) (x2 : Int32) (x3 : Int32) (x4 : Int32) :
    sm_wp X 290 79 [some (.ref 81), some (.int x1), some (.int x2), some (.int x3), some (.int x4)] [] (sM mo G I J) Q =
    (sm_zb 0 ∧ Q (some (.int 0)) (sM mo G I J)) :=
  (sm_blk X 290 79 (tt_lin 290 (by decide)) rfl rfl _ _ _ _).trans rfl
set_option maxRecDepth 100000 in
theorem bk_290_81 (X : (Nat → Int32) × Nat) (mo : Bool) (G : Nat × Nat) (I : Nat → Nat → Int32) (J : Nat → Nat → Int64) (Q : Option Value → sm_M → Prop) (x1 : Int32) (x2 : Int32) (x3 : Int32) (x4 : Int32) :
    sm_wp X 290 81 [some (.ref 81), some (.int x1), some (.int x2), some (.int x3), some (.int x4)] [] (sM mo G I J) Q =
    (sm_wp X 290 2 [some (.ref 81), some (.int x1), some (.int (x2 + 1)), none, none] [] (sM mo G I J) Q) :=
  (sm_blk X 290 81 (tt_lin 290 (by decide)) rfl rfl _ _ _ _).trans rfl
set_option maxRecDepth 100000 in
theorem bk_290_87 (X : (Nat → Int32) × Nat) (mo : Bool) (G : Nat × Nat) (I : Nat → Nat → Int32) (J : Nat → Nat → Int64) (Q : Option Value → sm_M → Prop) (x1 : Int32) (x2 : Int32) :
    sm_wp X 290 87 [some (.ref 81), some (.int x1), some (.int x2), none, none] [] (sM mo G I J) Q =
    (sm_zb 1 ∧ Q (some (.int 1)) (sM mo G I J)) :=
  (sm_blk X 290 87 (tt_lin 290 (by decide)) rfl rfl _ _ _ _).trans rfl
set_option maxRecDepth 100000 in
theorem bk_291_0 (X : (Nat → Int32) × Nat) (mo : Bool) (G : Nat × Nat) (I : Nat → Nat → Int32) (J : Nat → Nat → Int64) (Q : Option Value → sm_M → Prop)  :
    sm_wp X 291 0 [some (.ref 81)] [] (sM mo G I J) Q =
    (if ¬ ((up2 I 81 2 0) 81 81 : Int32) = (8 : Int32) then sm_wp X 291 16 [some (.ref 81)] [] (sM mo G (up2 I 81 2 0) J) Q else (True ∧ Q (some (.int (-1))) (sM mo G (up2 I 81 2 0) J))) :=
  (sm_blk X 291 0 (tt_lin 291 (by decide)) rfl rfl _ _ _ _).trans rfl
set_option maxRecDepth 100000 in
theorem bk_291_16 (X : (Nat → Int32) × Nat) (mo : Bool) (G : Nat × Nat) (I : Nat → Nat → Int32) (J : Nat → Nat → Int64) (Q : Option Value → sm_M → Prop)  :
    sm_wp X 291 16 [some (.ref 81)] [] (sM mo G I J) Q =
    (True ∧ Q (some (.int (((up2 I 81 81 ((I 81 81) + 1)) 81 81) - 1))) (sM mo G (up2 I 81 81 ((I 81 81) + 1)) J)) :=
  (sm_blk X 291 16 (tt_lin 291 (by decide)) rfl rfl _ _ _ _).trans rfl
set_option maxRecDepth 100000 in
theorem bk_292_0 (X : (Nat → Int32) × Nat) (mo : Bool) (G : Nat × Nat) (I : Nat → Nat → Int32) (J : Nat → Nat → Int64) (Q : Option Value → sm_M → Prop) (x1 : Int32) (x2 : Int32) (x3 : Int32) :
    sm_wp X 292 0 [some (.ref 81), some (.int x1), some (.int x2), some (.int x3), none] [] (sM mo G I J) Q =
    (sm_wp X 293 0 [some (.ref 81), some (.int x1)] [] (sM mo G (up2 I 81 2 0) J) (fun v M => sm_wp X 292 10 [some (.ref 81), some (.int x1), some (.int x2), some (.int x3), none] (v.toList ++ []) M Q)) :=
  (sm_blk X 292 0 (tt_lin 292 (by decide)) rfl rfl _ _ _ _).trans rfl
set_option maxRecDepth 100000 in
theorem bk_292_10 (X : (Nat → Int32) × Nat) (mo : Bool) (G : Nat × Nat) (I : Nat → Nat → Int32) (J : Nat → Nat → Int64) (Q : Option Value → sm_M → Prop) (x1 : Int32) (x2 : Int32) (x3 : Int32) (s0 : Int32) :
    sm_wp X 292 10 [some (.ref 81), some (.int x1), some (.int x2), some (.int x3), none] [.int s0] (sM mo G I J) Q =
    (if (s0 : Int32) = 0 then sm_wp X 292 31 [some (.ref 81), some (.int x1), some (.int x2), some (.int x3), none] [] (sM mo G I J) Q else (sm_wp X 215 0 [some (.ref 81), some (.int x2)] [] (sM mo G I J) (fun v M => sm_wp X 292 18 [some (.ref 81), some (.int x1), some (.int x2), some (.int x3), none] (v.toList ++ []) M Q))) :=
  (sm_blk X 292 10 (tt_lin 292 (by decide)) rfl rfl _ _ _ _).trans rfl
set_option maxRecDepth 100000 in
theorem bk_292_18 (X : (Nat → Int32) × Nat) (mo : Bool) (G : Nat × Nat) (I : Nat → Nat → Int32) (J : Nat → Nat → Int64) (Q : Option Value → sm_M → Prop) (x1 : Int32) (x2 : Int32) (x3 : Int32) (s0 : Int32) :
    sm_wp X 292 18 [some (.ref 81), some (.int x1), some (.int x2), some (.int x3), none] [.int s0] (sM mo G I J) Q =
    (if (s0 : Int32) = 0 then sm_wp X 292 31 [some (.ref 81), some (.int x1), some (.int x2), some (.int x3), none] [] (sM mo G I J) Q else (sm_wp X 210 0 [some (.int x3), some (.int 0), some (.int 99)] [] (sM mo G I J) (fun v M => sm_wp X 292 28 [some (.ref 81), some (.int x1), some (.int x2), some (.int x3), none] (v.toList ++ []) M Q))) :=
  (sm_blk X 292 18 (tt_lin 292 (by decide)) rfl rfl _ _ _ _).trans rfl
set_option maxRecDepth 100000 in
theorem bk_292_28 (X : (Nat → Int32) × Nat) (mo : Bool) (G : Nat × Nat) (I : Nat → Nat → Int32) (J : Nat → Nat → Int64) (Q : Option Value → sm_M → Prop) (x1 : Int32) (x2 : Int32) (x3 : Int32) (s0 : Int32) :
    sm_wp X 292 28 [some (.ref 81), some (.int x1), some (.int x2), some (.int x3), none] [.int s0] (sM mo G I J) Q =
    (if ¬ (s0 : Int32) = 0 then sm_wp X 292 33 [some (.ref 81), some (.int x1), some (.int x2), some (.int x3), none] [] (sM mo G I J) Q else (True ∧ Q (some (.int (-1))) (sM mo G I J))) :=
  (sm_blk X 292 28 (tt_lin 292 (by decide)) rfl rfl _ _ _ _).trans rfl
set_option maxRecDepth 100000 in
theorem bk_292_31 (X : (Nat → Int32) × Nat) (mo : Bool) (G : Nat × Nat) (I : Nat → Nat → Int32) (J : Nat → Nat → Int64) (Q : Option Value → sm_M → Prop) (x1 : Int32) (x2 : Int32) (x3 : Int32) :
    sm_wp X 292 31 [some (.ref 81), some (.int x1), some (.int x2), some (.int x3), none] [] (sM mo G I J) Q =
    (True ∧ Q (some (.int (-1))) (sM mo G I J)) :=
  (sm_blk X 292 31 (tt_lin 292 (by decide)) rfl rfl _ _ _ _).trans rfl
set_option maxRecDepth 100000 in
theorem bk_292_33 (X : (Nat → Int32) × Nat) (mo : Bool) (G : Nat × Nat) (I : Nat → Nat → Int32) (J : Nat → Nat → Int64) (Q : Option Value → sm_M → Prop) (x1 : Int32) (x2 : Int32) (x3 : Int32) :
    sm_wp X 292 33 [some (.ref 81), some (.int x1), some (.int x2), some (.int x3), none] [] (sM mo G I J) Q =
    (if ¬ (x3 : Int32) = 0 then sm_wp X 292 55 [some (.ref 81), some (.int x1), some (.int x2), some (.int x3), some (.int ((6 * x1) + x2))] [] (sM mo G I J) Q else (vp_in ((6 * x1) + x2) 48 ∧ (True ∧ Q (some (.int 0)) (sM mo G (up2 I 135 ((6 * x1) + x2).toNatClampNeg 0) J)))) :=
  (sm_blk X 292 33 (tt_lin 292 (by decide)) rfl rfl _ _ _ _).trans rfl
set_option maxRecDepth 100000 in
theorem bk_292_55 (X : (Nat → Int32) × Nat) (mo : Bool) (G : Nat × Nat) (I : Nat → Nat → Int32) (J : Nat → Nat → Int64) (Q : Option Value → sm_M → Prop) (x1 : Int32) (x2 : Int32) (x3 : Int32) (x4 : Int32) :
    sm_wp X 292 55 [some (.ref 81), some (.int x1), some (.int x2), some (.int x3), some (.int x4)] [] (sM mo G I J) Q =
    (vp_in x4 48 ∧ (if ¬ (I 135 (x4.toNatClampNeg) : Int32) = (8 : Int32) then sm_wp X 292 69 [some (.ref 81), some (.int x1), some (.int x2), some (.int x3), some (.int x4)] [] (sM mo G I J) Q else (True ∧ Q (some (.int (-1))) (sM mo G I J)))) :=
  (sm_blk X 292 55 (tt_lin 292 (by decide)) rfl rfl _ _ _ _).trans rfl
set_option maxRecDepth 100000 in
theorem bk_292_69 (X : (Nat → Int32) × Nat) (mo : Bool) (G : Nat × Nat) (I : Nat → Nat → Int32) (J : Nat → Nat → Int64) (Q : Option Value → sm_M → Prop) (x1 : Int32) (x2 : Int32) (x3 : Int32) (x4 : Int32) :
    sm_wp X 292 69 [some (.ref 81), some (.int x1), some (.int x2), some (.int x3), some (.int x4)] [] (sM mo G I J) Q =
    (vp_in x4 48 ∧ (vp_in ((8 * x4) + (I 135 (x4.toNatClampNeg))) 384 ∧ (vp_in x4 48 ∧ (vp_in x4 48 ∧ (vp_in x4 48 ∧ (True ∧ Q (some (.int ((up2 (up2 I 136 ((8 * x4) + (I 135 (x4.toNatClampNeg))).toNatClampNeg x3) 135 x4.toNatClampNeg (((up2 I 136 ((8 * x4) + (I 135 (x4.toNatClampNeg))).toNatClampNeg x3) 135 (x4.toNatClampNeg)) + 1)) 135 (x4.toNatClampNeg)))) (sM mo G (up2 (up2 I 136 ((8 * x4) + (I 135 (x4.toNatClampNeg))).toNatClampNeg x3) 135 x4.toNatClampNeg (((up2 I 136 ((8 * x4) + (I 135 (x4.toNatClampNeg))).toNatClampNeg x3) 135 (x4.toNatClampNeg)) + 1)) J))))))) :=
  (sm_blk X 292 69 (tt_lin 292 (by decide)) rfl rfl _ _ _ _).trans rfl
