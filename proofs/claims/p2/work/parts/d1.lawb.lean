/-! The law behind its first call. -/
set_option maxRecDepth 100000 in
theorem bg_315_238 (X : (Nat → Int32) × Nat) (l : List (Nat × Nat)) (G : Nat × Nat) (I : Nat → Nat → Int32) (J : Nat → Nat → Int64) (R : List (List (Option Nat))) (Q : Option Value → sm_M → Prop) (x4 : Int32) (s0 : Int32) :
    sm_wp X 315 238 [some (.retAddr 1), some (.ref 0), some (.ref 81), some (.ref 142), some (.int x4), none, none] [.int s0] (sK0 ++ l, G, I, J, R) Q =
    (vp_in (x4 + 1) X.2 ∧ (vp_in (x4 + 2) X.2 ∧ (vp_in (x4 + 3) X.2 ∧ (vp_in (x4 + 4) X.2 ∧ (vp_in (x4 + 5) X.2 ∧ (sm_wp X 208 0 [some (.ref 81), some (.int (X.1 (x4 + 1).toNatClampNeg)), some (.int (X.1 (x4 + 2).toNatClampNeg)), some (.int (X.1 (x4 + 3).toNatClampNeg)), some (.int (X.1 (x4 + 4).toNatClampNeg)), some (.int (X.1 (x4 + 5).toNatClampNeg)), none, none] [] (sK0 ++ l, G, I, J, R) (fun v M => sm_wp X 315 272 [some (.retAddr 1), some (.ref 0), some (.ref 81), some (.ref 142), some (.int x4), none, none] (v.toList ++ [.int s0]) M Q))))))) :=
  (sm_blk X 315 238 (tt_lin 315 (by decide)) rfl rfl _ _ _ _).trans rfl
set_option maxRecDepth 100000 in
theorem bg_315_293 (X : (Nat → Int32) × Nat) (l : List (Nat × Nat)) (G : Nat × Nat) (I : Nat → Nat → Int32) (J : Nat → Nat → Int64) (R : List (List (Option Nat))) (Q : Option Value → sm_M → Prop) (x4 : Int32) (s0 : Int32) :
    sm_wp X 315 293 [some (.retAddr 1), some (.ref 0), some (.ref 81), some (.ref 142), some (.int x4), none, none] [.int s0] (sK0 ++ l, G, I, J, R) Q =
    (vp_in (x4 + 1) X.2 ∧ (vp_in (x4 + 2) X.2 ∧ (sm_wp X 225 0 [some (.ref 81), some (.int (X.1 (x4 + 1).toNatClampNeg)), some (.int (X.1 (x4 + 2).toNatClampNeg)), none, none] [] (sK0 ++ l, G, I, J, R) (fun v M => sm_wp X 315 310 [some (.retAddr 1), some (.ref 0), some (.ref 81), some (.ref 142), some (.int x4), none, none] (v.toList ++ []) M Q)))) :=
  (sm_blk X 315 293 (tt_lin 315 (by decide)) rfl rfl _ _ _ _).trans rfl
set_option maxRecDepth 100000 in
theorem bg_315_324 (X : (Nat → Int32) × Nat) (l : List (Nat × Nat)) (G : Nat × Nat) (I : Nat → Nat → Int32) (J : Nat → Nat → Int64) (R : List (List (Option Nat))) (Q : Option Value → sm_M → Prop) (x4 : Int32) (s0 : Int32) :
    sm_wp X 315 324 [some (.retAddr 1), some (.ref 0), some (.ref 81), some (.ref 142), some (.int x4), none, none] [.int s0] (sK0 ++ l, G, I, J, R) Q =
    (vp_in (x4 + 1) X.2 ∧ (sm_wp X 246 0 [some (.ref 81), some (.int (X.1 (x4 + 1).toNatClampNeg))] [] (sK0 ++ l, G, I, J, R) (fun v M => sm_wp X 315 335 [some (.retAddr 1), some (.ref 0), some (.ref 81), some (.ref 142), some (.int x4), none, none] (v.toList ++ []) M Q))) :=
  (sm_blk X 315 324 (tt_lin 315 (by decide)) rfl rfl _ _ _ _).trans rfl
set_option maxRecDepth 100000 in
theorem bg_315_349 (X : (Nat → Int32) × Nat) (l : List (Nat × Nat)) (G : Nat × Nat) (I : Nat → Nat → Int32) (J : Nat → Nat → Int64) (R : List (List (Option Nat))) (Q : Option Value → sm_M → Prop) (x4 : Int32) (s0 : Int32) :
    sm_wp X 315 349 [some (.retAddr 1), some (.ref 0), some (.ref 81), some (.ref 142), some (.int x4), none, none] [.int s0] (sK0 ++ l, G, I, J, R) Q =
    (vp_in (x4 + 1) X.2 ∧ (sm_wp X 209 0 [some (.ref 81), some (.int (X.1 (x4 + 1).toNatClampNeg))] [] (sK0 ++ l, G, I, J, R) (fun v M => sm_wp X 315 360 [some (.retAddr 1), some (.ref 0), some (.ref 81), some (.ref 142), some (.int x4), none, none] (v.toList ++ []) M Q))) :=
  (sm_blk X 315 349 (tt_lin 315 (by decide)) rfl rfl _ _ _ _).trans rfl
set_option maxRecDepth 100000 in
theorem bg_315_380 (X : (Nat → Int32) × Nat) (l : List (Nat × Nat)) (G : Nat × Nat) (I : Nat → Nat → Int32) (J : Nat → Nat → Int64) (R : List (List (Option Nat))) (Q : Option Value → sm_M → Prop) (x4 : Int32) (s0 : Int32) :
    sm_wp X 315 380 [some (.retAddr 1), some (.ref 0), some (.ref 81), some (.ref 142), some (.int x4), none, none] [.int s0] (sK0 ++ l, G, I, J, R) Q =
    (vp_in (x4 + 1) X.2 ∧ (vp_in (x4 + 2) X.2 ∧ (sm_wp X 211 0 [some (.ref 81), some (.int (X.1 (x4 + 1).toNatClampNeg)), some (.int (X.1 (x4 + 2).toNatClampNeg))] [] (sK0 ++ l, G, I, J, R) (fun v M => sm_wp X 315 397 [some (.retAddr 1), some (.ref 0), some (.ref 81), some (.ref 142), some (.int x4), none, none] (v.toList ++ []) M Q)))) :=
  (sm_blk X 315 380 (tt_lin 315 (by decide)) rfl rfl _ _ _ _).trans rfl
set_option maxRecDepth 100000 in
theorem bg_315_417 (X : (Nat → Int32) × Nat) (l : List (Nat × Nat)) (G : Nat × Nat) (I : Nat → Nat → Int32) (J : Nat → Nat → Int64) (R : List (List (Option Nat))) (Q : Option Value → sm_M → Prop) (x4 : Int32) (s0 : Int32) :
    sm_wp X 315 417 [some (.retAddr 1), some (.ref 0), some (.ref 81), some (.ref 142), some (.int x4), none, none] [.int s0] (sK0 ++ l, G, I, J, R) Q =
    (vp_in (x4 + 1) X.2 ∧ (vp_in (x4 + 2) X.2 ∧ (sm_wp X 213 0 [some (.ref 81), some (.int (X.1 (x4 + 1).toNatClampNeg)), some (.int (X.1 (x4 + 2).toNatClampNeg))] [] (sK0 ++ l, G, I, J, R) (fun v M => sm_wp X 315 434 [some (.retAddr 1), some (.ref 0), some (.ref 81), some (.ref 142), some (.int x4), none, none] (v.toList ++ []) M Q)))) :=
  (sm_blk X 315 417 (tt_lin 315 (by decide)) rfl rfl _ _ _ _).trans rfl
set_option maxRecDepth 100000 in
theorem bg_315_454 (X : (Nat → Int32) × Nat) (l : List (Nat × Nat)) (G : Nat × Nat) (I : Nat → Nat → Int32) (J : Nat → Nat → Int64) (R : List (List (Option Nat))) (Q : Option Value → sm_M → Prop) (x4 : Int32) (s0 : Int32) :
    sm_wp X 315 454 [some (.retAddr 1), some (.ref 0), some (.ref 81), some (.ref 142), some (.int x4), none, none] [.int s0] (sK0 ++ l, G, I, J, R) Q =
    (vp_in (x4 + 1) X.2 ∧ (vp_in (x4 + 2) X.2 ∧ (sm_wp X 214 0 [some (.ref 81), some (.int (X.1 (x4 + 1).toNatClampNeg)), some (.int (X.1 (x4 + 2).toNatClampNeg))] [] (sK0 ++ l, G, I, J, R) (fun v M => sm_wp X 315 471 [some (.retAddr 1), some (.ref 0), some (.ref 81), some (.ref 142), some (.int x4), none, none] (v.toList ++ []) M Q)))) :=
  (sm_blk X 315 454 (tt_lin 315 (by decide)) rfl rfl _ _ _ _).trans rfl
set_option maxRecDepth 100000 in
theorem bg_315_505 (X : (Nat → Int32) × Nat) (l : List (Nat × Nat)) (G : Nat × Nat) (I : Nat → Nat → Int32) (J : Nat → Nat → Int64) (R : List (List (Option Nat))) (Q : Option Value → sm_M → Prop) (x4 : Int32) (s0 : Int32) :
    sm_wp X 315 505 [some (.retAddr 1), some (.ref 0), some (.ref 81), some (.ref 142), some (.int x4), none, none] [.int s0] (sK0 ++ l, G, I, J, R) Q =
    (vp_in (x4 + 1) X.2 ∧ (vp_in (x4 + 2) X.2 ∧ (vp_in (x4 + 3) X.2 ∧ (if (X.1 (x4 + 3).toNatClampNeg : Int32) = 0 then sm_wp X 315 532 [some (.retAddr 1), some (.ref 0), some (.ref 81), some (.ref 142), some (.int x4), none, none] [.int (X.1 (x4 + 2).toNatClampNeg), .int (X.1 (x4 + 1).toNatClampNeg), .ref 81] (sK0 ++ l, G, I, J, R) Q else (sm_wp X 315 533 [some (.retAddr 1), some (.ref 0), some (.ref 81), some (.ref 142), some (.int x4), none, none] [.int 1, .int (X.1 (x4 + 2).toNatClampNeg), .int (X.1 (x4 + 1).toNatClampNeg), .ref 81] (sK0 ++ l, G, I, J, R) Q))))) :=
  (sm_blk X 315 505 (tt_lin 315 (by decide)) rfl rfl _ _ _ _).trans rfl
set_option maxRecDepth 100000 in
theorem bg_315_532 (X : (Nat → Int32) × Nat) (l : List (Nat × Nat)) (G : Nat × Nat) (I : Nat → Nat → Int32) (J : Nat → Nat → Int64) (R : List (List (Option Nat))) (Q : Option Value → sm_M → Prop) (x4 : Int32) (s1 : Int32) (s2 : Int32) :
    sm_wp X 315 532 [some (.retAddr 1), some (.ref 0), some (.ref 81), some (.ref 142), some (.int x4), none, none] [.int s2, .int s1, .ref 81] (sK0 ++ l, G, I, J, R) Q =
    (sm_wp X 218 0 [some (.ref 81), some (.int s1), some (.int s2), some (.int 0)] [] (sK0 ++ l, G, I, J, R) (fun v M => sm_wp X 315 536 [some (.retAddr 1), some (.ref 0), some (.ref 81), some (.ref 142), some (.int x4), none, none] (v.toList ++ []) M Q)) :=
  (sm_blk X 315 532 (tt_lin 315 (by decide)) rfl rfl _ _ _ _).trans rfl
set_option maxRecDepth 100000 in
theorem bg_315_533 (X : (Nat → Int32) × Nat) (l : List (Nat × Nat)) (G : Nat × Nat) (I : Nat → Nat → Int32) (J : Nat → Nat → Int64) (R : List (List (Option Nat))) (Q : Option Value → sm_M → Prop) (x4 : Int32) (s1 : Int32) (s2 : Int32) (s3 : Int32) :
    sm_wp X 315 533 [some (.retAddr 1), some (.ref 0), some (.ref 81), some (.ref 142), some (.int x4), none, none] [.int s3, .int s2, .int s1, .ref 81] (sK0 ++ l, G, I, J, R) Q =
    (sm_wp X 218 0 [some (.ref 81), some (.int s1), some (.int s2), some (.int s3)] [] (sK0 ++ l, G, I, J, R) (fun v M => sm_wp X 315 536 [some (.retAddr 1), some (.ref 0), some (.ref 81), some (.ref 142), some (.int x4), none, none] (v.toList ++ []) M Q)) :=
  (sm_blk X 315 533 (tt_lin 315 (by decide)) rfl rfl _ _ _ _).trans rfl
set_option maxRecDepth 100000 in
theorem bg_315_562 (X : (Nat → Int32) × Nat) (l : List (Nat × Nat)) (G : Nat × Nat) (I : Nat → Nat → Int32) (J : Nat → Nat → Int64) (R : List (List (Option Nat))) (Q : Option Value → sm_M → Prop) (x4 : Int32) (s0 : Int32) :
    sm_wp X 315 562 [some (.retAddr 1), some (.ref 0), some (.ref 81), some (.ref 142), some (.int x4), none, none] [.int s0] (sK0 ++ l, G, I, J, R) Q =
    (vp_in (x4 + 1) X.2 ∧ (vp_in (x4 + 2) X.2 ∧ (vp_in (x4 + 3) X.2 ∧ (sm_wp X 220 0 [some (.ref 81), some (.int (X.1 (x4 + 1).toNatClampNeg)), some (.int (X.1 (x4 + 2).toNatClampNeg)), some (.int (X.1 (x4 + 3).toNatClampNeg))] [] (sK0 ++ l, G, I, J, R) (fun v M => sm_wp X 315 585 [some (.retAddr 1), some (.ref 0), some (.ref 81), some (.ref 142), some (.int x4), none, none] (v.toList ++ []) M Q))))) :=
  (sm_blk X 315 562 (tt_lin 315 (by decide)) rfl rfl _ _ _ _).trans rfl
set_option maxRecDepth 100000 in
theorem bg_315_605 (X : (Nat → Int32) × Nat) (l : List (Nat × Nat)) (G : Nat × Nat) (I : Nat → Nat → Int32) (J : Nat → Nat → Int64) (R : List (List (Option Nat))) (Q : Option Value → sm_M → Prop) (x4 : Int32) (s0 : Int32) :
    sm_wp X 315 605 [some (.retAddr 1), some (.ref 0), some (.ref 81), some (.ref 142), some (.int x4), none, none] [.int s0] (sK0 ++ l, G, I, J, R) Q =
    (vp_in (x4 + 1) X.2 ∧ (vp_in (x4 + 2) X.2 ∧ (sm_wp X 221 0 [some (.ref 81), some (.int (X.1 (x4 + 1).toNatClampNeg)), some (.int (X.1 (x4 + 2).toNatClampNeg))] [] (sK0 ++ l, G, I, J, R) (fun v M => sm_wp X 315 622 [some (.retAddr 1), some (.ref 0), some (.ref 81), some (.ref 142), some (.int x4), none, none] (v.toList ++ []) M Q)))) :=
  (sm_blk X 315 605 (tt_lin 315 (by decide)) rfl rfl _ _ _ _).trans rfl
set_option maxRecDepth 100000 in
theorem bg_315_667 (X : (Nat → Int32) × Nat) (l : List (Nat × Nat)) (G : Nat × Nat) (I : Nat → Nat → Int32) (J : Nat → Nat → Int64) (R : List (List (Option Nat))) (Q : Option Value → sm_M → Prop) (x4 : Int32) (s0 : Int32) :
    sm_wp X 315 667 [some (.retAddr 1), some (.ref 0), some (.ref 81), some (.ref 142), some (.int x4), none, none] [.int s0] (sK0 ++ l, G, I, J, R) Q =
    (vp_in (x4 + 1) X.2 ∧ (vp_in (x4 + 2) X.2 ∧ (vp_in (x4 + 3) X.2 ∧ (vp_in (x4 + 4) X.2 ∧ (vp_in (x4 + 5) X.2 ∧ (vp_in (x4 + 6) X.2 ∧ (sm_wp X 247 0 [some (.ref 81), some (.int (X.1 (x4 + 1).toNatClampNeg)), some (.int (X.1 (x4 + 2).toNatClampNeg)), some (.int (X.1 (x4 + 3).toNatClampNeg)), some (.int (X.1 (x4 + 4).toNatClampNeg)), some (.int (X.1 (x4 + 5).toNatClampNeg)), some (.int (X.1 (x4 + 6).toNatClampNeg))] [] (sK0 ++ l, G, I, J, R) (fun v M => sm_wp X 315 709 [some (.retAddr 1), some (.ref 0), some (.ref 81), some (.ref 142), some (.int x4), none, none] (v.toList ++ []) M Q)))))))) :=
  (sm_blk X 315 667 (tt_lin 315 (by decide)) rfl rfl _ _ _ _).trans rfl
set_option maxRecDepth 100000 in
theorem bg_315_735 (X : (Nat → Int32) × Nat) (l : List (Nat × Nat)) (G : Nat × Nat) (I : Nat → Nat → Int32) (J : Nat → Nat → Int64) (R : List (List (Option Nat))) (Q : Option Value → sm_M → Prop) (x4 : Int32) (s0 : Int32) :
    sm_wp X 315 735 [some (.retAddr 1), some (.ref 0), some (.ref 81), some (.ref 142), some (.int x4), none, none] [.int s0] (sK0 ++ l, G, I, J, R) Q =
    (vp_in (x4 + 1) X.2 ∧ (vp_in (x4 + 2) X.2 ∧ (vp_in (x4 + 3) X.2 ∧ (sm_wp X 249 0 [some (.ref 81), some (.int (X.1 (x4 + 1).toNatClampNeg)), some (.int (X.1 (x4 + 2).toNatClampNeg)), some (.int (X.1 (x4 + 3).toNatClampNeg)), none, none] [] (sK0 ++ l, G, I, J, R) (fun v M => sm_wp X 315 758 [some (.retAddr 1), some (.ref 0), some (.ref 81), some (.ref 142), some (.int x4), none, none] (v.toList ++ []) M Q))))) :=
  (sm_blk X 315 735 (tt_lin 315 (by decide)) rfl rfl _ _ _ _).trans rfl
set_option maxRecDepth 100000 in
theorem bg_315_790 (X : (Nat → Int32) × Nat) (l : List (Nat × Nat)) (G : Nat × Nat) (I : Nat → Nat → Int32) (J : Nat → Nat → Int64) (R : List (List (Option Nat))) (Q : Option Value → sm_M → Prop) (x4 : Int32) (s0 : Int32) :
    sm_wp X 315 790 [some (.retAddr 1), some (.ref 0), some (.ref 81), some (.ref 142), some (.int x4), none, none] [.int s0] (sK0 ++ l, G, I, J, R) Q =
    (vp_in (x4 + 1) X.2 ∧ (vp_in (x4 + 2) X.2 ∧ (vp_in (x4 + 3) X.2 ∧ (vp_in (x4 + 4) X.2 ∧ (sm_wp X 250 0 [some (.ref 81), some (.int (X.1 (x4 + 1).toNatClampNeg)), some (.int (X.1 (x4 + 2).toNatClampNeg)), some (.int (X.1 (x4 + 3).toNatClampNeg)), some (.int (X.1 (x4 + 4).toNatClampNeg))] [] (sK0 ++ l, G, I, J, R) (fun v M => sm_wp X 315 819 [some (.retAddr 1), some (.ref 0), some (.ref 81), some (.ref 142), some (.int x4), none, none] (v.toList ++ []) M Q)))))) :=
  (sm_blk X 315 790 (tt_lin 315 (by decide)) rfl rfl _ _ _ _).trans rfl
set_option maxRecDepth 100000 in
theorem bg_315_833 (X : (Nat → Int32) × Nat) (l : List (Nat × Nat)) (G : Nat × Nat) (I : Nat → Nat → Int32) (J : Nat → Nat → Int64) (R : List (List (Option Nat))) (Q : Option Value → sm_M → Prop) (x4 : Int32) (s0 : Int32) :
    sm_wp X 315 833 [some (.retAddr 1), some (.ref 0), some (.ref 81), some (.ref 142), some (.int x4), none, none] [.int s0] (sK0 ++ l, G, I, J, R) Q =
    (vp_in (x4 + 1) X.2 ∧ (sm_wp X 251 0 [some (.ref 81), some (.int (X.1 (x4 + 1).toNatClampNeg)), none, none] [] (sK0 ++ l, G, I, J, R) (fun v M => sm_wp X 315 844 [some (.retAddr 1), some (.ref 0), some (.ref 81), some (.ref 142), some (.int x4), none, none] (v.toList ++ []) M Q))) :=
  (sm_blk X 315 833 (tt_lin 315 (by decide)) rfl rfl _ _ _ _).trans rfl
set_option maxRecDepth 100000 in
theorem bg_315_864 (X : (Nat → Int32) × Nat) (l : List (Nat × Nat)) (G : Nat × Nat) (I : Nat → Nat → Int32) (J : Nat → Nat → Int64) (R : List (List (Option Nat))) (Q : Option Value → sm_M → Prop) (x4 : Int32) (s0 : Int32) :
    sm_wp X 315 864 [some (.retAddr 1), some (.ref 0), some (.ref 81), some (.ref 142), some (.int x4), none, none] [.int s0] (sK0 ++ l, G, I, J, R) Q =
    (vp_in (x4 + 1) X.2 ∧ (vp_in (x4 + 2) X.2 ∧ (sm_wp X 268 0 [some (.ref 81), some (.int (X.1 (x4 + 1).toNatClampNeg)), some (.int (X.1 (x4 + 2).toNatClampNeg))] [] (sK0 ++ l, G, I, J, R) (fun v M => sm_wp X 315 881 [some (.retAddr 1), some (.ref 0), some (.ref 81), some (.ref 142), some (.int x4), none, none] (v.toList ++ []) M Q)))) :=
  (sm_blk X 315 864 (tt_lin 315 (by decide)) rfl rfl _ _ _ _).trans rfl
set_option maxRecDepth 100000 in
theorem bg_315_895 (X : (Nat → Int32) × Nat) (l : List (Nat × Nat)) (G : Nat × Nat) (I : Nat → Nat → Int32) (J : Nat → Nat → Int64) (R : List (List (Option Nat))) (Q : Option Value → sm_M → Prop) (x4 : Int32) (s0 : Int32) :
    sm_wp X 315 895 [some (.retAddr 1), some (.ref 0), some (.ref 81), some (.ref 142), some (.int x4), none, none] [.int s0] (sK0 ++ l, G, I, J, R) Q =
    (vp_in (x4 + 1) X.2 ∧ (sm_wp X 269 0 [some (.ref 81), some (.int (X.1 (x4 + 1).toNatClampNeg))] [] (sK0 ++ l, G, I, J, R) (fun v M => sm_wp X 315 906 [some (.retAddr 1), some (.ref 0), some (.ref 81), some (.ref 142), some (.int x4), none, none] (v.toList ++ []) M Q))) :=
  (sm_blk X 315 895 (tt_lin 315 (by decide)) rfl rfl _ _ _ _).trans rfl
set_option maxRecDepth 100000 in
theorem bg_315_926 (X : (Nat → Int32) × Nat) (l : List (Nat × Nat)) (G : Nat × Nat) (I : Nat → Nat → Int32) (J : Nat → Nat → Int64) (R : List (List (Option Nat))) (Q : Option Value → sm_M → Prop) (x4 : Int32) (s0 : Int64) :
    sm_wp X 315 926 [some (.retAddr 1), some (.ref 0), some (.ref 81), some (.ref 142), some (.int x4), none, none] [.long s0] (sK0 ++ l, G, I, J, R) Q =
    (vp_in (x4 + 1) X.2 ∧ (vp_in (x4 + 2) X.2 ∧ (sm_wp X 270 0 [some (.ref 81), some (.int (X.1 (x4 + 1).toNatClampNeg)), some (.int (X.1 (x4 + 2).toNatClampNeg))] [] (sK0 ++ l, G, I, J, R) (fun v M => sm_wp X 315 943 [some (.retAddr 1), some (.ref 0), some (.ref 81), some (.ref 142), some (.int x4), none, none] (v.toList ++ []) M Q)))) :=
  (sm_blk X 315 926 (tt_lin 315 (by decide)) rfl rfl _ _ _ _).trans rfl
set_option maxRecDepth 100000 in
theorem bg_315_963 (X : (Nat → Int32) × Nat) (l : List (Nat × Nat)) (G : Nat × Nat) (I : Nat → Nat → Int32) (J : Nat → Nat → Int64) (R : List (List (Option Nat))) (Q : Option Value → sm_M → Prop) (x4 : Int32) (s0 : Int32) :
    sm_wp X 315 963 [some (.retAddr 1), some (.ref 0), some (.ref 81), some (.ref 142), some (.int x4), none, none] [.int s0] (sK0 ++ l, G, I, J, R) Q =
    (vp_in (x4 + 1) X.2 ∧ (vp_in (x4 + 2) X.2 ∧ (sm_wp X 271 0 [some (.ref 81), some (.int (X.1 (x4 + 1).toNatClampNeg)), some (.int (X.1 (x4 + 2).toNatClampNeg)), none] [] (sK0 ++ l, G, I, J, R) (fun v M => sm_wp X 315 980 [some (.retAddr 1), some (.ref 0), some (.ref 81), some (.ref 142), some (.int x4), none, none] (v.toList ++ []) M Q)))) :=
  (sm_blk X 315 963 (tt_lin 315 (by decide)) rfl rfl _ _ _ _).trans rfl
set_option maxRecDepth 100000 in
theorem bg_315_1006 (X : (Nat → Int32) × Nat) (l : List (Nat × Nat)) (G : Nat × Nat) (I : Nat → Nat → Int32) (J : Nat → Nat → Int64) (R : List (List (Option Nat))) (Q : Option Value → sm_M → Prop) (x4 : Int32) (s0 : Int32) :
    sm_wp X 315 1006 [some (.retAddr 1), some (.ref 0), some (.ref 81), some (.ref 142), some (.int x4), none, none] [.int s0] (sK0 ++ l, G, I, J, R) Q =
    (vp_in (x4 + 1) X.2 ∧ (vp_in (x4 + 2) X.2 ∧ (vp_in (x4 + 3) X.2 ∧ (sm_wp X 273 0 [some (.ref 81), some (.int (X.1 (x4 + 1).toNatClampNeg)), some (.int (X.1 (x4 + 2).toNatClampNeg)), some (.int (X.1 (x4 + 3).toNatClampNeg)), none, none, none] [] (sK0 ++ l, G, I, J, R) (fun v M => sm_wp X 315 1029 [some (.retAddr 1), some (.ref 0), some (.ref 81), some (.ref 142), some (.int x4), none, none] (v.toList ++ []) M Q))))) :=
  (sm_blk X 315 1006 (tt_lin 315 (by decide)) rfl rfl _ _ _ _).trans rfl
set_option maxRecDepth 100000 in
theorem bg_315_1043 (X : (Nat → Int32) × Nat) (l : List (Nat × Nat)) (G : Nat × Nat) (I : Nat → Nat → Int32) (J : Nat → Nat → Int64) (R : List (List (Option Nat))) (Q : Option Value → sm_M → Prop) (x4 : Int32) (s0 : Int32) :
    sm_wp X 315 1043 [some (.retAddr 1), some (.ref 0), some (.ref 81), some (.ref 142), some (.int x4), none, none] [.int s0] (sK0 ++ l, G, I, J, R) Q =
    (vp_in (x4 + 1) X.2 ∧ (sm_wp X 222 0 [some (.ref 81), some (.int (X.1 (x4 + 1).toNatClampNeg))] [] (sK0 ++ l, G, I, J, R) (fun v M => sm_wp X 315 1054 [some (.retAddr 1), some (.ref 0), some (.ref 81), some (.ref 142), some (.int x4), none, none] (v.toList ++ []) M Q))) :=
  (sm_blk X 315 1043 (tt_lin 315 (by decide)) rfl rfl _ _ _ _).trans rfl
set_option maxRecDepth 100000 in
theorem bg_315_1068 (X : (Nat → Int32) × Nat) (l : List (Nat × Nat)) (G : Nat × Nat) (I : Nat → Nat → Int32) (J : Nat → Nat → Int64) (R : List (List (Option Nat))) (Q : Option Value → sm_M → Prop) (x4 : Int32) (s0 : Int32) :
    sm_wp X 315 1068 [some (.retAddr 1), some (.ref 0), some (.ref 81), some (.ref 142), some (.int x4), none, none] [.int s0] (sK0 ++ l, G, I, J, R) Q =
    (vp_in (x4 + 1) X.2 ∧ (sm_wp X 274 0 [some (.ref 81), some (.int (X.1 (x4 + 1).toNatClampNeg)), none, none] [] (sK0 ++ l, G, I, J, R) (fun v M => sm_wp X 315 1079 [some (.retAddr 1), some (.ref 0), some (.ref 81), some (.ref 142), some (.int x4), none, none] (v.toList ++ []) M Q))) :=
  (sm_blk X 315 1068 (tt_lin 315 (by decide)) rfl rfl _ _ _ _).trans rfl
set_option maxRecDepth 100000 in
theorem bg_315_1093 (X : (Nat → Int32) × Nat) (l : List (Nat × Nat)) (G : Nat × Nat) (I : Nat → Nat → Int32) (J : Nat → Nat → Int64) (R : List (List (Option Nat))) (Q : Option Value → sm_M → Prop) (x4 : Int32) (s0 : Int32) :
    sm_wp X 315 1093 [some (.retAddr 1), some (.ref 0), some (.ref 81), some (.ref 142), some (.int x4), none, none] [.int s0] (sK0 ++ l, G, I, J, R) Q =
    (vp_in (x4 + 1) X.2 ∧ (sm_wp X 281 0 [some (.ref 81), some (.int (X.1 (x4 + 1).toNatClampNeg))] [] (sK0 ++ l, G, I, J, R) (fun v M => sm_wp X 315 1104 [some (.retAddr 1), some (.ref 0), some (.ref 81), some (.ref 142), some (.int x4), none, none] (v.toList ++ []) M Q))) :=
  (sm_blk X 315 1093 (tt_lin 315 (by decide)) rfl rfl _ _ _ _).trans rfl
set_option maxRecDepth 100000 in
theorem bg_315_1124 (X : (Nat → Int32) × Nat) (l : List (Nat × Nat)) (G : Nat × Nat) (I : Nat → Nat → Int32) (J : Nat → Nat → Int64) (R : List (List (Option Nat))) (Q : Option Value → sm_M → Prop) (x4 : Int32) (s0 : Int32) :
    sm_wp X 315 1124 [some (.retAddr 1), some (.ref 0), some (.ref 81), some (.ref 142), some (.int x4), none, none] [.int s0] (sK0 ++ l, G, I, J, R) Q =
    (vp_in (x4 + 1) X.2 ∧ (vp_in (x4 + 2) X.2 ∧ (sm_wp X 284 0 [some (.ref 81), some (.int (X.1 (x4 + 1).toNatClampNeg)), some (.int (X.1 (x4 + 2).toNatClampNeg)), none] [] (sK0 ++ l, G, I, J, R) (fun v M => sm_wp X 315 1141 [some (.retAddr 1), some (.ref 0), some (.ref 81), some (.ref 142), some (.int x4), none, none] (v.toList ++ []) M Q)))) :=
  (sm_blk X 315 1124 (tt_lin 315 (by decide)) rfl rfl _ _ _ _).trans rfl
set_option maxRecDepth 100000 in
theorem bg_315_1149 (X : (Nat → Int32) × Nat) (l : List (Nat × Nat)) (G : Nat × Nat) (I : Nat → Nat → Int32) (J : Nat → Nat → Int64) (R : List (List (Option Nat))) (Q : Option Value → sm_M → Prop) (x4 : Int32) (s0 : Int32) :
    sm_wp X 315 1149 [some (.retAddr 1), some (.ref 0), some (.ref 81), some (.ref 142), some (.int x4), none, none] [.int s0] (sK0 ++ l, G, I, J, R) Q =
    (sm_wp X 285 0 [some (.ref 81), none, none, none, none] [] (sK0 ++ l, G, I, J, R) (fun v M => sm_wp X 315 1154 [some (.retAddr 1), some (.ref 0), some (.ref 81), some (.ref 142), some (.int x4), none, none] (v.toList ++ []) M Q)) :=
  (sm_blk X 315 1149 (tt_lin 315 (by decide)) rfl rfl _ _ _ _).trans rfl
set_option maxRecDepth 100000 in
theorem bg_315_1168 (X : (Nat → Int32) × Nat) (l : List (Nat × Nat)) (G : Nat × Nat) (I : Nat → Nat → Int32) (J : Nat → Nat → Int64) (R : List (List (Option Nat))) (Q : Option Value → sm_M → Prop) (x4 : Int32) (s0 : Int32) :
    sm_wp X 315 1168 [some (.retAddr 1), some (.ref 0), some (.ref 81), some (.ref 142), some (.int x4), none, none] [.int s0] (sK0 ++ l, G, I, J, R) Q =
    (vp_in (x4 + 1) X.2 ∧ (sm_wp X 286 0 [some (.ref 81), some (.int (X.1 (x4 + 1).toNatClampNeg)), none, none] [] (sK0 ++ l, G, I, J, R) (fun v M => sm_wp X 315 1179 [some (.retAddr 1), some (.ref 0), some (.ref 81), some (.ref 142), some (.int x4), none, none] (v.toList ++ []) M Q))) :=
  (sm_blk X 315 1168 (tt_lin 315 (by decide)) rfl rfl _ _ _ _).trans rfl
set_option maxRecDepth 100000 in
theorem bg_315_1193 (X : (Nat → Int32) × Nat) (l : List (Nat × Nat)) (G : Nat × Nat) (I : Nat → Nat → Int32) (J : Nat → Nat → Int64) (R : List (List (Option Nat))) (Q : Option Value → sm_M → Prop) (x4 : Int32) (s0 : Int32) :
    sm_wp X 315 1193 [some (.retAddr 1), some (.ref 0), some (.ref 81), some (.ref 142), some (.int x4), none, none] [.int s0] (sK0 ++ l, G, I, J, R) Q =
    (vp_in (x4 + 1) X.2 ∧ (sm_wp X 287 0 [some (.ref 81), some (.int (X.1 (x4 + 1).toNatClampNeg)), none, none] [] (sK0 ++ l, G, I, J, R) (fun v M => sm_wp X 315 1204 [some (.retAddr 1), some (.ref 0), some (.ref 81), some (.ref 142), some (.int x4), none, none] (v.toList ++ []) M Q))) :=
  (sm_blk X 315 1193 (tt_lin 315 (by decide)) rfl rfl _ _ _ _).trans rfl
set_option maxRecDepth 100000 in
theorem bg_315_1212 (X : (Nat → Int32) × Nat) (l : List (Nat × Nat)) (G : Nat × Nat) (I : Nat → Nat → Int32) (J : Nat → Nat → Int64) (R : List (List (Option Nat))) (Q : Option Value → sm_M → Prop) (x4 : Int32) (s0 : Int32) :
    sm_wp X 315 1212 [some (.retAddr 1), some (.ref 0), some (.ref 81), some (.ref 142), some (.int x4), none, none] [.int s0] (sK0 ++ l, G, I, J, R) Q =
    (sm_wp X 291 0 [some (.ref 81)] [] (sK0 ++ l, G, I, J, R) (fun v M => sm_wp X 315 1217 [some (.retAddr 1), some (.ref 0), some (.ref 81), some (.ref 142), some (.int x4), none, none] (v.toList ++ []) M Q)) :=
  (sm_blk X 315 1212 (tt_lin 315 (by decide)) rfl rfl _ _ _ _).trans rfl
set_option maxRecDepth 100000 in
theorem bg_315_1243 (X : (Nat → Int32) × Nat) (l : List (Nat × Nat)) (G : Nat × Nat) (I : Nat → Nat → Int32) (J : Nat → Nat → Int64) (R : List (List (Option Nat))) (Q : Option Value → sm_M → Prop) (x4 : Int32) (s0 : Int32) :
    sm_wp X 315 1243 [some (.retAddr 1), some (.ref 0), some (.ref 81), some (.ref 142), some (.int x4), none, none] [.int s0] (sK0 ++ l, G, I, J, R) Q =
    (vp_in (x4 + 1) X.2 ∧ (vp_in (x4 + 2) X.2 ∧ (vp_in (x4 + 3) X.2 ∧ (sm_wp X 292 0 [some (.ref 81), some (.int (X.1 (x4 + 1).toNatClampNeg)), some (.int (X.1 (x4 + 2).toNatClampNeg)), some (.int (X.1 (x4 + 3).toNatClampNeg)), none] [] (sK0 ++ l, G, I, J, R) (fun v M => sm_wp X 315 1266 [some (.retAddr 1), some (.ref 0), some (.ref 81), some (.ref 142), some (.int x4), none, none] (v.toList ++ []) M Q))))) :=
  (sm_blk X 315 1243 (tt_lin 315 (by decide)) rfl rfl _ _ _ _).trans rfl
set_option maxRecDepth 100000 in
theorem bg_315_1300 (X : (Nat → Int32) × Nat) (l : List (Nat × Nat)) (G : Nat × Nat) (I : Nat → Nat → Int32) (J : Nat → Nat → Int64) (R : List (List (Option Nat))) (Q : Option Value → sm_M → Prop) (x4 : Int32) (s0 : Int32) :
    sm_wp X 315 1300 [some (.retAddr 1), some (.ref 0), some (.ref 81), some (.ref 142), some (.int x4), none, none] [.int s0] (sK0 ++ l, G, I, J, R) Q =
    (vp_in (x4 + 1) X.2 ∧ (vp_in (x4 + 2) X.2 ∧ (vp_in (x4 + 3) X.2 ∧ (if (X.1 (x4 + 3).toNatClampNeg : Int32) = 0 then sm_wp X 315 1327 [some (.retAddr 1), some (.ref 0), some (.ref 81), some (.ref 142), some (.int x4), none, none] [.int (X.1 (x4 + 2).toNatClampNeg), .int (X.1 (x4 + 1).toNatClampNeg), .ref 81] (sK0 ++ l, G, I, J, R) Q else (sm_wp X 315 1328 [some (.retAddr 1), some (.ref 0), some (.ref 81), some (.ref 142), some (.int x4), none, none] [.int 1, .int (X.1 (x4 + 2).toNatClampNeg), .int (X.1 (x4 + 1).toNatClampNeg), .ref 81] (sK0 ++ l, G, I, J, R) Q))))) :=
  (sm_blk X 315 1300 (tt_lin 315 (by decide)) rfl rfl _ _ _ _).trans rfl
set_option maxRecDepth 100000 in
theorem bg_315_1327 (X : (Nat → Int32) × Nat) (l : List (Nat × Nat)) (G : Nat × Nat) (I : Nat → Nat → Int32) (J : Nat → Nat → Int64) (R : List (List (Option Nat))) (Q : Option Value → sm_M → Prop) (x4 : Int32) (s1 : Int32) (s2 : Int32) :
    sm_wp X 315 1327 [some (.retAddr 1), some (.ref 0), some (.ref 81), some (.ref 142), some (.int x4), none, none] [.int s2, .int s1, .ref 81] (sK0 ++ l, G, I, J, R) Q =
    (sm_wp X 294 0 [some (.ref 81), some (.int s1), some (.int s2), some (.int 0)] [] (sK0 ++ l, G, I, J, R) (fun v M => sm_wp X 315 1331 [some (.retAddr 1), some (.ref 0), some (.ref 81), some (.ref 142), some (.int x4), none, none] (v.toList ++ []) M Q)) :=
  (sm_blk X 315 1327 (tt_lin 315 (by decide)) rfl rfl _ _ _ _).trans rfl
set_option maxRecDepth 100000 in
theorem bg_315_1328 (X : (Nat → Int32) × Nat) (l : List (Nat × Nat)) (G : Nat × Nat) (I : Nat → Nat → Int32) (J : Nat → Nat → Int64) (R : List (List (Option Nat))) (Q : Option Value → sm_M → Prop) (x4 : Int32) (s1 : Int32) (s2 : Int32) (s3 : Int32) :
    sm_wp X 315 1328 [some (.retAddr 1), some (.ref 0), some (.ref 81), some (.ref 142), some (.int x4), none, none] [.int s3, .int s2, .int s1, .ref 81] (sK0 ++ l, G, I, J, R) Q =
    (sm_wp X 294 0 [some (.ref 81), some (.int s1), some (.int s2), some (.int s3)] [] (sK0 ++ l, G, I, J, R) (fun v M => sm_wp X 315 1331 [some (.retAddr 1), some (.ref 0), some (.ref 81), some (.ref 142), some (.int x4), none, none] (v.toList ++ []) M Q)) :=
  (sm_blk X 315 1328 (tt_lin 315 (by decide)) rfl rfl _ _ _ _).trans rfl
set_option maxRecDepth 100000 in
theorem bg_315_1365 (X : (Nat → Int32) × Nat) (l : List (Nat × Nat)) (G : Nat × Nat) (I : Nat → Nat → Int32) (J : Nat → Nat → Int64) (R : List (List (Option Nat))) (Q : Option Value → sm_M → Prop) (x4 : Int32) (s0 : Int32) :
    sm_wp X 315 1365 [some (.retAddr 1), some (.ref 0), some (.ref 81), some (.ref 142), some (.int x4), none, none] [.int s0] (sK0 ++ l, G, I, J, R) Q =
    (vp_in (x4 + 1) X.2 ∧ (vp_in (x4 + 2) X.2 ∧ (vp_in (x4 + 3) X.2 ∧ (if (X.1 (x4 + 3).toNatClampNeg : Int32) = 0 then sm_wp X 315 1392 [some (.retAddr 1), some (.ref 0), some (.ref 81), some (.ref 142), some (.int x4), none, none] [.int (X.1 (x4 + 2).toNatClampNeg), .int (X.1 (x4 + 1).toNatClampNeg), .ref 81] (sK0 ++ l, G, I, J, R) Q else (sm_wp X 315 1393 [some (.retAddr 1), some (.ref 0), some (.ref 81), some (.ref 142), some (.int x4), none, none] [.int 1, .int (X.1 (x4 + 2).toNatClampNeg), .int (X.1 (x4 + 1).toNatClampNeg), .ref 81] (sK0 ++ l, G, I, J, R) Q))))) :=
  (sm_blk X 315 1365 (tt_lin 315 (by decide)) rfl rfl _ _ _ _).trans rfl
set_option maxRecDepth 100000 in
theorem bg_315_1392 (X : (Nat → Int32) × Nat) (l : List (Nat × Nat)) (G : Nat × Nat) (I : Nat → Nat → Int32) (J : Nat → Nat → Int64) (R : List (List (Option Nat))) (Q : Option Value → sm_M → Prop) (x4 : Int32) (s1 : Int32) (s2 : Int32) :
    sm_wp X 315 1392 [some (.retAddr 1), some (.ref 0), some (.ref 81), some (.ref 142), some (.int x4), none, none] [.int s2, .int s1, .ref 81] (sK0 ++ l, G, I, J, R) Q =
    (sm_wp X 295 0 [some (.ref 81), some (.int s1), some (.int s2), some (.int 0)] [] (sK0 ++ l, G, I, J, R) (fun v M => sm_wp X 315 1396 [some (.retAddr 1), some (.ref 0), some (.ref 81), some (.ref 142), some (.int x4), none, none] (v.toList ++ []) M Q)) :=
  (sm_blk X 315 1392 (tt_lin 315 (by decide)) rfl rfl _ _ _ _).trans rfl
set_option maxRecDepth 100000 in
theorem bg_315_1393 (X : (Nat → Int32) × Nat) (l : List (Nat × Nat)) (G : Nat × Nat) (I : Nat → Nat → Int32) (J : Nat → Nat → Int64) (R : List (List (Option Nat))) (Q : Option Value → sm_M → Prop) (x4 : Int32) (s1 : Int32) (s2 : Int32) (s3 : Int32) :
    sm_wp X 315 1393 [some (.retAddr 1), some (.ref 0), some (.ref 81), some (.ref 142), some (.int x4), none, none] [.int s3, .int s2, .int s1, .ref 81] (sK0 ++ l, G, I, J, R) Q =
    (sm_wp X 295 0 [some (.ref 81), some (.int s1), some (.int s2), some (.int s3)] [] (sK0 ++ l, G, I, J, R) (fun v M => sm_wp X 315 1396 [some (.retAddr 1), some (.ref 0), some (.ref 81), some (.ref 142), some (.int x4), none, none] (v.toList ++ []) M Q)) :=
  (sm_blk X 315 1393 (tt_lin 315 (by decide)) rfl rfl _ _ _ _).trans rfl
set_option maxRecDepth 100000 in
theorem bg_315_1422 (X : (Nat → Int32) × Nat) (l : List (Nat × Nat)) (G : Nat × Nat) (I : Nat → Nat → Int32) (J : Nat → Nat → Int64) (R : List (List (Option Nat))) (Q : Option Value → sm_M → Prop) (x4 : Int32) (s0 : Int32) :
    sm_wp X 315 1422 [some (.retAddr 1), some (.ref 0), some (.ref 81), some (.ref 142), some (.int x4), none, none] [.int s0] (sK0 ++ l, G, I, J, R) Q =
    (vp_in (x4 + 1) X.2 ∧ (vp_in (x4 + 2) X.2 ∧ (vp_in (x4 + 3) X.2 ∧ (sm_wp X 296 0 [some (.ref 81), some (.int (X.1 (x4 + 1).toNatClampNeg)), some (.int (X.1 (x4 + 2).toNatClampNeg)), some (.int (X.1 (x4 + 3).toNatClampNeg))] [] (sK0 ++ l, G, I, J, R) (fun v M => sm_wp X 315 1445 [some (.retAddr 1), some (.ref 0), some (.ref 81), some (.ref 142), some (.int x4), none, none] (v.toList ++ []) M Q))))) :=
  (sm_blk X 315 1422 (tt_lin 315 (by decide)) rfl rfl _ _ _ _).trans rfl
set_option maxRecDepth 100000 in
theorem bg_315_1465 (X : (Nat → Int32) × Nat) (l : List (Nat × Nat)) (G : Nat × Nat) (I : Nat → Nat → Int32) (J : Nat → Nat → Int64) (R : List (List (Option Nat))) (Q : Option Value → sm_M → Prop) (x4 : Int32) (s0 : Int32) :
    sm_wp X 315 1465 [some (.retAddr 1), some (.ref 0), some (.ref 81), some (.ref 142), some (.int x4), none, none] [.int s0] (sK0 ++ l, G, I, J, R) Q =
    (vp_in (x4 + 1) X.2 ∧ (vp_in (x4 + 2) X.2 ∧ (sm_wp X 298 0 [some (.ref 81), some (.int (X.1 (x4 + 1).toNatClampNeg)), some (.int (X.1 (x4 + 2).toNatClampNeg)), none, none, none] [] (sK0 ++ l, G, I, J, R) (fun v M => sm_wp X 315 1482 [some (.retAddr 1), some (.ref 0), some (.ref 81), some (.ref 142), some (.int x4), none, none] (v.toList ++ []) M Q)))) :=
  (sm_blk X 315 1465 (tt_lin 315 (by decide)) rfl rfl _ _ _ _).trans rfl
set_option maxRecDepth 100000 in
theorem bg_315_1508 (X : (Nat → Int32) × Nat) (l : List (Nat × Nat)) (G : Nat × Nat) (I : Nat → Nat → Int32) (J : Nat → Nat → Int64) (R : List (List (Option Nat))) (Q : Option Value → sm_M → Prop) (x4 : Int32) (s0 : Int32) :
    sm_wp X 315 1508 [some (.retAddr 1), some (.ref 0), some (.ref 81), some (.ref 142), some (.int x4), none, none] [.int s0] (sK0 ++ l, G, I, J, R) Q =
    (vp_in (x4 + 1) X.2 ∧ (vp_in (x4 + 2) X.2 ∧ (vp_in (x4 + 3) X.2 ∧ (sm_wp X 305 0 [some (.ref 81), some (.int (X.1 (x4 + 1).toNatClampNeg)), some (.int (X.1 (x4 + 2).toNatClampNeg)), some (.int (X.1 (x4 + 3).toNatClampNeg)), none] [] (sK0 ++ l, G, I, J, R) (fun v M => sm_wp X 315 1531 [some (.retAddr 1), some (.ref 0), some (.ref 81), some (.ref 142), some (.int x4), none, none] (v.toList ++ []) M Q))))) :=
  (sm_blk X 315 1508 (tt_lin 315 (by decide)) rfl rfl _ _ _ _).trans rfl
set_option maxRecDepth 100000 in
theorem bg_315_1545 (X : (Nat → Int32) × Nat) (l : List (Nat × Nat)) (G : Nat × Nat) (I : Nat → Nat → Int32) (J : Nat → Nat → Int64) (R : List (List (Option Nat))) (Q : Option Value → sm_M → Prop) (x4 : Int32) (s0 : Int32) :
    sm_wp X 315 1545 [some (.retAddr 1), some (.ref 0), some (.ref 81), some (.ref 142), some (.int x4), none, none] [.int s0] (sK0 ++ l, G, I, J, R) Q =
    (vp_in (x4 + 1) X.2 ∧ (sm_wp X 306 0 [some (.ref 81), some (.int (X.1 (x4 + 1).toNatClampNeg)), none, none] [] (sK0 ++ l, G, I, J, R) (fun v M => sm_wp X 315 1556 [some (.retAddr 1), some (.ref 0), some (.ref 81), some (.ref 142), some (.int x4), none, none] (v.toList ++ []) M Q))) :=
  (sm_blk X 315 1545 (tt_lin 315 (by decide)) rfl rfl _ _ _ _).trans rfl
set_option maxRecDepth 100000 in
theorem bg_315_1582 (X : (Nat → Int32) × Nat) (l : List (Nat × Nat)) (G : Nat × Nat) (I : Nat → Nat → Int32) (J : Nat → Nat → Int64) (R : List (List (Option Nat))) (Q : Option Value → sm_M → Prop) (x4 : Int32) (s0 : Int32) :
    sm_wp X 315 1582 [some (.retAddr 1), some (.ref 0), some (.ref 81), some (.ref 142), some (.int x4), none, none] [.int s0] (sK0 ++ l, G, I, J, R) Q =
    (vp_in (x4 + 1) X.2 ∧ (vp_in (x4 + 2) X.2 ∧ (vp_in (x4 + 3) X.2 ∧ (sm_wp X 307 0 [some (.ref 81), some (.int (X.1 (x4 + 1).toNatClampNeg)), some (.int (X.1 (x4 + 2).toNatClampNeg)), some (.int (X.1 (x4 + 3).toNatClampNeg))] [] (sK0 ++ l, G, I, J, R) (fun v M => sm_wp X 315 1605 [some (.retAddr 1), some (.ref 0), some (.ref 81), some (.ref 142), some (.int x4), none, none] (v.toList ++ []) M Q))))) :=
  (sm_blk X 315 1582 (tt_lin 315 (by decide)) rfl rfl _ _ _ _).trans rfl
set_option maxRecDepth 100000 in
theorem bg_315_1659 (X : (Nat → Int32) × Nat) (l : List (Nat × Nat)) (G : Nat × Nat) (I : Nat → Nat → Int32) (J : Nat → Nat → Int64) (R : List (List (Option Nat))) (Q : Option Value → sm_M → Prop) (x4 : Int32) (s0 : Int32) :
    sm_wp X 315 1659 [some (.retAddr 1), some (.ref 0), some (.ref 81), some (.ref 142), some (.int x4), none, none] [.int s0] (sK0 ++ l, G, I, J, R) Q =
    (vp_in (x4 + 1) X.2 ∧ (sm_wp X 310 0 [some (.ref 81), some (.int (X.1 (x4 + 1).toNatClampNeg)), none, none] [] (sK0 ++ l, G, I, J, R) (fun v M => sm_wp X 315 1670 [some (.retAddr 1), some (.ref 0), some (.ref 81), some (.ref 142), some (.int x4), none, none] (v.toList ++ []) M Q))) :=
  (sm_blk X 315 1659 (tt_lin 315 (by decide)) rfl rfl _ _ _ _).trans rfl
