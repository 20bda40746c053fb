set_option maxRecDepth 100000 in
theorem bk_47_0 (X : (Nat → Int32) × Nat) (mo : Bool) (G : Nat × Nat) (I : Nat → Nat → Int32) (J : Nat → Nat → Int64) (Q : Option Value → sm_M → Prop) (x1 : Int32) :
    sm_wp X 47 0 [some (.ref 16), some (.int x1), none] [] (sM mo G I J) Q =
    (sm_wp X 155 0 [some (.ref 14), some (.int x1)] [] (sM mo G (up2 (up2 (up2 (up2 (up2 (up2 (up2 (up2 (up2 I 16 0 0) 16 1 (-1)) 16 2 0) 16 3 0) 16 9 0) 16 10 0) 16 11 0) 16 12 0) 16 13 0) J) (fun v M => sm_wp X 47 53 [some (.ref 16), some (.int x1), none] (v.toList ++ []) M Q)) :=
  (sm_blk X 47 0 (tt_lin 47 (by decide)) rfl rfl _ _ _ _).trans rfl
set_option maxRecDepth 100000 in
theorem bk_47_53 (X : (Nat → Int32) × Nat) (mo : Bool) (G : Nat × Nat) (I : Nat → Nat → Int32) (J : Nat → Nat → Int64) (Q : Option Value → sm_M → Prop) (x1 : Int32) :
    sm_wp X 47 53 [some (.ref 16), some (.int x1), none] [] (sM mo G I J) Q =
    (sm_wp X 47 55 [some (.ref 16), some (.int x1), some (.int 0)] [] (sM mo G I J) Q) :=
  (sm_blk X 47 53 (tt_lin 47 (by decide)) rfl rfl _ _ _ _).trans rfl
set_option maxRecDepth 100000 in
theorem bk_47_55 (X : (Nat → Int32) × Nat) (mo : Bool) (G : Nat × Nat) (I : Nat → Nat → Int32) (J : Nat → Nat → Int64) (Q : Option Value → sm_M → Prop) (x1 : Int32) (x2 : Int32) :
    sm_wp X 47 55 [some (.ref 16), some (.int x1), some (.int x2)] [] (sM mo G I J) Q =
    (if (x1 : Int32) < (x2 : Int32) then sm_wp X 47 92 [some (.ref 16), some (.int x1), some (.int x2)] [] (sM mo G I J) Q else (if (I 16 10 : Int32) = (4 : Int32) then sm_wp X 47 92 [some (.ref 16), some (.int x1), some (.int x2)] [] (sM mo G I J) Q else (if ¬ (I 16 0 : Int32) = 0 then sm_wp X 47 92 [some (.ref 16), some (.int x1), some (.int x2)] [] (sM mo G I J) Q else (sm_wp X 156 0 [some (.ref 14), none] [] (sM mo G I J) (fun v M => sm_wp X 47 83 [some (.ref 16), some (.int x1), some (.int x2)] (v.toList ++ [.ref 16]) M Q))))) :=
  (sm_blk X 47 55 (tt_lin 47 (by decide)) rfl rfl _ _ _ _).trans rfl
set_option maxRecDepth 100000 in
theorem bk_47_83 (X : (Nat → Int32) × Nat) (mo : Bool) (G : Nat × Nat) (I : Nat → Nat → Int32) (J : Nat → Nat → Int64) (Q : Option Value → sm_M → Prop) (x1 : Int32) (x2 : Int32) (s1 : Int32) :
    sm_wp X 47 83 [some (.ref 16), some (.int x1), some (.int x2)] [.int s1, .ref 16] (sM mo G I J) Q =
    (sm_wp X 48 0 [some (.ref 16), some (.int s1)] [] (sM mo G I J) (fun v M => sm_wp X 47 86 [some (.ref 16), some (.int x1), some (.int x2)] (v.toList ++ []) M Q)) :=
  (sm_blk X 47 83 (tt_lin 47 (by decide)) rfl rfl _ _ _ _).trans rfl
set_option maxRecDepth 100000 in
theorem bk_47_86 (X : (Nat → Int32) × Nat) (mo : Bool) (G : Nat × Nat) (I : Nat → Nat → Int32) (J : Nat → Nat → Int64) (Q : Option Value → sm_M → Prop) (x1 : Int32) (x2 : Int32) :
    sm_wp X 47 86 [some (.ref 16), some (.int x1), some (.int x2)] [] (sM mo G I J) Q =
    (sm_wp X 47 55 [some (.ref 16), some (.int x1), some (.int (x2 + 1))] [] (sM mo G I J) Q) :=
  (sm_blk X 47 86 (tt_lin 47 (by decide)) rfl rfl _ _ _ _).trans rfl
set_option maxRecDepth 100000 in
theorem bk_47_92 (X : (Nat → Int32) × Nat) (mo : Bool) (G : Nat × Nat) (I : Nat → Nat → Int32) (J : Nat → Nat → Int64) (Q : Option Value → sm_M → Prop) (x1 : Int32) (x2 : Int32) :
    sm_wp X 47 92 [some (.ref 16), some (.int x1), some (.int x2)] [] (sM mo G I J) Q =
    (True ∧ Q none (sM mo G I J)) :=
  (sm_blk X 47 92 (tt_lin 47 (by decide)) rfl rfl _ _ _ _).trans rfl
set_option maxRecDepth 100000 in
theorem bk_48_0 (X : (Nat → Int32) × Nat) (mo : Bool) (G : Nat × Nat) (I : Nat → Nat → Int32) (J : Nat → Nat → Int64) (Q : Option Value → sm_M → Prop) (x1 : Int32) :
    sm_wp X 48 0 [some (.ref 16), some (.int x1)] [] (sM mo G I J) Q =
    (if ¬ (I 16 10 : Int32) = 0 then sm_wp X 48 15 [some (.ref 16), some (.int x1)] [] (sM mo G I J) Q else (sm_wp X 49 0 [some (.ref 16), some (.int x1)] [] (sM mo G I J) (fun v M => sm_wp X 48 12 [some (.ref 16), some (.int x1)] (v.toList ++ []) M Q))) :=
  (sm_blk X 48 0 (tt_lin 48 (by decide)) rfl rfl _ _ _ _).trans rfl
set_option maxRecDepth 100000 in
theorem bk_48_12 (X : (Nat → Int32) × Nat) (mo : Bool) (G : Nat × Nat) (I : Nat → Nat → Int32) (J : Nat → Nat → Int64) (Q : Option Value → sm_M → Prop) (x1 : Int32) :
    sm_wp X 48 12 [some (.ref 16), some (.int x1)] [] (sM mo G I J) Q =
    (sm_wp X 48 36 [some (.ref 16), some (.int x1)] [] (sM mo G I J) Q) :=
  (sm_blk X 48 12 (tt_lin 48 (by decide)) rfl rfl _ _ _ _).trans rfl
set_option maxRecDepth 100000 in
theorem bk_48_15 (X : (Nat → Int32) × Nat) (mo : Bool) (G : Nat × Nat) (I : Nat → Nat → Int32) (J : Nat → Nat → Int64) (Q : Option Value → sm_M → Prop) (x1 : Int32) :
    sm_wp X 48 15 [some (.ref 16), some (.int x1)] [] (sM mo G I J) Q =
    (if ¬ (I 16 10 : Int32) = (3 : Int32) then sm_wp X 48 31 [some (.ref 16), some (.int x1)] [] (sM mo G I J) Q else (sm_wp X 51 0 [some (.ref 16), some (.int x1)] [] (sM mo G I J) (fun v M => sm_wp X 48 28 [some (.ref 16), some (.int x1)] (v.toList ++ []) M Q))) :=
  (sm_blk X 48 15 (tt_lin 48 (by decide)) rfl rfl _ _ _ _).trans rfl
set_option maxRecDepth 100000 in
theorem bk_48_28 (X : (Nat → Int32) × Nat) (mo : Bool) (G : Nat × Nat) (I : Nat → Nat → Int32) (J : Nat → Nat → Int64) (Q : Option Value → sm_M → Prop) (x1 : Int32) :
    sm_wp X 48 28 [some (.ref 16), some (.int x1)] [] (sM mo G I J) Q =
    (sm_wp X 48 36 [some (.ref 16), some (.int x1)] [] (sM mo G I J) Q) :=
  (sm_blk X 48 28 (tt_lin 48 (by decide)) rfl rfl _ _ _ _).trans rfl
set_option maxRecDepth 100000 in
theorem bk_48_31 (X : (Nat → Int32) × Nat) (mo : Bool) (G : Nat × Nat) (I : Nat → Nat → Int32) (J : Nat → Nat → Int64) (Q : Option Value → sm_M → Prop) (x1 : Int32) :
    sm_wp X 48 31 [some (.ref 16), some (.int x1)] [] (sM mo G I J) Q =
    (sm_wp X 59 0 [some (.ref 16), some (.int x1)] [] (sM mo G I J) (fun v M => sm_wp X 48 36 [some (.ref 16), some (.int x1)] (v.toList ++ []) M Q)) :=
  (sm_blk X 48 31 (tt_lin 48 (by decide)) rfl rfl _ _ _ _).trans rfl
set_option maxRecDepth 100000 in
theorem bk_48_36 (X : (Nat → Int32) × Nat) (mo : Bool) (G : Nat × Nat) (I : Nat → Nat → Int32) (J : Nat → Nat → Int64) (Q : Option Value → sm_M → Prop) (x1 : Int32) :
    sm_wp X 48 36 [some (.ref 16), some (.int x1)] [] (sM mo G I J) Q =
    (True ∧ Q none (sM mo G I J)) :=
  (sm_blk X 48 36 (tt_lin 48 (by decide)) rfl rfl _ _ _ _).trans rfl
set_option maxRecDepth 100000 in
theorem bk_49_0 (X : (Nat → Int32) × Nat) (mo : Bool) (G : Nat × Nat) (I : Nat → Nat → Int32) (J : Nat → Nat → Int64) (Q : Option Value → sm_M → Prop) (x1 : Int32) :
    sm_wp X 49 0 [some (.ref 16), some (.int x1)] [] (sM mo G I J) Q =
    (if ¬ (x1 : Int32) = (34 : Int32) then sm_wp X 49 14 [some (.ref 16), some (.int x1)] [] (sM mo G I J) Q else (sm_wp X 49 85 [some (.ref 16), some (.int x1)] [] (sM mo G (up2 I 16 10 4) J) Q)) :=
  (sm_blk X 49 0 (tt_lin 49 (by decide)) rfl rfl _ _ _ _).trans rfl
set_option maxRecDepth 100000 in
theorem bk_49_14 (X : (Nat → Int32) × Nat) (mo : Bool) (G : Nat × Nat) (I : Nat → Nat → Int32) (J : Nat → Nat → Int64) (Q : Option Value → sm_M → Prop) (x1 : Int32) :
    sm_wp X 49 14 [some (.ref 16), some (.int x1)] [] (sM mo G I J) Q =
    (if (x1 : Int32) < 0 then sm_wp X 49 23 [some (.ref 16), some (.int x1)] [] (sM mo G I J) Q else (if (x1 : Int32) ≤ (3 : Int32) then sm_wp X 49 31 [some (.ref 16), some (.int x1)] [] (sM mo G I J) Q else (sm_wp X 50 0 [some (.ref 16), some (.int 1)] [] (sM mo G I J) (fun v M => sm_wp X 49 28 [some (.ref 16), some (.int x1)] (v.toList ++ []) M Q)))) :=
  (sm_blk X 49 14 (tt_lin 49 (by decide)) rfl rfl _ _ _ _).trans rfl
set_option maxRecDepth 100000 in
theorem bk_49_23 (X : (Nat → Int32) × Nat) (mo : Bool) (G : Nat × Nat) (I : Nat → Nat → Int32) (J : Nat → Nat → Int64) (Q : Option Value → sm_M → Prop) (x1 : Int32) :
    sm_wp X 49 23 [some (.ref 16), some (.int x1)] [] (sM mo G I J) Q =
    (sm_wp X 50 0 [some (.ref 16), some (.int 1)] [] (sM mo G I J) (fun v M => sm_wp X 49 28 [some (.ref 16), some (.int x1)] (v.toList ++ []) M Q)) :=
  (sm_blk X 49 23 (tt_lin 49 (by decide)) rfl rfl _ _ _ _).trans rfl
set_option maxRecDepth 100000 in
theorem bk_49_28 (X : (Nat → Int32) × Nat) (mo : Bool) (G : Nat × Nat) (I : Nat → Nat → Int32) (J : Nat → Nat → Int64) (Q : Option Value → sm_M → Prop) (x1 : Int32) :
    sm_wp X 49 28 [some (.ref 16), some (.int x1)] [] (sM mo G I J) Q =
    (sm_wp X 49 85 [some (.ref 16), some (.int x1)] [] (sM mo G I J) Q) :=
  (sm_blk X 49 28 (tt_lin 49 (by decide)) rfl rfl _ _ _ _).trans rfl
set_option maxRecDepth 100000 in
theorem bk_49_31 (X : (Nat → Int32) × Nat) (mo : Bool) (G : Nat × Nat) (I : Nat → Nat → Int32) (J : Nat → Nat → Int64) (Q : Option Value → sm_M → Prop) (x1 : Int32) :
    sm_wp X 49 31 [some (.ref 16), some (.int x1)] [] (sM mo G I J) Q =
    (if (I 16 2 : Int32) < 0 then sm_wp X 49 47 [some (.ref 16), some (.int x1)] [] (sM mo G I J) Q else (if (I 16 2 : Int32) < (16 : Int32) then sm_wp X 49 55 [some (.ref 16), some (.int x1)] [] (sM mo G I J) Q else (sm_wp X 50 0 [some (.ref 16), some (.int 2)] [] (sM mo G I J) (fun v M => sm_wp X 49 52 [some (.ref 16), some (.int x1)] (v.toList ++ []) M Q)))) :=
  (sm_blk X 49 31 (tt_lin 49 (by decide)) rfl rfl _ _ _ _).trans rfl
set_option maxRecDepth 100000 in
theorem bk_49_47 (X : (Nat → Int32) × Nat) (mo : Bool) (G : Nat × Nat) (I : Nat → Nat → Int32) (J : Nat → Nat → Int64) (Q : Option Value → sm_M → Prop) (x1 : Int32) :
    sm_wp X 49 47 [some (.ref 16), some (.int x1)] [] (sM mo G I J) Q =
    (sm_wp X 50 0 [some (.ref 16), some (.int 2)] [] (sM mo G I J) (fun v M => sm_wp X 49 52 [some (.ref 16), some (.int x1)] (v.toList ++ []) M Q)) :=
  (sm_blk X 49 47 (tt_lin 49 (by decide)) rfl rfl _ _ _ _).trans rfl
set_option maxRecDepth 100000 in
theorem bk_49_52 (X : (Nat → Int32) × Nat) (mo : Bool) (G : Nat × Nat) (I : Nat → Nat → Int32) (J : Nat → Nat → Int64) (Q : Option Value → sm_M → Prop) (x1 : Int32) :
    sm_wp X 49 52 [some (.ref 16), some (.int x1)] [] (sM mo G I J) Q =
    (sm_wp X 49 85 [some (.ref 16), some (.int x1)] [] (sM mo G I J) Q) :=
  (sm_blk X 49 52 (tt_lin 49 (by decide)) rfl rfl _ _ _ _).trans rfl
set_option maxRecDepth 100000 in
theorem bk_49_55 (X : (Nat → Int32) × Nat) (mo : Bool) (G : Nat × Nat) (I : Nat → Nat → Int32) (J : Nat → Nat → Int64) (Q : Option Value → sm_M → Prop) (x1 : Int32) :
    sm_wp X 49 55 [some (.ref 16), some (.int x1)] [] (sM mo G I J) Q =
    (vp_in (I 16 2) 16 ∧ (True ∧ Q none (sM mo G (up2 (up2 (up2 (up2 I 18 (I 16 2).toNatClampNeg x1) 16 2 (((up2 I 18 (I 16 2).toNatClampNeg x1) 16 2) + 1)) 16 13 0) 16 10 1) J))) :=
  (sm_blk X 49 55 (tt_lin 49 (by decide)) rfl rfl _ _ _ _).trans rfl
set_option maxRecDepth 100000 in
theorem bk_49_85 (X : (Nat → Int32) × Nat) (mo : Bool) (G : Nat × Nat) (I : Nat → Nat → Int32) (J : Nat → Nat → Int64) (Q : Option Value → sm_M → Prop) (x1 : Int32) :
    sm_wp X 49 85 [some (.ref 16), some (.int x1)] [] (sM mo G I J) Q =
    (True ∧ Q none (sM mo G I J)) :=
  (sm_blk X 49 85 (tt_lin 49 (by decide)) rfl rfl _ _ _ _).trans rfl
set_option maxRecDepth 100000 in
theorem bk_50_0 (X : (Nat → Int32) × Nat) (mo : Bool) (G : Nat × Nat) (I : Nat → Nat → Int32) (J : Nat → Nat → Int64) (Q : Option Value → sm_M → Prop) (x1 : Int32) :
    sm_wp X 50 0 [some (.ref 16), some (.int x1)] [] (sM mo G I J) Q =
    (True ∧ Q none (sM mo G (up2 (up2 I 16 0 x1) 16 1 ((up2 I 16 0 x1) 14 1)) J)) :=
  (sm_blk X 50 0 (tt_lin 50 (by decide)) rfl rfl _ _ _ _).trans rfl
set_option maxRecDepth 100000 in
theorem bk_51_0 (X : (Nat → Int32) × Nat) (mo : Bool) (G : Nat × Nat) (I : Nat → Nat → Int32) (J : Nat → Nat → Int64) (Q : Option Value → sm_M → Prop) (x1 : Int32) :
    sm_wp X 51 0 [some (.ref 16), some (.int x1)] [] (sM mo G I J) Q =
    (if (x1 : Int32) < (19 : Int32) then sm_wp X 51 21 [some (.ref 16), some (.int x1)] [] (sM mo G I J) Q else (if (23 : Int32) < (x1 : Int32) then sm_wp X 51 21 [some (.ref 16), some (.int x1)] [] (sM mo G I J) Q else (sm_wp X 52 0 [some (.ref 16), some (.int x1), some (.int 2)] [] (sM mo G I J) (fun v M => sm_wp X 51 18 [some (.ref 16), some (.int x1)] (v.toList ++ []) M Q)))) :=
  (sm_blk X 51 0 (tt_lin 51 (by decide)) rfl rfl _ _ _ _).trans rfl
set_option maxRecDepth 100000 in
theorem bk_51_18 (X : (Nat → Int32) × Nat) (mo : Bool) (G : Nat × Nat) (I : Nat → Nat → Int32) (J : Nat → Nat → Int64) (Q : Option Value → sm_M → Prop) (x1 : Int32) :
    sm_wp X 51 18 [some (.ref 16), some (.int x1)] [] (sM mo G I J) Q =
    (sm_wp X 51 178 [some (.ref 16), some (.int x1)] [] (sM mo G I J) Q) :=
  (sm_blk X 51 18 (tt_lin 51 (by decide)) rfl rfl _ _ _ _).trans rfl
set_option maxRecDepth 100000 in
theorem bk_51_21 (X : (Nat → Int32) × Nat) (mo : Bool) (G : Nat × Nat) (I : Nat → Nat → Int32) (J : Nat → Nat → Int64) (Q : Option Value → sm_M → Prop) (x1 : Int32) :
    sm_wp X 51 21 [some (.ref 16), some (.int x1)] [] (sM mo G I J) Q =
    (if (x1 : Int32) < (24 : Int32) then sm_wp X 51 71 [some (.ref 16), some (.int x1)] [] (sM mo G I J) Q else (if (29 : Int32) < (x1 : Int32) then sm_wp X 51 71 [some (.ref 16), some (.int x1)] [] (sM mo G I J) Q else (sm_wp X 169 0 [some (.int (I 16 13)), some (.int (I 16 12))] [] (sM mo G I J) (fun v M => sm_wp X 51 44 [some (.ref 16), some (.int x1)] (v.toList ++ []) M Q)))) :=
  (sm_blk X 51 21 (tt_lin 51 (by decide)) rfl rfl _ _ _ _).trans rfl
set_option maxRecDepth 100000 in
theorem bk_51_44 (X : (Nat → Int32) × Nat) (mo : Bool) (G : Nat × Nat) (I : Nat → Nat → Int32) (J : Nat → Nat → Int64) (Q : Option Value → sm_M → Prop) (x1 : Int32) (s0 : Int32) :
    sm_wp X 51 44 [some (.ref 16), some (.int x1)] [.int s0] (sM mo G I J) Q =
    (if ¬ (s0 : Int32) = 0 then sm_wp X 51 71 [some (.ref 16), some (.int x1)] [] (sM mo G I J) Q else (sm_wp X 52 0 [some (.ref 16), some (.int x1), some (.int 2)] [] (sM mo G (up2 I 16 13 ((I 16 13) ||| (1 <<< ((I 16 12) &&& 31)))) J) (fun v M => sm_wp X 51 68 [some (.ref 16), some (.int x1)] (v.toList ++ []) M Q))) :=
  (sm_blk X 51 44 (tt_lin 51 (by decide)) rfl rfl _ _ _ _).trans rfl
set_option maxRecDepth 100000 in
theorem bk_51_68 (X : (Nat → Int32) × Nat) (mo : Bool) (G : Nat × Nat) (I : Nat → Nat → Int32) (J : Nat → Nat → Int64) (Q : Option Value → sm_M → Prop) (x1 : Int32) :
    sm_wp X 51 68 [some (.ref 16), some (.int x1)] [] (sM mo G I J) Q =
    (sm_wp X 51 178 [some (.ref 16), some (.int x1)] [] (sM mo G I J) Q) :=
  (sm_blk X 51 68 (tt_lin 51 (by decide)) rfl rfl _ _ _ _).trans rfl
set_option maxRecDepth 100000 in
theorem bk_51_71 (X : (Nat → Int32) × Nat) (mo : Bool) (G : Nat × Nat) (I : Nat → Nat → Int32) (J : Nat → Nat → Int64) (Q : Option Value → sm_M → Prop) (x1 : Int32) :
    sm_wp X 51 71 [some (.ref 16), some (.int x1)] [] (sM mo G I J) Q =
    (if (x1 : Int32) = (5 : Int32) then sm_wp X 51 82 [some (.ref 16), some (.int x1)] [] (sM mo G I J) Q else (if ¬ (x1 : Int32) = (6 : Int32) then sm_wp X 51 108 [some (.ref 16), some (.int x1)] [] (sM mo G I J) Q else (sm_wp X 52 0 [some (.ref 16), some (.int x1), some (.int 1)] [] (sM mo G (up2 I 16 13 ((I 16 13) &&& ((1 <<< ((I 16 12) &&& 31)) ^^^ (-1)))) J) (fun v M => sm_wp X 51 105 [some (.ref 16), some (.int x1)] (v.toList ++ []) M Q)))) :=
  (sm_blk X 51 71 (tt_lin 51 (by decide)) rfl rfl _ _ _ _).trans rfl
set_option maxRecDepth 100000 in
theorem bk_51_82 (X : (Nat → Int32) × Nat) (mo : Bool) (G : Nat × Nat) (I : Nat → Nat → Int32) (J : Nat → Nat → Int64) (Q : Option Value → sm_M → Prop) (x1 : Int32) :
    sm_wp X 51 82 [some (.ref 16), some (.int x1)] [] (sM mo G I J) Q =
    (sm_wp X 52 0 [some (.ref 16), some (.int x1), some (.int 1)] [] (sM mo G (up2 I 16 13 ((I 16 13) &&& ((1 <<< ((I 16 12) &&& 31)) ^^^ (-1)))) J) (fun v M => sm_wp X 51 105 [some (.ref 16), some (.int x1)] (v.toList ++ []) M Q)) :=
  (sm_blk X 51 82 (tt_lin 51 (by decide)) rfl rfl _ _ _ _).trans rfl
set_option maxRecDepth 100000 in
theorem bk_51_105 (X : (Nat → Int32) × Nat) (mo : Bool) (G : Nat × Nat) (I : Nat → Nat → Int32) (J : Nat → Nat → Int64) (Q : Option Value → sm_M → Prop) (x1 : Int32) :
    sm_wp X 51 105 [some (.ref 16), some (.int x1)] [] (sM mo G I J) Q =
    (sm_wp X 51 178 [some (.ref 16), some (.int x1)] [] (sM mo G I J) Q) :=
  (sm_blk X 51 105 (tt_lin 51 (by decide)) rfl rfl _ _ _ _).trans rfl
set_option maxRecDepth 100000 in
theorem bk_51_108 (X : (Nat → Int32) × Nat) (mo : Bool) (G : Nat × Nat) (I : Nat → Nat → Int32) (J : Nat → Nat → Int64) (Q : Option Value → sm_M → Prop) (x1 : Int32) :
    sm_wp X 51 108 [some (.ref 16), some (.int x1)] [] (sM mo G I J) Q =
    (if ¬ (x1 : Int32) = (31 : Int32) then sm_wp X 51 153 [some (.ref 16), some (.int x1)] [] (sM mo G I J) Q else (if (I 16 12 : Int32) ≤ 0 then sm_wp X 51 153 [some (.ref 16), some (.int x1)] [] (sM mo G I J) Q else (sm_wp X 55 0 [some (.ref 16), some (.int 1)] [] (sM mo G I J) (fun v M => sm_wp X 51 126 [some (.ref 16), some (.int x1)] (v.toList ++ []) M Q)))) :=
  (sm_blk X 51 108 (tt_lin 51 (by decide)) rfl rfl _ _ _ _).trans rfl
set_option maxRecDepth 100000 in
theorem bk_51_126 (X : (Nat → Int32) × Nat) (mo : Bool) (G : Nat × Nat) (I : Nat → Nat → Int32) (J : Nat → Nat → Int64) (Q : Option Value → sm_M → Prop) (x1 : Int32) :
    sm_wp X 51 126 [some (.ref 16), some (.int x1)] [] (sM mo G I J) Q =
    (True ∧ (sm_wp X 51 178 [some (.ref 16), some (.int x1)] [] (sM mo G (up2 (up2 I 16 9 (if (0 : Int32) < (I 16 9) - 1 then (I 16 9) - 1 else 0)) 16 12 (((up2 I 16 9 (if (0 : Int32) < (I 16 9) - 1 then (I 16 9) - 1 else 0)) 16 12) - 1)) J) Q)) :=
  (sm_blk X 51 126 (tt_lin 51 (by decide)) rfl rfl _ _ _ _).trans rfl
set_option maxRecDepth 100000 in
theorem bk_51_153 (X : (Nat → Int32) × Nat) (mo : Bool) (G : Nat × Nat) (I : Nat → Nat → Int32) (J : Nat → Nat → Int64) (Q : Option Value → sm_M → Prop) (x1 : Int32) :
    sm_wp X 51 153 [some (.ref 16), some (.int x1)] [] (sM mo G I J) Q =
    (if ¬ (x1 : Int32) = (32 : Int32) then sm_wp X 51 173 [some (.ref 16), some (.int x1)] [] (sM mo G I J) Q else (if ¬ (I 16 12 : Int32) = 0 then sm_wp X 51 173 [some (.ref 16), some (.int x1)] [] (sM mo G I J) Q else (sm_wp X 58 0 [some (.ref 16)] [] (sM mo G I J) (fun v M => sm_wp X 51 170 [some (.ref 16), some (.int x1)] (v.toList ++ []) M Q)))) :=
  (sm_blk X 51 153 (tt_lin 51 (by decide)) rfl rfl _ _ _ _).trans rfl
set_option maxRecDepth 100000 in
theorem bk_51_170 (X : (Nat → Int32) × Nat) (mo : Bool) (G : Nat × Nat) (I : Nat → Nat → Int32) (J : Nat → Nat → Int64) (Q : Option Value → sm_M → Prop) (x1 : Int32) :
    sm_wp X 51 170 [some (.ref 16), some (.int x1)] [] (sM mo G I J) Q =
    (sm_wp X 51 178 [some (.ref 16), some (.int x1)] [] (sM mo G I J) Q) :=
  (sm_blk X 51 170 (tt_lin 51 (by decide)) rfl rfl _ _ _ _).trans rfl
set_option maxRecDepth 100000 in
theorem bk_51_173 (X : (Nat → Int32) × Nat) (mo : Bool) (G : Nat × Nat) (I : Nat → Nat → Int32) (J : Nat → Nat → Int64) (Q : Option Value → sm_M → Prop) (x1 : Int32) :
    sm_wp X 51 173 [some (.ref 16), some (.int x1)] [] (sM mo G I J) Q =
    (sm_wp X 50 0 [some (.ref 16), some (.int 1)] [] (sM mo G I J) (fun v M => sm_wp X 51 178 [some (.ref 16), some (.int x1)] (v.toList ++ []) M Q)) :=
  (sm_blk X 51 173 (tt_lin 51 (by decide)) rfl rfl _ _ _ _).trans rfl
set_option maxRecDepth 100000 in
theorem bk_51_178 (X : (Nat → Int32) × Nat) (mo : Bool) (G : Nat × Nat) (I : Nat → Nat → Int32) (J : Nat → Nat → Int64) (Q : Option Value → sm_M → Prop) (x1 : Int32) :
    sm_wp X 51 178 [some (.ref 16), some (.int x1)] [] (sM mo G I J) Q =
    (True ∧ Q none (sM mo G I J)) :=
  (sm_blk X 51 178 (tt_lin 51 (by decide)) rfl rfl _ _ _ _).trans rfl
set_option maxRecDepth 100000 in
theorem bk_52_0 (X : (Nat → Int32) × Nat) (mo : Bool) (G : Nat × Nat) (I : Nat → Nat → Int32) (J : Nat → Nat → Int64) (Q : Option Value → sm_M → Prop) (x1 : Int32) (x2 : Int32) :
    sm_wp X 52 0 [some (.ref 16), some (.int x1), some (.int x2)] [] (sM mo G I J) Q =
    (sm_wp X 53 0 [some (.ref 16)] [] (sM mo G I J) (fun v M => sm_wp X 52 4 [some (.ref 16), some (.int x1), some (.int x2)] (v.toList ++ []) M Q)) :=
  (sm_blk X 52 0 (tt_lin 52 (by decide)) rfl rfl _ _ _ _).trans rfl
set_option maxRecDepth 100000 in
theorem bk_52_4 (X : (Nat → Int32) × Nat) (mo : Bool) (G : Nat × Nat) (I : Nat → Nat → Int32) (J : Nat → Nat → Int64) (Q : Option Value → sm_M → Prop) (x1 : Int32) (x2 : Int32) (s0 : Int32) :
    sm_wp X 52 4 [some (.ref 16), some (.int x1), some (.int x2)] [.int s0] (sM mo G I J) Q =
    (if (s0 : Int32) = 0 then sm_wp X 52 25 [some (.ref 16), some (.int x1), some (.int x2)] [] (sM mo G I J) Q else (sm_wp X 54 0 [some (.int x1)] [] (sM mo G I J) (fun v M => sm_wp X 52 12 [some (.ref 16), some (.int x1), some (.int x2)] (v.toList ++ [.ref 16]) M Q))) :=
  (sm_blk X 52 4 (tt_lin 52 (by decide)) rfl rfl _ _ _ _).trans rfl
set_option maxRecDepth 100000 in
theorem bk_52_12 (X : (Nat → Int32) × Nat) (mo : Bool) (G : Nat × Nat) (I : Nat → Nat → Int32) (J : Nat → Nat → Int64) (Q : Option Value → sm_M → Prop) (x1 : Int32) (x2 : Int32) (s1 : Int32) :
    sm_wp X 52 12 [some (.ref 16), some (.int x1), some (.int x2)] [.int s1, .ref 16] (sM mo G I J) Q =
    (sm_wp X 55 0 [some (.ref 16), some (.int s1)] [] (sM mo G I J) (fun v M => sm_wp X 52 15 [some (.ref 16), some (.int x1), some (.int x2)] (v.toList ++ []) M Q)) :=
  (sm_blk X 52 12 (tt_lin 52 (by decide)) rfl rfl _ _ _ _).trans rfl
set_option maxRecDepth 100000 in
theorem bk_52_15 (X : (Nat → Int32) × Nat) (mo : Bool) (G : Nat × Nat) (I : Nat → Nat → Int32) (J : Nat → Nat → Int64) (Q : Option Value → sm_M → Prop) (x1 : Int32) (x2 : Int32) :
    sm_wp X 52 15 [some (.ref 16), some (.int x1), some (.int x2)] [] (sM mo G I J) Q =
    (sm_wp X 57 0 [some (.ref 16), some (.int x1)] [] (sM mo G I J) (fun v M => sm_wp X 52 20 [some (.ref 16), some (.int x1), some (.int x2)] (v.toList ++ []) M Q)) :=
  (sm_blk X 52 15 (tt_lin 52 (by decide)) rfl rfl _ _ _ _).trans rfl
set_option maxRecDepth 100000 in
theorem bk_52_20 (X : (Nat → Int32) × Nat) (mo : Bool) (G : Nat × Nat) (I : Nat → Nat → Int32) (J : Nat → Nat → Int64) (Q : Option Value → sm_M → Prop) (x1 : Int32) (x2 : Int32) :
    sm_wp X 52 20 [some (.ref 16), some (.int x1), some (.int x2)] [] (sM mo G I J) Q =
    (True ∧ Q none (sM mo G (up2 I 16 10 x2) J)) :=
  (sm_blk X 52 20 (tt_lin 52 (by decide)) rfl rfl _ _ _ _).trans rfl
set_option maxRecDepth 100000 in
theorem bk_52_25 (X : (Nat → Int32) × Nat) (mo : Bool) (G : Nat × Nat) (I : Nat → Nat → Int32) (J : Nat → Nat → Int64) (Q : Option Value → sm_M → Prop) (x1 : Int32) (x2 : Int32) :
    sm_wp X 52 25 [some (.ref 16), some (.int x1), some (.int x2)] [] (sM mo G I J) Q =
    (True ∧ Q none (sM mo G I J)) :=
  (sm_blk X 52 25 (tt_lin 52 (by decide)) rfl rfl _ _ _ _).trans rfl
set_option maxRecDepth 100000 in
theorem bk_53_0 (X : (Nat → Int32) × Nat) (mo : Bool) (G : Nat × Nat) (I : Nat → Nat → Int32) (J : Nat → Nat → Int64) (Q : Option Value → sm_M → Prop)  :
    sm_wp X 53 0 [some (.ref 16)] [] (sM mo G I J) Q =
    (if (I 16 11 : Int32) < (64 : Int32) then sm_wp X 53 16 [some (.ref 16)] [] (sM mo G I J) Q else (sm_wp X 50 0 [some (.ref 16), some (.int 2)] [] (sM mo G I J) (fun v M => sm_wp X 53 14 [some (.ref 16)] (v.toList ++ []) M Q))) :=
  (sm_blk X 53 0 (tt_lin 53 (by decide)) rfl rfl _ _ _ _).trans rfl
set_option maxRecDepth 100000 in
theorem bk_53_14 (X : (Nat → Int32) × Nat) (mo : Bool) (G : Nat × Nat) (I : Nat → Nat → Int32) (J : Nat → Nat → Int64) (Q : Option Value → sm_M → Prop)  :
    sm_wp X 53 14 [some (.ref 16)] [] (sM mo G I J) Q =
    (sm_zb 0 ∧ Q (some (.int 0)) (sM mo G I J)) :=
  (sm_blk X 53 14 (tt_lin 53 (by decide)) rfl rfl _ _ _ _).trans rfl
set_option maxRecDepth 100000 in
theorem bk_53_16 (X : (Nat → Int32) × Nat) (mo : Bool) (G : Nat × Nat) (I : Nat → Nat → Int32) (J : Nat → Nat → Int64) (Q : Option Value → sm_M → Prop)  :
    sm_wp X 53 16 [some (.ref 16)] [] (sM mo G I J) Q =
    (sm_zb 1 ∧ Q (some (.int 1)) (sM mo G (up2 I 16 11 ((I 16 11) + 1)) J)) :=
  (sm_blk X 53 16 (tt_lin 53 (by decide)) rfl rfl _ _ _ _).trans rfl
set_option maxRecDepth 100000 in
theorem bk_54_0 (X : (Nat → Int32) × Nat) (mo : Bool) (G : Nat × Nat) (I : Nat → Nat → Int32) (J : Nat → Nat → Int64) (Q : Option Value → sm_M → Prop) (x0 : Int32) :
    sm_wp X 54 0 [some (.int x0)] [] (sM mo G I J) Q =
    (if (x0 : Int32) = 4 then sm_wp X 54 142 [some (.int x0)] [] (sM mo G I J) Q else if (x0 : Int32) = 5 then sm_wp X 54 140 [some (.int x0)] [] (sM mo G I J) Q else if (x0 : Int32) = 6 then sm_wp X 54 138 [some (.int x0)] [] (sM mo G I J) Q else if (x0 : Int32) = 7 then sm_wp X 54 152 [some (.int x0)] [] (sM mo G I J) Q else if (x0 : Int32) = 8 then sm_wp X 54 152 [some (.int x0)] [] (sM mo G I J) Q else if (x0 : Int32) = 9 then sm_wp X 54 152 [some (.int x0)] [] (sM mo G I J) Q else if (x0 : Int32) = 10 then sm_wp X 54 152 [some (.int x0)] [] (sM mo G I J) Q else if (x0 : Int32) = 11 then sm_wp X 54 152 [some (.int x0)] [] (sM mo G I J) Q else if (x0 : Int32) = 12 then sm_wp X 54 152 [some (.int x0)] [] (sM mo G I J) Q else if (x0 : Int32) = 13 then sm_wp X 54 152 [some (.int x0)] [] (sM mo G I J) Q else if (x0 : Int32) = 14 then sm_wp X 54 152 [some (.int x0)] [] (sM mo G I J) Q else if (x0 : Int32) = 15 then sm_wp X 54 152 [some (.int x0)] [] (sM mo G I J) Q else if (x0 : Int32) = 16 then sm_wp X 54 152 [some (.int x0)] [] (sM mo G I J) Q else if (x0 : Int32) = 17 then sm_wp X 54 152 [some (.int x0)] [] (sM mo G I J) Q else if (x0 : Int32) = 18 then sm_wp X 54 152 [some (.int x0)] [] (sM mo G I J) Q else if (x0 : Int32) = 19 then sm_wp X 54 144 [some (.int x0)] [] (sM mo G I J) Q else if (x0 : Int32) = 20 then sm_wp X 54 144 [some (.int x0)] [] (sM mo G I J) Q else if (x0 : Int32) = 21 then sm_wp X 54 146 [some (.int x0)] [] (sM mo G I J) Q else if (x0 : Int32) = 22 then sm_wp X 54 146 [some (.int x0)] [] (sM mo G I J) Q else if (x0 : Int32) = 23 then sm_wp X 54 146 [some (.int x0)] [] (sM mo G I J) Q else if (x0 : Int32) = 24 then sm_wp X 54 152 [some (.int x0)] [] (sM mo G I J) Q else if (x0 : Int32) = 25 then sm_wp X 54 152 [some (.int x0)] [] (sM mo G I J) Q else if (x0 : Int32) = 26 then sm_wp X 54 152 [some (.int x0)] [] (sM mo G I J) Q else if (x0 : Int32) = 27 then sm_wp X 54 152 [some (.int x0)] [] (sM mo G I J) Q else if (x0 : Int32) = 28 then sm_wp X 54 152 [some (.int x0)] [] (sM mo G I J) Q else if (x0 : Int32) = 29 then sm_wp X 54 152 [some (.int x0)] [] (sM mo G I J) Q else if (x0 : Int32) = 30 then sm_wp X 54 136 [some (.int x0)] [] (sM mo G I J) Q else if (x0 : Int32) = 31 then sm_wp X 54 152 [some (.int x0)] [] (sM mo G I J) Q else if (x0 : Int32) = 32 then sm_wp X 54 152 [some (.int x0)] [] (sM mo G I J) Q else if (x0 : Int32) = 33 then sm_wp X 54 149 [some (.int x0)] [] (sM mo G I J) Q else sm_wp X 54 152 [some (.int x0)] [] (sM mo G I J) Q) :=
  (sm_blk X 54 0 (tt_lin 54 (by decide)) rfl rfl _ _ _ _).trans rfl
set_option maxRecDepth 100000 in
theorem bk_54_136 (X : (Nat → Int32) × Nat) (mo : Bool) (G : Nat × Nat) (I : Nat → Nat → Int32) (J : Nat → Nat → Int64) (Q : Option Value → sm_M → Prop) (x0 : Int32) :
    sm_wp X 54 136 [some (.int x0)] [] (sM mo G I J) Q =
    (True ∧ Q (some (.int 0)) (sM mo G I J)) :=
  (sm_blk X 54 136 (tt_lin 54 (by decide)) rfl rfl _ _ _ _).trans rfl
set_option maxRecDepth 100000 in
theorem bk_54_138 (X : (Nat → Int32) × Nat) (mo : Bool) (G : Nat × Nat) (I : Nat → Nat → Int32) (J : Nat → Nat → Int64) (Q : Option Value → sm_M → Prop) (x0 : Int32) :
    sm_wp X 54 138 [some (.int x0)] [] (sM mo G I J) Q =
    (True ∧ Q (some (.int 1)) (sM mo G I J)) :=
  (sm_blk X 54 138 (tt_lin 54 (by decide)) rfl rfl _ _ _ _).trans rfl
set_option maxRecDepth 100000 in
theorem bk_54_140 (X : (Nat → Int32) × Nat) (mo : Bool) (G : Nat × Nat) (I : Nat → Nat → Int32) (J : Nat → Nat → Int64) (Q : Option Value → sm_M → Prop) (x0 : Int32) :
    sm_wp X 54 140 [some (.int x0)] [] (sM mo G I J) Q =
    (True ∧ Q (some (.int 2)) (sM mo G I J)) :=
  (sm_blk X 54 140 (tt_lin 54 (by decide)) rfl rfl _ _ _ _).trans rfl
set_option maxRecDepth 100000 in
theorem bk_54_142 (X : (Nat → Int32) × Nat) (mo : Bool) (G : Nat × Nat) (I : Nat → Nat → Int32) (J : Nat → Nat → Int64) (Q : Option Value → sm_M → Prop) (x0 : Int32) :
    sm_wp X 54 142 [some (.int x0)] [] (sM mo G I J) Q =
    (True ∧ Q (some (.int 3)) (sM mo G I J)) :=
  (sm_blk X 54 142 (tt_lin 54 (by decide)) rfl rfl _ _ _ _).trans rfl
set_option maxRecDepth 100000 in
theorem bk_54_144 (X : (Nat → Int32) × Nat) (mo : Bool) (G : Nat × Nat) (I : Nat → Nat → Int32) (J : Nat → Nat → Int64) (Q : Option Value → sm_M → Prop) (x0 : Int32) :
    sm_wp X 54 144 [some (.int x0)] [] (sM mo G I J) Q =
    (True ∧ Q (some (.int 5)) (sM mo G I J)) :=
  (sm_blk X 54 144 (tt_lin 54 (by decide)) rfl rfl _ _ _ _).trans rfl
set_option maxRecDepth 100000 in
theorem bk_54_146 (X : (Nat → Int32) × Nat) (mo : Bool) (G : Nat × Nat) (I : Nat → Nat → Int32) (J : Nat → Nat → Int64) (Q : Option Value → sm_M → Prop) (x0 : Int32) :
    sm_wp X 54 146 [some (.int x0)] [] (sM mo G I J) Q =
    (True ∧ Q (some (.int 6)) (sM mo G I J)) :=
  (sm_blk X 54 146 (tt_lin 54 (by decide)) rfl rfl _ _ _ _).trans rfl
set_option maxRecDepth 100000 in
theorem bk_54_149 (X : (Nat → Int32) × Nat) (mo : Bool) (G : Nat × Nat) (I : Nat → Nat → Int32) (J : Nat → Nat → Int64) (Q : Option Value → sm_M → Prop) (x0 : Int32) :
    sm_wp X 54 149 [some (.int x0)] [] (sM mo G I J) Q =
    (True ∧ Q (some (.int 7)) (sM mo G I J)) :=
  (sm_blk X 54 149 (tt_lin 54 (by decide)) rfl rfl _ _ _ _).trans rfl
set_option maxRecDepth 100000 in
theorem bk_54_152 (X : (Nat → Int32) × Nat) (mo : Bool) (G : Nat × Nat) (I : Nat → Nat → Int32) (J : Nat → Nat → Int64) (Q : Option Value → sm_M → Prop) (x0 : Int32) :
    sm_wp X 54 152 [some (.int x0)] [] (sM mo G I J) Q =
    (True ∧ Q (some (.int 4)) (sM mo G I J)) :=
  (sm_blk X 54 152 (tt_lin 54 (by decide)) rfl rfl _ _ _ _).trans rfl
set_option maxRecDepth 100000 in
theorem bk_55_0 (X : (Nat → Int32) × Nat) (mo : Bool) (G : Nat × Nat) (I : Nat → Nat → Int32) (J : Nat → Nat → Int64) (Q : Option Value → sm_M → Prop) (x1 : Int32) :
    sm_wp X 55 0 [some (.ref 16), some (.int x1)] [] (sM mo G I J) Q =
    (if (I 16 9 : Int32) ≤ 0 then sm_wp X 55 60 [some (.ref 16), some (.int x1)] [] (sM mo G I J) Q else (if (72 : Int32) < (I 16 9 : Int32) then sm_wp X 55 60 [some (.ref 16), some (.int x1)] [] (sM mo G I J) Q else (vp_in ((I 16 9) - 1) 72 ∧ (sm_wp X 54 0 [some (.int (I 20 (((I 16 9) - 1).toNatClampNeg)))] [] (sM mo G I J) (fun v M => sm_wp X 55 30 [some (.ref 16), some (.int x1)] (v.toList ++ []) M Q))))) :=
  (sm_blk X 55 0 (tt_lin 55 (by decide)) rfl rfl _ _ _ _).trans rfl
set_option maxRecDepth 100000 in
theorem bk_55_30 (X : (Nat → Int32) × Nat) (mo : Bool) (G : Nat × Nat) (I : Nat → Nat → Int32) (J : Nat → Nat → Int64) (Q : Option Value → sm_M → Prop) (x1 : Int32) (s0 : Int32) :
    sm_wp X 55 30 [some (.ref 16), some (.int x1)] [.int s0] (sM mo G I J) Q =
    (if (s0 : Int32) < (x1 : Int32) then sm_wp X 55 60 [some (.ref 16), some (.int x1)] [] (sM mo G I J) Q else (vp_in ((up2 I 16 9 ((I 16 9) - 1)) 16 9) 72 ∧ (sm_wp X 56 0 [some (.ref 16), some (.int ((up2 I 16 9 ((I 16 9) - 1)) 20 (((up2 I 16 9 ((I 16 9) - 1)) 16 9).toNatClampNeg)))] [] (sM mo G (up2 I 16 9 ((I 16 9) - 1)) J) (fun v M => sm_wp X 55 57 [some (.ref 16), some (.int x1)] (v.toList ++ []) M Q)))) :=
  (sm_blk X 55 30 (tt_lin 55 (by decide)) rfl rfl _ _ _ _).trans rfl
set_option maxRecDepth 100000 in
theorem bk_55_57 (X : (Nat → Int32) × Nat) (mo : Bool) (G : Nat × Nat) (I : Nat → Nat → Int32) (J : Nat → Nat → Int64) (Q : Option Value → sm_M → Prop) (x1 : Int32) :
    sm_wp X 55 57 [some (.ref 16), some (.int x1)] [] (sM mo G I J) Q =
    (sm_wp X 55 0 [some (.ref 16), some (.int x1)] [] (sM mo G I J) Q) :=
  (sm_blk X 55 57 (tt_lin 55 (by decide)) rfl rfl _ _ _ _).trans rfl
set_option maxRecDepth 100000 in
theorem bk_55_60 (X : (Nat → Int32) × Nat) (mo : Bool) (G : Nat × Nat) (I : Nat → Nat → Int32) (J : Nat → Nat → Int64) (Q : Option Value → sm_M → Prop) (x1 : Int32) :
    sm_wp X 55 60 [some (.ref 16), some (.int x1)] [] (sM mo G I J) Q =
    (True ∧ Q none (sM mo G I J)) :=
  (sm_blk X 55 60 (tt_lin 55 (by decide)) rfl rfl _ _ _ _).trans rfl
set_option maxRecDepth 100000 in
theorem bk_56_0 (X : (Nat → Int32) × Nat) (mo : Bool) (G : Nat × Nat) (I : Nat → Nat → Int32) (J : Nat → Nat → Int64) (Q : Option Value → sm_M → Prop) (x1 : Int32) :
    sm_wp X 56 0 [some (.ref 16), some (.int x1)] [] (sM mo G I J) Q =
    (if (I 16 3 : Int32) < 0 then sm_wp X 56 36 [some (.ref 16), some (.int x1)] [] (sM mo G I J) Q else (if (64 : Int32) ≤ (I 16 3 : Int32) then sm_wp X 56 36 [some (.ref 16), some (.int x1)] [] (sM mo G I J) Q else (vp_in (I 16 3) 64 ∧ (True ∧ Q none (sM mo G (up2 (up2 I 17 (I 16 3).toNatClampNeg x1) 16 3 (((up2 I 17 (I 16 3).toNatClampNeg x1) 16 3) + 1)) J))))) :=
  (sm_blk X 56 0 (tt_lin 56 (by decide)) rfl rfl _ _ _ _).trans rfl
set_option maxRecDepth 100000 in
theorem bk_56_36 (X : (Nat → Int32) × Nat) (mo : Bool) (G : Nat × Nat) (I : Nat → Nat → Int32) (J : Nat → Nat → Int64) (Q : Option Value → sm_M → Prop) (x1 : Int32) :
    sm_wp X 56 36 [some (.ref 16), some (.int x1)] [] (sM mo G I J) Q =
    (True ∧ Q none (sM mo G I J)) :=
  (sm_blk X 56 36 (tt_lin 56 (by decide)) rfl rfl _ _ _ _).trans rfl
set_option maxRecDepth 100000 in
theorem bk_57_0 (X : (Nat → Int32) × Nat) (mo : Bool) (G : Nat × Nat) (I : Nat → Nat → Int32) (J : Nat → Nat → Int64) (Q : Option Value → sm_M → Prop) (x1 : Int32) :
    sm_wp X 57 0 [some (.ref 16), some (.int x1)] [] (sM mo G I J) Q =
    (if (I 16 9 : Int32) < 0 then sm_wp X 57 36 [some (.ref 16), some (.int x1)] [] (sM mo G I J) Q else (if (72 : Int32) ≤ (I 16 9 : Int32) then sm_wp X 57 36 [some (.ref 16), some (.int x1)] [] (sM mo G I J) Q else (vp_in (I 16 9) 72 ∧ (True ∧ Q none (sM mo G (up2 (up2 I 20 (I 16 9).toNatClampNeg x1) 16 9 (((up2 I 20 (I 16 9).toNatClampNeg x1) 16 9) + 1)) J))))) :=
  (sm_blk X 57 0 (tt_lin 57 (by decide)) rfl rfl _ _ _ _).trans rfl
set_option maxRecDepth 100000 in
theorem bk_57_36 (X : (Nat → Int32) × Nat) (mo : Bool) (G : Nat × Nat) (I : Nat → Nat → Int32) (J : Nat → Nat → Int64) (Q : Option Value → sm_M → Prop) (x1 : Int32) :
    sm_wp X 57 36 [some (.ref 16), some (.int x1)] [] (sM mo G I J) Q =
    (True ∧ Q none (sM mo G I J)) :=
  (sm_blk X 57 36 (tt_lin 57 (by decide)) rfl rfl _ _ _ _).trans rfl
set_option maxRecDepth 100000 in
theorem bk_58_0 (X : (Nat → Int32) × Nat) (mo : Bool) (G : Nat × Nat) (I : Nat → Nat → Int32) (J : Nat → Nat → Int64) (Q : Option Value → sm_M → Prop)  :
    sm_wp X 58 0 [some (.ref 16)] [] (sM mo G I J) Q =
    (sm_wp X 55 0 [some (.ref 16), some (.int 1)] [] (sM mo G I J) (fun v M => sm_wp X 58 5 [some (.ref 16)] (v.toList ++ []) M Q)) :=
  (sm_blk X 58 0 (tt_lin 58 (by decide)) rfl rfl _ _ _ _).trans rfl
set_option maxRecDepth 100000 in
theorem bk_58_5 (X : (Nat → Int32) × Nat) (mo : Bool) (G : Nat × Nat) (I : Nat → Nat → Int32) (J : Nat → Nat → Int64) (Q : Option Value → sm_M → Prop)  :
    sm_wp X 58 5 [some (.ref 16)] [] (sM mo G I J) Q =
    (if (I 16 2 : Int32) < (1 : Int32) then sm_wp X 58 37 [some (.ref 16)] [] (sM mo G I J) Q else (if (16 : Int32) < (I 16 2 : Int32) then sm_wp X 58 37 [some (.ref 16)] [] (sM mo G I J) Q else (vp_in ((I 16 2) - 1) 16 ∧ (True ∧ Q none (sM mo G (up2 (up2 I 19 ((I 16 2) - 1).toNatClampNeg (I 16 3)) 16 10 0) J))))) :=
  (sm_blk X 58 5 (tt_lin 58 (by decide)) rfl rfl _ _ _ _).trans rfl
set_option maxRecDepth 100000 in
theorem bk_58_37 (X : (Nat → Int32) × Nat) (mo : Bool) (G : Nat × Nat) (I : Nat → Nat → Int32) (J : Nat → Nat → Int64) (Q : Option Value → sm_M → Prop)  :
    sm_wp X 58 37 [some (.ref 16)] [] (sM mo G I J) Q =
    (True ∧ Q none (sM mo G (up2 I 16 10 0) J)) :=
  (sm_blk X 58 37 (tt_lin 58 (by decide)) rfl rfl _ _ _ _).trans rfl
set_option maxRecDepth 100000 in
theorem bk_59_0 (X : (Nat → Int32) × Nat) (mo : Bool) (G : Nat × Nat) (I : Nat → Nat → Int32) (J : Nat → Nat → Int64) (Q : Option Value → sm_M → Prop) (x1 : Int32) :
    sm_wp X 59 0 [some (.ref 16), some (.int x1)] [] (sM mo G I J) Q =
    (if ¬ (x1 : Int32) = (36 : Int32) then sm_wp X 59 13 [some (.ref 16), some (.int x1)] [] (sM mo G I J) Q else (sm_wp X 60 0 [some (.ref 16)] [] (sM mo G I J) (fun v M => sm_wp X 59 10 [some (.ref 16), some (.int x1)] (v.toList ++ []) M Q))) :=
  (sm_blk X 59 0 (tt_lin 59 (by decide)) rfl rfl _ _ _ _).trans rfl
set_option maxRecDepth 100000 in
theorem bk_59_10 (X : (Nat → Int32) × Nat) (mo : Bool) (G : Nat × Nat) (I : Nat → Nat → Int32) (J : Nat → Nat → Int64) (Q : Option Value → sm_M → Prop) (x1 : Int32) :
    sm_wp X 59 10 [some (.ref 16), some (.int x1)] [] (sM mo G I J) Q =
    (sm_wp X 59 101 [some (.ref 16), some (.int x1)] [] (sM mo G I J) Q) :=
  (sm_blk X 59 10 (tt_lin 59 (by decide)) rfl rfl _ _ _ _).trans rfl
set_option maxRecDepth 100000 in
theorem bk_59_13 (X : (Nat → Int32) × Nat) (mo : Bool) (G : Nat × Nat) (I : Nat → Nat → Int32) (J : Nat → Nat → Int64) (Q : Option Value → sm_M → Prop) (x1 : Int32) :
    sm_wp X 59 13 [some (.ref 16), some (.int x1)] [] (sM mo G I J) Q =
    (if (x1 : Int32) < (7 : Int32) then sm_wp X 59 45 [some (.ref 16), some (.int x1)] [] (sM mo G I J) Q else (if (19 : Int32) ≤ (x1 : Int32) then sm_wp X 59 45 [some (.ref 16), some (.int x1)] [] (sM mo G I J) Q else (sm_wp X 53 0 [some (.ref 16)] [] (sM mo G I J) (fun v M => sm_wp X 59 29 [some (.ref 16), some (.int x1)] (v.toList ++ []) M Q)))) :=
  (sm_blk X 59 13 (tt_lin 59 (by decide)) rfl rfl _ _ _ _).trans rfl
set_option maxRecDepth 100000 in
theorem bk_59_29 (X : (Nat → Int32) × Nat) (mo : Bool) (G : Nat × Nat) (I : Nat → Nat → Int32) (J : Nat → Nat → Int64) (Q : Option Value → sm_M → Prop) (x1 : Int32) (s0 : Int32) :
    sm_wp X 59 29 [some (.ref 16), some (.int x1)] [.int s0] (sM mo G I J) Q =
    (if (s0 : Int32) = 0 then sm_wp X 59 101 [some (.ref 16), some (.int x1)] [] (sM mo G I J) Q else (sm_wp X 56 0 [some (.ref 16), some (.int x1)] [] (sM mo G I J) (fun v M => sm_wp X 59 37 [some (.ref 16), some (.int x1)] (v.toList ++ []) M Q))) :=
  (sm_blk X 59 29 (tt_lin 59 (by decide)) rfl rfl _ _ _ _).trans rfl
set_option maxRecDepth 100000 in
theorem bk_59_37 (X : (Nat → Int32) × Nat) (mo : Bool) (G : Nat × Nat) (I : Nat → Nat → Int32) (J : Nat → Nat → Int64) (Q : Option Value → sm_M → Prop) (x1 : Int32) :
    sm_wp X 59 37 [some (.ref 16), some (.int x1)] [] (sM mo G I J) Q =
    (sm_wp X 59 101 [some (.ref 16), some (.int x1)] [] (sM mo G (up2 I 16 10 3) J) Q) :=
  (sm_blk X 59 37 (tt_lin 59 (by decide)) rfl rfl _ _ _ _).trans rfl
set_option maxRecDepth 100000 in
theorem bk_59_45 (X : (Nat → Int32) × Nat) (mo : Bool) (G : Nat × Nat) (I : Nat → Nat → Int32) (J : Nat → Nat → Int64) (Q : Option Value → sm_M → Prop) (x1 : Int32) :
    sm_wp X 59 45 [some (.ref 16), some (.int x1)] [] (sM mo G I J) Q =
    (if ¬ (x1 : Int32) = (30 : Int32) then sm_wp X 59 58 [some (.ref 16), some (.int x1)] [] (sM mo G I J) Q else (sm_wp X 61 0 [some (.ref 16)] [] (sM mo G I J) (fun v M => sm_wp X 59 55 [some (.ref 16), some (.int x1)] (v.toList ++ []) M Q))) :=
  (sm_blk X 59 45 (tt_lin 59 (by decide)) rfl rfl _ _ _ _).trans rfl
set_option maxRecDepth 100000 in
theorem bk_59_55 (X : (Nat → Int32) × Nat) (mo : Bool) (G : Nat × Nat) (I : Nat → Nat → Int32) (J : Nat → Nat → Int64) (Q : Option Value → sm_M → Prop) (x1 : Int32) :
    sm_wp X 59 55 [some (.ref 16), some (.int x1)] [] (sM mo G I J) Q =
    (sm_wp X 59 101 [some (.ref 16), some (.int x1)] [] (sM mo G I J) Q) :=
  (sm_blk X 59 55 (tt_lin 59 (by decide)) rfl rfl _ _ _ _).trans rfl
set_option maxRecDepth 100000 in
theorem bk_59_58 (X : (Nat → Int32) × Nat) (mo : Bool) (G : Nat × Nat) (I : Nat → Nat → Int32) (J : Nat → Nat → Int64) (Q : Option Value → sm_M → Prop) (x1 : Int32) :
    sm_wp X 59 58 [some (.ref 16), some (.int x1)] [] (sM mo G I J) Q =
    (if ¬ (x1 : Int32) = (20 : Int32) then sm_wp X 59 74 [some (.ref 16), some (.int x1)] [] (sM mo G I J) Q else (sm_wp X 62 0 [some (.ref 16), some (.int 33), some (.int 2)] [] (sM mo G I J) (fun v M => sm_wp X 59 71 [some (.ref 16), some (.int x1)] (v.toList ++ []) M Q))) :=
  (sm_blk X 59 58 (tt_lin 59 (by decide)) rfl rfl _ _ _ _).trans rfl
set_option maxRecDepth 100000 in
theorem bk_59_71 (X : (Nat → Int32) × Nat) (mo : Bool) (G : Nat × Nat) (I : Nat → Nat → Int32) (J : Nat → Nat → Int64) (Q : Option Value → sm_M → Prop) (x1 : Int32) :
    sm_wp X 59 71 [some (.ref 16), some (.int x1)] [] (sM mo G I J) Q =
    (sm_wp X 59 101 [some (.ref 16), some (.int x1)] [] (sM mo G I J) Q) :=
  (sm_blk X 59 71 (tt_lin 59 (by decide)) rfl rfl _ _ _ _).trans rfl
set_option maxRecDepth 100000 in
theorem bk_59_74 (X : (Nat → Int32) × Nat) (mo : Bool) (G : Nat × Nat) (I : Nat → Nat → Int32) (J : Nat → Nat → Int64) (Q : Option Value → sm_M → Prop) (x1 : Int32) :
    sm_wp X 59 74 [some (.ref 16), some (.int x1)] [] (sM mo G I J) Q =
    (if ¬ (x1 : Int32) = (4 : Int32) then sm_wp X 59 96 [some (.ref 16), some (.int x1)] [] (sM mo G I J) Q else (if ¬ (I 16 10 : Int32) = (1 : Int32) then sm_wp X 59 96 [some (.ref 16), some (.int x1)] [] (sM mo G I J) Q else (sm_wp X 62 0 [some (.ref 16), some (.int 4), some (.int 1)] [] (sM mo G I J) (fun v M => sm_wp X 59 93 [some (.ref 16), some (.int x1)] (v.toList ++ []) M Q)))) :=
  (sm_blk X 59 74 (tt_lin 59 (by decide)) rfl rfl _ _ _ _).trans rfl
set_option maxRecDepth 100000 in
theorem bk_59_93 (X : (Nat → Int32) × Nat) (mo : Bool) (G : Nat × Nat) (I : Nat → Nat → Int32) (J : Nat → Nat → Int64) (Q : Option Value → sm_M → Prop) (x1 : Int32) :
    sm_wp X 59 93 [some (.ref 16), some (.int x1)] [] (sM mo G I J) Q =
    (sm_wp X 59 101 [some (.ref 16), some (.int x1)] [] (sM mo G I J) Q) :=
  (sm_blk X 59 93 (tt_lin 59 (by decide)) rfl rfl _ _ _ _).trans rfl
set_option maxRecDepth 100000 in
theorem bk_59_96 (X : (Nat → Int32) × Nat) (mo : Bool) (G : Nat × Nat) (I : Nat → Nat → Int32) (J : Nat → Nat → Int64) (Q : Option Value → sm_M → Prop) (x1 : Int32) :
    sm_wp X 59 96 [some (.ref 16), some (.int x1)] [] (sM mo G I J) Q =
    (sm_wp X 50 0 [some (.ref 16), some (.int 1)] [] (sM mo G I J) (fun v M => sm_wp X 59 101 [some (.ref 16), some (.int x1)] (v.toList ++ []) M Q)) :=
  (sm_blk X 59 96 (tt_lin 59 (by decide)) rfl rfl _ _ _ _).trans rfl
set_option maxRecDepth 100000 in
theorem bk_59_101 (X : (Nat → Int32) × Nat) (mo : Bool) (G : Nat × Nat) (I : Nat → Nat → Int32) (J : Nat → Nat → Int64) (Q : Option Value → sm_M → Prop) (x1 : Int32) :
    sm_wp X 59 101 [some (.ref 16), some (.int x1)] [] (sM mo G I J) Q =
    (True ∧ Q none (sM mo G I J)) :=
  (sm_blk X 59 101 (tt_lin 59 (by decide)) rfl rfl _ _ _ _).trans rfl
set_option maxRecDepth 100000 in
theorem bk_60_0 (X : (Nat → Int32) × Nat) (mo : Bool) (G : Nat × Nat) (I : Nat → Nat → Int32) (J : Nat → Nat → Int64) (Q : Option Value → sm_M → Prop)  :
    sm_wp X 60 0 [some (.ref 16)] [] (sM mo G I J) Q =
    (if (I 14 2 : Int32) ≤ (99999 : Int32) then sm_wp X 60 20 [some (.ref 16)] [] (sM mo G I J) Q else (sm_wp X 50 0 [some (.ref 16), some (.int 2)] [] (sM mo G I J) (fun v M => sm_wp X 60 17 [some (.ref 16)] (v.toList ++ []) M Q))) :=
  (sm_blk X 60 0 (tt_lin 60 (by decide)) rfl rfl _ _ _ _).trans rfl
set_option maxRecDepth 100000 in
theorem bk_60_17 (X : (Nat → Int32) × Nat) (mo : Bool) (G : Nat × Nat) (I : Nat → Nat → Int32) (J : Nat → Nat → Int64) (Q : Option Value → sm_M → Prop)  :
    sm_wp X 60 17 [some (.ref 16)] [] (sM mo G I J) Q =
    (sm_wp X 60 46 [some (.ref 16)] [] (sM mo G I J) Q) :=
  (sm_blk X 60 17 (tt_lin 60 (by decide)) rfl rfl _ _ _ _).trans rfl
set_option maxRecDepth 100000 in
theorem bk_60_20 (X : (Nat → Int32) × Nat) (mo : Bool) (G : Nat × Nat) (I : Nat → Nat → Int32) (J : Nat → Nat → Int64) (Q : Option Value → sm_M → Prop)  :
    sm_wp X 60 20 [some (.ref 16)] [] (sM mo G I J) Q =
    (sm_wp X 53 0 [some (.ref 16)] [] (sM mo G I J) (fun v M => sm_wp X 60 24 [some (.ref 16)] (v.toList ++ []) M Q)) :=
  (sm_blk X 60 20 (tt_lin 60 (by decide)) rfl rfl _ _ _ _).trans rfl
set_option maxRecDepth 100000 in
theorem bk_60_24 (X : (Nat → Int32) × Nat) (mo : Bool) (G : Nat × Nat) (I : Nat → Nat → Int32) (J : Nat → Nat → Int64) (Q : Option Value → sm_M → Prop) (s0 : Int32) :
    sm_wp X 60 24 [some (.ref 16)] [.int s0] (sM mo G I J) Q =
    (if (s0 : Int32) = 0 then sm_wp X 60 46 [some (.ref 16)] [] (sM mo G I J) Q else (sm_wp X 56 0 [some (.ref 16), some (.int (100 + (I 14 2)))] [] (sM mo G I J) (fun v M => sm_wp X 60 41 [some (.ref 16)] (v.toList ++ []) M Q))) :=
  (sm_blk X 60 24 (tt_lin 60 (by decide)) rfl rfl _ _ _ _).trans rfl
set_option maxRecDepth 100000 in
theorem bk_60_41 (X : (Nat → Int32) × Nat) (mo : Bool) (G : Nat × Nat) (I : Nat → Nat → Int32) (J : Nat → Nat → Int64) (Q : Option Value → sm_M → Prop)  :
    sm_wp X 60 41 [some (.ref 16)] [] (sM mo G I J) Q =
    (True ∧ Q none (sM mo G (up2 I 16 10 3) J)) :=
  (sm_blk X 60 41 (tt_lin 60 (by decide)) rfl rfl _ _ _ _).trans rfl
set_option maxRecDepth 100000 in
theorem bk_60_46 (X : (Nat → Int32) × Nat) (mo : Bool) (G : Nat × Nat) (I : Nat → Nat → Int32) (J : Nat → Nat → Int64) (Q : Option Value → sm_M → Prop)  :
    sm_wp X 60 46 [some (.ref 16)] [] (sM mo G I J) Q =
    (True ∧ Q none (sM mo G I J)) :=
  (sm_blk X 60 46 (tt_lin 60 (by decide)) rfl rfl _ _ _ _).trans rfl
set_option maxRecDepth 100000 in
theorem bk_61_0 (X : (Nat → Int32) × Nat) (mo : Bool) (G : Nat × Nat) (I : Nat → Nat → Int32) (J : Nat → Nat → Int64) (Q : Option Value → sm_M → Prop)  :
    sm_wp X 61 0 [some (.ref 16)] [] (sM mo G I J) Q =
    (if (I 16 12 : Int32) < (8 : Int32) then sm_wp X 61 15 [some (.ref 16)] [] (sM mo G I J) Q else (sm_wp X 50 0 [some (.ref 16), some (.int 2)] [] (sM mo G I J) (fun v M => sm_wp X 61 14 [some (.ref 16)] (v.toList ++ []) M Q))) :=
  (sm_blk X 61 0 (tt_lin 61 (by decide)) rfl rfl _ _ _ _).trans rfl
set_option maxRecDepth 100000 in
theorem bk_61_14 (X : (Nat → Int32) × Nat) (mo : Bool) (G : Nat × Nat) (I : Nat → Nat → Int32) (J : Nat → Nat → Int64) (Q : Option Value → sm_M → Prop)  :
    sm_wp X 61 14 [some (.ref 16)] [] (sM mo G I J) Q =
    (True ∧ Q none (sM mo G I J)) :=
  (sm_blk X 61 14 (tt_lin 61 (by decide)) rfl rfl _ _ _ _).trans rfl
set_option maxRecDepth 100000 in
theorem bk_61_15 (X : (Nat → Int32) × Nat) (mo : Bool) (G : Nat × Nat) (I : Nat → Nat → Int32) (J : Nat → Nat → Int64) (Q : Option Value → sm_M → Prop)  :
    sm_wp X 61 15 [some (.ref 16)] [] (sM mo G I J) Q =
    (sm_wp X 57 0 [some (.ref 16), some (.int 30)] [] (sM mo G (up2 (up2 I 16 12 ((I 16 12) + 1)) 16 13 (((up2 I 16 12 ((I 16 12) + 1)) 16 13) &&& ((1 <<< (((up2 I 16 12 ((I 16 12) + 1)) 16 12) &&& 31)) ^^^ (-1)))) J) (fun v M => sm_wp X 61 48 [some (.ref 16)] (v.toList ++ []) M Q)) :=
  (sm_blk X 61 15 (tt_lin 61 (by decide)) rfl rfl _ _ _ _).trans rfl
set_option maxRecDepth 100000 in
theorem bk_61_48 (X : (Nat → Int32) × Nat) (mo : Bool) (G : Nat × Nat) (I : Nat → Nat → Int32) (J : Nat → Nat → Int64) (Q : Option Value → sm_M → Prop)  :
    sm_wp X 61 48 [some (.ref 16)] [] (sM mo G I J) Q =
    (True ∧ Q none (sM mo G (up2 I 16 10 1) J)) :=
  (sm_blk X 61 48 (tt_lin 61 (by decide)) rfl rfl _ _ _ _).trans rfl
set_option maxRecDepth 100000 in
theorem bk_62_0 (X : (Nat → Int32) × Nat) (mo : Bool) (G : Nat × Nat) (I : Nat → Nat → Int32) (J : Nat → Nat → Int64) (Q : Option Value → sm_M → Prop) (x1 : Int32) (x2 : Int32) :
    sm_wp X 62 0 [some (.ref 16), some (.int x1), some (.int x2)] [] (sM mo G I J) Q =
    (sm_wp X 53 0 [some (.ref 16)] [] (sM mo G I J) (fun v M => sm_wp X 62 4 [some (.ref 16), some (.int x1), some (.int x2)] (v.toList ++ []) M Q)) :=
  (sm_blk X 62 0 (tt_lin 62 (by decide)) rfl rfl _ _ _ _).trans rfl
set_option maxRecDepth 100000 in
theorem bk_62_4 (X : (Nat → Int32) × Nat) (mo : Bool) (G : Nat × Nat) (I : Nat → Nat → Int32) (J : Nat → Nat → Int64) (Q : Option Value → sm_M → Prop) (x1 : Int32) (x2 : Int32) (s0 : Int32) :
    sm_wp X 62 4 [some (.ref 16), some (.int x1), some (.int x2)] [.int s0] (sM mo G I J) Q =
    (if (s0 : Int32) = 0 then sm_wp X 62 17 [some (.ref 16), some (.int x1), some (.int x2)] [] (sM mo G I J) Q else (sm_wp X 57 0 [some (.ref 16), some (.int x1)] [] (sM mo G I J) (fun v M => sm_wp X 62 12 [some (.ref 16), some (.int x1), some (.int x2)] (v.toList ++ []) M Q))) :=
  (sm_blk X 62 4 (tt_lin 62 (by decide)) rfl rfl _ _ _ _).trans rfl
set_option maxRecDepth 100000 in
theorem bk_62_12 (X : (Nat → Int32) × Nat) (mo : Bool) (G : Nat × Nat) (I : Nat → Nat → Int32) (J : Nat → Nat → Int64) (Q : Option Value → sm_M → Prop) (x1 : Int32) (x2 : Int32) :
    sm_wp X 62 12 [some (.ref 16), some (.int x1), some (.int x2)] [] (sM mo G I J) Q =
    (True ∧ Q none (sM mo G (up2 I 16 10 x2) J)) :=
  (sm_blk X 62 12 (tt_lin 62 (by decide)) rfl rfl _ _ _ _).trans rfl
set_option maxRecDepth 100000 in
theorem bk_62_17 (X : (Nat → Int32) × Nat) (mo : Bool) (G : Nat × Nat) (I : Nat → Nat → Int32) (J : Nat → Nat → Int64) (Q : Option Value → sm_M → Prop) (x1 : Int32) (x2 : Int32) :
    sm_wp X 62 17 [some (.ref 16), some (.int x1), some (.int x2)] [] (sM mo G I J) Q =
    (True ∧ Q none (sM mo G I J)) :=
  (sm_blk X 62 17 (tt_lin 62 (by decide)) rfl rfl _ _ _ _).trans rfl
