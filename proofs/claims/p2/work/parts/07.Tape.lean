set_option maxRecDepth 100000 in
theorem bk_154_0 (X : (Nat → Int32) × Nat) (mo : Bool) (G : Nat × Nat) (I : Nat → Nat → Int32) (J : Nat → Nat → Int64) (Q : Option Value → sm_M → Prop) (x1 : Int32) :
    sm_wp X 154 0 [some (.ref 14), some (.int x1), none] [] (sM mo G I J) Q =
    (sm_wp X 154 3 [some (.ref 14), some (.int x1), some (.int 24)] [] (sM mo G I J) Q) :=
  (sm_blk X 154 0 (tt_lin 154 (by decide)) rfl rfl _ _ _ _).trans rfl
set_option maxRecDepth 100000 in
theorem bk_154_3 (X : (Nat → Int32) × Nat) (mo : Bool) (G : Nat × Nat) (I : Nat → Nat → Int32) (J : Nat → Nat → Int64) (Q : Option Value → sm_M → Prop) (x1 : Int32) (x2 : Int32) :
    sm_wp X 154 3 [some (.ref 14), some (.int x1), some (.int x2)] [] (sM mo G I J) Q =
    (if (x2 : Int32) < 0 then sm_wp X 154 53 [some (.ref 14), some (.int x1), some (.int x2)] [] (sM mo G I J) Q else (if (I 14 0 : Int32) < 0 then sm_wp X 154 47 [some (.ref 14), some (.int x1), some (.int x2)] [] (sM mo G I J) Q else (if (400 : Int32) ≤ (I 14 0 : Int32) then sm_wp X 154 47 [some (.ref 14), some (.int x1), some (.int x2)] [] (sM mo G I J) Q else (vp_in (I 14 0) 400 ∧ (sm_wp X 154 3 [some (.ref 14), some (.int x1), some (.int (x2 + (-8)))] [] (sM mo G (up2 (up2 I 15 (I 14 0).toNatClampNeg (vp_nar .byte (((x1.toUInt32 >>> (x2.toUInt32 &&& Int32.toUInt32 31)).toInt32).toInt8.toInt32))) 14 0 (((up2 I 15 (I 14 0).toNatClampNeg (vp_nar .byte (((x1.toUInt32 >>> (x2.toUInt32 &&& Int32.toUInt32 31)).toInt32).toInt8.toInt32))) 14 0) + 1)) J) Q))))) :=
  (sm_blk X 154 3 (tt_lin 154 (by decide)) rfl rfl _ _ _ _).trans rfl
set_option maxRecDepth 100000 in
theorem bk_154_47 (X : (Nat → Int32) × Nat) (mo : Bool) (G : Nat × Nat) (I : Nat → Nat → Int32) (J : Nat → Nat → Int64) (Q : Option Value → sm_M → Prop) (x1 : Int32) (x2 : Int32) :
    sm_wp X 154 47 [some (.ref 14), some (.int x1), some (.int x2)] [] (sM mo G I J) Q =
    (sm_wp X 154 3 [some (.ref 14), some (.int x1), some (.int (x2 + (-8)))] [] (sM mo G I J) Q) :=
  (sm_blk X 154 47 (tt_lin 154 (by decide)) rfl rfl _ _ _ _).trans rfl
set_option maxRecDepth 100000 in
theorem bk_154_53 (X : (Nat → Int32) × Nat) (mo : Bool) (G : Nat × Nat) (I : Nat → Nat → Int32) (J : Nat → Nat → Int64) (Q : Option Value → sm_M → Prop) (x1 : Int32) (x2 : Int32) :
    sm_wp X 154 53 [some (.ref 14), some (.int x1), some (.int x2)] [] (sM mo G I J) Q =
    (True ∧ Q none (sM mo G I J)) :=
  (sm_blk X 154 53 (tt_lin 154 (by decide)) rfl rfl _ _ _ _).trans rfl
set_option maxRecDepth 100000 in
theorem bk_155_0 (X : (Nat → Int32) × Nat) (mo : Bool) (G : Nat × Nat) (I : Nat → Nat → Int32) (J : Nat → Nat → Int64) (Q : Option Value → sm_M → Prop) (x1 : Int32) :
    sm_wp X 155 0 [some (.ref 14), some (.int x1)] [] (sM mo G I J) Q =
    (True ∧ (True ∧ (True ∧ Q none (sM mo G (up2 (up2 (up2 I 14 4 (if (0 : Int32) < if (I 14 0 : Int32) < x1 then I 14 0 else x1 then if (I 14 0 : Int32) < x1 then I 14 0 else x1 else 0)) 14 5 0) 14 0 0) J)))) :=
  (sm_blk X 155 0 (tt_lin 155 (by decide)) rfl rfl _ _ _ _).trans rfl
set_option maxRecDepth 100000 in
theorem bk_156_0 (X : (Nat → Int32) × Nat) (mo : Bool) (G : Nat × Nat) (I : Nat → Nat → Int32) (J : Nat → Nat → Int64) (Q : Option Value → sm_M → Prop)  :
    sm_wp X 156 0 [some (.ref 14), none] [] (sM mo G I J) Q =
    (if (I 14 4 : Int32) ≤ (I 14 5 : Int32) then sm_wp X 156 38 [some (.ref 14), none] [] (sM mo G I J) Q else (sm_wp X 157 0 [some (.ref 14), some (.int (I 14 5))] [] (sM mo G I J) (fun v M => sm_wp X 156 19 [some (.ref 14), none] (v.toList ++ []) M Q))) :=
  (sm_blk X 156 0 (tt_lin 156 (by decide)) rfl rfl _ _ _ _).trans rfl
set_option maxRecDepth 100000 in
theorem bk_156_19 (X : (Nat → Int32) × Nat) (mo : Bool) (G : Nat × Nat) (I : Nat → Nat → Int32) (J : Nat → Nat → Int64) (Q : Option Value → sm_M → Prop) (s0 : Int32) :
    sm_wp X 156 19 [some (.ref 14), none] [.int s0] (sM mo G I J) Q =
    (sm_wp X 158 0 [some (.int s0)] [] (sM mo G I J) (fun v M => sm_wp X 156 22 [some (.ref 14), none] (v.toList ++ []) M Q)) :=
  (sm_blk X 156 19 (tt_lin 156 (by decide)) rfl rfl _ _ _ _).trans rfl
set_option maxRecDepth 100000 in
theorem bk_156_22 (X : (Nat → Int32) × Nat) (mo : Bool) (G : Nat × Nat) (I : Nat → Nat → Int32) (J : Nat → Nat → Int64) (Q : Option Value → sm_M → Prop) (s0 : Int32) :
    sm_wp X 156 22 [some (.ref 14), none] [.int s0] (sM mo G I J) Q =
    (if (s0 : Int32) = 0 then sm_wp X 156 38 [some (.ref 14), none] [] (sM mo G I J) Q else (sm_wp X 156 0 [some (.ref 14), none] [] (sM mo G (up2 I 14 5 ((I 14 5) + 1)) J) Q)) :=
  (sm_blk X 156 22 (tt_lin 156 (by decide)) rfl rfl _ _ _ _).trans rfl
set_option maxRecDepth 100000 in
theorem bk_156_38 (X : (Nat → Int32) × Nat) (mo : Bool) (G : Nat × Nat) (I : Nat → Nat → Int32) (J : Nat → Nat → Int64) (Q : Option Value → sm_M → Prop)  :
    sm_wp X 156 38 [some (.ref 14), none] [] (sM mo G I J) Q =
    (if ((up2 I 14 1 (I 14 5)) 14 5 : Int32) < ((up2 I 14 1 (I 14 5)) 14 4 : Int32) then sm_wp X 156 60 [some (.ref 14), none] [] (sM mo G (up2 I 14 1 (I 14 5)) J) Q else (True ∧ Q (some (.int 34)) (sM mo G (up2 I 14 1 (I 14 5)) J))) :=
  (sm_blk X 156 38 (tt_lin 156 (by decide)) rfl rfl _ _ _ _).trans rfl
set_option maxRecDepth 100000 in
theorem bk_156_60 (X : (Nat → Int32) × Nat) (mo : Bool) (G : Nat × Nat) (I : Nat → Nat → Int32) (J : Nat → Nat → Int64) (Q : Option Value → sm_M → Prop)  :
    sm_wp X 156 60 [some (.ref 14), none] [] (sM mo G I J) Q =
    (sm_wp X 157 0 [some (.ref 14), some (.int (I 14 5))] [] (sM mo G I J) (fun v M => sm_wp X 156 68 [some (.ref 14), none] (v.toList ++ []) M Q)) :=
  (sm_blk X 156 60 (tt_lin 156 (by decide)) rfl rfl _ _ _ _).trans rfl
set_option maxRecDepth 100000 in
theorem bk_156_68 (X : (Nat → Int32) × Nat) (mo : Bool) (G : Nat × Nat) (I : Nat → Nat → Int32) (J : Nat → Nat → Int64) (Q : Option Value → sm_M → Prop) (s0 : Int32) :
    sm_wp X 156 68 [some (.ref 14), none] [.int s0] (sM mo G I J) Q =
    (sm_wp X 159 0 [some (.int s0)] [] (sM mo G I J) (fun v M => sm_wp X 156 73 [some (.ref 14), some (.int s0)] (v.toList ++ []) M Q)) :=
  (sm_blk X 156 68 (tt_lin 156 (by decide)) rfl rfl _ _ _ _).trans rfl
set_option maxRecDepth 100000 in
theorem bk_156_73 (X : (Nat → Int32) × Nat) (mo : Bool) (G : Nat × Nat) (I : Nat → Nat → Int32) (J : Nat → Nat → Int64) (Q : Option Value → sm_M → Prop) (x1 : Int32) (s0 : Int32) :
    sm_wp X 156 73 [some (.ref 14), some (.int x1)] [.int s0] (sM mo G I J) Q =
    (if (s0 : Int32) = 0 then sm_wp X 156 81 [some (.ref 14), some (.int x1)] [] (sM mo G I J) Q else (sm_wp X 160 0 [some (.ref 14), none, none, none, none, none] [] (sM mo G I J) (fun v M => sm_wp X 156 80 [some (.ref 14), some (.int x1)] (v.toList ++ []) M Q))) :=
  (sm_blk X 156 73 (tt_lin 156 (by decide)) rfl rfl _ _ _ _).trans rfl
set_option maxRecDepth 100000 in
theorem bk_156_80 (X : (Nat → Int32) × Nat) (mo : Bool) (G : Nat × Nat) (I : Nat → Nat → Int32) (J : Nat → Nat → Int64) (Q : Option Value → sm_M → Prop) (x1 : Int32) (s0 : Int32) :
    sm_wp X 156 80 [some (.ref 14), some (.int x1)] [.int s0] (sM mo G I J) Q =
    (True ∧ Q (some (.int s0)) (sM mo G I J)) :=
  (sm_blk X 156 80 (tt_lin 156 (by decide)) rfl rfl _ _ _ _).trans rfl
set_option maxRecDepth 100000 in
theorem bk_156_81 (X : (Nat → Int32) × Nat) (mo : Bool) (G : Nat × Nat) (I : Nat → Nat → Int32) (J : Nat → Nat → Int64) (Q : Option Value → sm_M → Prop) (x1 : Int32) :
    sm_wp X 156 81 [some (.ref 14), some (.int x1)] [] (sM mo G I J) Q =
    (sm_wp X 161 0 [some (.int x1)] [] (sM mo G I J) (fun v M => sm_wp X 156 85 [some (.ref 14), some (.int x1)] (v.toList ++ []) M Q)) :=
  (sm_blk X 156 81 (tt_lin 156 (by decide)) rfl rfl _ _ _ _).trans rfl
set_option maxRecDepth 100000 in
theorem bk_156_85 (X : (Nat → Int32) × Nat) (mo : Bool) (G : Nat × Nat) (I : Nat → Nat → Int32) (J : Nat → Nat → Int64) (Q : Option Value → sm_M → Prop) (x1 : Int32) (s0 : Int32) :
    sm_wp X 156 85 [some (.ref 14), some (.int x1)] [.int s0] (sM mo G I J) Q =
    (if (s0 : Int32) = 0 then sm_wp X 156 95 [some (.ref 14), some (.int x1)] [] (sM mo G I J) Q else (sm_wp X 162 0 [some (.ref 14)] [] (sM mo G I J) (fun v M => sm_wp X 156 92 [some (.ref 14), some (.int x1)] (v.toList ++ []) M Q))) :=
  (sm_blk X 156 85 (tt_lin 156 (by decide)) rfl rfl _ _ _ _).trans rfl
set_option maxRecDepth 100000 in
theorem bk_156_92 (X : (Nat → Int32) × Nat) (mo : Bool) (G : Nat × Nat) (I : Nat → Nat → Int32) (J : Nat → Nat → Int64) (Q : Option Value → sm_M → Prop) (x1 : Int32) (s0 : Int32) :
    sm_wp X 156 92 [some (.ref 14), some (.int x1)] [.int s0] (sM mo G I J) Q =
    (sm_wp X 156 100 [some (.ref 14), some (.int x1)] [.int s0] (sM mo G I J) Q) :=
  (sm_blk X 156 92 (tt_lin 156 (by decide)) rfl rfl _ _ _ _).trans rfl
set_option maxRecDepth 100000 in
theorem bk_156_95 (X : (Nat → Int32) × Nat) (mo : Bool) (G : Nat × Nat) (I : Nat → Nat → Int32) (J : Nat → Nat → Int64) (Q : Option Value → sm_M → Prop) (x1 : Int32) :
    sm_wp X 156 95 [some (.ref 14), some (.int x1)] [] (sM mo G I J) Q =
    (sm_wp X 163 0 [some (.ref 14), some (.int x1)] [] (sM mo G I J) (fun v M => sm_wp X 156 100 [some (.ref 14), some (.int x1)] (v.toList ++ []) M Q)) :=
  (sm_blk X 156 95 (tt_lin 156 (by decide)) rfl rfl _ _ _ _).trans rfl
set_option maxRecDepth 100000 in
theorem bk_156_100 (X : (Nat → Int32) × Nat) (mo : Bool) (G : Nat × Nat) (I : Nat → Nat → Int32) (J : Nat → Nat → Int64) (Q : Option Value → sm_M → Prop) (x1 : Int32) (s0 : Int32) :
    sm_wp X 156 100 [some (.ref 14), some (.int x1)] [.int s0] (sM mo G I J) Q =
    (True ∧ Q (some (.int s0)) (sM mo G I J)) :=
  (sm_blk X 156 100 (tt_lin 156 (by decide)) rfl rfl _ _ _ _).trans rfl
set_option maxRecDepth 100000 in
theorem bk_157_0 (X : (Nat → Int32) × Nat) (mo : Bool) (G : Nat × Nat) (I : Nat → Nat → Int32) (J : Nat → Nat → Int64) (Q : Option Value → sm_M → Prop) (x1 : Int32) :
    sm_wp X 157 0 [some (.ref 14), some (.int x1)] [] (sM mo G I J) Q =
    (if (x1 : Int32) < 0 then sm_wp X 157 28 [some (.ref 14), some (.int x1)] [] (sM mo G I J) Q else (if (I 14 4 : Int32) ≤ (x1 : Int32) then sm_wp X 157 28 [some (.ref 14), some (.int x1)] [] (sM mo G I J) Q else (if (400 : Int32) ≤ (x1 : Int32) then sm_wp X 157 28 [some (.ref 14), some (.int x1)] [] (sM mo G I J) Q else (vp_in x1 400 ∧ (sm_wp X 157 29 [some (.ref 14), some (.int x1)] [.int (I 15 (x1.toNatClampNeg))] (sM mo G I J) Q))))) :=
  (sm_blk X 157 0 (tt_lin 157 (by decide)) rfl rfl _ _ _ _).trans rfl
set_option maxRecDepth 100000 in
theorem bk_157_28 (X : (Nat → Int32) × Nat) (mo : Bool) (G : Nat × Nat) (I : Nat → Nat → Int32) (J : Nat → Nat → Int64) (Q : Option Value → sm_M → Prop) (x1 : Int32) :
    sm_wp X 157 28 [some (.ref 14), some (.int x1)] [] (sM mo G I J) Q =
    (True ∧ Q (some (.int 0)) (sM mo G I J)) :=
  (sm_blk X 157 28 (tt_lin 157 (by decide)) rfl rfl _ _ _ _).trans rfl
set_option maxRecDepth 100000 in
theorem bk_157_29 (X : (Nat → Int32) × Nat) (mo : Bool) (G : Nat × Nat) (I : Nat → Nat → Int32) (J : Nat → Nat → Int64) (Q : Option Value → sm_M → Prop) (x1 : Int32) (s0 : Int32) :
    sm_wp X 157 29 [some (.ref 14), some (.int x1)] [.int s0] (sM mo G I J) Q =
    (True ∧ Q (some (.int s0)) (sM mo G I J)) :=
  (sm_blk X 157 29 (tt_lin 157 (by decide)) rfl rfl _ _ _ _).trans rfl
set_option maxRecDepth 100000 in
theorem bk_158_0 (X : (Nat → Int32) × Nat) (mo : Bool) (G : Nat × Nat) (I : Nat → Nat → Int32) (J : Nat → Nat → Int64) (Q : Option Value → sm_M → Prop) (x0 : Int32) :
    sm_wp X 158 0 [some (.int x0)] [] (sM mo G I J) Q =
    (if (x0 : Int32) = (10 : Int32) then sm_wp X 158 12 [some (.int x0)] [] (sM mo G I J) Q else (if ¬ (x0 : Int32) = (32 : Int32) then sm_wp X 158 16 [some (.int x0)] [] (sM mo G I J) Q else (sm_wp X 158 17 [some (.int x0)] [.int 1] (sM mo G I J) Q))) :=
  (sm_blk X 158 0 (tt_lin 158 (by decide)) rfl rfl _ _ _ _).trans rfl
set_option maxRecDepth 100000 in
theorem bk_158_12 (X : (Nat → Int32) × Nat) (mo : Bool) (G : Nat × Nat) (I : Nat → Nat → Int32) (J : Nat → Nat → Int64) (Q : Option Value → sm_M → Prop) (x0 : Int32) :
    sm_wp X 158 12 [some (.int x0)] [] (sM mo G I J) Q =
    (sm_wp X 158 17 [some (.int x0)] [.int 1] (sM mo G I J) Q) :=
  (sm_blk X 158 12 (tt_lin 158 (by decide)) rfl rfl _ _ _ _).trans rfl
set_option maxRecDepth 100000 in
theorem bk_158_16 (X : (Nat → Int32) × Nat) (mo : Bool) (G : Nat × Nat) (I : Nat → Nat → Int32) (J : Nat → Nat → Int64) (Q : Option Value → sm_M → Prop) (x0 : Int32) :
    sm_wp X 158 16 [some (.int x0)] [] (sM mo G I J) Q =
    (sm_zb 0 ∧ Q (some (.int 0)) (sM mo G I J)) :=
  (sm_blk X 158 16 (tt_lin 158 (by decide)) rfl rfl _ _ _ _).trans rfl
set_option maxRecDepth 100000 in
theorem bk_158_17 (X : (Nat → Int32) × Nat) (mo : Bool) (G : Nat × Nat) (I : Nat → Nat → Int32) (J : Nat → Nat → Int64) (Q : Option Value → sm_M → Prop) (x0 : Int32) (s0 : Int32) :
    sm_wp X 158 17 [some (.int x0)] [.int s0] (sM mo G I J) Q =
    (sm_zb s0 ∧ Q (some (.int s0)) (sM mo G I J)) :=
  (sm_blk X 158 17 (tt_lin 158 (by decide)) rfl rfl _ _ _ _).trans rfl
set_option maxRecDepth 100000 in
theorem bk_159_0 (X : (Nat → Int32) × Nat) (mo : Bool) (G : Nat × Nat) (I : Nat → Nat → Int32) (J : Nat → Nat → Int64) (Q : Option Value → sm_M → Prop) (x0 : Int32) :
    sm_wp X 159 0 [some (.int x0)] [] (sM mo G I J) Q =
    (if (x0 : Int32) < (97 : Int32) then sm_wp X 159 16 [some (.int x0)] [] (sM mo G I J) Q else (if (122 : Int32) < (x0 : Int32) then sm_wp X 159 16 [some (.int x0)] [] (sM mo G I J) Q else (sm_wp X 159 17 [some (.int x0)] [.int 1] (sM mo G I J) Q))) :=
  (sm_blk X 159 0 (tt_lin 159 (by decide)) rfl rfl _ _ _ _).trans rfl
set_option maxRecDepth 100000 in
theorem bk_159_16 (X : (Nat → Int32) × Nat) (mo : Bool) (G : Nat × Nat) (I : Nat → Nat → Int32) (J : Nat → Nat → Int64) (Q : Option Value → sm_M → Prop) (x0 : Int32) :
    sm_wp X 159 16 [some (.int x0)] [] (sM mo G I J) Q =
    (sm_zb 0 ∧ Q (some (.int 0)) (sM mo G I J)) :=
  (sm_blk X 159 16 (tt_lin 159 (by decide)) rfl rfl _ _ _ _).trans rfl
set_option maxRecDepth 100000 in
theorem bk_159_17 (X : (Nat → Int32) × Nat) (mo : Bool) (G : Nat × Nat) (I : Nat → Nat → Int32) (J : Nat → Nat → Int64) (Q : Option Value → sm_M → Prop) (x0 : Int32) (s0 : Int32) :
    sm_wp X 159 17 [some (.int x0)] [.int s0] (sM mo G I J) Q =
    (sm_zb s0 ∧ Q (some (.int s0)) (sM mo G I J)) :=
  (sm_blk X 159 17 (tt_lin 159 (by decide)) rfl rfl _ _ _ _).trans rfl
set_option maxRecDepth 100000 in
theorem bk_160_0 (X : (Nat → Int32) × Nat) (mo : Bool) (G : Nat × Nat) (I : Nat → Nat → Int32) (J : Nat → Nat → Int64) (Q : Option Value → sm_M → Prop)  :
    sm_wp X 160 0 [some (.ref 14), none, none, none, none, none] [] (sM mo G I J) Q =
    (if (I 14 4 : Int32) ≤ (I 14 5 : Int32) then sm_wp X 160 38 [some (.ref 14), none, none, none, none, none] [] (sM mo G I J) Q else (sm_wp X 157 0 [some (.ref 14), some (.int (I 14 5))] [] (sM mo G I J) (fun v M => sm_wp X 160 19 [some (.ref 14), none, none, none, none, none] (v.toList ++ []) M Q))) :=
  (sm_blk X 160 0 (tt_lin 160 (by decide)) rfl rfl _ _ _ _).trans rfl
set_option maxRecDepth 100000 in
theorem bk_160_19 (X : (Nat → Int32) × Nat) (mo : Bool) (G : Nat × Nat) (I : Nat → Nat → Int32) (J : Nat → Nat → Int64) (Q : Option Value → sm_M → Prop) (s0 : Int32) :
    sm_wp X 160 19 [some (.ref 14), none, none, none, none, none] [.int s0] (sM mo G I J) Q =
    (sm_wp X 159 0 [some (.int s0)] [] (sM mo G I J) (fun v M => sm_wp X 160 22 [some (.ref 14), none, none, none, none, none] (v.toList ++ []) M Q)) :=
  (sm_blk X 160 19 (tt_lin 160 (by decide)) rfl rfl _ _ _ _).trans rfl
set_option maxRecDepth 100000 in
theorem bk_160_22 (X : (Nat → Int32) × Nat) (mo : Bool) (G : Nat × Nat) (I : Nat → Nat → Int32) (J : Nat → Nat → Int64) (Q : Option Value → sm_M → Prop) (s0 : Int32) :
    sm_wp X 160 22 [some (.ref 14), none, none, none, none, none] [.int s0] (sM mo G I J) Q =
    (if (s0 : Int32) = 0 then sm_wp X 160 38 [some (.ref 14), none, none, none, none, none] [] (sM mo G I J) Q else (sm_wp X 160 0 [some (.ref 14), none, none, none, none, none] [] (sM mo G (up2 I 14 5 ((I 14 5) + 1)) J) Q)) :=
  (sm_blk X 160 22 (tt_lin 160 (by decide)) rfl rfl _ _ _ _).trans rfl
set_option maxRecDepth 100000 in
theorem bk_160_38 (X : (Nat → Int32) × Nat) (mo : Bool) (G : Nat × Nat) (I : Nat → Nat → Int32) (J : Nat → Nat → Int64) (Q : Option Value → sm_M → Prop)  :
    sm_wp X 160 38 [some (.ref 14), none, none, none, none, none] [] (sM mo G I J) Q =
    (sm_wp X 160 50 [some (.ref 14), some (.int 0), some (.int (I 14 1)), some (.int 1), some (.int 0), none] [] (sM mo G I J) Q) :=
  (sm_blk X 160 38 (tt_lin 160 (by decide)) rfl rfl _ _ _ _).trans rfl
set_option maxRecDepth 100000 in
theorem bk_160_50 (X : (Nat → Int32) × Nat) (mo : Bool) (G : Nat × Nat) (I : Nat → Nat → Int32) (J : Nat → Nat → Int64) (Q : Option Value → sm_M → Prop) (x1 : Int32) (x2 : Int32) (x3 : Int32) (x4 : Int32) :
    sm_wp X 160 50 [some (.ref 14), some (.int x1), some (.int x2), some (.int x3), some (.int x4), none] [] (sM mo G I J) Q =
    (True ∧ (if (95 : Int32) ≤ (x4 : Int32) then sm_wp X 160 140 [some (.ref 14), some (.int x1), some (.int x2), some (.int x3), some (.int x4), none] [] (sM mo G I J) Q else (vp_in x4 95 ∧ (if (sm_words.getD x4.toNatClampNeg 0 : Int32) = (32 : Int32) then sm_wp X 160 110 [some (.ref 14), some (.int x1), some (.int x2), some (.int x3), some (.int x4), some (.int (sm_words.getD x4.toNatClampNeg 0))] [] (sM mo G I J) Q else (if (x3 : Int32) = 0 then sm_wp X 160 102 [some (.ref 14), some (.int x1), some (.int x2), some (.int x3), some (.int x4), some (.int (sm_words.getD x4.toNatClampNeg 0))] [] (sM mo G I J) Q else (if (I 14 5 : Int32) ≤ (x2 : Int32) then sm_wp X 160 102 [some (.ref 14), some (.int x1), some (.int x2), some (.int x3), some (.int x4), some (.int (sm_words.getD x4.toNatClampNeg 0))] [] (sM mo G I J) Q else (sm_wp X 157 0 [some (.ref 14), some (.int x2)] [] (sM mo G I J) (fun v M => sm_wp X 160 93 [some (.ref 14), some (.int x1), some (.int x2), some (.int x3), some (.int x4), some (.int (sm_words.getD x4.toNatClampNeg 0))] (v.toList ++ []) M Q)))))))) :=
  (sm_blk X 160 50 (tt_lin 160 (by decide)) rfl rfl _ _ _ _).trans rfl
set_option maxRecDepth 100000 in
theorem bk_160_93 (X : (Nat → Int32) × Nat) (mo : Bool) (G : Nat × Nat) (I : Nat → Nat → Int32) (J : Nat → Nat → Int64) (Q : Option Value → sm_M → Prop) (x1 : Int32) (x2 : Int32) (x3 : Int32) (x4 : Int32) (x5 : Int32) (s0 : Int32) :
    sm_wp X 160 93 [some (.ref 14), some (.int x1), some (.int x2), some (.int x3), some (.int x4), some (.int x5)] [.int s0] (sM mo G I J) Q =
    (if ¬ (s0 : Int32) = (x5 : Int32) then sm_wp X 160 102 [some (.ref 14), some (.int x1), some (.int x2), some (.int x3), some (.int x4), some (.int x5)] [] (sM mo G I J) Q else (sm_wp X 160 103 [some (.ref 14), some (.int x1), some (.int x2), some (.int x3), some (.int x4), some (.int x5)] [.int 1] (sM mo G I J) Q)) :=
  (sm_blk X 160 93 (tt_lin 160 (by decide)) rfl rfl _ _ _ _).trans rfl
set_option maxRecDepth 100000 in
theorem bk_160_102 (X : (Nat → Int32) × Nat) (mo : Bool) (G : Nat × Nat) (I : Nat → Nat → Int32) (J : Nat → Nat → Int64) (Q : Option Value → sm_M → Prop) (x1 : Int32) (x2 : Int32) (x3 : Int32) (x4 : Int32) (x5 : Int32) :
    sm_wp X 160 102 [some (.ref 14), some (.int x1), some (.int x2), some (.int x3), some (.int x4), some (.int x5)] [] (sM mo G I J) Q =
    (sm_wp X 160 134 [some (.ref 14), some (.int x1), some (.int (x2 + 1)), some (.int 0), some (.int x4), some (.int x5)] [] (sM mo G I J) Q) :=
  (sm_blk X 160 102 (tt_lin 160 (by decide)) rfl rfl _ _ _ _).trans rfl
set_option maxRecDepth 100000 in
theorem bk_160_103 (X : (Nat → Int32) × Nat) (mo : Bool) (G : Nat × Nat) (I : Nat → Nat → Int32) (J : Nat → Nat → Int64) (Q : Option Value → sm_M → Prop) (x1 : Int32) (x2 : Int32) (x3 : Int32) (x4 : Int32) (x5 : Int32) (s0 : Int32) :
    sm_wp X 160 103 [some (.ref 14), some (.int x1), some (.int x2), some (.int x3), some (.int x4), some (.int x5)] [.int s0] (sM mo G I J) Q =
    (sm_wp X 160 134 [some (.ref 14), some (.int x1), some (.int (x2 + 1)), some (.int s0), some (.int x4), some (.int x5)] [] (sM mo G I J) Q) :=
  (sm_blk X 160 103 (tt_lin 160 (by decide)) rfl rfl _ _ _ _).trans rfl
set_option maxRecDepth 100000 in
theorem bk_160_110 (X : (Nat → Int32) × Nat) (mo : Bool) (G : Nat × Nat) (I : Nat → Nat → Int32) (J : Nat → Nat → Int64) (Q : Option Value → sm_M → Prop) (x1 : Int32) (x2 : Int32) (x3 : Int32) (x4 : Int32) (x5 : Int32) :
    sm_wp X 160 110 [some (.ref 14), some (.int x1), some (.int x2), some (.int x3), some (.int x4), some (.int x5)] [] (sM mo G I J) Q =
    (if (x3 : Int32) = 0 then sm_wp X 160 124 [some (.ref 14), some (.int x1), some (.int x2), some (.int x3), some (.int x4), some (.int x5)] [] (sM mo G I J) Q else (if ¬ (x2 : Int32) = (I 14 5 : Int32) then sm_wp X 160 124 [some (.ref 14), some (.int x1), some (.int x2), some (.int x3), some (.int x4), some (.int x5)] [] (sM mo G I J) Q else (True ∧ Q (some (.int x1)) (sM mo G I J)))) :=
  (sm_blk X 160 110 (tt_lin 160 (by decide)) rfl rfl _ _ _ _).trans rfl
set_option maxRecDepth 100000 in
theorem bk_160_124 (X : (Nat → Int32) × Nat) (mo : Bool) (G : Nat × Nat) (I : Nat → Nat → Int32) (J : Nat → Nat → Int64) (Q : Option Value → sm_M → Prop) (x1 : Int32) (x2 : Int32) (x3 : Int32) (x4 : Int32) (x5 : Int32) :
    sm_wp X 160 124 [some (.ref 14), some (.int x1), some (.int x2), some (.int x3), some (.int x4), some (.int x5)] [] (sM mo G I J) Q =
    (sm_wp X 160 50 [some (.ref 14), some (.int (x1 + 1)), some (.int (I 14 1)), some (.int 1), some (.int (x4 + 1)), none] [] (sM mo G I J) Q) :=
  (sm_blk X 160 124 (tt_lin 160 (by decide)) rfl rfl _ _ _ _).trans rfl
set_option maxRecDepth 100000 in
theorem bk_160_134 (X : (Nat → Int32) × Nat) (mo : Bool) (G : Nat × Nat) (I : Nat → Nat → Int32) (J : Nat → Nat → Int64) (Q : Option Value → sm_M → Prop) (x1 : Int32) (x2 : Int32) (x3 : Int32) (x4 : Int32) (x5 : Int32) :
    sm_wp X 160 134 [some (.ref 14), some (.int x1), some (.int x2), some (.int x3), some (.int x4), some (.int x5)] [] (sM mo G I J) Q =
    (sm_wp X 160 50 [some (.ref 14), some (.int x1), some (.int x2), some (.int x3), some (.int (x4 + 1)), none] [] (sM mo G I J) Q) :=
  (sm_blk X 160 134 (tt_lin 160 (by decide)) rfl rfl _ _ _ _).trans rfl
set_option maxRecDepth 100000 in
theorem bk_160_140 (X : (Nat → Int32) × Nat) (mo : Bool) (G : Nat × Nat) (I : Nat → Nat → Int32) (J : Nat → Nat → Int64) (Q : Option Value → sm_M → Prop) (x1 : Int32) (x2 : Int32) (x3 : Int32) (x4 : Int32) :
    sm_wp X 160 140 [some (.ref 14), some (.int x1), some (.int x2), some (.int x3), some (.int x4), none] [] (sM mo G I J) Q =
    (True ∧ Q (some (.int 35)) (sM mo G I J)) :=
  (sm_blk X 160 140 (tt_lin 160 (by decide)) rfl rfl _ _ _ _).trans rfl
set_option maxRecDepth 100000 in
theorem bk_161_0 (X : (Nat → Int32) × Nat) (mo : Bool) (G : Nat × Nat) (I : Nat → Nat → Int32) (J : Nat → Nat → Int64) (Q : Option Value → sm_M → Prop) (x0 : Int32) :
    sm_wp X 161 0 [some (.int x0)] [] (sM mo G I J) Q =
    (if (x0 : Int32) < (48 : Int32) then sm_wp X 161 16 [some (.int x0)] [] (sM mo G I J) Q else (if (57 : Int32) < (x0 : Int32) then sm_wp X 161 16 [some (.int x0)] [] (sM mo G I J) Q else (sm_wp X 161 17 [some (.int x0)] [.int 1] (sM mo G I J) Q))) :=
  (sm_blk X 161 0 (tt_lin 161 (by decide)) rfl rfl _ _ _ _).trans rfl
set_option maxRecDepth 100000 in
theorem bk_161_16 (X : (Nat → Int32) × Nat) (mo : Bool) (G : Nat × Nat) (I : Nat → Nat → Int32) (J : Nat → Nat → Int64) (Q : Option Value → sm_M → Prop) (x0 : Int32) :
    sm_wp X 161 16 [some (.int x0)] [] (sM mo G I J) Q =
    (sm_zb 0 ∧ Q (some (.int 0)) (sM mo G I J)) :=
  (sm_blk X 161 16 (tt_lin 161 (by decide)) rfl rfl _ _ _ _).trans rfl
set_option maxRecDepth 100000 in
theorem bk_161_17 (X : (Nat → Int32) × Nat) (mo : Bool) (G : Nat × Nat) (I : Nat → Nat → Int32) (J : Nat → Nat → Int64) (Q : Option Value → sm_M → Prop) (x0 : Int32) (s0 : Int32) :
    sm_wp X 161 17 [some (.int x0)] [.int s0] (sM mo G I J) Q =
    (sm_zb s0 ∧ Q (some (.int s0)) (sM mo G I J)) :=
  (sm_blk X 161 17 (tt_lin 161 (by decide)) rfl rfl _ _ _ _).trans rfl
set_option maxRecDepth 100000 in
theorem bk_162_0 (X : (Nat → Int32) × Nat) (mo : Bool) (G : Nat × Nat) (I : Nat → Nat → Int32) (J : Nat → Nat → Int64) (Q : Option Value → sm_M → Prop)  :
    sm_wp X 162 0 [some (.ref 14)] [] (sM mo G I J) Q =
    (sm_wp X 162 5 [some (.ref 14)] [] (sM mo G (up2 I 14 2 0) J) Q) :=
  (sm_blk X 162 0 (tt_lin 162 (by decide)) rfl rfl _ _ _ _).trans rfl
set_option maxRecDepth 100000 in
theorem bk_162_5 (X : (Nat → Int32) × Nat) (mo : Bool) (G : Nat × Nat) (I : Nat → Nat → Int32) (J : Nat → Nat → Int64) (Q : Option Value → sm_M → Prop)  :
    sm_wp X 162 5 [some (.ref 14)] [] (sM mo G I J) Q =
    (if (I 14 4 : Int32) ≤ (I 14 5 : Int32) then sm_wp X 162 71 [some (.ref 14)] [] (sM mo G I J) Q else (sm_wp X 157 0 [some (.ref 14), some (.int (I 14 5))] [] (sM mo G I J) (fun v M => sm_wp X 162 24 [some (.ref 14)] (v.toList ++ []) M Q))) :=
  (sm_blk X 162 5 (tt_lin 162 (by decide)) rfl rfl _ _ _ _).trans rfl
set_option maxRecDepth 100000 in
theorem bk_162_24 (X : (Nat → Int32) × Nat) (mo : Bool) (G : Nat × Nat) (I : Nat → Nat → Int32) (J : Nat → Nat → Int64) (Q : Option Value → sm_M → Prop) (s0 : Int32) :
    sm_wp X 162 24 [some (.ref 14)] [.int s0] (sM mo G I J) Q =
    (sm_wp X 161 0 [some (.int s0)] [] (sM mo G I J) (fun v M => sm_wp X 162 27 [some (.ref 14)] (v.toList ++ []) M Q)) :=
  (sm_blk X 162 24 (tt_lin 162 (by decide)) rfl rfl _ _ _ _).trans rfl
set_option maxRecDepth 100000 in
theorem bk_162_27 (X : (Nat → Int32) × Nat) (mo : Bool) (G : Nat × Nat) (I : Nat → Nat → Int32) (J : Nat → Nat → Int64) (Q : Option Value → sm_M → Prop) (s0 : Int32) :
    sm_wp X 162 27 [some (.ref 14)] [.int s0] (sM mo G I J) Q =
    (if (s0 : Int32) = 0 then sm_wp X 162 71 [some (.ref 14)] [] (sM mo G I J) Q else (sm_wp X 157 0 [some (.ref 14), some (.int (I 14 5))] [] (sM mo G I J) (fun v M => sm_wp X 162 46 [some (.ref 14)] (v.toList ++ [.int ((I 14 2) * 10), .ref 14]) M Q))) :=
  (sm_blk X 162 27 (tt_lin 162 (by decide)) rfl rfl _ _ _ _).trans rfl
set_option maxRecDepth 100000 in
theorem bk_162_46 (X : (Nat → Int32) × Nat) (mo : Bool) (G : Nat × Nat) (I : Nat → Nat → Int32) (J : Nat → Nat → Int64) (Q : Option Value → sm_M → Prop) (s1 : Int32) (s2 : Int32) :
    sm_wp X 162 46 [some (.ref 14)] [.int s2, .int s1, .ref 14] (sM mo G I J) Q =
    (True ∧ (sm_wp X 162 5 [some (.ref 14)] [] (sM mo G (up2 (up2 I 14 2 (if (100000 : Int32) < (s1 + s2) - 48 then 100000 else (s1 + s2) - 48)) 14 5 (((up2 I 14 2 (if (100000 : Int32) < (s1 + s2) - 48 then 100000 else (s1 + s2) - 48)) 14 5) + 1)) J) Q)) :=
  (sm_blk X 162 46 (tt_lin 162 (by decide)) rfl rfl _ _ _ _).trans rfl
set_option maxRecDepth 100000 in
theorem bk_162_71 (X : (Nat → Int32) × Nat) (mo : Bool) (G : Nat × Nat) (I : Nat → Nat → Int32) (J : Nat → Nat → Int64) (Q : Option Value → sm_M → Prop)  :
    sm_wp X 162 71 [some (.ref 14)] [] (sM mo G I J) Q =
    (True ∧ Q (some (.int 36)) (sM mo G I J)) :=
  (sm_blk X 162 71 (tt_lin 162 (by decide)) rfl rfl _ _ _ _).trans rfl
set_option maxRecDepth 100000 in
theorem bk_163_0 (X : (Nat → Int32) × Nat) (mo : Bool) (G : Nat × Nat) (I : Nat → Nat → Int32) (J : Nat → Nat → Int64) (Q : Option Value → sm_M → Prop) (x1 : Int32) :
    sm_wp X 163 0 [some (.ref 14), some (.int x1)] [] (sM mo G I J) Q =
    (if (x1 : Int32) = 37 then sm_wp X 163 140 [some (.ref 14), some (.int x1)] [] (sM mo G (up2 I 14 5 ((I 14 5) + 1)) J) Q else if (x1 : Int32) = 38 then sm_wp X 163 177 [some (.ref 14), some (.int x1)] [] (sM mo G (up2 I 14 5 ((I 14 5) + 1)) J) Q else if (x1 : Int32) = 39 then sm_wp X 163 177 [some (.ref 14), some (.int x1)] [] (sM mo G (up2 I 14 5 ((I 14 5) + 1)) J) Q else if (x1 : Int32) = 40 then sm_wp X 163 168 [some (.ref 14), some (.int x1)] [] (sM mo G (up2 I 14 5 ((I 14 5) + 1)) J) Q else if (x1 : Int32) = 41 then sm_wp X 163 171 [some (.ref 14), some (.int x1)] [] (sM mo G (up2 I 14 5 ((I 14 5) + 1)) J) Q else if (x1 : Int32) = 42 then sm_wp X 163 134 [some (.ref 14), some (.int x1)] [] (sM mo G (up2 I 14 5 ((I 14 5) + 1)) J) Q else if (x1 : Int32) = 43 then sm_wp X 163 128 [some (.ref 14), some (.int x1)] [] (sM mo G (up2 I 14 5 ((I 14 5) + 1)) J) Q else if (x1 : Int32) = 44 then sm_wp X 163 177 [some (.ref 14), some (.int x1)] [] (sM mo G (up2 I 14 5 ((I 14 5) + 1)) J) Q else if (x1 : Int32) = 45 then sm_wp X 163 131 [some (.ref 14), some (.int x1)] [] (sM mo G (up2 I 14 5 ((I 14 5) + 1)) J) Q else if (x1 : Int32) = 46 then sm_wp X 163 177 [some (.ref 14), some (.int x1)] [] (sM mo G (up2 I 14 5 ((I 14 5) + 1)) J) Q else if (x1 : Int32) = 47 then sm_wp X 163 137 [some (.ref 14), some (.int x1)] [] (sM mo G (up2 I 14 5 ((I 14 5) + 1)) J) Q else if (x1 : Int32) = 48 then sm_wp X 163 177 [some (.ref 14), some (.int x1)] [] (sM mo G (up2 I 14 5 ((I 14 5) + 1)) J) Q else if (x1 : Int32) = 49 then sm_wp X 163 177 [some (.ref 14), some (.int x1)] [] (sM mo G (up2 I 14 5 ((I 14 5) + 1)) J) Q else if (x1 : Int32) = 50 then sm_wp X 163 177 [some (.ref 14), some (.int x1)] [] (sM mo G (up2 I 14 5 ((I 14 5) + 1)) J) Q else if (x1 : Int32) = 51 then sm_wp X 163 177 [some (.ref 14), some (.int x1)] [] (sM mo G (up2 I 14 5 ((I 14 5) + 1)) J) Q else if (x1 : Int32) = 52 then sm_wp X 163 177 [some (.ref 14), some (.int x1)] [] (sM mo G (up2 I 14 5 ((I 14 5) + 1)) J) Q else if (x1 : Int32) = 53 then sm_wp X 163 177 [some (.ref 14), some (.int x1)] [] (sM mo G (up2 I 14 5 ((I 14 5) + 1)) J) Q else if (x1 : Int32) = 54 then sm_wp X 163 177 [some (.ref 14), some (.int x1)] [] (sM mo G (up2 I 14 5 ((I 14 5) + 1)) J) Q else if (x1 : Int32) = 55 then sm_wp X 163 177 [some (.ref 14), some (.int x1)] [] (sM mo G (up2 I 14 5 ((I 14 5) + 1)) J) Q else if (x1 : Int32) = 56 then sm_wp X 163 177 [some (.ref 14), some (.int x1)] [] (sM mo G (up2 I 14 5 ((I 14 5) + 1)) J) Q else if (x1 : Int32) = 57 then sm_wp X 163 177 [some (.ref 14), some (.int x1)] [] (sM mo G (up2 I 14 5 ((I 14 5) + 1)) J) Q else if (x1 : Int32) = 58 then sm_wp X 163 177 [some (.ref 14), some (.int x1)] [] (sM mo G (up2 I 14 5 ((I 14 5) + 1)) J) Q else if (x1 : Int32) = 59 then sm_wp X 163 174 [some (.ref 14), some (.int x1)] [] (sM mo G (up2 I 14 5 ((I 14 5) + 1)) J) Q else if (x1 : Int32) = 60 then sm_wp X 163 146 [some (.ref 14), some (.int x1)] [] (sM mo G (up2 I 14 5 ((I 14 5) + 1)) J) Q else if (x1 : Int32) = 61 then sm_wp X 163 143 [some (.ref 14), some (.int x1)] [] (sM mo G (up2 I 14 5 ((I 14 5) + 1)) J) Q else if (x1 : Int32) = 62 then sm_wp X 163 151 [some (.ref 14), some (.int x1)] [] (sM mo G (up2 I 14 5 ((I 14 5) + 1)) J) Q else sm_wp X 163 177 [some (.ref 14), some (.int x1)] [] (sM mo G (up2 I 14 5 ((I 14 5) + 1)) J) Q) :=
  (sm_blk X 163 0 (tt_lin 163 (by decide)) rfl rfl _ _ _ _).trans rfl
set_option maxRecDepth 100000 in
theorem bk_163_128 (X : (Nat → Int32) × Nat) (mo : Bool) (G : Nat × Nat) (I : Nat → Nat → Int32) (J : Nat → Nat → Int64) (Q : Option Value → sm_M → Prop) (x1 : Int32) :
    sm_wp X 163 128 [some (.ref 14), some (.int x1)] [] (sM mo G I J) Q =
    (True ∧ Q (some (.int 19)) (sM mo G I J)) :=
  (sm_blk X 163 128 (tt_lin 163 (by decide)) rfl rfl _ _ _ _).trans rfl
set_option maxRecDepth 100000 in
theorem bk_163_131 (X : (Nat → Int32) × Nat) (mo : Bool) (G : Nat × Nat) (I : Nat → Nat → Int32) (J : Nat → Nat → Int64) (Q : Option Value → sm_M → Prop) (x1 : Int32) :
    sm_wp X 163 131 [some (.ref 14), some (.int x1)] [] (sM mo G I J) Q =
    (True ∧ Q (some (.int 20)) (sM mo G I J)) :=
  (sm_blk X 163 131 (tt_lin 163 (by decide)) rfl rfl _ _ _ _).trans rfl
set_option maxRecDepth 100000 in
theorem bk_163_134 (X : (Nat → Int32) × Nat) (mo : Bool) (G : Nat × Nat) (I : Nat → Nat → Int32) (J : Nat → Nat → Int64) (Q : Option Value → sm_M → Prop) (x1 : Int32) :
    sm_wp X 163 134 [some (.ref 14), some (.int x1)] [] (sM mo G I J) Q =
    (True ∧ Q (some (.int 21)) (sM mo G I J)) :=
  (sm_blk X 163 134 (tt_lin 163 (by decide)) rfl rfl _ _ _ _).trans rfl
set_option maxRecDepth 100000 in
theorem bk_163_137 (X : (Nat → Int32) × Nat) (mo : Bool) (G : Nat × Nat) (I : Nat → Nat → Int32) (J : Nat → Nat → Int64) (Q : Option Value → sm_M → Prop) (x1 : Int32) :
    sm_wp X 163 137 [some (.ref 14), some (.int x1)] [] (sM mo G I J) Q =
    (True ∧ Q (some (.int 22)) (sM mo G I J)) :=
  (sm_blk X 163 137 (tt_lin 163 (by decide)) rfl rfl _ _ _ _).trans rfl
set_option maxRecDepth 100000 in
theorem bk_163_140 (X : (Nat → Int32) × Nat) (mo : Bool) (G : Nat × Nat) (I : Nat → Nat → Int32) (J : Nat → Nat → Int64) (Q : Option Value → sm_M → Prop) (x1 : Int32) :
    sm_wp X 163 140 [some (.ref 14), some (.int x1)] [] (sM mo G I J) Q =
    (True ∧ Q (some (.int 23)) (sM mo G I J)) :=
  (sm_blk X 163 140 (tt_lin 163 (by decide)) rfl rfl _ _ _ _).trans rfl
set_option maxRecDepth 100000 in
theorem bk_163_143 (X : (Nat → Int32) × Nat) (mo : Bool) (G : Nat × Nat) (I : Nat → Nat → Int32) (J : Nat → Nat → Int64) (Q : Option Value → sm_M → Prop) (x1 : Int32) :
    sm_wp X 163 143 [some (.ref 14), some (.int x1)] [] (sM mo G I J) Q =
    (True ∧ Q (some (.int 26)) (sM mo G I J)) :=
  (sm_blk X 163 143 (tt_lin 163 (by decide)) rfl rfl _ _ _ _).trans rfl
set_option maxRecDepth 100000 in
theorem bk_163_146 (X : (Nat → Int32) × Nat) (mo : Bool) (G : Nat × Nat) (I : Nat → Nat → Int32) (J : Nat → Nat → Int64) (Q : Option Value → sm_M → Prop) (x1 : Int32) :
    sm_wp X 163 146 [some (.ref 14), some (.int x1)] [] (sM mo G I J) Q =
    (sm_wp X 164 0 [some (.ref 14)] [] (sM mo G I J) (fun v M => sm_wp X 163 150 [some (.ref 14), some (.int x1)] (v.toList ++ []) M Q)) :=
  (sm_blk X 163 146 (tt_lin 163 (by decide)) rfl rfl _ _ _ _).trans rfl
set_option maxRecDepth 100000 in
theorem bk_163_150 (X : (Nat → Int32) × Nat) (mo : Bool) (G : Nat × Nat) (I : Nat → Nat → Int32) (J : Nat → Nat → Int64) (Q : Option Value → sm_M → Prop) (x1 : Int32) (s0 : Int32) :
    sm_wp X 163 150 [some (.ref 14), some (.int x1)] [.int s0] (sM mo G I J) Q =
    (True ∧ Q (some (.int s0)) (sM mo G I J)) :=
  (sm_blk X 163 150 (tt_lin 163 (by decide)) rfl rfl _ _ _ _).trans rfl
set_option maxRecDepth 100000 in
theorem bk_163_151 (X : (Nat → Int32) × Nat) (mo : Bool) (G : Nat × Nat) (I : Nat → Nat → Int32) (J : Nat → Nat → Int64) (Q : Option Value → sm_M → Prop) (x1 : Int32) :
    sm_wp X 163 151 [some (.ref 14), some (.int x1)] [] (sM mo G I J) Q =
    (sm_wp X 165 0 [some (.ref 14), some (.int 61)] [] (sM mo G I J) (fun v M => sm_wp X 163 157 [some (.ref 14), some (.int x1)] (v.toList ++ []) M Q)) :=
  (sm_blk X 163 151 (tt_lin 163 (by decide)) rfl rfl _ _ _ _).trans rfl
set_option maxRecDepth 100000 in
theorem bk_163_157 (X : (Nat → Int32) × Nat) (mo : Bool) (G : Nat × Nat) (I : Nat → Nat → Int32) (J : Nat → Nat → Int64) (Q : Option Value → sm_M → Prop) (x1 : Int32) (s0 : Int32) :
    sm_wp X 163 157 [some (.ref 14), some (.int x1)] [.int s0] (sM mo G I J) Q =
    (if (s0 : Int32) = 0 then sm_wp X 163 165 [some (.ref 14), some (.int x1)] [] (sM mo G I J) Q else (sm_wp X 163 167 [some (.ref 14), some (.int x1)] [.int 28] (sM mo G I J) Q)) :=
  (sm_blk X 163 157 (tt_lin 163 (by decide)) rfl rfl _ _ _ _).trans rfl
set_option maxRecDepth 100000 in
theorem bk_163_165 (X : (Nat → Int32) × Nat) (mo : Bool) (G : Nat × Nat) (I : Nat → Nat → Int32) (J : Nat → Nat → Int64) (Q : Option Value → sm_M → Prop) (x1 : Int32) :
    sm_wp X 163 165 [some (.ref 14), some (.int x1)] [] (sM mo G I J) Q =
    (True ∧ Q (some (.int 29)) (sM mo G I J)) :=
  (sm_blk X 163 165 (tt_lin 163 (by decide)) rfl rfl _ _ _ _).trans rfl
set_option maxRecDepth 100000 in
theorem bk_163_167 (X : (Nat → Int32) × Nat) (mo : Bool) (G : Nat × Nat) (I : Nat → Nat → Int32) (J : Nat → Nat → Int64) (Q : Option Value → sm_M → Prop) (x1 : Int32) (s0 : Int32) :
    sm_wp X 163 167 [some (.ref 14), some (.int x1)] [.int s0] (sM mo G I J) Q =
    (True ∧ Q (some (.int s0)) (sM mo G I J)) :=
  (sm_blk X 163 167 (tt_lin 163 (by decide)) rfl rfl _ _ _ _).trans rfl
set_option maxRecDepth 100000 in
theorem bk_163_168 (X : (Nat → Int32) × Nat) (mo : Bool) (G : Nat × Nat) (I : Nat → Nat → Int32) (J : Nat → Nat → Int64) (Q : Option Value → sm_M → Prop) (x1 : Int32) :
    sm_wp X 163 168 [some (.ref 14), some (.int x1)] [] (sM mo G I J) Q =
    (True ∧ Q (some (.int 30)) (sM mo G I J)) :=
  (sm_blk X 163 168 (tt_lin 163 (by decide)) rfl rfl _ _ _ _).trans rfl
set_option maxRecDepth 100000 in
theorem bk_163_171 (X : (Nat → Int32) × Nat) (mo : Bool) (G : Nat × Nat) (I : Nat → Nat → Int32) (J : Nat → Nat → Int64) (Q : Option Value → sm_M → Prop) (x1 : Int32) :
    sm_wp X 163 171 [some (.ref 14), some (.int x1)] [] (sM mo G I J) Q =
    (True ∧ Q (some (.int 31)) (sM mo G I J)) :=
  (sm_blk X 163 171 (tt_lin 163 (by decide)) rfl rfl _ _ _ _).trans rfl
set_option maxRecDepth 100000 in
theorem bk_163_174 (X : (Nat → Int32) × Nat) (mo : Bool) (G : Nat × Nat) (I : Nat → Nat → Int32) (J : Nat → Nat → Int64) (Q : Option Value → sm_M → Prop) (x1 : Int32) :
    sm_wp X 163 174 [some (.ref 14), some (.int x1)] [] (sM mo G I J) Q =
    (True ∧ Q (some (.int 32)) (sM mo G I J)) :=
  (sm_blk X 163 174 (tt_lin 163 (by decide)) rfl rfl _ _ _ _).trans rfl
set_option maxRecDepth 100000 in
theorem bk_163_177 (X : (Nat → Int32) × Nat) (mo : Bool) (G : Nat × Nat) (I : Nat → Nat → Int32) (J : Nat → Nat → Int64) (Q : Option Value → sm_M → Prop) (x1 : Int32) :
    sm_wp X 163 177 [some (.ref 14), some (.int x1)] [] (sM mo G I J) Q =
    (True ∧ Q (some (.int 35)) (sM mo G I J)) :=
  (sm_blk X 163 177 (tt_lin 163 (by decide)) rfl rfl _ _ _ _).trans rfl
set_option maxRecDepth 100000 in
theorem bk_164_0 (X : (Nat → Int32) × Nat) (mo : Bool) (G : Nat × Nat) (I : Nat → Nat → Int32) (J : Nat → Nat → Int64) (Q : Option Value → sm_M → Prop)  :
    sm_wp X 164 0 [some (.ref 14)] [] (sM mo G I J) Q =
    (sm_wp X 165 0 [some (.ref 14), some (.int 61)] [] (sM mo G I J) (fun v M => sm_wp X 164 6 [some (.ref 14)] (v.toList ++ []) M Q)) :=
  (sm_blk X 164 0 (tt_lin 164 (by decide)) rfl rfl _ _ _ _).trans rfl
set_option maxRecDepth 100000 in
theorem bk_164_6 (X : (Nat → Int32) × Nat) (mo : Bool) (G : Nat × Nat) (I : Nat → Nat → Int32) (J : Nat → Nat → Int64) (Q : Option Value → sm_M → Prop) (s0 : Int32) :
    sm_wp X 164 6 [some (.ref 14)] [.int s0] (sM mo G I J) Q =
    (if (s0 : Int32) = 0 then sm_wp X 164 12 [some (.ref 14)] [] (sM mo G I J) Q else (True ∧ Q (some (.int 25)) (sM mo G I J))) :=
  (sm_blk X 164 6 (tt_lin 164 (by decide)) rfl rfl _ _ _ _).trans rfl
set_option maxRecDepth 100000 in
theorem bk_164_12 (X : (Nat → Int32) × Nat) (mo : Bool) (G : Nat × Nat) (I : Nat → Nat → Int32) (J : Nat → Nat → Int64) (Q : Option Value → sm_M → Prop)  :
    sm_wp X 164 12 [some (.ref 14)] [] (sM mo G I J) Q =
    (sm_wp X 165 0 [some (.ref 14), some (.int 62)] [] (sM mo G I J) (fun v M => sm_wp X 164 18 [some (.ref 14)] (v.toList ++ []) M Q)) :=
  (sm_blk X 164 12 (tt_lin 164 (by decide)) rfl rfl _ _ _ _).trans rfl
set_option maxRecDepth 100000 in
theorem bk_164_18 (X : (Nat → Int32) × Nat) (mo : Bool) (G : Nat × Nat) (I : Nat → Nat → Int32) (J : Nat → Nat → Int64) (Q : Option Value → sm_M → Prop) (s0 : Int32) :
    sm_wp X 164 18 [some (.ref 14)] [.int s0] (sM mo G I J) Q =
    (if (s0 : Int32) = 0 then sm_wp X 164 26 [some (.ref 14)] [] (sM mo G I J) Q else (sm_wp X 164 28 [some (.ref 14)] [.int 27] (sM mo G I J) Q)) :=
  (sm_blk X 164 18 (tt_lin 164 (by decide)) rfl rfl _ _ _ _).trans rfl
set_option maxRecDepth 100000 in
theorem bk_164_26 (X : (Nat → Int32) × Nat) (mo : Bool) (G : Nat × Nat) (I : Nat → Nat → Int32) (J : Nat → Nat → Int64) (Q : Option Value → sm_M → Prop)  :
    sm_wp X 164 26 [some (.ref 14)] [] (sM mo G I J) Q =
    (True ∧ Q (some (.int 24)) (sM mo G I J)) :=
  (sm_blk X 164 26 (tt_lin 164 (by decide)) rfl rfl _ _ _ _).trans rfl
set_option maxRecDepth 100000 in
theorem bk_164_28 (X : (Nat → Int32) × Nat) (mo : Bool) (G : Nat × Nat) (I : Nat → Nat → Int32) (J : Nat → Nat → Int64) (Q : Option Value → sm_M → Prop) (s0 : Int32) :
    sm_wp X 164 28 [some (.ref 14)] [.int s0] (sM mo G I J) Q =
    (True ∧ Q (some (.int s0)) (sM mo G I J)) :=
  (sm_blk X 164 28 (tt_lin 164 (by decide)) rfl rfl _ _ _ _).trans rfl
set_option maxRecDepth 100000 in
theorem bk_165_0 (X : (Nat → Int32) × Nat) (mo : Bool) (G : Nat × Nat) (I : Nat → Nat → Int32) (J : Nat → Nat → Int64) (Q : Option Value → sm_M → Prop) (x1 : Int32) :
    sm_wp X 165 0 [some (.ref 14), some (.int x1)] [] (sM mo G I J) Q =
    (if (I 14 4 : Int32) ≤ (I 14 5 : Int32) then sm_wp X 165 23 [some (.ref 14), some (.int x1)] [] (sM mo G I J) Q else (sm_wp X 157 0 [some (.ref 14), some (.int (I 14 5))] [] (sM mo G I J) (fun v M => sm_wp X 165 19 [some (.ref 14), some (.int x1)] (v.toList ++ []) M Q))) :=
  (sm_blk X 165 0 (tt_lin 165 (by decide)) rfl rfl _ _ _ _).trans rfl
set_option maxRecDepth 100000 in
theorem bk_165_19 (X : (Nat → Int32) × Nat) (mo : Bool) (G : Nat × Nat) (I : Nat → Nat → Int32) (J : Nat → Nat → Int64) (Q : Option Value → sm_M → Prop) (x1 : Int32) (s0 : Int32) :
    sm_wp X 165 19 [some (.ref 14), some (.int x1)] [.int s0] (sM mo G I J) Q =
    (if (s0 : Int32) = (x1 : Int32) then sm_wp X 165 25 [some (.ref 14), some (.int x1)] [] (sM mo G I J) Q else (sm_zb 0 ∧ Q (some (.int 0)) (sM mo G I J))) :=
  (sm_blk X 165 19 (tt_lin 165 (by decide)) rfl rfl _ _ _ _).trans rfl
set_option maxRecDepth 100000 in
theorem bk_165_23 (X : (Nat → Int32) × Nat) (mo : Bool) (G : Nat × Nat) (I : Nat → Nat → Int32) (J : Nat → Nat → Int64) (Q : Option Value → sm_M → Prop) (x1 : Int32) :
    sm_wp X 165 23 [some (.ref 14), some (.int x1)] [] (sM mo G I J) Q =
    (sm_zb 0 ∧ Q (some (.int 0)) (sM mo G I J)) :=
  (sm_blk X 165 23 (tt_lin 165 (by decide)) rfl rfl _ _ _ _).trans rfl
set_option maxRecDepth 100000 in
theorem bk_165_25 (X : (Nat → Int32) × Nat) (mo : Bool) (G : Nat × Nat) (I : Nat → Nat → Int32) (J : Nat → Nat → Int64) (Q : Option Value → sm_M → Prop) (x1 : Int32) :
    sm_wp X 165 25 [some (.ref 14), some (.int x1)] [] (sM mo G I J) Q =
    (sm_zb 1 ∧ Q (some (.int 1)) (sM mo G (up2 I 14 5 ((I 14 5) + 1)) J)) :=
  (sm_blk X 165 25 (tt_lin 165 (by decide)) rfl rfl _ _ _ _).trans rfl
