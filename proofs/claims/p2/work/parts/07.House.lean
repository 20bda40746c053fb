set_option maxRecDepth 100000 in
theorem bk_167_0 (X : (Nat → Int32) × Nat) (mo : Bool) (G : Nat × Nat) (I : Nat → Nat → Int32) (J : Nat → Nat → Int64) (Q : Option Value → sm_M → Prop) (x1 : Int32) (x2 : Int32) (x3 : Int32) (x4 : Int32) (x5 : Int32) :
    sm_wp X 167 0 [some (.ref 0), some (.int x1), some (.int x2), some (.int x3), some (.int x4), some (.int x5)] [] (sM mo G I J) Q =
    (if ((I 14 0) + 20 : Int32) ≤ (400 : Int32) then sm_wp X 167 18 [some (.ref 0), some (.int x1), some (.int x2), some (.int x3), some (.int x4), some (.int x5)] [] (sM mo G I J) Q else (True ∧ Q (some (.int (-1))) (sM mo G I J))) :=
  (sm_blk X 167 0 (tt_lin 167 (by decide)) rfl rfl _ _ _ _).trans rfl
set_option maxRecDepth 100000 in
theorem bk_167_18 (X : (Nat → Int32) × Nat) (mo : Bool) (G : Nat × Nat) (I : Nat → Nat → Int32) (J : Nat → Nat → Int64) (Q : Option Value → sm_M → Prop) (x1 : Int32) (x2 : Int32) (x3 : Int32) (x4 : Int32) (x5 : Int32) :
    sm_wp X 167 18 [some (.ref 0), some (.int x1), some (.int x2), some (.int x3), some (.int x4), some (.int x5)] [] (sM mo G I J) Q =
    (sm_wp X 154 0 [some (.ref 14), some (.int x1), none] [] (sM mo G I J) (fun v M => sm_wp X 167 26 [some (.ref 0), some (.int x1), some (.int x2), some (.int x3), some (.int x4), some (.int x5)] (v.toList ++ []) M Q)) :=
  (sm_blk X 167 18 (tt_lin 167 (by decide)) rfl rfl _ _ _ _).trans rfl
set_option maxRecDepth 100000 in
theorem bk_167_26 (X : (Nat → Int32) × Nat) (mo : Bool) (G : Nat × Nat) (I : Nat → Nat → Int32) (J : Nat → Nat → Int64) (Q : Option Value → sm_M → Prop) (x1 : Int32) (x2 : Int32) (x3 : Int32) (x4 : Int32) (x5 : Int32) :
    sm_wp X 167 26 [some (.ref 0), some (.int x1), some (.int x2), some (.int x3), some (.int x4), some (.int x5)] [] (sM mo G I J) Q =
    (sm_wp X 154 0 [some (.ref 14), some (.int x2), none] [] (sM mo G I J) (fun v M => sm_wp X 167 34 [some (.ref 0), some (.int x1), some (.int x2), some (.int x3), some (.int x4), some (.int x5)] (v.toList ++ []) M Q)) :=
  (sm_blk X 167 26 (tt_lin 167 (by decide)) rfl rfl _ _ _ _).trans rfl
set_option maxRecDepth 100000 in
theorem bk_167_34 (X : (Nat → Int32) × Nat) (mo : Bool) (G : Nat × Nat) (I : Nat → Nat → Int32) (J : Nat → Nat → Int64) (Q : Option Value → sm_M → Prop) (x1 : Int32) (x2 : Int32) (x3 : Int32) (x4 : Int32) (x5 : Int32) :
    sm_wp X 167 34 [some (.ref 0), some (.int x1), some (.int x2), some (.int x3), some (.int x4), some (.int x5)] [] (sM mo G I J) Q =
    (sm_wp X 154 0 [some (.ref 14), some (.int x3), none] [] (sM mo G I J) (fun v M => sm_wp X 167 42 [some (.ref 0), some (.int x1), some (.int x2), some (.int x3), some (.int x4), some (.int x5)] (v.toList ++ []) M Q)) :=
  (sm_blk X 167 34 (tt_lin 167 (by decide)) rfl rfl _ _ _ _).trans rfl
set_option maxRecDepth 100000 in
theorem bk_167_42 (X : (Nat → Int32) × Nat) (mo : Bool) (G : Nat × Nat) (I : Nat → Nat → Int32) (J : Nat → Nat → Int64) (Q : Option Value → sm_M → Prop) (x1 : Int32) (x2 : Int32) (x3 : Int32) (x4 : Int32) (x5 : Int32) :
    sm_wp X 167 42 [some (.ref 0), some (.int x1), some (.int x2), some (.int x3), some (.int x4), some (.int x5)] [] (sM mo G I J) Q =
    (sm_wp X 154 0 [some (.ref 14), some (.int x4), none] [] (sM mo G I J) (fun v M => sm_wp X 167 51 [some (.ref 0), some (.int x1), some (.int x2), some (.int x3), some (.int x4), some (.int x5)] (v.toList ++ []) M Q)) :=
  (sm_blk X 167 42 (tt_lin 167 (by decide)) rfl rfl _ _ _ _).trans rfl
set_option maxRecDepth 100000 in
theorem bk_167_51 (X : (Nat → Int32) × Nat) (mo : Bool) (G : Nat × Nat) (I : Nat → Nat → Int32) (J : Nat → Nat → Int64) (Q : Option Value → sm_M → Prop) (x1 : Int32) (x2 : Int32) (x3 : Int32) (x4 : Int32) (x5 : Int32) :
    sm_wp X 167 51 [some (.ref 0), some (.int x1), some (.int x2), some (.int x3), some (.int x4), some (.int x5)] [] (sM mo G I J) Q =
    (sm_wp X 154 0 [some (.ref 14), some (.int x5), none] [] (sM mo G I J) (fun v M => sm_wp X 167 60 [some (.ref 0), some (.int x1), some (.int x2), some (.int x3), some (.int x4), some (.int x5)] (v.toList ++ []) M Q)) :=
  (sm_blk X 167 51 (tt_lin 167 (by decide)) rfl rfl _ _ _ _).trans rfl
set_option maxRecDepth 100000 in
theorem bk_167_60 (X : (Nat → Int32) × Nat) (mo : Bool) (G : Nat × Nat) (I : Nat → Nat → Int32) (J : Nat → Nat → Int64) (Q : Option Value → sm_M → Prop) (x1 : Int32) (x2 : Int32) (x3 : Int32) (x4 : Int32) (x5 : Int32) :
    sm_wp X 167 60 [some (.ref 0), some (.int x1), some (.int x2), some (.int x3), some (.int x4), some (.int x5)] [] (sM mo G I J) Q =
    (True ∧ Q (some (.int (I 14 0))) (sM mo G I J)) :=
  (sm_blk X 167 60 (tt_lin 167 (by decide)) rfl rfl _ _ _ _).trans rfl
set_option maxRecDepth 100000 in
theorem bk_168_0 (X : (Nat → Int32) × Nat) (mo : Bool) (G : Nat × Nat) (I : Nat → Nat → Int32) (J : Nat → Nat → Int64) (Q : Option Value → sm_M → Prop) (x1 : Int32) (x2 : Int32) :
    sm_wp X 168 0 [some (.ref 0), some (.int x1), some (.int x2)] [] (sM mo G I J) Q =
    (if (x1 : Int32) < 0 then sm_wp X 168 26 [some (.ref 0), some (.int x1), some (.int x2)] [] (sM mo G I J) Q else (if (I 14 0 : Int32) < (x1 : Int32) then sm_wp X 168 26 [some (.ref 0), some (.int x1), some (.int x2)] [] (sM mo G I J) Q else (sm_wp X 88 0 [some (.ref 1), some (.int x2)] [] (sM mo G I J) (fun v M => sm_wp X 168 23 [some (.ref 0), some (.int x1), some (.int x2)] (v.toList ++ []) M Q)))) :=
  (sm_blk X 168 0 (tt_lin 168 (by decide)) rfl rfl _ _ _ _).trans rfl
set_option maxRecDepth 100000 in
theorem bk_168_23 (X : (Nat → Int32) × Nat) (mo : Bool) (G : Nat × Nat) (I : Nat → Nat → Int32) (J : Nat → Nat → Int64) (Q : Option Value → sm_M → Prop) (x1 : Int32) (x2 : Int32) (s0 : Int32) :
    sm_wp X 168 23 [some (.ref 0), some (.int x1), some (.int x2)] [.int s0] (sM mo G I J) Q =
    (if ¬ (s0 : Int32) = 0 then sm_wp X 168 29 [some (.ref 0), some (.int x1), some (.int x2)] [] (sM mo G I J) Q else (True ∧ Q (some (.int (-2))) (sM mo G I J))) :=
  (sm_blk X 168 23 (tt_lin 168 (by decide)) rfl rfl _ _ _ _).trans rfl
set_option maxRecDepth 100000 in
theorem bk_168_26 (X : (Nat → Int32) × Nat) (mo : Bool) (G : Nat × Nat) (I : Nat → Nat → Int32) (J : Nat → Nat → Int64) (Q : Option Value → sm_M → Prop) (x1 : Int32) (x2 : Int32) :
    sm_wp X 168 26 [some (.ref 0), some (.int x1), some (.int x2)] [] (sM mo G I J) Q =
    (True ∧ Q (some (.int (-2))) (sM mo G I J)) :=
  (sm_blk X 168 26 (tt_lin 168 (by decide)) rfl rfl _ _ _ _).trans rfl
set_option maxRecDepth 100000 in
theorem bk_168_29 (X : (Nat → Int32) × Nat) (mo : Bool) (G : Nat × Nat) (I : Nat → Nat → Int32) (J : Nat → Nat → Int64) (Q : Option Value → sm_M → Prop) (x1 : Int32) (x2 : Int32) :
    sm_wp X 168 29 [some (.ref 0), some (.int x1), some (.int x2)] [] (sM mo G I J) Q =
    (sm_wp X 47 0 [some (.ref 16), some (.int x1), none] [] (sM mo G I J) (fun v M => sm_wp X 168 37 [some (.ref 0), some (.int x1), some (.int x2)] (v.toList ++ []) M Q)) :=
  (sm_blk X 168 29 (tt_lin 168 (by decide)) rfl rfl _ _ _ _).trans rfl
set_option maxRecDepth 100000 in
theorem bk_168_37 (X : (Nat → Int32) × Nat) (mo : Bool) (G : Nat × Nat) (I : Nat → Nat → Int32) (J : Nat → Nat → Int64) (Q : Option Value → sm_M → Prop) (x1 : Int32) (x2 : Int32) :
    sm_wp X 168 37 [some (.ref 0), some (.int x1), some (.int x2)] [] (sM mo G I J) Q =
    (if (I 16 0 : Int32) = 0 then sm_wp X 168 49 [some (.ref 0), some (.int x1), some (.int x2)] [] (sM mo G I J) Q else (True ∧ Q (some (.int (-1))) (sM mo G I J))) :=
  (sm_blk X 168 37 (tt_lin 168 (by decide)) rfl rfl _ _ _ _).trans rfl
set_option maxRecDepth 100000 in
theorem bk_168_49 (X : (Nat → Int32) × Nat) (mo : Bool) (G : Nat × Nat) (I : Nat → Nat → Int32) (J : Nat → Nat → Int64) (Q : Option Value → sm_M → Prop) (x1 : Int32) (x2 : Int32) :
    sm_wp X 168 49 [some (.ref 0), some (.int x1), some (.int x2)] [] (sM mo G I J) Q =
    (sm_wp X 40 0 [some (.ref 21), some (.ref 16), some (.int x2), none] [] (sM mo G I J) (fun v M => sm_wp X 168 61 [some (.ref 0), some (.int x1), some (.int x2)] (v.toList ++ []) M Q)) :=
  (sm_blk X 168 49 (tt_lin 168 (by decide)) rfl rfl _ _ _ _).trans rfl
set_option maxRecDepth 100000 in
theorem bk_168_61 (X : (Nat → Int32) × Nat) (mo : Bool) (G : Nat × Nat) (I : Nat → Nat → Int32) (J : Nat → Nat → Int64) (Q : Option Value → sm_M → Prop) (x1 : Int32) (x2 : Int32) :
    sm_wp X 168 61 [some (.ref 0), some (.int x1), some (.int x2)] [] (sM mo G I J) Q =
    (True ∧ Q (some (.int (I 16 2))) (sM mo G I J)) :=
  (sm_blk X 168 61 (tt_lin 168 (by decide)) rfl rfl _ _ _ _).trans rfl
set_option maxRecDepth 100000 in
theorem bk_169_0 (X : (Nat → Int32) × Nat) (mo : Bool) (G : Nat × Nat) (I : Nat → Nat → Int32) (J : Nat → Nat → Int64) (Q : Option Value → sm_M → Prop) (x0 : Int32) (x1 : Int32) :
    sm_wp X 169 0 [some (.int x0), some (.int x1)] [] (sM mo G I J) Q =
    (if (x1 : Int32) < 0 then sm_wp X 169 22 [some (.int x0), some (.int x1)] [] (sM mo G I J) Q else (if (31 : Int32) ≤ (x1 : Int32) then sm_wp X 169 22 [some (.int x0), some (.int x1)] [] (sM mo G I J) Q else (if ((x0 >>> (x1 &&& 31)) &&& 1 : Int32) = 0 then sm_wp X 169 22 [some (.int x0), some (.int x1)] [] (sM mo G I J) Q else (sm_wp X 169 23 [some (.int x0), some (.int x1)] [.int 1] (sM mo G I J) Q)))) :=
  (sm_blk X 169 0 (tt_lin 169 (by decide)) rfl rfl _ _ _ _).trans rfl
set_option maxRecDepth 100000 in
theorem bk_169_22 (X : (Nat → Int32) × Nat) (mo : Bool) (G : Nat × Nat) (I : Nat → Nat → Int32) (J : Nat → Nat → Int64) (Q : Option Value → sm_M → Prop) (x0 : Int32) (x1 : Int32) :
    sm_wp X 169 22 [some (.int x0), some (.int x1)] [] (sM mo G I J) Q =
    (sm_zb 0 ∧ Q (some (.int 0)) (sM mo G I J)) :=
  (sm_blk X 169 22 (tt_lin 169 (by decide)) rfl rfl _ _ _ _).trans rfl
set_option maxRecDepth 100000 in
theorem bk_169_23 (X : (Nat → Int32) × Nat) (mo : Bool) (G : Nat × Nat) (I : Nat → Nat → Int32) (J : Nat → Nat → Int64) (Q : Option Value → sm_M → Prop) (x0 : Int32) (x1 : Int32) (s0 : Int32) :
    sm_wp X 169 23 [some (.int x0), some (.int x1)] [.int s0] (sM mo G I J) Q =
    (sm_zb s0 ∧ Q (some (.int s0)) (sM mo G I J)) :=
  (sm_blk X 169 23 (tt_lin 169 (by decide)) rfl rfl _ _ _ _).trans rfl
set_option maxRecDepth 100000 in
theorem bk_170_0 (X : (Nat → Int32) × Nat) (mo : Bool) (G : Nat × Nat) (I : Nat → Nat → Int32) (J : Nat → Nat → Int64) (Q : Option Value → sm_M → Prop) (x1 : Int32) :
    sm_wp X 170 0 [some (.ref 0), some (.int x1)] [] (sM mo G I J) Q =
    (if ¬ (x1 : Int32) = 0 then sm_wp X 170 12 [some (.ref 0), some (.int x1)] [] (sM mo G I J) Q else (True ∧ Q (some (.int (I 16 0))) (sM mo G I J))) :=
  (sm_blk X 170 0 (tt_lin 170 (by decide)) rfl rfl _ _ _ _).trans rfl
set_option maxRecDepth 100000 in
theorem bk_170_12 (X : (Nat → Int32) × Nat) (mo : Bool) (G : Nat × Nat) (I : Nat → Nat → Int32) (J : Nat → Nat → Int64) (Q : Option Value → sm_M → Prop) (x1 : Int32) :
    sm_wp X 170 12 [some (.ref 0), some (.int x1)] [] (sM mo G I J) Q =
    (if ¬ (x1 : Int32) = (1 : Int32) then sm_wp X 170 27 [some (.ref 0), some (.int x1)] [] (sM mo G I J) Q else (sm_wp X 170 28 [some (.ref 0), some (.int x1)] [.int (I 16 1)] (sM mo G I J) Q)) :=
  (sm_blk X 170 12 (tt_lin 170 (by decide)) rfl rfl _ _ _ _).trans rfl
set_option maxRecDepth 100000 in
theorem bk_170_27 (X : (Nat → Int32) × Nat) (mo : Bool) (G : Nat × Nat) (I : Nat → Nat → Int32) (J : Nat → Nat → Int64) (Q : Option Value → sm_M → Prop) (x1 : Int32) :
    sm_wp X 170 27 [some (.ref 0), some (.int x1)] [] (sM mo G I J) Q =
    (True ∧ Q (some (.int (-1))) (sM mo G I J)) :=
  (sm_blk X 170 27 (tt_lin 170 (by decide)) rfl rfl _ _ _ _).trans rfl
set_option maxRecDepth 100000 in
theorem bk_170_28 (X : (Nat → Int32) × Nat) (mo : Bool) (G : Nat × Nat) (I : Nat → Nat → Int32) (J : Nat → Nat → Int64) (Q : Option Value → sm_M → Prop) (x1 : Int32) (s0 : Int32) :
    sm_wp X 170 28 [some (.ref 0), some (.int x1)] [.int s0] (sM mo G I J) Q =
    (True ∧ Q (some (.int s0)) (sM mo G I J)) :=
  (sm_blk X 170 28 (tt_lin 170 (by decide)) rfl rfl _ _ _ _).trans rfl
set_option maxRecDepth 100000 in
theorem bk_171_0 (X : (Nat → Int32) × Nat) (mo : Bool) (G : Nat × Nat) (I : Nat → Nat → Int32) (J : Nat → Nat → Int64) (Q : Option Value → sm_M → Prop) (x1 : Int32) :
    sm_wp X 171 0 [some (.ref 0), some (.int x1)] [] (sM mo G I J) Q =
    (if (x1 : Int32) < (1 : Int32) then sm_wp X 171 12 [some (.ref 0), some (.int x1)] [] (sM mo G I J) Q else (if (x1 : Int32) ≤ (9999 : Int32) then sm_wp X 171 14 [some (.ref 0), some (.int x1)] [] (sM mo G I J) Q else (True ∧ Q (some (.int (-1))) (sM mo G I J)))) :=
  (sm_blk X 171 0 (tt_lin 171 (by decide)) rfl rfl _ _ _ _).trans rfl
set_option maxRecDepth 100000 in
theorem bk_171_12 (X : (Nat → Int32) × Nat) (mo : Bool) (G : Nat × Nat) (I : Nat → Nat → Int32) (J : Nat → Nat → Int64) (Q : Option Value → sm_M → Prop) (x1 : Int32) :
    sm_wp X 171 12 [some (.ref 0), some (.int x1)] [] (sM mo G I J) Q =
    (True ∧ Q (some (.int (-1))) (sM mo G I J)) :=
  (sm_blk X 171 12 (tt_lin 171 (by decide)) rfl rfl _ _ _ _).trans rfl
set_option maxRecDepth 100000 in
theorem bk_171_14 (X : (Nat → Int32) × Nat) (mo : Bool) (G : Nat × Nat) (I : Nat → Nat → Int32) (J : Nat → Nat → Int64) (Q : Option Value → sm_M → Prop) (x1 : Int32) :
    sm_wp X 171 14 [some (.ref 0), some (.int x1)] [] (sM mo G I J) Q =
    (sm_wp X 89 0 [some (.ref 1), some (.int x1)] [] (sM mo G I J) (fun v M => sm_wp X 171 22 [some (.ref 0), some (.int x1)] (v.toList ++ []) M Q)) :=
  (sm_blk X 171 14 (tt_lin 171 (by decide)) rfl rfl _ _ _ _).trans rfl
set_option maxRecDepth 100000 in
theorem bk_171_22 (X : (Nat → Int32) × Nat) (mo : Bool) (G : Nat × Nat) (I : Nat → Nat → Int32) (J : Nat → Nat → Int64) (Q : Option Value → sm_M → Prop) (x1 : Int32) (s0 : Int32) :
    sm_wp X 171 22 [some (.ref 0), some (.int x1)] [.int s0] (sM mo G I J) Q =
    (True ∧ Q (some (.int s0)) (sM mo G I J)) :=
  (sm_blk X 171 22 (tt_lin 171 (by decide)) rfl rfl _ _ _ _).trans rfl
set_option maxRecDepth 100000 in
theorem bk_172_0 (X : (Nat → Int32) × Nat) (mo : Bool) (G : Nat × Nat) (I : Nat → Nat → Int32) (J : Nat → Nat → Int64) (Q : Option Value → sm_M → Prop) (x1 : Int32) (x2 : Int32) :
    sm_wp X 172 0 [some (.ref 0), some (.int x1), some (.int x2)] [] (sM mo G I J) Q =
    (sm_wp X 90 0 [some (.ref 1), some (.int x1)] [] (sM mo G I J) (fun v M => sm_wp X 172 8 [some (.ref 0), some (.int x1), some (.int x2)] (v.toList ++ []) M Q)) :=
  (sm_blk X 172 0 (tt_lin 172 (by decide)) rfl rfl _ _ _ _).trans rfl
set_option maxRecDepth 100000 in
theorem bk_172_8 (X : (Nat → Int32) × Nat) (mo : Bool) (G : Nat × Nat) (I : Nat → Nat → Int32) (J : Nat → Nat → Int64) (Q : Option Value → sm_M → Prop) (x1 : Int32) (x2 : Int32) (s0 : Int32) :
    sm_wp X 172 8 [some (.ref 0), some (.int x1), some (.int x2)] [.int s0] (sM mo G I J) Q =
    (if (s0 : Int32) = 0 then sm_wp X 172 39 [some (.ref 0), some (.int x1), some (.int x2)] [] (sM mo G I J) Q else (sm_wp X 90 0 [some (.ref 1), some (.int x2)] [] (sM mo G I J) (fun v M => sm_wp X 172 19 [some (.ref 0), some (.int x1), some (.int x2)] (v.toList ++ []) M Q))) :=
  (sm_blk X 172 8 (tt_lin 172 (by decide)) rfl rfl _ _ _ _).trans rfl
set_option maxRecDepth 100000 in
theorem bk_172_19 (X : (Nat → Int32) × Nat) (mo : Bool) (G : Nat × Nat) (I : Nat → Nat → Int32) (J : Nat → Nat → Int64) (Q : Option Value → sm_M → Prop) (x1 : Int32) (x2 : Int32) (s0 : Int32) :
    sm_wp X 172 19 [some (.ref 0), some (.int x1), some (.int x2)] [.int s0] (sM mo G I J) Q =
    (if (s0 : Int32) = 0 then sm_wp X 172 39 [some (.ref 0), some (.int x1), some (.int x2)] [] (sM mo G I J) Q else (if (x1 : Int32) = (x2 : Int32) then sm_wp X 172 39 [some (.ref 0), some (.int x1), some (.int x2)] [] (sM mo G I J) Q else (sm_wp X 91 0 [some (.ref 1), some (.int x1), some (.int x2)] [] (sM mo G I J) (fun v M => sm_wp X 172 36 [some (.ref 0), some (.int x1), some (.int x2)] (v.toList ++ []) M Q)))) :=
  (sm_blk X 172 19 (tt_lin 172 (by decide)) rfl rfl _ _ _ _).trans rfl
set_option maxRecDepth 100000 in
theorem bk_172_36 (X : (Nat → Int32) × Nat) (mo : Bool) (G : Nat × Nat) (I : Nat → Nat → Int32) (J : Nat → Nat → Int64) (Q : Option Value → sm_M → Prop) (x1 : Int32) (x2 : Int32) (s0 : Int32) :
    sm_wp X 172 36 [some (.ref 0), some (.int x1), some (.int x2)] [.int s0] (sM mo G I J) Q =
    (if (s0 : Int32) = 0 then sm_wp X 172 41 [some (.ref 0), some (.int x1), some (.int x2)] [] (sM mo G I J) Q else (sm_zb 0 ∧ Q (some (.int 0)) (sM mo G I J))) :=
  (sm_blk X 172 36 (tt_lin 172 (by decide)) rfl rfl _ _ _ _).trans rfl
set_option maxRecDepth 100000 in
theorem bk_172_39 (X : (Nat → Int32) × Nat) (mo : Bool) (G : Nat × Nat) (I : Nat → Nat → Int32) (J : Nat → Nat → Int64) (Q : Option Value → sm_M → Prop) (x1 : Int32) (x2 : Int32) :
    sm_wp X 172 39 [some (.ref 0), some (.int x1), some (.int x2)] [] (sM mo G I J) Q =
    (sm_zb 0 ∧ Q (some (.int 0)) (sM mo G I J)) :=
  (sm_blk X 172 39 (tt_lin 172 (by decide)) rfl rfl _ _ _ _).trans rfl
set_option maxRecDepth 100000 in
theorem bk_172_41 (X : (Nat → Int32) × Nat) (mo : Bool) (G : Nat × Nat) (I : Nat → Nat → Int32) (J : Nat → Nat → Int64) (Q : Option Value → sm_M → Prop) (x1 : Int32) (x2 : Int32) :
    sm_wp X 172 41 [some (.ref 0), some (.int x1), some (.int x2)] [] (sM mo G I J) Q =
    (sm_wp X 92 0 [some (.ref 1), some (.int x1), some (.int x2)] [] (sM mo G I J) (fun v M => sm_wp X 172 50 [some (.ref 0), some (.int x1), some (.int x2)] (v.toList ++ []) M Q)) :=
  (sm_blk X 172 41 (tt_lin 172 (by decide)) rfl rfl _ _ _ _).trans rfl
set_option maxRecDepth 100000 in
theorem bk_172_50 (X : (Nat → Int32) × Nat) (mo : Bool) (G : Nat × Nat) (I : Nat → Nat → Int32) (J : Nat → Nat → Int64) (Q : Option Value → sm_M → Prop) (x1 : Int32) (x2 : Int32) :
    sm_wp X 172 50 [some (.ref 0), some (.int x1), some (.int x2)] [] (sM mo G I J) Q =
    (sm_zb 1 ∧ Q (some (.int 1)) (sM mo G I J)) :=
  (sm_blk X 172 50 (tt_lin 172 (by decide)) rfl rfl _ _ _ _).trans rfl
set_option maxRecDepth 100000 in
theorem bk_173_0 (X : (Nat → Int32) × Nat) (mo : Bool) (G : Nat × Nat) (I : Nat → Nat → Int32) (J : Nat → Nat → Int64) (Q : Option Value → sm_M → Prop) (x1 : Int32) (x2 : Int32) :
    sm_wp X 173 0 [some (.ref 0), some (.int x1), some (.int x2)] [] (sM mo G I J) Q =
    (if (x1 : Int32) < 0 then sm_wp X 173 20 [some (.ref 0), some (.int x1), some (.int x2)] [] (sM mo G I J) Q else (if (99 : Int32) < (x1 : Int32) then sm_wp X 173 20 [some (.ref 0), some (.int x1), some (.int x2)] [] (sM mo G I J) Q else (if (x2 : Int32) < 0 then sm_wp X 173 20 [some (.ref 0), some (.int x1), some (.int x2)] [] (sM mo G I J) Q else (if (x2 : Int32) ≤ (9 : Int32) then sm_wp X 173 22 [some (.ref 0), some (.int x1), some (.int x2)] [] (sM mo G I J) Q else (True ∧ Q (some (.int (-1))) (sM mo G I J)))))) :=
  (sm_blk X 173 0 (tt_lin 173 (by decide)) rfl rfl _ _ _ _).trans rfl
set_option maxRecDepth 100000 in
theorem bk_173_20 (X : (Nat → Int32) × Nat) (mo : Bool) (G : Nat × Nat) (I : Nat → Nat → Int32) (J : Nat → Nat → Int64) (Q : Option Value → sm_M → Prop) (x1 : Int32) (x2 : Int32) :
    sm_wp X 173 20 [some (.ref 0), some (.int x1), some (.int x2)] [] (sM mo G I J) Q =
    (True ∧ Q (some (.int (-1))) (sM mo G I J)) :=
  (sm_blk X 173 20 (tt_lin 173 (by decide)) rfl rfl _ _ _ _).trans rfl
set_option maxRecDepth 100000 in
theorem bk_173_22 (X : (Nat → Int32) × Nat) (mo : Bool) (G : Nat × Nat) (I : Nat → Nat → Int32) (J : Nat → Nat → Int64) (Q : Option Value → sm_M → Prop) (x1 : Int32) (x2 : Int32) :
    sm_wp X 173 22 [some (.ref 0), some (.int x1), some (.int x2)] [] (sM mo G I J) Q =
    (sm_wp X 93 0 [some (.ref 1), some (.int x1), some (.int x2)] [] (sM mo G I J) (fun v M => sm_wp X 173 31 [some (.ref 0), some (.int x1), some (.int x2)] (v.toList ++ []) M Q)) :=
  (sm_blk X 173 22 (tt_lin 173 (by decide)) rfl rfl _ _ _ _).trans rfl
set_option maxRecDepth 100000 in
theorem bk_173_31 (X : (Nat → Int32) × Nat) (mo : Bool) (G : Nat × Nat) (I : Nat → Nat → Int32) (J : Nat → Nat → Int64) (Q : Option Value → sm_M → Prop) (x1 : Int32) (x2 : Int32) (s0 : Int32) :
    sm_wp X 173 31 [some (.ref 0), some (.int x1), some (.int x2)] [.int s0] (sM mo G I J) Q =
    (True ∧ Q (some (.int s0)) (sM mo G I J)) :=
  (sm_blk X 173 31 (tt_lin 173 (by decide)) rfl rfl _ _ _ _).trans rfl
set_option maxRecDepth 100000 in
theorem bk_174_0 (X : (Nat → Int32) × Nat) (mo : Bool) (G : Nat × Nat) (I : Nat → Nat → Int32) (J : Nat → Nat → Int64) (Q : Option Value → sm_M → Prop) (x1 : Int32) (x2 : Int32) :
    sm_wp X 174 0 [some (.ref 0), some (.int x1), some (.int x2)] [] (sM mo G I J) Q =
    (sm_wp X 90 0 [some (.ref 1), some (.int x1)] [] (sM mo G I J) (fun v M => sm_wp X 174 8 [some (.ref 0), some (.int x1), some (.int x2)] (v.toList ++ []) M Q)) :=
  (sm_blk X 174 0 (tt_lin 174 (by decide)) rfl rfl _ _ _ _).trans rfl
set_option maxRecDepth 100000 in
theorem bk_174_8 (X : (Nat → Int32) × Nat) (mo : Bool) (G : Nat × Nat) (I : Nat → Nat → Int32) (J : Nat → Nat → Int64) (Q : Option Value → sm_M → Prop) (x1 : Int32) (x2 : Int32) (s0 : Int32) :
    sm_wp X 174 8 [some (.ref 0), some (.int x1), some (.int x2)] [.int s0] (sM mo G I J) Q =
    (if (s0 : Int32) = 0 then sm_wp X 174 27 [some (.ref 0), some (.int x1), some (.int x2)] [] (sM mo G I J) Q else (if (x2 : Int32) = ((-1) : Int32) then sm_wp X 174 29 [some (.ref 0), some (.int x1), some (.int x2)] [] (sM mo G I J) Q else (sm_wp X 94 0 [some (.ref 1), some (.int x2)] [] (sM mo G I J) (fun v M => sm_wp X 174 24 [some (.ref 0), some (.int x1), some (.int x2)] (v.toList ++ []) M Q)))) :=
  (sm_blk X 174 8 (tt_lin 174 (by decide)) rfl rfl _ _ _ _).trans rfl
set_option maxRecDepth 100000 in
theorem bk_174_24 (X : (Nat → Int32) × Nat) (mo : Bool) (G : Nat × Nat) (I : Nat → Nat → Int32) (J : Nat → Nat → Int64) (Q : Option Value → sm_M → Prop) (x1 : Int32) (x2 : Int32) (s0 : Int32) :
    sm_wp X 174 24 [some (.ref 0), some (.int x1), some (.int x2)] [.int s0] (sM mo G I J) Q =
    (if ¬ (s0 : Int32) = 0 then sm_wp X 174 29 [some (.ref 0), some (.int x1), some (.int x2)] [] (sM mo G I J) Q else (sm_zb 0 ∧ Q (some (.int 0)) (sM mo G I J))) :=
  (sm_blk X 174 24 (tt_lin 174 (by decide)) rfl rfl _ _ _ _).trans rfl
set_option maxRecDepth 100000 in
theorem bk_174_27 (X : (Nat → Int32) × Nat) (mo : Bool) (G : Nat × Nat) (I : Nat → Nat → Int32) (J : Nat → Nat → Int64) (Q : Option Value → sm_M → Prop) (x1 : Int32) (x2 : Int32) :
    sm_wp X 174 27 [some (.ref 0), some (.int x1), some (.int x2)] [] (sM mo G I J) Q =
    (sm_zb 0 ∧ Q (some (.int 0)) (sM mo G I J)) :=
  (sm_blk X 174 27 (tt_lin 174 (by decide)) rfl rfl _ _ _ _).trans rfl
set_option maxRecDepth 100000 in
theorem bk_174_29 (X : (Nat → Int32) × Nat) (mo : Bool) (G : Nat × Nat) (I : Nat → Nat → Int32) (J : Nat → Nat → Int64) (Q : Option Value → sm_M → Prop) (x1 : Int32) (x2 : Int32) :
    sm_wp X 174 29 [some (.ref 0), some (.int x1), some (.int x2)] [] (sM mo G I J) Q =
    (sm_wp X 95 0 [some (.ref 1), some (.int x1)] [] (sM mo G I J) (fun v M => sm_wp X 174 37 [some (.ref 0), some (.int x1), some (.int x2)] (v.toList ++ []) M Q)) :=
  (sm_blk X 174 29 (tt_lin 174 (by decide)) rfl rfl _ _ _ _).trans rfl
set_option maxRecDepth 100000 in
theorem bk_174_37 (X : (Nat → Int32) × Nat) (mo : Bool) (G : Nat × Nat) (I : Nat → Nat → Int32) (J : Nat → Nat → Int64) (Q : Option Value → sm_M → Prop) (x1 : Int32) (x2 : Int32) (s0 : Int32) :
    sm_wp X 174 37 [some (.ref 0), some (.int x1), some (.int x2)] [.int s0] (sM mo G I J) Q =
    (if (s0 : Int32) = (x2 : Int32) then sm_wp X 174 54 [some (.ref 0), some (.int x1), some (.int x2)] [] (sM mo G I J) Q else (sm_wp X 96 0 [some (.ref 1), some (.int x1)] [] (sM mo G I J) (fun v M => sm_wp X 174 49 [some (.ref 0), some (.int x1), some (.int x2)] (v.toList ++ []) M Q))) :=
  (sm_blk X 174 37 (tt_lin 174 (by decide)) rfl rfl _ _ _ _).trans rfl
set_option maxRecDepth 100000 in
theorem bk_174_49 (X : (Nat → Int32) × Nat) (mo : Bool) (G : Nat × Nat) (I : Nat → Nat → Int32) (J : Nat → Nat → Int64) (Q : Option Value → sm_M → Prop) (x1 : Int32) (x2 : Int32) (s0 : Int32) :
    sm_wp X 174 49 [some (.ref 0), some (.int x1), some (.int x2)] [.int s0] (sM mo G I J) Q =
    (if (s0 : Int32) < (20 : Int32) then sm_wp X 174 56 [some (.ref 0), some (.int x1), some (.int x2)] [] (sM mo G I J) Q else (sm_zb 0 ∧ Q (some (.int 0)) (sM mo G I J))) :=
  (sm_blk X 174 49 (tt_lin 174 (by decide)) rfl rfl _ _ _ _).trans rfl
set_option maxRecDepth 100000 in
theorem bk_174_54 (X : (Nat → Int32) × Nat) (mo : Bool) (G : Nat × Nat) (I : Nat → Nat → Int32) (J : Nat → Nat → Int64) (Q : Option Value → sm_M → Prop) (x1 : Int32) (x2 : Int32) :
    sm_wp X 174 54 [some (.ref 0), some (.int x1), some (.int x2)] [] (sM mo G I J) Q =
    (sm_zb 0 ∧ Q (some (.int 0)) (sM mo G I J)) :=
  (sm_blk X 174 54 (tt_lin 174 (by decide)) rfl rfl _ _ _ _).trans rfl
set_option maxRecDepth 100000 in
theorem bk_174_56 (X : (Nat → Int32) × Nat) (mo : Bool) (G : Nat × Nat) (I : Nat → Nat → Int32) (J : Nat → Nat → Int64) (Q : Option Value → sm_M → Prop) (x1 : Int32) (x2 : Int32) :
    sm_wp X 174 56 [some (.ref 0), some (.int x1), some (.int x2)] [] (sM mo G I J) Q =
    (sm_wp X 97 0 [some (.ref 1), some (.int x1), some (.int x2), some (.int (-1)), none, none] [] (sM mo G I J) (fun v M => sm_wp X 174 66 [some (.ref 0), some (.int x1), some (.int x2)] (v.toList ++ []) M Q)) :=
  (sm_blk X 174 56 (tt_lin 174 (by decide)) rfl rfl _ _ _ _).trans rfl
set_option maxRecDepth 100000 in
theorem bk_174_66 (X : (Nat → Int32) × Nat) (mo : Bool) (G : Nat × Nat) (I : Nat → Nat → Int32) (J : Nat → Nat → Int64) (Q : Option Value → sm_M → Prop) (x1 : Int32) (x2 : Int32) :
    sm_wp X 174 66 [some (.ref 0), some (.int x1), some (.int x2)] [] (sM mo G I J) Q =
    (sm_zb 1 ∧ Q (some (.int 1)) (sM mo G I J)) :=
  (sm_blk X 174 66 (tt_lin 174 (by decide)) rfl rfl _ _ _ _).trans rfl
set_option maxRecDepth 100000 in
theorem bk_175_0 (X : (Nat → Int32) × Nat) (mo : Bool) (G : Nat × Nat) (I : Nat → Nat → Int32) (J : Nat → Nat → Int64) (Q : Option Value → sm_M → Prop) (x1 : Int32) (x2 : Int32) (x3 : Int32) :
    sm_wp X 175 0 [some (.ref 0), some (.int x1), some (.int x2), some (.int x3), none] [] (sM mo G I J) Q =
    (sm_wp X 90 0 [some (.ref 1), some (.int x1)] [] (sM mo G I J) (fun v M => sm_wp X 175 8 [some (.ref 0), some (.int x1), some (.int x2), some (.int x3), none] (v.toList ++ []) M Q)) :=
  (sm_blk X 175 0 (tt_lin 175 (by decide)) rfl rfl _ _ _ _).trans rfl
set_option maxRecDepth 100000 in
theorem bk_175_8 (X : (Nat → Int32) × Nat) (mo : Bool) (G : Nat × Nat) (I : Nat → Nat → Int32) (J : Nat → Nat → Int64) (Q : Option Value → sm_M → Prop) (x1 : Int32) (x2 : Int32) (x3 : Int32) (s0 : Int32) :
    sm_wp X 175 8 [some (.ref 0), some (.int x1), some (.int x2), some (.int x3), none] [.int s0] (sM mo G I J) Q =
    (if (s0 : Int32) = 0 then sm_wp X 175 22 [some (.ref 0), some (.int x1), some (.int x2), some (.int x3), none] [] (sM mo G I J) Q else (sm_wp X 88 0 [some (.ref 1), some (.int x2)] [] (sM mo G I J) (fun v M => sm_wp X 175 19 [some (.ref 0), some (.int x1), some (.int x2), some (.int x3), none] (v.toList ++ []) M Q))) :=
  (sm_blk X 175 8 (tt_lin 175 (by decide)) rfl rfl _ _ _ _).trans rfl
set_option maxRecDepth 100000 in
theorem bk_175_19 (X : (Nat → Int32) × Nat) (mo : Bool) (G : Nat × Nat) (I : Nat → Nat → Int32) (J : Nat → Nat → Int64) (Q : Option Value → sm_M → Prop) (x1 : Int32) (x2 : Int32) (x3 : Int32) (s0 : Int32) :
    sm_wp X 175 19 [some (.ref 0), some (.int x1), some (.int x2), some (.int x3), none] [.int s0] (sM mo G I J) Q =
    (if ¬ (s0 : Int32) = 0 then sm_wp X 175 24 [some (.ref 0), some (.int x1), some (.int x2), some (.int x3), none] [] (sM mo G I J) Q else (sm_zb 0 ∧ Q (some (.int 0)) (sM mo G I J))) :=
  (sm_blk X 175 19 (tt_lin 175 (by decide)) rfl rfl _ _ _ _).trans rfl
set_option maxRecDepth 100000 in
theorem bk_175_22 (X : (Nat → Int32) × Nat) (mo : Bool) (G : Nat × Nat) (I : Nat → Nat → Int32) (J : Nat → Nat → Int64) (Q : Option Value → sm_M → Prop) (x1 : Int32) (x2 : Int32) (x3 : Int32) :
    sm_wp X 175 22 [some (.ref 0), some (.int x1), some (.int x2), some (.int x3), none] [] (sM mo G I J) Q =
    (sm_zb 0 ∧ Q (some (.int 0)) (sM mo G I J)) :=
  (sm_blk X 175 22 (tt_lin 175 (by decide)) rfl rfl _ _ _ _).trans rfl
set_option maxRecDepth 100000 in
theorem bk_175_24 (X : (Nat → Int32) × Nat) (mo : Bool) (G : Nat × Nat) (I : Nat → Nat → Int32) (J : Nat → Nat → Int64) (Q : Option Value → sm_M → Prop) (x1 : Int32) (x2 : Int32) (x3 : Int32) :
    sm_wp X 175 24 [some (.ref 0), some (.int x1), some (.int x2), some (.int x3), none] [] (sM mo G I J) Q =
    (sm_wp X 98 0 [some (.ref 1), some (.int x1)] [] (sM mo G I J) (fun v M => sm_wp X 175 32 [some (.ref 0), some (.int x1), some (.int x2), some (.int x3), none] (v.toList ++ []) M Q)) :=
  (sm_blk X 175 24 (tt_lin 175 (by decide)) rfl rfl _ _ _ _).trans rfl
set_option maxRecDepth 100000 in
theorem bk_175_32 (X : (Nat → Int32) × Nat) (mo : Bool) (G : Nat × Nat) (I : Nat → Nat → Int32) (J : Nat → Nat → Int64) (Q : Option Value → sm_M → Prop) (x1 : Int32) (x2 : Int32) (x3 : Int32) (s0 : Int32) :
    sm_wp X 175 32 [some (.ref 0), some (.int x1), some (.int x2), some (.int x3), none] [.int s0] (sM mo G I J) Q =
    (sm_wp X 169 0 [some (.int s0), some (.int x2)] [] (sM mo G I J) (fun v M => sm_wp X 175 40 [some (.ref 0), some (.int x1), some (.int x2), some (.int x3), some (.int s0)] (v.toList ++ []) M Q)) :=
  (sm_blk X 175 32 (tt_lin 175 (by decide)) rfl rfl _ _ _ _).trans rfl
set_option maxRecDepth 100000 in
theorem bk_175_40 (X : (Nat → Int32) × Nat) (mo : Bool) (G : Nat × Nat) (I : Nat → Nat → Int32) (J : Nat → Nat → Int64) (Q : Option Value → sm_M → Prop) (x1 : Int32) (x2 : Int32) (x3 : Int32) (x4 : Int32) (s0 : Int32) :
    sm_wp X 175 40 [some (.ref 0), some (.int x1), some (.int x2), some (.int x3), some (.int x4)] [.int s0] (sM mo G I J) Q =
    (if (s0 : Int32) = (x3 : Int32) then sm_wp X 175 57 [some (.ref 0), some (.int x1), some (.int x2), some (.int x3), some (.int x4)] [] (sM mo G I J) Q else (if (x3 : Int32) = 0 then sm_wp X 175 59 [some (.ref 0), some (.int x1), some (.int x2), some (.int x3), some (.int x4)] [] (sM mo G I J) Q else (sm_wp X 314 0 [some (.int x4)] [] (sM mo G I J) (fun v M => sm_wp X 175 53 [some (.ref 0), some (.int x1), some (.int x2), some (.int x3), some (.int x4)] (v.toList ++ []) M Q)))) :=
  (sm_blk X 175 40 (tt_lin 175 (by decide)) rfl rfl _ _ _ _).trans rfl
set_option maxRecDepth 100000 in
theorem bk_175_53 (X : (Nat → Int32) × Nat) (mo : Bool) (G : Nat × Nat) (I : Nat → Nat → Int32) (J : Nat → Nat → Int64) (Q : Option Value → sm_M → Prop) (x1 : Int32) (x2 : Int32) (x3 : Int32) (x4 : Int32) (s0 : Int32) :
    sm_wp X 175 53 [some (.ref 0), some (.int x1), some (.int x2), some (.int x3), some (.int x4)] [.int s0] (sM mo G I J) Q =
    (if (s0 : Int32) < (3 : Int32) then sm_wp X 175 59 [some (.ref 0), some (.int x1), some (.int x2), some (.int x3), some (.int x4)] [] (sM mo G I J) Q else (sm_zb 0 ∧ Q (some (.int 0)) (sM mo G I J))) :=
  (sm_blk X 175 53 (tt_lin 175 (by decide)) rfl rfl _ _ _ _).trans rfl
set_option maxRecDepth 100000 in
theorem bk_175_57 (X : (Nat → Int32) × Nat) (mo : Bool) (G : Nat × Nat) (I : Nat → Nat → Int32) (J : Nat → Nat → Int64) (Q : Option Value → sm_M → Prop) (x1 : Int32) (x2 : Int32) (x3 : Int32) (x4 : Int32) :
    sm_wp X 175 57 [some (.ref 0), some (.int x1), some (.int x2), some (.int x3), some (.int x4)] [] (sM mo G I J) Q =
    (sm_zb 0 ∧ Q (some (.int 0)) (sM mo G I J)) :=
  (sm_blk X 175 57 (tt_lin 175 (by decide)) rfl rfl _ _ _ _).trans rfl
set_option maxRecDepth 100000 in
theorem bk_175_59 (X : (Nat → Int32) × Nat) (mo : Bool) (G : Nat × Nat) (I : Nat → Nat → Int32) (J : Nat → Nat → Int64) (Q : Option Value → sm_M → Prop) (x1 : Int32) (x2 : Int32) (x3 : Int32) (x4 : Int32) :
    sm_wp X 175 59 [some (.ref 0), some (.int x1), some (.int x2), some (.int x3), some (.int x4)] [] (sM mo G I J) Q =
    (sm_wp X 99 0 [some (.ref 1), some (.int x1), some (.int (x4 ^^^ (1 <<< (x2 &&& 31))))] [] (sM mo G I J) (fun v M => sm_wp X 175 73 [some (.ref 0), some (.int x1), some (.int x2), some (.int x3), some (.int x4)] (v.toList ++ []) M Q)) :=
  (sm_blk X 175 59 (tt_lin 175 (by decide)) rfl rfl _ _ _ _).trans rfl
set_option maxRecDepth 100000 in
theorem bk_175_73 (X : (Nat → Int32) × Nat) (mo : Bool) (G : Nat × Nat) (I : Nat → Nat → Int32) (J : Nat → Nat → Int64) (Q : Option Value → sm_M → Prop) (x1 : Int32) (x2 : Int32) (x3 : Int32) (x4 : Int32) :
    sm_wp X 175 73 [some (.ref 0), some (.int x1), some (.int x2), some (.int x3), some (.int x4)] [] (sM mo G I J) Q =
    (sm_zb 1 ∧ Q (some (.int 1)) (sM mo G I J)) :=
  (sm_blk X 175 73 (tt_lin 175 (by decide)) rfl rfl _ _ _ _).trans rfl
set_option maxRecDepth 100000 in
theorem bk_176_0 (X : (Nat → Int32) × Nat) (mo : Bool) (G : Nat × Nat) (I : Nat → Nat → Int32) (J : Nat → Nat → Int64) (Q : Option Value → sm_M → Prop) (x1 : Int32) (x2 : Int32) (x3 : Int32) :
    sm_wp X 176 0 [some (.ref 0), some (.int x1), some (.int x2), some (.int x3)] [] (sM mo G I J) Q =
    (sm_wp X 88 0 [some (.ref 1), some (.int x1)] [] (sM mo G I J) (fun v M => sm_wp X 176 8 [some (.ref 0), some (.int x1), some (.int x2), some (.int x3)] (v.toList ++ []) M Q)) :=
  (sm_blk X 176 0 (tt_lin 176 (by decide)) rfl rfl _ _ _ _).trans rfl
set_option maxRecDepth 100000 in
theorem bk_176_8 (X : (Nat → Int32) × Nat) (mo : Bool) (G : Nat × Nat) (I : Nat → Nat → Int32) (J : Nat → Nat → Int64) (Q : Option Value → sm_M → Prop) (x1 : Int32) (x2 : Int32) (x3 : Int32) (s0 : Int32) :
    sm_wp X 176 8 [some (.ref 0), some (.int x1), some (.int x2), some (.int x3)] [.int s0] (sM mo G I J) Q =
    (if (s0 : Int32) = 0 then sm_wp X 176 32 [some (.ref 0), some (.int x1), some (.int x2), some (.int x3)] [] (sM mo G I J) Q else (sm_wp X 90 0 [some (.ref 1), some (.int x2)] [] (sM mo G I J) (fun v M => sm_wp X 176 19 [some (.ref 0), some (.int x1), some (.int x2), some (.int x3)] (v.toList ++ []) M Q))) :=
  (sm_blk X 176 8 (tt_lin 176 (by decide)) rfl rfl _ _ _ _).trans rfl
set_option maxRecDepth 100000 in
theorem bk_176_19 (X : (Nat → Int32) × Nat) (mo : Bool) (G : Nat × Nat) (I : Nat → Nat → Int32) (J : Nat → Nat → Int64) (Q : Option Value → sm_M → Prop) (x1 : Int32) (x2 : Int32) (x3 : Int32) (s0 : Int32) :
    sm_wp X 176 19 [some (.ref 0), some (.int x1), some (.int x2), some (.int x3)] [.int s0] (sM mo G I J) Q =
    (if (s0 : Int32) = 0 then sm_wp X 176 32 [some (.ref 0), some (.int x1), some (.int x2), some (.int x3)] [] (sM mo G I J) Q else (if (x3 : Int32) < 0 then sm_wp X 176 32 [some (.ref 0), some (.int x1), some (.int x2), some (.int x3)] [] (sM mo G I J) Q else (if (x3 : Int32) ≤ (99 : Int32) then sm_wp X 176 34 [some (.ref 0), some (.int x1), some (.int x2), some (.int x3)] [] (sM mo G I J) Q else (sm_zb 0 ∧ Q (some (.int 0)) (sM mo G I J))))) :=
  (sm_blk X 176 19 (tt_lin 176 (by decide)) rfl rfl _ _ _ _).trans rfl
set_option maxRecDepth 100000 in
theorem bk_176_32 (X : (Nat → Int32) × Nat) (mo : Bool) (G : Nat × Nat) (I : Nat → Nat → Int32) (J : Nat → Nat → Int64) (Q : Option Value → sm_M → Prop) (x1 : Int32) (x2 : Int32) (x3 : Int32) :
    sm_wp X 176 32 [some (.ref 0), some (.int x1), some (.int x2), some (.int x3)] [] (sM mo G I J) Q =
    (sm_zb 0 ∧ Q (some (.int 0)) (sM mo G I J)) :=
  (sm_blk X 176 32 (tt_lin 176 (by decide)) rfl rfl _ _ _ _).trans rfl
set_option maxRecDepth 100000 in
theorem bk_176_34 (X : (Nat → Int32) × Nat) (mo : Bool) (G : Nat × Nat) (I : Nat → Nat → Int32) (J : Nat → Nat → Int64) (Q : Option Value → sm_M → Prop) (x1 : Int32) (x2 : Int32) (x3 : Int32) :
    sm_wp X 176 34 [some (.ref 0), some (.int x1), some (.int x2), some (.int x3)] [] (sM mo G I J) Q =
    (sm_wp X 100 0 [some (.ref 1), some (.int x1), some (.int x2), some (.int x3)] [] (sM mo G I J) (fun v M => sm_wp X 176 44 [some (.ref 0), some (.int x1), some (.int x2), some (.int x3)] (v.toList ++ []) M Q)) :=
  (sm_blk X 176 34 (tt_lin 176 (by decide)) rfl rfl _ _ _ _).trans rfl
set_option maxRecDepth 100000 in
theorem bk_176_44 (X : (Nat → Int32) × Nat) (mo : Bool) (G : Nat × Nat) (I : Nat → Nat → Int32) (J : Nat → Nat → Int64) (Q : Option Value → sm_M → Prop) (x1 : Int32) (x2 : Int32) (x3 : Int32) :
    sm_wp X 176 44 [some (.ref 0), some (.int x1), some (.int x2), some (.int x3)] [] (sM mo G I J) Q =
    (sm_zb 1 ∧ Q (some (.int 1)) (sM mo G I J)) :=
  (sm_blk X 176 44 (tt_lin 176 (by decide)) rfl rfl _ _ _ _).trans rfl
set_option maxRecDepth 100000 in
theorem bk_177_0 (X : (Nat → Int32) × Nat) (mo : Bool) (G : Nat × Nat) (I : Nat → Nat → Int32) (J : Nat → Nat → Int64) (Q : Option Value → sm_M → Prop) (x1 : Int32) (x2 : Int32) :
    sm_wp X 177 0 [some (.ref 0), some (.int x1), some (.int x2)] [] (sM mo G I J) Q =
    (sm_wp X 88 0 [some (.ref 1), some (.int x1)] [] (sM mo G I J) (fun v M => sm_wp X 177 8 [some (.ref 0), some (.int x1), some (.int x2)] (v.toList ++ []) M Q)) :=
  (sm_blk X 177 0 (tt_lin 177 (by decide)) rfl rfl _ _ _ _).trans rfl
set_option maxRecDepth 100000 in
theorem bk_177_8 (X : (Nat → Int32) × Nat) (mo : Bool) (G : Nat × Nat) (I : Nat → Nat → Int32) (J : Nat → Nat → Int64) (Q : Option Value → sm_M → Prop) (x1 : Int32) (x2 : Int32) (s0 : Int32) :
    sm_wp X 177 8 [some (.ref 0), some (.int x1), some (.int x2)] [.int s0] (sM mo G I J) Q =
    (if (s0 : Int32) = 0 then sm_wp X 177 22 [some (.ref 0), some (.int x1), some (.int x2)] [] (sM mo G I J) Q else (if (x2 : Int32) < 0 then sm_wp X 177 22 [some (.ref 0), some (.int x1), some (.int x2)] [] (sM mo G I J) Q else (if (x2 : Int32) ≤ (999 : Int32) then sm_wp X 177 24 [some (.ref 0), some (.int x1), some (.int x2)] [] (sM mo G I J) Q else (sm_zb 0 ∧ Q (some (.int 0)) (sM mo G I J))))) :=
  (sm_blk X 177 8 (tt_lin 177 (by decide)) rfl rfl _ _ _ _).trans rfl
set_option maxRecDepth 100000 in
theorem bk_177_22 (X : (Nat → Int32) × Nat) (mo : Bool) (G : Nat × Nat) (I : Nat → Nat → Int32) (J : Nat → Nat → Int64) (Q : Option Value → sm_M → Prop) (x1 : Int32) (x2 : Int32) :
    sm_wp X 177 22 [some (.ref 0), some (.int x1), some (.int x2)] [] (sM mo G I J) Q =
    (sm_zb 0 ∧ Q (some (.int 0)) (sM mo G I J)) :=
  (sm_blk X 177 22 (tt_lin 177 (by decide)) rfl rfl _ _ _ _).trans rfl
set_option maxRecDepth 100000 in
theorem bk_177_24 (X : (Nat → Int32) × Nat) (mo : Bool) (G : Nat × Nat) (I : Nat → Nat → Int32) (J : Nat → Nat → Int64) (Q : Option Value → sm_M → Prop) (x1 : Int32) (x2 : Int32) :
    sm_wp X 177 24 [some (.ref 0), some (.int x1), some (.int x2)] [] (sM mo G I J) Q =
    (sm_wp X 101 0 [some (.ref 1), some (.int x1), some (.int x2)] [] (sM mo G I J) (fun v M => sm_wp X 177 33 [some (.ref 0), some (.int x1), some (.int x2)] (v.toList ++ []) M Q)) :=
  (sm_blk X 177 24 (tt_lin 177 (by decide)) rfl rfl _ _ _ _).trans rfl
set_option maxRecDepth 100000 in
theorem bk_177_33 (X : (Nat → Int32) × Nat) (mo : Bool) (G : Nat × Nat) (I : Nat → Nat → Int32) (J : Nat → Nat → Int64) (Q : Option Value → sm_M → Prop) (x1 : Int32) (x2 : Int32) :
    sm_wp X 177 33 [some (.ref 0), some (.int x1), some (.int x2)] [] (sM mo G I J) Q =
    (sm_zb 1 ∧ Q (some (.int 1)) (sM mo G I J)) :=
  (sm_blk X 177 33 (tt_lin 177 (by decide)) rfl rfl _ _ _ _).trans rfl
set_option maxRecDepth 100000 in
theorem bk_178_0 (X : (Nat → Int32) × Nat) (mo : Bool) (G : Nat × Nat) (I : Nat → Nat → Int32) (J : Nat → Nat → Int64) (Q : Option Value → sm_M → Prop) (x1 : Int32) (x2 : Int32) (x3 : Int32) (x4 : Int32) (x5 : Int32) (x6 : Int32) :
    sm_wp X 178 0 [some (.ref 0), some (.int x1), some (.int x2), some (.int x3), some (.int x4), some (.int x5), some (.int x6), none, none] [] (sM mo G I J) Q =
    (sm_wp X 94 0 [some (.ref 1), some (.int x1)] [] (sM mo G I J) (fun v M => sm_wp X 178 8 [some (.ref 0), some (.int x1), some (.int x2), some (.int x3), some (.int x4), some (.int x5), some (.int x6), none, none] (v.toList ++ []) M Q)) :=
  (sm_blk X 178 0 (tt_lin 178 (by decide)) rfl rfl _ _ _ _).trans rfl
set_option maxRecDepth 100000 in
theorem bk_178_8 (X : (Nat → Int32) × Nat) (mo : Bool) (G : Nat × Nat) (I : Nat → Nat → Int32) (J : Nat → Nat → Int64) (Q : Option Value → sm_M → Prop) (x1 : Int32) (x2 : Int32) (x3 : Int32) (x4 : Int32) (x5 : Int32) (x6 : Int32) (s0 : Int32) :
    sm_wp X 178 8 [some (.ref 0), some (.int x1), some (.int x2), some (.int x3), some (.int x4), some (.int x5), some (.int x6), none, none] [.int s0] (sM mo G I J) Q =
    (if (s0 : Int32) = 0 then sm_wp X 178 27 [some (.ref 0), some (.int x1), some (.int x2), some (.int x3), some (.int x4), some (.int x5), some (.int x6), none, none] [] (sM mo G I J) Q else (sm_wp X 94 0 [some (.ref 1), some (.int x2)] [] (sM mo G I J) (fun v M => sm_wp X 178 19 [some (.ref 0), some (.int x1), some (.int x2), some (.int x3), some (.int x4), some (.int x5), some (.int x6), none, none] (v.toList ++ []) M Q))) :=
  (sm_blk X 178 8 (tt_lin 178 (by decide)) rfl rfl _ _ _ _).trans rfl
set_option maxRecDepth 100000 in
theorem bk_178_19 (X : (Nat → Int32) × Nat) (mo : Bool) (G : Nat × Nat) (I : Nat → Nat → Int32) (J : Nat → Nat → Int64) (Q : Option Value → sm_M → Prop) (x1 : Int32) (x2 : Int32) (x3 : Int32) (x4 : Int32) (x5 : Int32) (x6 : Int32) (s0 : Int32) :
    sm_wp X 178 19 [some (.ref 0), some (.int x1), some (.int x2), some (.int x3), some (.int x4), some (.int x5), some (.int x6), none, none] [.int s0] (sM mo G I J) Q =
    (if (s0 : Int32) = 0 then sm_wp X 178 27 [some (.ref 0), some (.int x1), some (.int x2), some (.int x3), some (.int x4), some (.int x5), some (.int x6), none, none] [] (sM mo G I J) Q else (if ¬ (x1 : Int32) = (x2 : Int32) then sm_wp X 178 29 [some (.ref 0), some (.int x1), some (.int x2), some (.int x3), some (.int x4), some (.int x5), some (.int x6), none, none] [] (sM mo G I J) Q else (True ∧ Q (some (.int (-1))) (sM mo G I J)))) :=
  (sm_blk X 178 19 (tt_lin 178 (by decide)) rfl rfl _ _ _ _).trans rfl
set_option maxRecDepth 100000 in
theorem bk_178_27 (X : (Nat → Int32) × Nat) (mo : Bool) (G : Nat × Nat) (I : Nat → Nat → Int32) (J : Nat → Nat → Int64) (Q : Option Value → sm_M → Prop) (x1 : Int32) (x2 : Int32) (x3 : Int32) (x4 : Int32) (x5 : Int32) (x6 : Int32) :
    sm_wp X 178 27 [some (.ref 0), some (.int x1), some (.int x2), some (.int x3), some (.int x4), some (.int x5), some (.int x6), none, none] [] (sM mo G I J) Q =
    (True ∧ Q (some (.int (-1))) (sM mo G I J)) :=
  (sm_blk X 178 27 (tt_lin 178 (by decide)) rfl rfl _ _ _ _).trans rfl
set_option maxRecDepth 100000 in
theorem bk_178_29 (X : (Nat → Int32) × Nat) (mo : Bool) (G : Nat × Nat) (I : Nat → Nat → Int32) (J : Nat → Nat → Int64) (Q : Option Value → sm_M → Prop) (x1 : Int32) (x2 : Int32) (x3 : Int32) (x4 : Int32) (x5 : Int32) (x6 : Int32) :
    sm_wp X 178 29 [some (.ref 0), some (.int x1), some (.int x2), some (.int x3), some (.int x4), some (.int x5), some (.int x6), none, none] [] (sM mo G I J) Q =
    (if (x3 ||| x4 : Int32) = 0 then sm_wp X 178 62 [some (.ref 0), some (.int x1), some (.int x2), some (.int x3), some (.int x4), some (.int x5), some (.int x6), some (.int (x3 ||| x4)), none] [] (sM mo G I J) Q else (if ¬ (x3 &&& x4 : Int32) = 0 then sm_wp X 178 62 [some (.ref 0), some (.int x1), some (.int x2), some (.int x3), some (.int x4), some (.int x5), some (.int x6), some (.int (x3 ||| x4)), none] [] (sM mo G I J) Q else (sm_wp X 102 0 [some (.ref 1)] [] (sM mo G I J) (fun v M => sm_wp X 178 56 [some (.ref 0), some (.int x1), some (.int x2), some (.int x3), some (.int x4), some (.int x5), some (.int x6), some (.int (x3 ||| x4)), none] (v.toList ++ [.int (x3 ||| x4)]) M Q)))) :=
  (sm_blk X 178 29 (tt_lin 178 (by decide)) rfl rfl _ _ _ _).trans rfl
set_option maxRecDepth 100000 in
theorem bk_178_56 (X : (Nat → Int32) × Nat) (mo : Bool) (G : Nat × Nat) (I : Nat → Nat → Int32) (J : Nat → Nat → Int64) (Q : Option Value → sm_M → Prop) (x1 : Int32) (x2 : Int32) (x3 : Int32) (x4 : Int32) (x5 : Int32) (x6 : Int32) (x7 : Int32) (s0 : Int32) (s1 : Int32) :
    sm_wp X 178 56 [some (.ref 0), some (.int x1), some (.int x2), some (.int x3), some (.int x4), some (.int x5), some (.int x6), some (.int x7), none] [.int s1, .int s0] (sM mo G I J) Q =
    (if (s0 &&& (s1 ^^^ (-1)) : Int32) = 0 then sm_wp X 178 64 [some (.ref 0), some (.int x1), some (.int x2), some (.int x3), some (.int x4), some (.int x5), some (.int x6), some (.int x7), none] [] (sM mo G I J) Q else (True ∧ Q (some (.int (-1))) (sM mo G I J))) :=
  (sm_blk X 178 56 (tt_lin 178 (by decide)) rfl rfl _ _ _ _).trans rfl
set_option maxRecDepth 100000 in
theorem bk_178_62 (X : (Nat → Int32) × Nat) (mo : Bool) (G : Nat × Nat) (I : Nat → Nat → Int32) (J : Nat → Nat → Int64) (Q : Option Value → sm_M → Prop) (x1 : Int32) (x2 : Int32) (x3 : Int32) (x4 : Int32) (x5 : Int32) (x6 : Int32) (x7 : Int32) :
    sm_wp X 178 62 [some (.ref 0), some (.int x1), some (.int x2), some (.int x3), some (.int x4), some (.int x5), some (.int x6), some (.int x7), none] [] (sM mo G I J) Q =
    (True ∧ Q (some (.int (-1))) (sM mo G I J)) :=
  (sm_blk X 178 62 (tt_lin 178 (by decide)) rfl rfl _ _ _ _).trans rfl
set_option maxRecDepth 100000 in
theorem bk_178_64 (X : (Nat → Int32) × Nat) (mo : Bool) (G : Nat × Nat) (I : Nat → Nat → Int32) (J : Nat → Nat → Int64) (Q : Option Value → sm_M → Prop) (x1 : Int32) (x2 : Int32) (x3 : Int32) (x4 : Int32) (x5 : Int32) (x6 : Int32) (x7 : Int32) :
    sm_wp X 178 64 [some (.ref 0), some (.int x1), some (.int x2), some (.int x3), some (.int x4), some (.int x5), some (.int x6), some (.int x7), none] [] (sM mo G I J) Q =
    (if (x5 : Int32) < (I 1 3 : Int32) then sm_wp X 178 94 [some (.ref 0), some (.int x1), some (.int x2), some (.int x3), some (.int x4), some (.int x5), some (.int x6), some (.int x7), none] [] (sM mo G I J) Q else (if (300 : Int32) < (x5 : Int32) then sm_wp X 178 94 [some (.ref 0), some (.int x1), some (.int x2), some (.int x3), some (.int x4), some (.int x5), some (.int x6), some (.int x7), none] [] (sM mo G I J) Q else (sm_wp X 64 0 [some (.ref 31)] [] (sM mo G I J) (fun v M => sm_wp X 178 91 [some (.ref 0), some (.int x1), some (.int x2), some (.int x3), some (.int x4), some (.int x5), some (.int x6), some (.int x7), none] (v.toList ++ []) M Q)))) :=
  (sm_blk X 178 64 (tt_lin 178 (by decide)) rfl rfl _ _ _ _).trans rfl
set_option maxRecDepth 100000 in
theorem bk_178_91 (X : (Nat → Int32) × Nat) (mo : Bool) (G : Nat × Nat) (I : Nat → Nat → Int32) (J : Nat → Nat → Int64) (Q : Option Value → sm_M → Prop) (x1 : Int32) (x2 : Int32) (x3 : Int32) (x4 : Int32) (x5 : Int32) (x6 : Int32) (x7 : Int32) (s0 : Int32) :
    sm_wp X 178 91 [some (.ref 0), some (.int x1), some (.int x2), some (.int x3), some (.int x4), some (.int x5), some (.int x6), some (.int x7), none] [.int s0] (sM mo G I J) Q =
    (if (s0 : Int32) = 0 then sm_wp X 178 96 [some (.ref 0), some (.int x1), some (.int x2), some (.int x3), some (.int x4), some (.int x5), some (.int x6), some (.int x7), none] [] (sM mo G I J) Q else (True ∧ Q (some (.int (-1))) (sM mo G I J))) :=
  (sm_blk X 178 91 (tt_lin 178 (by decide)) rfl rfl _ _ _ _).trans rfl
set_option maxRecDepth 100000 in
theorem bk_178_94 (X : (Nat → Int32) × Nat) (mo : Bool) (G : Nat × Nat) (I : Nat → Nat → Int32) (J : Nat → Nat → Int64) (Q : Option Value → sm_M → Prop) (x1 : Int32) (x2 : Int32) (x3 : Int32) (x4 : Int32) (x5 : Int32) (x6 : Int32) (x7 : Int32) :
    sm_wp X 178 94 [some (.ref 0), some (.int x1), some (.int x2), some (.int x3), some (.int x4), some (.int x5), some (.int x6), some (.int x7), none] [] (sM mo G I J) Q =
    (True ∧ Q (some (.int (-1))) (sM mo G I J)) :=
  (sm_blk X 178 94 (tt_lin 178 (by decide)) rfl rfl _ _ _ _).trans rfl
set_option maxRecDepth 100000 in
theorem bk_178_96 (X : (Nat → Int32) × Nat) (mo : Bool) (G : Nat × Nat) (I : Nat → Nat → Int32) (J : Nat → Nat → Int64) (Q : Option Value → sm_M → Prop) (x1 : Int32) (x2 : Int32) (x3 : Int32) (x4 : Int32) (x5 : Int32) (x6 : Int32) (x7 : Int32) :
    sm_wp X 178 96 [some (.ref 0), some (.int x1), some (.int x2), some (.int x3), some (.int x4), some (.int x5), some (.int x6), some (.int x7), none] [] (sM mo G I J) Q =
    (if (x6 : Int32) = ((-1) : Int32) then sm_wp X 178 116 [some (.ref 0), some (.int x1), some (.int x2), some (.int x3), some (.int x4), some (.int x5), some (.int x6), some (.int x7), none] [] (sM mo G I J) Q else (sm_wp X 65 0 [some (.ref 31), some (.int x6)] [] (sM mo G I J) (fun v M => sm_wp X 178 111 [some (.ref 0), some (.int x1), some (.int x2), some (.int x3), some (.int x4), some (.int x5), some (.int x6), some (.int x7), none] (v.toList ++ []) M Q))) :=
  (sm_blk X 178 96 (tt_lin 178 (by decide)) rfl rfl _ _ _ _).trans rfl
set_option maxRecDepth 100000 in
theorem bk_178_111 (X : (Nat → Int32) × Nat) (mo : Bool) (G : Nat × Nat) (I : Nat → Nat → Int32) (J : Nat → Nat → Int64) (Q : Option Value → sm_M → Prop) (x1 : Int32) (x2 : Int32) (x3 : Int32) (x4 : Int32) (x5 : Int32) (x6 : Int32) (x7 : Int32) (s0 : Int32) :
    sm_wp X 178 111 [some (.ref 0), some (.int x1), some (.int x2), some (.int x3), some (.int x4), some (.int x5), some (.int x6), some (.int x7), none] [.int s0] (sM mo G I J) Q =
    (if ¬ (s0 : Int32) = 0 then sm_wp X 178 116 [some (.ref 0), some (.int x1), some (.int x2), some (.int x3), some (.int x4), some (.int x5), some (.int x6), some (.int x7), none] [] (sM mo G I J) Q else (True ∧ Q (some (.int (-1))) (sM mo G I J))) :=
  (sm_blk X 178 111 (tt_lin 178 (by decide)) rfl rfl _ _ _ _).trans rfl
set_option maxRecDepth 100000 in
theorem bk_178_116 (X : (Nat → Int32) × Nat) (mo : Bool) (G : Nat × Nat) (I : Nat → Nat → Int32) (J : Nat → Nat → Int64) (Q : Option Value → sm_M → Prop) (x1 : Int32) (x2 : Int32) (x3 : Int32) (x4 : Int32) (x5 : Int32) (x6 : Int32) (x7 : Int32) :
    sm_wp X 178 116 [some (.ref 0), some (.int x1), some (.int x2), some (.int x3), some (.int x4), some (.int x5), some (.int x6), some (.int x7), none] [] (sM mo G I J) Q =
    (sm_wp X 67 0 [some (.ref 31), some (.int x1), some (.int x2), some (.int (I 1 3))] [] (sM mo G I J) (fun v M => sm_wp X 178 132 [some (.ref 0), some (.int x1), some (.int x2), some (.int x3), some (.int x4), some (.int x5), some (.int x6), some (.int x7), none] (v.toList ++ []) M Q)) :=
  (sm_blk X 178 116 (tt_lin 178 (by decide)) rfl rfl _ _ _ _).trans rfl
set_option maxRecDepth 100000 in
theorem bk_178_132 (X : (Nat → Int32) × Nat) (mo : Bool) (G : Nat × Nat) (I : Nat → Nat → Int32) (J : Nat → Nat → Int64) (Q : Option Value → sm_M → Prop) (x1 : Int32) (x2 : Int32) (x3 : Int32) (x4 : Int32) (x5 : Int32) (x6 : Int32) (x7 : Int32) (s0 : Int32) :
    sm_wp X 178 132 [some (.ref 0), some (.int x1), some (.int x2), some (.int x3), some (.int x4), some (.int x5), some (.int x6), some (.int x7), none] [.int s0] (sM mo G I J) Q =
    (sm_wp X 68 0 [some (.ref 31), some (.int s0), some (.int x3), some (.int x4), some (.int x5), some (.int x6)] [] (sM mo G I J) (fun v M => sm_wp X 178 150 [some (.ref 0), some (.int x1), some (.int x2), some (.int x3), some (.int x4), some (.int x5), some (.int x6), some (.int x7), some (.int s0)] (v.toList ++ []) M Q)) :=
  (sm_blk X 178 132 (tt_lin 178 (by decide)) rfl rfl _ _ _ _).trans rfl
set_option maxRecDepth 100000 in
theorem bk_178_150 (X : (Nat → Int32) × Nat) (mo : Bool) (G : Nat × Nat) (I : Nat → Nat → Int32) (J : Nat → Nat → Int64) (Q : Option Value → sm_M → Prop) (x1 : Int32) (x2 : Int32) (x3 : Int32) (x4 : Int32) (x5 : Int32) (x6 : Int32) (x7 : Int32) (x8 : Int32) :
    sm_wp X 178 150 [some (.ref 0), some (.int x1), some (.int x2), some (.int x3), some (.int x4), some (.int x5), some (.int x6), some (.int x7), some (.int x8)] [] (sM mo G I J) Q =
    (True ∧ Q (some (.int x8)) (sM mo G I J)) :=
  (sm_blk X 178 150 (tt_lin 178 (by decide)) rfl rfl _ _ _ _).trans rfl
set_option maxRecDepth 100000 in
theorem bk_179_0 (X : (Nat → Int32) × Nat) (mo : Bool) (G : Nat × Nat) (I : Nat → Nat → Int32) (J : Nat → Nat → Int64) (Q : Option Value → sm_M → Prop) (x1 : Int32) (x2 : Int32) (x3 : Int32) :
    sm_wp X 179 0 [some (.ref 0), some (.int x1), some (.int x2), some (.int x3), none] [] (sM mo G I J) Q =
    (sm_wp X 94 0 [some (.ref 1), some (.int x1)] [] (sM mo G I J) (fun v M => sm_wp X 179 8 [some (.ref 0), some (.int x1), some (.int x2), some (.int x3), none] (v.toList ++ []) M Q)) :=
  (sm_blk X 179 0 (tt_lin 179 (by decide)) rfl rfl _ _ _ _).trans rfl
set_option maxRecDepth 100000 in
theorem bk_179_8 (X : (Nat → Int32) × Nat) (mo : Bool) (G : Nat × Nat) (I : Nat → Nat → Int32) (J : Nat → Nat → Int64) (Q : Option Value → sm_M → Prop) (x1 : Int32) (x2 : Int32) (x3 : Int32) (s0 : Int32) :
    sm_wp X 179 8 [some (.ref 0), some (.int x1), some (.int x2), some (.int x3), none] [.int s0] (sM mo G I J) Q =
    (if (s0 : Int32) = 0 then sm_wp X 179 39 [some (.ref 0), some (.int x1), some (.int x2), some (.int x3), none] [] (sM mo G I J) Q else (sm_wp X 94 0 [some (.ref 1), some (.int x2)] [] (sM mo G I J) (fun v M => sm_wp X 179 19 [some (.ref 0), some (.int x1), some (.int x2), some (.int x3), none] (v.toList ++ []) M Q))) :=
  (sm_blk X 179 8 (tt_lin 179 (by decide)) rfl rfl _ _ _ _).trans rfl
set_option maxRecDepth 100000 in
theorem bk_179_19 (X : (Nat → Int32) × Nat) (mo : Bool) (G : Nat × Nat) (I : Nat → Nat → Int32) (J : Nat → Nat → Int64) (Q : Option Value → sm_M → Prop) (x1 : Int32) (x2 : Int32) (x3 : Int32) (s0 : Int32) :
    sm_wp X 179 19 [some (.ref 0), some (.int x1), some (.int x2), some (.int x3), none] [.int s0] (sM mo G I J) Q =
    (if (s0 : Int32) = 0 then sm_wp X 179 39 [some (.ref 0), some (.int x1), some (.int x2), some (.int x3), none] [] (sM mo G I J) Q else (sm_wp X 180 0 [some (.int x3)] [] (sM mo G I J) (fun v M => sm_wp X 179 26 [some (.ref 0), some (.int x1), some (.int x2), some (.int x3), none] (v.toList ++ []) M Q))) :=
  (sm_blk X 179 19 (tt_lin 179 (by decide)) rfl rfl _ _ _ _).trans rfl
set_option maxRecDepth 100000 in
theorem bk_179_26 (X : (Nat → Int32) × Nat) (mo : Bool) (G : Nat × Nat) (I : Nat → Nat → Int32) (J : Nat → Nat → Int64) (Q : Option Value → sm_M → Prop) (x1 : Int32) (x2 : Int32) (x3 : Int32) (s0 : Int32) :
    sm_wp X 179 26 [some (.ref 0), some (.int x1), some (.int x2), some (.int x3), none] [.int s0] (sM mo G I J) Q =
    (if (s0 : Int32) = 0 then sm_wp X 179 39 [some (.ref 0), some (.int x1), some (.int x2), some (.int x3), none] [] (sM mo G I J) Q else (sm_wp X 64 0 [some (.ref 31)] [] (sM mo G I J) (fun v M => sm_wp X 179 36 [some (.ref 0), some (.int x1), some (.int x2), some (.int x3), none] (v.toList ++ []) M Q))) :=
  (sm_blk X 179 26 (tt_lin 179 (by decide)) rfl rfl _ _ _ _).trans rfl
set_option maxRecDepth 100000 in
theorem bk_179_36 (X : (Nat → Int32) × Nat) (mo : Bool) (G : Nat × Nat) (I : Nat → Nat → Int32) (J : Nat → Nat → Int64) (Q : Option Value → sm_M → Prop) (x1 : Int32) (x2 : Int32) (x3 : Int32) (s0 : Int32) :
    sm_wp X 179 36 [some (.ref 0), some (.int x1), some (.int x2), some (.int x3), none] [.int s0] (sM mo G I J) Q =
    (if (s0 : Int32) = 0 then sm_wp X 179 41 [some (.ref 0), some (.int x1), some (.int x2), some (.int x3), none] [] (sM mo G I J) Q else (True ∧ Q (some (.int (-1))) (sM mo G I J))) :=
  (sm_blk X 179 36 (tt_lin 179 (by decide)) rfl rfl _ _ _ _).trans rfl
set_option maxRecDepth 100000 in
theorem bk_179_39 (X : (Nat → Int32) × Nat) (mo : Bool) (G : Nat × Nat) (I : Nat → Nat → Int32) (J : Nat → Nat → Int64) (Q : Option Value → sm_M → Prop) (x1 : Int32) (x2 : Int32) (x3 : Int32) :
    sm_wp X 179 39 [some (.ref 0), some (.int x1), some (.int x2), some (.int x3), none] [] (sM mo G I J) Q =
    (True ∧ Q (some (.int (-1))) (sM mo G I J)) :=
  (sm_blk X 179 39 (tt_lin 179 (by decide)) rfl rfl _ _ _ _).trans rfl
set_option maxRecDepth 100000 in
theorem bk_179_41 (X : (Nat → Int32) × Nat) (mo : Bool) (G : Nat × Nat) (I : Nat → Nat → Int32) (J : Nat → Nat → Int64) (Q : Option Value → sm_M → Prop) (x1 : Int32) (x2 : Int32) (x3 : Int32) :
    sm_wp X 179 41 [some (.ref 0), some (.int x1), some (.int x2), some (.int x3), none] [] (sM mo G I J) Q =
    (sm_wp X 67 0 [some (.ref 31), some (.int x1), some (.int x2), some (.int (I 1 3))] [] (sM mo G I J) (fun v M => sm_wp X 179 57 [some (.ref 0), some (.int x1), some (.int x2), some (.int x3), none] (v.toList ++ []) M Q)) :=
  (sm_blk X 179 41 (tt_lin 179 (by decide)) rfl rfl _ _ _ _).trans rfl
set_option maxRecDepth 100000 in
theorem bk_179_57 (X : (Nat → Int32) × Nat) (mo : Bool) (G : Nat × Nat) (I : Nat → Nat → Int32) (J : Nat → Nat → Int64) (Q : Option Value → sm_M → Prop) (x1 : Int32) (x2 : Int32) (x3 : Int32) (s0 : Int32) :
    sm_wp X 179 57 [some (.ref 0), some (.int x1), some (.int x2), some (.int x3), none] [.int s0] (sM mo G I J) Q =
    (if ¬ (x1 : Int32) = (x2 : Int32) then sm_wp X 179 89 [some (.ref 0), some (.int x1), some (.int x2), some (.int x3), some (.int s0)] [.int x3, .int s0, .ref 31] (sM mo G I J) Q else (sm_wp X 151 0 [some (.ref 26), some (.int x1), some (.int (I 1 3)), none, none] [] (sM mo G I J) (fun v M => sm_wp X 179 86 [some (.ref 0), some (.int x1), some (.int x2), some (.int x3), some (.int s0)] (v.toList ++ [.int x3, .int s0, .ref 31]) M Q))) :=
  (sm_blk X 179 57 (tt_lin 179 (by decide)) rfl rfl _ _ _ _).trans rfl
set_option maxRecDepth 100000 in
theorem bk_179_86 (X : (Nat → Int32) × Nat) (mo : Bool) (G : Nat × Nat) (I : Nat → Nat → Int32) (J : Nat → Nat → Int64) (Q : Option Value → sm_M → Prop) (x1 : Int32) (x2 : Int32) (x3 : Int32) (x4 : Int32) (s1 : Int32) (s2 : Int32) (s3 : Int32) :
    sm_wp X 179 86 [some (.ref 0), some (.int x1), some (.int x2), some (.int x3), some (.int x4)] [.int s3, .int s2, .int s1, .ref 31] (sM mo G I J) Q =
    (sm_wp X 179 90 [some (.ref 0), some (.int x1), some (.int x2), some (.int x3), some (.int x4)] [.int s3, .int s2, .int s1, .ref 31] (sM mo G I J) Q) :=
  (sm_blk X 179 86 (tt_lin 179 (by decide)) rfl rfl _ _ _ _).trans rfl
set_option maxRecDepth 100000 in
theorem bk_179_89 (X : (Nat → Int32) × Nat) (mo : Bool) (G : Nat × Nat) (I : Nat → Nat → Int32) (J : Nat → Nat → Int64) (Q : Option Value → sm_M → Prop) (x1 : Int32) (x2 : Int32) (x3 : Int32) (x4 : Int32) (s1 : Int32) (s2 : Int32) :
    sm_wp X 179 89 [some (.ref 0), some (.int x1), some (.int x2), some (.int x3), some (.int x4)] [.int s2, .int s1, .ref 31] (sM mo G I J) Q =
    (sm_wp X 69 0 [some (.ref 31), some (.int s1), some (.int s2), some (.int 0)] [] (sM mo G I J) (fun v M => sm_wp X 179 93 [some (.ref 0), some (.int x1), some (.int x2), some (.int x3), some (.int x4)] (v.toList ++ []) M Q)) :=
  (sm_blk X 179 89 (tt_lin 179 (by decide)) rfl rfl _ _ _ _).trans rfl
set_option maxRecDepth 100000 in
theorem bk_179_90 (X : (Nat → Int32) × Nat) (mo : Bool) (G : Nat × Nat) (I : Nat → Nat → Int32) (J : Nat → Nat → Int64) (Q : Option Value → sm_M → Prop) (x1 : Int32) (x2 : Int32) (x3 : Int32) (x4 : Int32) (s1 : Int32) (s2 : Int32) (s3 : Int32) :
    sm_wp X 179 90 [some (.ref 0), some (.int x1), some (.int x2), some (.int x3), some (.int x4)] [.int s3, .int s2, .int s1, .ref 31] (sM mo G I J) Q =
    (sm_wp X 69 0 [some (.ref 31), some (.int s1), some (.int s2), some (.int s3)] [] (sM mo G I J) (fun v M => sm_wp X 179 93 [some (.ref 0), some (.int x1), some (.int x2), some (.int x3), some (.int x4)] (v.toList ++ []) M Q)) :=
  (sm_blk X 179 90 (tt_lin 179 (by decide)) rfl rfl _ _ _ _).trans rfl
set_option maxRecDepth 100000 in
theorem bk_179_93 (X : (Nat → Int32) × Nat) (mo : Bool) (G : Nat × Nat) (I : Nat → Nat → Int32) (J : Nat → Nat → Int64) (Q : Option Value → sm_M → Prop) (x1 : Int32) (x2 : Int32) (x3 : Int32) (x4 : Int32) :
    sm_wp X 179 93 [some (.ref 0), some (.int x1), some (.int x2), some (.int x3), some (.int x4)] [] (sM mo G I J) Q =
    (True ∧ Q (some (.int x4)) (sM mo G I J)) :=
  (sm_blk X 179 93 (tt_lin 179 (by decide)) rfl rfl _ _ _ _).trans rfl
set_option maxRecDepth 100000 in
theorem bk_180_0 (X : (Nat → Int32) × Nat) (mo : Bool) (G : Nat × Nat) (I : Nat → Nat → Int32) (J : Nat → Nat → Int64) (Q : Option Value → sm_M → Prop) (x0 : Int32) :
    sm_wp X 180 0 [some (.int x0)] [] (sM mo G I J) Q =
    (if (x0 : Int32) < (1 : Int32) then sm_wp X 180 15 [some (.int x0)] [] (sM mo G I J) Q else (if (99 : Int32) < (x0 : Int32) then sm_wp X 180 15 [some (.int x0)] [] (sM mo G I J) Q else (sm_wp X 180 16 [some (.int x0)] [.int 1] (sM mo G I J) Q))) :=
  (sm_blk X 180 0 (tt_lin 180 (by decide)) rfl rfl _ _ _ _).trans rfl
set_option maxRecDepth 100000 in
theorem bk_180_15 (X : (Nat → Int32) × Nat) (mo : Bool) (G : Nat × Nat) (I : Nat → Nat → Int32) (J : Nat → Nat → Int64) (Q : Option Value → sm_M → Prop) (x0 : Int32) :
    sm_wp X 180 15 [some (.int x0)] [] (sM mo G I J) Q =
    (sm_zb 0 ∧ Q (some (.int 0)) (sM mo G I J)) :=
  (sm_blk X 180 15 (tt_lin 180 (by decide)) rfl rfl _ _ _ _).trans rfl
set_option maxRecDepth 100000 in
theorem bk_180_16 (X : (Nat → Int32) × Nat) (mo : Bool) (G : Nat × Nat) (I : Nat → Nat → Int32) (J : Nat → Nat → Int64) (Q : Option Value → sm_M → Prop) (x0 : Int32) (s0 : Int32) :
    sm_wp X 180 16 [some (.int x0)] [.int s0] (sM mo G I J) Q =
    (sm_zb s0 ∧ Q (some (.int s0)) (sM mo G I J)) :=
  (sm_blk X 180 16 (tt_lin 180 (by decide)) rfl rfl _ _ _ _).trans rfl
set_option maxRecDepth 100000 in
theorem bk_181_0 (X : (Nat → Int32) × Nat) (mo : Bool) (G : Nat × Nat) (I : Nat → Nat → Int32) (J : Nat → Nat → Int64) (Q : Option Value → sm_M → Prop) (x1 : Int32) (x2 : Int32) (x3 : Int32) (x4 : Int32) :
    sm_wp X 181 0 [some (.ref 0), some (.int x1), some (.int x2), some (.int x3), some (.int x4)] [] (sM mo G I J) Q =
    (sm_wp X 88 0 [some (.ref 1), some (.int x1)] [] (sM mo G I J) (fun v M => sm_wp X 181 8 [some (.ref 0), some (.int x1), some (.int x2), some (.int x3), some (.int x4)] (v.toList ++ []) M Q)) :=
  (sm_blk X 181 0 (tt_lin 181 (by decide)) rfl rfl _ _ _ _).trans rfl
set_option maxRecDepth 100000 in
theorem bk_181_8 (X : (Nat → Int32) × Nat) (mo : Bool) (G : Nat × Nat) (I : Nat → Nat → Int32) (J : Nat → Nat → Int64) (Q : Option Value → sm_M → Prop) (x1 : Int32) (x2 : Int32) (x3 : Int32) (x4 : Int32) (s0 : Int32) :
    sm_wp X 181 8 [some (.ref 0), some (.int x1), some (.int x2), some (.int x3), some (.int x4)] [.int s0] (sM mo G I J) Q =
    (if (s0 : Int32) = 0 then sm_wp X 181 27 [some (.ref 0), some (.int x1), some (.int x2), some (.int x3), some (.int x4)] [] (sM mo G I J) Q else (sm_wp X 88 0 [some (.ref 1), some (.int x2)] [] (sM mo G I J) (fun v M => sm_wp X 181 19 [some (.ref 0), some (.int x1), some (.int x2), some (.int x3), some (.int x4)] (v.toList ++ []) M Q))) :=
  (sm_blk X 181 8 (tt_lin 181 (by decide)) rfl rfl _ _ _ _).trans rfl
set_option maxRecDepth 100000 in
theorem bk_181_19 (X : (Nat → Int32) × Nat) (mo : Bool) (G : Nat × Nat) (I : Nat → Nat → Int32) (J : Nat → Nat → Int64) (Q : Option Value → sm_M → Prop) (x1 : Int32) (x2 : Int32) (x3 : Int32) (x4 : Int32) (s0 : Int32) :
    sm_wp X 181 19 [some (.ref 0), some (.int x1), some (.int x2), some (.int x3), some (.int x4)] [.int s0] (sM mo G I J) Q =
    (if (s0 : Int32) = 0 then sm_wp X 181 27 [some (.ref 0), some (.int x1), some (.int x2), some (.int x3), some (.int x4)] [] (sM mo G I J) Q else (if ¬ (x1 : Int32) = (x2 : Int32) then sm_wp X 181 29 [some (.ref 0), some (.int x1), some (.int x2), some (.int x3), some (.int x4)] [] (sM mo G I J) Q else (sm_zb 0 ∧ Q (some (.int 0)) (sM mo G I J)))) :=
  (sm_blk X 181 19 (tt_lin 181 (by decide)) rfl rfl _ _ _ _).trans rfl
set_option maxRecDepth 100000 in
theorem bk_181_27 (X : (Nat → Int32) × Nat) (mo : Bool) (G : Nat × Nat) (I : Nat → Nat → Int32) (J : Nat → Nat → Int64) (Q : Option Value → sm_M → Prop) (x1 : Int32) (x2 : Int32) (x3 : Int32) (x4 : Int32) :
    sm_wp X 181 27 [some (.ref 0), some (.int x1), some (.int x2), some (.int x3), some (.int x4)] [] (sM mo G I J) Q =
    (sm_zb 0 ∧ Q (some (.int 0)) (sM mo G I J)) :=
  (sm_blk X 181 27 (tt_lin 181 (by decide)) rfl rfl _ _ _ _).trans rfl
set_option maxRecDepth 100000 in
theorem bk_181_29 (X : (Nat → Int32) × Nat) (mo : Bool) (G : Nat × Nat) (I : Nat → Nat → Int32) (J : Nat → Nat → Int64) (Q : Option Value → sm_M → Prop) (x1 : Int32) (x2 : Int32) (x3 : Int32) (x4 : Int32) :
    sm_wp X 181 29 [some (.ref 0), some (.int x1), some (.int x2), some (.int x3), some (.int x4)] [] (sM mo G I J) Q =
    (if (x3 : Int32) < (I 1 3 : Int32) then sm_wp X 181 54 [some (.ref 0), some (.int x1), some (.int x2), some (.int x3), some (.int x4)] [] (sM mo G I J) Q else (if (x4 : Int32) < (x3 : Int32) then sm_wp X 181 54 [some (.ref 0), some (.int x1), some (.int x2), some (.int x3), some (.int x4)] [] (sM mo G I J) Q else (if (x4 : Int32) ≤ (300 : Int32) then sm_wp X 181 56 [some (.ref 0), some (.int x1), some (.int x2), some (.int x3), some (.int x4)] [] (sM mo G I J) Q else (sm_zb 0 ∧ Q (some (.int 0)) (sM mo G I J))))) :=
  (sm_blk X 181 29 (tt_lin 181 (by decide)) rfl rfl _ _ _ _).trans rfl
set_option maxRecDepth 100000 in
theorem bk_181_54 (X : (Nat → Int32) × Nat) (mo : Bool) (G : Nat × Nat) (I : Nat → Nat → Int32) (J : Nat → Nat → Int64) (Q : Option Value → sm_M → Prop) (x1 : Int32) (x2 : Int32) (x3 : Int32) (x4 : Int32) :
    sm_wp X 181 54 [some (.ref 0), some (.int x1), some (.int x2), some (.int x3), some (.int x4)] [] (sM mo G I J) Q =
    (sm_zb 0 ∧ Q (some (.int 0)) (sM mo G I J)) :=
  (sm_blk X 181 54 (tt_lin 181 (by decide)) rfl rfl _ _ _ _).trans rfl
set_option maxRecDepth 100000 in
theorem bk_181_56 (X : (Nat → Int32) × Nat) (mo : Bool) (G : Nat × Nat) (I : Nat → Nat → Int32) (J : Nat → Nat → Int64) (Q : Option Value → sm_M → Prop) (x1 : Int32) (x2 : Int32) (x3 : Int32) (x4 : Int32) :
    sm_wp X 181 56 [some (.ref 0), some (.int x1), some (.int x2), some (.int x3), some (.int x4)] [] (sM mo G I J) Q =
    (sm_wp X 152 0 [some (.ref 26), some (.int x1), some (.int x2), some (.int x3), some (.int x4)] [] (sM mo G I J) (fun v M => sm_wp X 181 68 [some (.ref 0), some (.int x1), some (.int x2), some (.int x3), some (.int x4)] (v.toList ++ []) M Q)) :=
  (sm_blk X 181 56 (tt_lin 181 (by decide)) rfl rfl _ _ _ _).trans rfl
set_option maxRecDepth 100000 in
theorem bk_181_68 (X : (Nat → Int32) × Nat) (mo : Bool) (G : Nat × Nat) (I : Nat → Nat → Int32) (J : Nat → Nat → Int64) (Q : Option Value → sm_M → Prop) (x1 : Int32) (x2 : Int32) (x3 : Int32) (x4 : Int32) (s0 : Int32) :
    sm_wp X 181 68 [some (.ref 0), some (.int x1), some (.int x2), some (.int x3), some (.int x4)] [.int s0] (sM mo G I J) Q =
    (sm_zb s0 ∧ Q (some (.int s0)) (sM mo G I J)) :=
  (sm_blk X 181 68 (tt_lin 181 (by decide)) rfl rfl _ _ _ _).trans rfl
set_option maxRecDepth 100000 in
theorem bk_182_0 (X : (Nat → Int32) × Nat) (mo : Bool) (G : Nat × Nat) (I : Nat → Nat → Int32) (J : Nat → Nat → Int64) (Q : Option Value → sm_M → Prop) (x1 : Int32) :
    sm_wp X 182 0 [some (.ref 0), some (.int x1), none] [] (sM mo G I J) Q =
    (if (x1 : Int32) < (1 : Int32) then sm_wp X 182 26 [some (.ref 0), some (.int x1), none] [] (sM mo G I J) Q else (if (50 : Int32) < (x1 : Int32) then sm_wp X 182 26 [some (.ref 0), some (.int x1), none] [] (sM mo G I J) Q else (if ((I 1 3) + x1 : Int32) ≤ (300 : Int32) then sm_wp X 182 28 [some (.ref 0), some (.int x1), none] [] (sM mo G I J) Q else (True ∧ Q (some (.int (-1))) (sM mo G I J))))) :=
  (sm_blk X 182 0 (tt_lin 182 (by decide)) rfl rfl _ _ _ _).trans rfl
set_option maxRecDepth 100000 in
theorem bk_182_26 (X : (Nat → Int32) × Nat) (mo : Bool) (G : Nat × Nat) (I : Nat → Nat → Int32) (J : Nat → Nat → Int64) (Q : Option Value → sm_M → Prop) (x1 : Int32) :
    sm_wp X 182 26 [some (.ref 0), some (.int x1), none] [] (sM mo G I J) Q =
    (True ∧ Q (some (.int (-1))) (sM mo G I J)) :=
  (sm_blk X 182 26 (tt_lin 182 (by decide)) rfl rfl _ _ _ _).trans rfl
set_option maxRecDepth 100000 in
theorem bk_182_28 (X : (Nat → Int32) × Nat) (mo : Bool) (G : Nat × Nat) (I : Nat → Nat → Int32) (J : Nat → Nat → Int64) (Q : Option Value → sm_M → Prop) (x1 : Int32) :
    sm_wp X 182 28 [some (.ref 0), some (.int x1), none] [] (sM mo G I J) Q =
    (sm_wp X 182 30 [some (.ref 0), some (.int x1), some (.int 0)] [] (sM mo G I J) Q) :=
  (sm_blk X 182 28 (tt_lin 182 (by decide)) rfl rfl _ _ _ _).trans rfl
set_option maxRecDepth 100000 in
theorem bk_182_30 (X : (Nat → Int32) × Nat) (mo : Bool) (G : Nat × Nat) (I : Nat → Nat → Int32) (J : Nat → Nat → Int64) (Q : Option Value → sm_M → Prop) (x1 : Int32) (x2 : Int32) :
    sm_wp X 182 30 [some (.ref 0), some (.int x1), some (.int x2)] [] (sM mo G I J) Q =
    (if (x1 : Int32) ≤ (x2 : Int32) then sm_wp X 182 48 [some (.ref 0), some (.int x1), some (.int x2)] [] (sM mo G I J) Q else (sm_wp X 22 0 [some (.ref 45), none, none] [] (sM mo G I J) (fun v M => sm_wp X 182 42 [some (.ref 0), some (.int x1), some (.int x2)] (v.toList ++ []) M Q))) :=
  (sm_blk X 182 30 (tt_lin 182 (by decide)) rfl rfl _ _ _ _).trans rfl
set_option maxRecDepth 100000 in
theorem bk_182_42 (X : (Nat → Int32) × Nat) (mo : Bool) (G : Nat × Nat) (I : Nat → Nat → Int32) (J : Nat → Nat → Int64) (Q : Option Value → sm_M → Prop) (x1 : Int32) (x2 : Int32) :
    sm_wp X 182 42 [some (.ref 0), some (.int x1), some (.int x2)] [] (sM mo G I J) Q =
    (sm_wp X 182 30 [some (.ref 0), some (.int x1), some (.int (x2 + 1))] [] (sM mo G I J) Q) :=
  (sm_blk X 182 42 (tt_lin 182 (by decide)) rfl rfl _ _ _ _).trans rfl
set_option maxRecDepth 100000 in
theorem bk_182_48 (X : (Nat → Int32) × Nat) (mo : Bool) (G : Nat × Nat) (I : Nat → Nat → Int32) (J : Nat → Nat → Int64) (Q : Option Value → sm_M → Prop) (x1 : Int32) (x2 : Int32) :
    sm_wp X 182 48 [some (.ref 0), some (.int x1), some (.int x2)] [] (sM mo G I J) Q =
    (True ∧ Q (some (.int (I 1 3))) (sM mo G I J)) :=
  (sm_blk X 182 48 (tt_lin 182 (by decide)) rfl rfl _ _ _ _).trans rfl
set_option maxRecDepth 100000 in
theorem bk_183_0 (X : (Nat → Int32) × Nat) (mo : Bool) (G : Nat × Nat) (I : Nat → Nat → Int32) (J : Nat → Nat → Int64) (Q : Option Value → sm_M → Prop) (x1 : Int32) (x2 : Int32) :
    sm_wp X 183 0 [some (.ref 0), some (.int x1), some (.int x2)] [] (sM mo G I J) Q =
    (sm_wp X 83 0 [some (.ref 31), some (.int x1), some (.int x2)] [] (sM mo G I J) (fun v M => sm_wp X 183 9 [some (.ref 0), some (.int x1), some (.int x2)] (v.toList ++ []) M Q)) :=
  (sm_blk X 183 0 (tt_lin 183 (by decide)) rfl rfl _ _ _ _).trans rfl
set_option maxRecDepth 100000 in
theorem bk_183_9 (X : (Nat → Int32) × Nat) (mo : Bool) (G : Nat × Nat) (I : Nat → Nat → Int32) (J : Nat → Nat → Int64) (Q : Option Value → sm_M → Prop) (x1 : Int32) (x2 : Int32) (s0 : Int32) :
    sm_wp X 183 9 [some (.ref 0), some (.int x1), some (.int x2)] [.int s0] (sM mo G I J) Q =
    (True ∧ Q (some (.int s0)) (sM mo G I J)) :=
  (sm_blk X 183 9 (tt_lin 183 (by decide)) rfl rfl _ _ _ _).trans rfl
set_option maxRecDepth 100000 in
theorem bk_184_0 (X : (Nat → Int32) × Nat) (mo : Bool) (G : Nat × Nat) (I : Nat → Nat → Int32) (J : Nat → Nat → Int64) (Q : Option Value → sm_M → Prop) (x1 : Int32) :
    sm_wp X 184 0 [some (.ref 0), some (.int x1)] [] (sM mo G I J) Q =
    (sm_wp X 65 0 [some (.ref 31), some (.int x1)] [] (sM mo G I J) (fun v M => sm_wp X 184 8 [some (.ref 0), some (.int x1)] (v.toList ++ []) M Q)) :=
  (sm_blk X 184 0 (tt_lin 184 (by decide)) rfl rfl _ _ _ _).trans rfl
set_option maxRecDepth 100000 in
theorem bk_184_8 (X : (Nat → Int32) × Nat) (mo : Bool) (G : Nat × Nat) (I : Nat → Nat → Int32) (J : Nat → Nat → Int64) (Q : Option Value → sm_M → Prop) (x1 : Int32) (s0 : Int32) :
    sm_wp X 184 8 [some (.ref 0), some (.int x1)] [.int s0] (sM mo G I J) Q =
    (if (s0 : Int32) = 0 then sm_wp X 184 23 [some (.ref 0), some (.int x1)] [] (sM mo G I J) Q else (sm_wp X 24 0 [some (.ref 45), some (.int x1), some (.int 0), none, none, none, none, none] [] (sM mo G I J) (fun v M => sm_wp X 184 20 [some (.ref 0), some (.int x1)] (v.toList ++ []) M Q))) :=
  (sm_blk X 184 8 (tt_lin 184 (by decide)) rfl rfl _ _ _ _).trans rfl
set_option maxRecDepth 100000 in
theorem bk_184_20 (X : (Nat → Int32) × Nat) (mo : Bool) (G : Nat × Nat) (I : Nat → Nat → Int32) (J : Nat → Nat → Int64) (Q : Option Value → sm_M → Prop) (x1 : Int32) (s0 : Int32) :
    sm_wp X 184 20 [some (.ref 0), some (.int x1)] [.int s0] (sM mo G I J) Q =
    (sm_wp X 184 24 [some (.ref 0), some (.int x1)] [.int s0] (sM mo G I J) Q) :=
  (sm_blk X 184 20 (tt_lin 184 (by decide)) rfl rfl _ _ _ _).trans rfl
set_option maxRecDepth 100000 in
theorem bk_184_23 (X : (Nat → Int32) × Nat) (mo : Bool) (G : Nat × Nat) (I : Nat → Nat → Int32) (J : Nat → Nat → Int64) (Q : Option Value → sm_M → Prop) (x1 : Int32) :
    sm_wp X 184 23 [some (.ref 0), some (.int x1)] [] (sM mo G I J) Q =
    (True ∧ Q (some (.int (-1))) (sM mo G I J)) :=
  (sm_blk X 184 23 (tt_lin 184 (by decide)) rfl rfl _ _ _ _).trans rfl
set_option maxRecDepth 100000 in
theorem bk_184_24 (X : (Nat → Int32) × Nat) (mo : Bool) (G : Nat × Nat) (I : Nat → Nat → Int32) (J : Nat → Nat → Int64) (Q : Option Value → sm_M → Prop) (x1 : Int32) (s0 : Int32) :
    sm_wp X 184 24 [some (.ref 0), some (.int x1)] [.int s0] (sM mo G I J) Q =
    (True ∧ Q (some (.int s0)) (sM mo G I J)) :=
  (sm_blk X 184 24 (tt_lin 184 (by decide)) rfl rfl _ _ _ _).trans rfl
set_option maxRecDepth 100000 in
theorem bk_185_0 (X : (Nat → Int32) × Nat) (mo : Bool) (G : Nat × Nat) (I : Nat → Nat → Int32) (J : Nat → Nat → Int64) (Q : Option Value → sm_M → Prop) (x1 : Int32) (x2 : Int32) :
    sm_wp X 185 0 [some (.ref 0), some (.int x1), some (.int x2)] [] (sM mo G I J) Q =
    (sm_wp X 65 0 [some (.ref 31), some (.int x1)] [] (sM mo G I J) (fun v M => sm_wp X 185 8 [some (.ref 0), some (.int x1), some (.int x2)] (v.toList ++ []) M Q)) :=
  (sm_blk X 185 0 (tt_lin 185 (by decide)) rfl rfl _ _ _ _).trans rfl
set_option maxRecDepth 100000 in
theorem bk_185_8 (X : (Nat → Int32) × Nat) (mo : Bool) (G : Nat × Nat) (I : Nat → Nat → Int32) (J : Nat → Nat → Int64) (Q : Option Value → sm_M → Prop) (x1 : Int32) (x2 : Int32) (s0 : Int32) :
    sm_wp X 185 8 [some (.ref 0), some (.int x1), some (.int x2)] [.int s0] (sM mo G I J) Q =
    (if (s0 : Int32) = 0 then sm_wp X 185 30 [some (.ref 0), some (.int x1), some (.int x2)] [] (sM mo G I J) Q else (sm_wp X 73 0 [some (.ref 31), some (.int x1)] [] (sM mo G I J) (fun v M => sm_wp X 185 23 [some (.ref 0), some (.int x1), some (.int x2)] (v.toList ++ [.ref 21]) M Q))) :=
  (sm_blk X 185 8 (tt_lin 185 (by decide)) rfl rfl _ _ _ _).trans rfl
set_option maxRecDepth 100000 in
theorem bk_185_23 (X : (Nat → Int32) × Nat) (mo : Bool) (G : Nat × Nat) (I : Nat → Nat → Int32) (J : Nat → Nat → Int64) (Q : Option Value → sm_M → Prop) (x1 : Int32) (x2 : Int32) (s1 : Int32) :
    sm_wp X 185 23 [some (.ref 0), some (.int x1), some (.int x2)] [.int s1, .ref 21] (sM mo G I J) Q =
    (sm_wp X 43 0 [some (.ref 21), some (.int s1), some (.int x2)] [] (sM mo G I J) (fun v M => sm_wp X 185 27 [some (.ref 0), some (.int x1), some (.int x2)] (v.toList ++ []) M Q)) :=
  (sm_blk X 185 23 (tt_lin 185 (by decide)) rfl rfl _ _ _ _).trans rfl
set_option maxRecDepth 100000 in
theorem bk_185_27 (X : (Nat → Int32) × Nat) (mo : Bool) (G : Nat × Nat) (I : Nat → Nat → Int32) (J : Nat → Nat → Int64) (Q : Option Value → sm_M → Prop) (x1 : Int32) (x2 : Int32) (s0 : Int32) :
    sm_wp X 185 27 [some (.ref 0), some (.int x1), some (.int x2)] [.int s0] (sM mo G I J) Q =
    (if ¬ (s0 : Int32) = 0 then sm_wp X 185 34 [some (.ref 0), some (.int x1), some (.int x2)] [] (sM mo G I J) Q else (True ∧ Q (some (.long (-9223372036854775808))) (sM mo G I J))) :=
  (sm_blk X 185 27 (tt_lin 185 (by decide)) rfl rfl _ _ _ _).trans rfl
set_option maxRecDepth 100000 in
theorem bk_185_30 (X : (Nat → Int32) × Nat) (mo : Bool) (G : Nat × Nat) (I : Nat → Nat → Int32) (J : Nat → Nat → Int64) (Q : Option Value → sm_M → Prop) (x1 : Int32) (x2 : Int32) :
    sm_wp X 185 30 [some (.ref 0), some (.int x1), some (.int x2)] [] (sM mo G I J) Q =
    (True ∧ Q (some (.long (-9223372036854775808))) (sM mo G I J)) :=
  (sm_blk X 185 30 (tt_lin 185 (by decide)) rfl rfl _ _ _ _).trans rfl
set_option maxRecDepth 100000 in
theorem bk_185_34 (X : (Nat → Int32) × Nat) (mo : Bool) (G : Nat × Nat) (I : Nat → Nat → Int32) (J : Nat → Nat → Int64) (Q : Option Value → sm_M → Prop) (x1 : Int32) (x2 : Int32) :
    sm_wp X 185 34 [some (.ref 0), some (.int x1), some (.int x2)] [] (sM mo G I J) Q =
    (sm_wp X 25 0 [some (.ref 45), some (.int x1), none, none, none, none, none, none] [] (sM mo G I J) (fun v M => sm_wp X 185 42 [some (.ref 0), some (.int x1), some (.int x2)] (v.toList ++ []) M Q)) :=
  (sm_blk X 185 34 (tt_lin 185 (by decide)) rfl rfl _ _ _ _).trans rfl
set_option maxRecDepth 100000 in
theorem bk_185_42 (X : (Nat → Int32) × Nat) (mo : Bool) (G : Nat × Nat) (I : Nat → Nat → Int32) (J : Nat → Nat → Int64) (Q : Option Value → sm_M → Prop) (x1 : Int32) (x2 : Int32) :
    sm_wp X 185 42 [some (.ref 0), some (.int x1), some (.int x2)] [] (sM mo G I J) Q =
    (sm_wp X 73 0 [some (.ref 31), some (.int x1)] [] (sM mo G I J) (fun v M => sm_wp X 185 54 [some (.ref 0), some (.int x1), some (.int x2)] (v.toList ++ [.ref 45]) M Q)) :=
  (sm_blk X 185 42 (tt_lin 185 (by decide)) rfl rfl _ _ _ _).trans rfl
set_option maxRecDepth 100000 in
theorem bk_185_54 (X : (Nat → Int32) × Nat) (mo : Bool) (G : Nat × Nat) (I : Nat → Nat → Int32) (J : Nat → Nat → Int64) (Q : Option Value → sm_M → Prop) (x1 : Int32) (x2 : Int32) (s1 : Int32) :
    sm_wp X 185 54 [some (.ref 0), some (.int x1), some (.int x2)] [.int s1, .ref 45] (sM mo G I J) Q =
    (sm_wp X 26 0 [some (.ref 45), some (.int s1), some (.int x2), none, none, none, none] [] (sM mo G I J) (fun v M => sm_wp X 185 58 [some (.ref 0), some (.int x1), some (.int x2)] (v.toList ++ []) M Q)) :=
  (sm_blk X 185 54 (tt_lin 185 (by decide)) rfl rfl _ _ _ _).trans rfl
set_option maxRecDepth 100000 in
theorem bk_185_58 (X : (Nat → Int32) × Nat) (mo : Bool) (G : Nat × Nat) (I : Nat → Nat → Int32) (J : Nat → Nat → Int64) (Q : Option Value → sm_M → Prop) (x1 : Int32) (x2 : Int32) (s0 : Int64) :
    sm_wp X 185 58 [some (.ref 0), some (.int x1), some (.int x2)] [.long s0] (sM mo G I J) Q =
    (True ∧ Q (some (.long s0)) (sM mo G I J)) :=
  (sm_blk X 185 58 (tt_lin 185 (by decide)) rfl rfl _ _ _ _).trans rfl
set_option maxRecDepth 100000 in
theorem bk_186_0 (X : (Nat → Int32) × Nat) (mo : Bool) (G : Nat × Nat) (I : Nat → Nat → Int32) (J : Nat → Nat → Int64) (Q : Option Value → sm_M → Prop) (x1 : Int32) (x2 : Int32) :
    sm_wp X 186 0 [some (.ref 0), some (.int x1), some (.int x2), none] [] (sM mo G I J) Q =
    (sm_wp X 66 0 [some (.ref 31), some (.int x1)] [] (sM mo G I J) (fun v M => sm_wp X 186 8 [some (.ref 0), some (.int x1), some (.int x2), none] (v.toList ++ []) M Q)) :=
  (sm_blk X 186 0 (tt_lin 186 (by decide)) rfl rfl _ _ _ _).trans rfl
set_option maxRecDepth 100000 in
theorem bk_186_8 (X : (Nat → Int32) × Nat) (mo : Bool) (G : Nat × Nat) (I : Nat → Nat → Int32) (J : Nat → Nat → Int64) (Q : Option Value → sm_M → Prop) (x1 : Int32) (x2 : Int32) (s0 : Int32) :
    sm_wp X 186 8 [some (.ref 0), some (.int x1), some (.int x2), none] [.int s0] (sM mo G I J) Q =
    (if (s0 : Int32) = 0 then sm_wp X 186 22 [some (.ref 0), some (.int x1), some (.int x2), none] [] (sM mo G I J) Q else (sm_wp X 88 0 [some (.ref 1), some (.int x2)] [] (sM mo G I J) (fun v M => sm_wp X 186 19 [some (.ref 0), some (.int x1), some (.int x2), none] (v.toList ++ []) M Q))) :=
  (sm_blk X 186 8 (tt_lin 186 (by decide)) rfl rfl _ _ _ _).trans rfl
set_option maxRecDepth 100000 in
theorem bk_186_19 (X : (Nat → Int32) × Nat) (mo : Bool) (G : Nat × Nat) (I : Nat → Nat → Int32) (J : Nat → Nat → Int64) (Q : Option Value → sm_M → Prop) (x1 : Int32) (x2 : Int32) (s0 : Int32) :
    sm_wp X 186 19 [some (.ref 0), some (.int x1), some (.int x2), none] [.int s0] (sM mo G I J) Q =
    (if ¬ (s0 : Int32) = 0 then sm_wp X 186 24 [some (.ref 0), some (.int x1), some (.int x2), none] [] (sM mo G I J) Q else (True ∧ Q (some (.int (-1))) (sM mo G I J))) :=
  (sm_blk X 186 19 (tt_lin 186 (by decide)) rfl rfl _ _ _ _).trans rfl
set_option maxRecDepth 100000 in
theorem bk_186_22 (X : (Nat → Int32) × Nat) (mo : Bool) (G : Nat × Nat) (I : Nat → Nat → Int32) (J : Nat → Nat → Int64) (Q : Option Value → sm_M → Prop) (x1 : Int32) (x2 : Int32) :
    sm_wp X 186 22 [some (.ref 0), some (.int x1), some (.int x2), none] [] (sM mo G I J) Q =
    (True ∧ Q (some (.int (-1))) (sM mo G I J)) :=
  (sm_blk X 186 22 (tt_lin 186 (by decide)) rfl rfl _ _ _ _).trans rfl
set_option maxRecDepth 100000 in
theorem bk_186_24 (X : (Nat → Int32) × Nat) (mo : Bool) (G : Nat × Nat) (I : Nat → Nat → Int32) (J : Nat → Nat → Int64) (Q : Option Value → sm_M → Prop) (x1 : Int32) (x2 : Int32) :
    sm_wp X 186 24 [some (.ref 0), some (.int x1), some (.int x2), none] [] (sM mo G I J) Q =
    (sm_wp X 84 0 [some (.ref 31), some (.int x1), some (.int x2)] [] (sM mo G I J) (fun v M => sm_wp X 186 33 [some (.ref 0), some (.int x1), some (.int x2), none] (v.toList ++ []) M Q)) :=
  (sm_blk X 186 24 (tt_lin 186 (by decide)) rfl rfl _ _ _ _).trans rfl
set_option maxRecDepth 100000 in
theorem bk_186_33 (X : (Nat → Int32) × Nat) (mo : Bool) (G : Nat × Nat) (I : Nat → Nat → Int32) (J : Nat → Nat → Int64) (Q : Option Value → sm_M → Prop) (x1 : Int32) (x2 : Int32) (s0 : Int32) :
    sm_wp X 186 33 [some (.ref 0), some (.int x1), some (.int x2), none] [.int s0] (sM mo G I J) Q =
    (if (I 1 3 : Int32) < (s0 : Int32) then sm_wp X 186 49 [some (.ref 0), some (.int x1), some (.int x2), some (.int s0)] [] (sM mo G I J) Q else (sm_wp X 186 50 [some (.ref 0), some (.int x1), some (.int x2), some (.int s0)] [.int s0] (sM mo G I J) Q)) :=
  (sm_blk X 186 33 (tt_lin 186 (by decide)) rfl rfl _ _ _ _).trans rfl
set_option maxRecDepth 100000 in
theorem bk_186_49 (X : (Nat → Int32) × Nat) (mo : Bool) (G : Nat × Nat) (I : Nat → Nat → Int32) (J : Nat → Nat → Int64) (Q : Option Value → sm_M → Prop) (x1 : Int32) (x2 : Int32) (x3 : Int32) :
    sm_wp X 186 49 [some (.ref 0), some (.int x1), some (.int x2), some (.int x3)] [] (sM mo G I J) Q =
    (True ∧ Q (some (.int (-1))) (sM mo G I J)) :=
  (sm_blk X 186 49 (tt_lin 186 (by decide)) rfl rfl _ _ _ _).trans rfl
set_option maxRecDepth 100000 in
theorem bk_186_50 (X : (Nat → Int32) × Nat) (mo : Bool) (G : Nat × Nat) (I : Nat → Nat → Int32) (J : Nat → Nat → Int64) (Q : Option Value → sm_M → Prop) (x1 : Int32) (x2 : Int32) (x3 : Int32) (s0 : Int32) :
    sm_wp X 186 50 [some (.ref 0), some (.int x1), some (.int x2), some (.int x3)] [.int s0] (sM mo G I J) Q =
    (True ∧ Q (some (.int s0)) (sM mo G I J)) :=
  (sm_blk X 186 50 (tt_lin 186 (by decide)) rfl rfl _ _ _ _).trans rfl
set_option maxRecDepth 100000 in
theorem bk_187_0 (X : (Nat → Int32) × Nat) (mo : Bool) (G : Nat × Nat) (I : Nat → Nat → Int32) (J : Nat → Nat → Int64) (Q : Option Value → sm_M → Prop) (x1 : Int32) (x2 : Int32) (x3 : Int32) :
    sm_wp X 187 0 [some (.ref 0), some (.int x1), some (.int x2), some (.int x3)] [] (sM mo G I J) Q =
    (sm_wp X 88 0 [some (.ref 1), some (.int x1)] [] (sM mo G I J) (fun v M => sm_wp X 187 8 [some (.ref 0), some (.int x1), some (.int x2), some (.int x3)] (v.toList ++ []) M Q)) :=
  (sm_blk X 187 0 (tt_lin 187 (by decide)) rfl rfl _ _ _ _).trans rfl
set_option maxRecDepth 100000 in
theorem bk_187_8 (X : (Nat → Int32) × Nat) (mo : Bool) (G : Nat × Nat) (I : Nat → Nat → Int32) (J : Nat → Nat → Int64) (Q : Option Value → sm_M → Prop) (x1 : Int32) (x2 : Int32) (x3 : Int32) (s0 : Int32) :
    sm_wp X 187 8 [some (.ref 0), some (.int x1), some (.int x2), some (.int x3)] [.int s0] (sM mo G I J) Q =
    (if (s0 : Int32) = 0 then sm_wp X 187 33 [some (.ref 0), some (.int x1), some (.int x2), some (.int x3)] [] (sM mo G I J) Q else (if (x2 : Int32) < 0 then sm_wp X 187 33 [some (.ref 0), some (.int x1), some (.int x2), some (.int x3)] [] (sM mo G I J) Q else (if (I 1 3 : Int32) < (x2 : Int32) then sm_wp X 187 33 [some (.ref 0), some (.int x1), some (.int x2), some (.int x3)] [] (sM mo G I J) Q else (sm_wp X 180 0 [some (.int x3)] [] (sM mo G I J) (fun v M => sm_wp X 187 30 [some (.ref 0), some (.int x1), some (.int x2), some (.int x3)] (v.toList ++ []) M Q))))) :=
  (sm_blk X 187 8 (tt_lin 187 (by decide)) rfl rfl _ _ _ _).trans rfl
set_option maxRecDepth 100000 in
theorem bk_187_30 (X : (Nat → Int32) × Nat) (mo : Bool) (G : Nat × Nat) (I : Nat → Nat → Int32) (J : Nat → Nat → Int64) (Q : Option Value → sm_M → Prop) (x1 : Int32) (x2 : Int32) (x3 : Int32) (s0 : Int32) :
    sm_wp X 187 30 [some (.ref 0), some (.int x1), some (.int x2), some (.int x3)] [.int s0] (sM mo G I J) Q =
    (if ¬ (s0 : Int32) = 0 then sm_wp X 187 35 [some (.ref 0), some (.int x1), some (.int x2), some (.int x3)] [] (sM mo G I J) Q else (True ∧ Q (some (.int (-1))) (sM mo G I J))) :=
  (sm_blk X 187 30 (tt_lin 187 (by decide)) rfl rfl _ _ _ _).trans rfl
set_option maxRecDepth 100000 in
theorem bk_187_33 (X : (Nat → Int32) × Nat) (mo : Bool) (G : Nat × Nat) (I : Nat → Nat → Int32) (J : Nat → Nat → Int64) (Q : Option Value → sm_M → Prop) (x1 : Int32) (x2 : Int32) (x3 : Int32) :
    sm_wp X 187 33 [some (.ref 0), some (.int x1), some (.int x2), some (.int x3)] [] (sM mo G I J) Q =
    (True ∧ Q (some (.int (-1))) (sM mo G I J)) :=
  (sm_blk X 187 33 (tt_lin 187 (by decide)) rfl rfl _ _ _ _).trans rfl
set_option maxRecDepth 100000 in
theorem bk_187_35 (X : (Nat → Int32) × Nat) (mo : Bool) (G : Nat × Nat) (I : Nat → Nat → Int32) (J : Nat → Nat → Int64) (Q : Option Value → sm_M → Prop) (x1 : Int32) (x2 : Int32) (x3 : Int32) :
    sm_wp X 187 35 [some (.ref 0), some (.int x1), some (.int x2), some (.int x3)] [] (sM mo G I J) Q =
    (sm_wp X 85 0 [some (.ref 31), some (.int x1), some (.int x2), some (.int x3), none, none, none] [] (sM mo G I J) (fun v M => sm_wp X 187 45 [some (.ref 0), some (.int x1), some (.int x2), some (.int x3)] (v.toList ++ []) M Q)) :=
  (sm_blk X 187 35 (tt_lin 187 (by decide)) rfl rfl _ _ _ _).trans rfl
set_option maxRecDepth 100000 in
theorem bk_187_45 (X : (Nat → Int32) × Nat) (mo : Bool) (G : Nat × Nat) (I : Nat → Nat → Int32) (J : Nat → Nat → Int64) (Q : Option Value → sm_M → Prop) (x1 : Int32) (x2 : Int32) (x3 : Int32) (s0 : Int32) :
    sm_wp X 187 45 [some (.ref 0), some (.int x1), some (.int x2), some (.int x3)] [.int s0] (sM mo G I J) Q =
    (True ∧ Q (some (.int s0)) (sM mo G I J)) :=
  (sm_blk X 187 45 (tt_lin 187 (by decide)) rfl rfl _ _ _ _).trans rfl
set_option maxRecDepth 100000 in
theorem bk_188_0 (X : (Nat → Int32) × Nat) (mo : Bool) (G : Nat × Nat) (I : Nat → Nat → Int32) (J : Nat → Nat → Int64) (Q : Option Value → sm_M → Prop) (x1 : Int32) :
    sm_wp X 188 0 [some (.ref 0), some (.int x1)] [] (sM mo G I J) Q =
    (sm_wp X 88 0 [some (.ref 1), some (.int x1)] [] (sM mo G I J) (fun v M => sm_wp X 188 8 [some (.ref 0), some (.int x1)] (v.toList ++ []) M Q)) :=
  (sm_blk X 188 0 (tt_lin 188 (by decide)) rfl rfl _ _ _ _).trans rfl
set_option maxRecDepth 100000 in
theorem bk_188_8 (X : (Nat → Int32) × Nat) (mo : Bool) (G : Nat × Nat) (I : Nat → Nat → Int32) (J : Nat → Nat → Int64) (Q : Option Value → sm_M → Prop) (x1 : Int32) (s0 : Int32) :
    sm_wp X 188 8 [some (.ref 0), some (.int x1)] [.int s0] (sM mo G I J) Q =
    (if (s0 : Int32) = 0 then sm_wp X 188 22 [some (.ref 0), some (.int x1)] [] (sM mo G I J) Q else (sm_wp X 111 0 [some (.ref 1), some (.int x1)] [] (sM mo G I J) (fun v M => sm_wp X 188 19 [some (.ref 0), some (.int x1)] (v.toList ++ []) M Q))) :=
  (sm_blk X 188 8 (tt_lin 188 (by decide)) rfl rfl _ _ _ _).trans rfl
set_option maxRecDepth 100000 in
theorem bk_188_19 (X : (Nat → Int32) × Nat) (mo : Bool) (G : Nat × Nat) (I : Nat → Nat → Int32) (J : Nat → Nat → Int64) (Q : Option Value → sm_M → Prop) (x1 : Int32) (s0 : Int32) :
    sm_wp X 188 19 [some (.ref 0), some (.int x1)] [.int s0] (sM mo G I J) Q =
    (sm_wp X 188 23 [some (.ref 0), some (.int x1)] [.int s0] (sM mo G I J) Q) :=
  (sm_blk X 188 19 (tt_lin 188 (by decide)) rfl rfl _ _ _ _).trans rfl
set_option maxRecDepth 100000 in
theorem bk_188_22 (X : (Nat → Int32) × Nat) (mo : Bool) (G : Nat × Nat) (I : Nat → Nat → Int32) (J : Nat → Nat → Int64) (Q : Option Value → sm_M → Prop) (x1 : Int32) :
    sm_wp X 188 22 [some (.ref 0), some (.int x1)] [] (sM mo G I J) Q =
    (True ∧ Q (some (.int (-1))) (sM mo G I J)) :=
  (sm_blk X 188 22 (tt_lin 188 (by decide)) rfl rfl _ _ _ _).trans rfl
set_option maxRecDepth 100000 in
theorem bk_188_23 (X : (Nat → Int32) × Nat) (mo : Bool) (G : Nat × Nat) (I : Nat → Nat → Int32) (J : Nat → Nat → Int64) (Q : Option Value → sm_M → Prop) (x1 : Int32) (s0 : Int32) :
    sm_wp X 188 23 [some (.ref 0), some (.int x1)] [.int s0] (sM mo G I J) Q =
    (True ∧ Q (some (.int s0)) (sM mo G I J)) :=
  (sm_blk X 188 23 (tt_lin 188 (by decide)) rfl rfl _ _ _ _).trans rfl
set_option maxRecDepth 100000 in
theorem bk_189_0 (X : (Nat → Int32) × Nat) (mo : Bool) (G : Nat × Nat) (I : Nat → Nat → Int32) (J : Nat → Nat → Int64) (Q : Option Value → sm_M → Prop) (x1 : Int32) :
    sm_wp X 189 0 [some (.ref 0), some (.int x1)] [] (sM mo G I J) Q =
    (if (x1 : Int32) < 0 then sm_wp X 189 9 [some (.ref 0), some (.int x1)] [] (sM mo G I J) Q else (if (x1 : Int32) ≤ (3 : Int32) then sm_wp X 189 11 [some (.ref 0), some (.int x1)] [] (sM mo G I J) Q else (True ∧ Q (some (.int (-1))) (sM mo G I J)))) :=
  (sm_blk X 189 0 (tt_lin 189 (by decide)) rfl rfl _ _ _ _).trans rfl
set_option maxRecDepth 100000 in
theorem bk_189_9 (X : (Nat → Int32) × Nat) (mo : Bool) (G : Nat × Nat) (I : Nat → Nat → Int32) (J : Nat → Nat → Int64) (Q : Option Value → sm_M → Prop) (x1 : Int32) :
    sm_wp X 189 9 [some (.ref 0), some (.int x1)] [] (sM mo G I J) Q =
    (True ∧ Q (some (.int (-1))) (sM mo G I J)) :=
  (sm_blk X 189 9 (tt_lin 189 (by decide)) rfl rfl _ _ _ _).trans rfl
set_option maxRecDepth 100000 in
theorem bk_189_11 (X : (Nat → Int32) × Nat) (mo : Bool) (G : Nat × Nat) (I : Nat → Nat → Int32) (J : Nat → Nat → Int64) (Q : Option Value → sm_M → Prop) (x1 : Int32) :
    sm_wp X 189 11 [some (.ref 0), some (.int x1)] [] (sM mo G I J) Q =
    (if ¬ (x1 : Int32) = 0 then sm_wp X 189 30 [some (.ref 0), some (.int x1)] [] (sM mo G I J) Q else (sm_wp X 112 0 [some (.ref 1), some (.int (I 1 2)), none, none] [] (sM mo G I J) (fun v M => sm_wp X 189 29 [some (.ref 0), some (.int x1)] (v.toList ++ []) M Q))) :=
  (sm_blk X 189 11 (tt_lin 189 (by decide)) rfl rfl _ _ _ _).trans rfl
set_option maxRecDepth 100000 in
theorem bk_189_29 (X : (Nat → Int32) × Nat) (mo : Bool) (G : Nat × Nat) (I : Nat → Nat → Int32) (J : Nat → Nat → Int64) (Q : Option Value → sm_M → Prop) (x1 : Int32) (s0 : Int32) :
    sm_wp X 189 29 [some (.ref 0), some (.int x1)] [.int s0] (sM mo G I J) Q =
    (True ∧ Q (some (.int s0)) (sM mo G I J)) :=
  (sm_blk X 189 29 (tt_lin 189 (by decide)) rfl rfl _ _ _ _).trans rfl
set_option maxRecDepth 100000 in
theorem bk_189_30 (X : (Nat → Int32) × Nat) (mo : Bool) (G : Nat × Nat) (I : Nat → Nat → Int32) (J : Nat → Nat → Int64) (Q : Option Value → sm_M → Prop) (x1 : Int32) :
    sm_wp X 189 30 [some (.ref 0), some (.int x1)] [] (sM mo G I J) Q =
    (sm_wp X 128 0 [some (.ref 52), some (.int (I 1 2)), none, none] [] (sM mo G I J) (fun v M => sm_wp X 189 44 [some (.ref 0), some (.int x1)] (v.toList ++ []) M Q)) :=
  (sm_blk X 189 30 (tt_lin 189 (by decide)) rfl rfl _ _ _ _).trans rfl
set_option maxRecDepth 100000 in
theorem bk_189_44 (X : (Nat → Int32) × Nat) (mo : Bool) (G : Nat × Nat) (I : Nat → Nat → Int32) (J : Nat → Nat → Int64) (Q : Option Value → sm_M → Prop) (x1 : Int32) :
    sm_wp X 189 44 [some (.ref 0), some (.int x1)] [] (sM mo G I J) Q =
    (sm_wp X 138 0 [some (.ref 52), some (.int x1)] [] (sM mo G I J) (fun v M => sm_wp X 189 52 [some (.ref 0), some (.int x1)] (v.toList ++ []) M Q)) :=
  (sm_blk X 189 44 (tt_lin 189 (by decide)) rfl rfl _ _ _ _).trans rfl
set_option maxRecDepth 100000 in
theorem bk_189_52 (X : (Nat → Int32) × Nat) (mo : Bool) (G : Nat × Nat) (I : Nat → Nat → Int32) (J : Nat → Nat → Int64) (Q : Option Value → sm_M → Prop) (x1 : Int32) (s0 : Int32) :
    sm_wp X 189 52 [some (.ref 0), some (.int x1)] [.int s0] (sM mo G I J) Q =
    (True ∧ Q (some (.int s0)) (sM mo G I J)) :=
  (sm_blk X 189 52 (tt_lin 189 (by decide)) rfl rfl _ _ _ _).trans rfl
set_option maxRecDepth 100000 in
theorem bk_190_0 (X : (Nat → Int32) × Nat) (mo : Bool) (G : Nat × Nat) (I : Nat → Nat → Int32) (J : Nat → Nat → Int64) (Q : Option Value → sm_M → Prop) (x1 : Int32) :
    sm_wp X 190 0 [some (.ref 0), some (.int x1)] [] (sM mo G I J) Q =
    (sm_wp X 128 0 [some (.ref 52), some (.int (I 1 2)), none, none] [] (sM mo G I J) (fun v M => sm_wp X 190 14 [some (.ref 0), some (.int x1)] (v.toList ++ []) M Q)) :=
  (sm_blk X 190 0 (tt_lin 190 (by decide)) rfl rfl _ _ _ _).trans rfl
set_option maxRecDepth 100000 in
theorem bk_190_14 (X : (Nat → Int32) × Nat) (mo : Bool) (G : Nat × Nat) (I : Nat → Nat → Int32) (J : Nat → Nat → Int64) (Q : Option Value → sm_M → Prop) (x1 : Int32) :
    sm_wp X 190 14 [some (.ref 0), some (.int x1)] [] (sM mo G I J) Q =
    (sm_wp X 139 0 [some (.ref 52), some (.int x1)] [] (sM mo G I J) (fun v M => sm_wp X 190 22 [some (.ref 0), some (.int x1)] (v.toList ++ []) M Q)) :=
  (sm_blk X 190 14 (tt_lin 190 (by decide)) rfl rfl _ _ _ _).trans rfl
set_option maxRecDepth 100000 in
theorem bk_190_22 (X : (Nat → Int32) × Nat) (mo : Bool) (G : Nat × Nat) (I : Nat → Nat → Int32) (J : Nat → Nat → Int64) (Q : Option Value → sm_M → Prop) (x1 : Int32) (s0 : Int32) :
    sm_wp X 190 22 [some (.ref 0), some (.int x1)] [.int s0] (sM mo G I J) Q =
    (True ∧ Q (some (.int s0)) (sM mo G I J)) :=
  (sm_blk X 190 22 (tt_lin 190 (by decide)) rfl rfl _ _ _ _).trans rfl
set_option maxRecDepth 100000 in
theorem bk_191_0 (X : (Nat → Int32) × Nat) (mo : Bool) (G : Nat × Nat) (I : Nat → Nat → Int32) (J : Nat → Nat → Int64) (Q : Option Value → sm_M → Prop) (x1 : Int32) (x2 : Int32) :
    sm_wp X 191 0 [some (.ref 0), some (.int x1), some (.int x2)] [] (sM mo G I J) Q =
    (sm_wp X 94 0 [some (.ref 1), some (.int x1)] [] (sM mo G I J) (fun v M => sm_wp X 191 8 [some (.ref 0), some (.int x1), some (.int x2)] (v.toList ++ []) M Q)) :=
  (sm_blk X 191 0 (tt_lin 191 (by decide)) rfl rfl _ _ _ _).trans rfl
set_option maxRecDepth 100000 in
theorem bk_191_8 (X : (Nat → Int32) × Nat) (mo : Bool) (G : Nat × Nat) (I : Nat → Nat → Int32) (J : Nat → Nat → Int64) (Q : Option Value → sm_M → Prop) (x1 : Int32) (x2 : Int32) (s0 : Int32) :
    sm_wp X 191 8 [some (.ref 0), some (.int x1), some (.int x2)] [.int s0] (sM mo G I J) Q =
    (if ¬ (s0 : Int32) = 0 then sm_wp X 191 13 [some (.ref 0), some (.int x1), some (.int x2)] [] (sM mo G I J) Q else (True ∧ Q (some (.int (-1))) (sM mo G I J))) :=
  (sm_blk X 191 8 (tt_lin 191 (by decide)) rfl rfl _ _ _ _).trans rfl
set_option maxRecDepth 100000 in
theorem bk_191_13 (X : (Nat → Int32) × Nat) (mo : Bool) (G : Nat × Nat) (I : Nat → Nat → Int32) (J : Nat → Nat → Int64) (Q : Option Value → sm_M → Prop) (x1 : Int32) (x2 : Int32) :
    sm_wp X 191 13 [some (.ref 0), some (.int x1), some (.int x2)] [] (sM mo G I J) Q =
    (sm_wp X 128 0 [some (.ref 60), some (.int ((I 1 2) &&& ((1 <<< (x1 &&& 31)) ^^^ (-1)))), none, none] [] (sM mo G I J) (fun v M => sm_wp X 191 33 [some (.ref 0), some (.int x1), some (.int x2)] (v.toList ++ []) M Q)) :=
  (sm_blk X 191 13 (tt_lin 191 (by decide)) rfl rfl _ _ _ _).trans rfl
set_option maxRecDepth 100000 in
theorem bk_191_33 (X : (Nat → Int32) × Nat) (mo : Bool) (G : Nat × Nat) (I : Nat → Nat → Int32) (J : Nat → Nat → Int64) (Q : Option Value → sm_M → Prop) (x1 : Int32) (x2 : Int32) :
    sm_wp X 191 33 [some (.ref 0), some (.int x1), some (.int x2)] [] (sM mo G I J) Q =
    (sm_wp X 139 0 [some (.ref 60), some (.int x2)] [] (sM mo G I J) (fun v M => sm_wp X 191 41 [some (.ref 0), some (.int x1), some (.int x2)] (v.toList ++ []) M Q)) :=
  (sm_blk X 191 33 (tt_lin 191 (by decide)) rfl rfl _ _ _ _).trans rfl
set_option maxRecDepth 100000 in
theorem bk_191_41 (X : (Nat → Int32) × Nat) (mo : Bool) (G : Nat × Nat) (I : Nat → Nat → Int32) (J : Nat → Nat → Int64) (Q : Option Value → sm_M → Prop) (x1 : Int32) (x2 : Int32) (s0 : Int32) :
    sm_wp X 191 41 [some (.ref 0), some (.int x1), some (.int x2)] [.int s0] (sM mo G I J) Q =
    (True ∧ Q (some (.int s0)) (sM mo G I J)) :=
  (sm_blk X 191 41 (tt_lin 191 (by decide)) rfl rfl _ _ _ _).trans rfl
set_option maxRecDepth 100000 in
theorem bk_192_0 (X : (Nat → Int32) × Nat) (mo : Bool) (G : Nat × Nat) (I : Nat → Nat → Int32) (J : Nat → Nat → Int64) (Q : Option Value → sm_M → Prop)  :
    sm_wp X 192 0 [some (.ref 0)] [] (sM mo G I J) Q =
    (sm_wp X 128 0 [some (.ref 52), some (.int (I 1 2)), none, none] [] (sM mo G I J) (fun v M => sm_wp X 192 14 [some (.ref 0)] (v.toList ++ []) M Q)) :=
  (sm_blk X 192 0 (tt_lin 192 (by decide)) rfl rfl _ _ _ _).trans rfl
set_option maxRecDepth 100000 in
theorem bk_192_14 (X : (Nat → Int32) × Nat) (mo : Bool) (G : Nat × Nat) (I : Nat → Nat → Int32) (J : Nat → Nat → Int64) (Q : Option Value → sm_M → Prop)  :
    sm_wp X 192 14 [some (.ref 0)] [] (sM mo G I J) Q =
    (sm_wp X 141 0 [some (.ref 52), none, none] [] (sM mo G I J) (fun v M => sm_wp X 192 21 [some (.ref 0)] (v.toList ++ []) M Q)) :=
  (sm_blk X 192 14 (tt_lin 192 (by decide)) rfl rfl _ _ _ _).trans rfl
set_option maxRecDepth 100000 in
theorem bk_192_21 (X : (Nat → Int32) × Nat) (mo : Bool) (G : Nat × Nat) (I : Nat → Nat → Int32) (J : Nat → Nat → Int64) (Q : Option Value → sm_M → Prop) (s0 : Int32) :
    sm_wp X 192 21 [some (.ref 0)] [.int s0] (sM mo G I J) Q =
    (True ∧ Q (some (.int s0)) (sM mo G I J)) :=
  (sm_blk X 192 21 (tt_lin 192 (by decide)) rfl rfl _ _ _ _).trans rfl
set_option maxRecDepth 100000 in
theorem bk_193_0 (X : (Nat → Int32) × Nat) (mo : Bool) (G : Nat × Nat) (I : Nat → Nat → Int32) (J : Nat → Nat → Int64) (Q : Option Value → sm_M → Prop) (x1 : Int32) :
    sm_wp X 193 0 [some (.ref 0), some (.int x1)] [] (sM mo G I J) Q =
    (sm_wp X 143 0 [some (.ref 52), some (.int (I 1 2)), some (.int x1), none, none] [] (sM mo G I J) (fun v M => sm_wp X 193 15 [some (.ref 0), some (.int x1)] (v.toList ++ []) M Q)) :=
  (sm_blk X 193 0 (tt_lin 193 (by decide)) rfl rfl _ _ _ _).trans rfl
set_option maxRecDepth 100000 in
theorem bk_193_15 (X : (Nat → Int32) × Nat) (mo : Bool) (G : Nat × Nat) (I : Nat → Nat → Int32) (J : Nat → Nat → Int64) (Q : Option Value → sm_M → Prop) (x1 : Int32) (s0 : Int32) :
    sm_wp X 193 15 [some (.ref 0), some (.int x1)] [.int s0] (sM mo G I J) Q =
    (True ∧ Q (some (.int s0)) (sM mo G I J)) :=
  (sm_blk X 193 15 (tt_lin 193 (by decide)) rfl rfl _ _ _ _).trans rfl
set_option maxRecDepth 100000 in
theorem bk_194_0 (X : (Nat → Int32) × Nat) (mo : Bool) (G : Nat × Nat) (I : Nat → Nat → Int32) (J : Nat → Nat → Int64) (Q : Option Value → sm_M → Prop) (x1 : Int32) :
    sm_wp X 194 0 [some (.ref 0), some (.int x1)] [] (sM mo G I J) Q =
    (sm_wp X 119 0 [some (.ref 68), none] [] (sM mo G I J) (fun v M => sm_wp X 194 7 [some (.ref 0), some (.int x1)] (v.toList ++ []) M Q)) :=
  (sm_blk X 194 0 (tt_lin 194 (by decide)) rfl rfl _ _ _ _).trans rfl
set_option maxRecDepth 100000 in
theorem bk_194_7 (X : (Nat → Int32) × Nat) (mo : Bool) (G : Nat × Nat) (I : Nat → Nat → Int32) (J : Nat → Nat → Int64) (Q : Option Value → sm_M → Prop) (x1 : Int32) :
    sm_wp X 194 7 [some (.ref 0), some (.int x1)] [] (sM mo G I J) Q =
    (sm_wp X 126 0 [some (.ref 68), some (.int x1), none] [] (sM mo G I J) (fun v M => sm_wp X 194 15 [some (.ref 0), some (.int x1)] (v.toList ++ []) M Q)) :=
  (sm_blk X 194 7 (tt_lin 194 (by decide)) rfl rfl _ _ _ _).trans rfl
set_option maxRecDepth 100000 in
theorem bk_194_15 (X : (Nat → Int32) × Nat) (mo : Bool) (G : Nat × Nat) (I : Nat → Nat → Int32) (J : Nat → Nat → Int64) (Q : Option Value → sm_M → Prop) (x1 : Int32) (s0 : Int32) :
    sm_wp X 194 15 [some (.ref 0), some (.int x1)] [.int s0] (sM mo G I J) Q =
    (True ∧ Q (some (.int s0)) (sM mo G I J)) :=
  (sm_blk X 194 15 (tt_lin 194 (by decide)) rfl rfl _ _ _ _).trans rfl
set_option maxRecDepth 100000 in
theorem bk_195_0 (X : (Nat → Int32) × Nat) (mo : Bool) (G : Nat × Nat) (I : Nat → Nat → Int32) (J : Nat → Nat → Int64) (Q : Option Value → sm_M → Prop)  :
    sm_wp X 195 0 [some (.ref 0)] [] (sM mo G I J) Q =
    (sm_wp X 1 0 [some (.ref 71)] [] (sM mo G I J) (fun v M => sm_wp X 195 7 [some (.ref 0)] (v.toList ++ []) M Q)) :=
  (sm_blk X 195 0 (tt_lin 195 (by decide)) rfl rfl _ _ _ _).trans rfl
set_option maxRecDepth 100000 in
theorem bk_195_7 (X : (Nat → Int32) × Nat) (mo : Bool) (G : Nat × Nat) (I : Nat → Nat → Int32) (J : Nat → Nat → Int64) (Q : Option Value → sm_M → Prop) (s0 : Int32) :
    sm_wp X 195 7 [some (.ref 0)] [.int s0] (sM mo G I J) Q =
    (True ∧ Q (some (.int s0)) (sM mo G I J)) :=
  (sm_blk X 195 7 (tt_lin 195 (by decide)) rfl rfl _ _ _ _).trans rfl
set_option maxRecDepth 100000 in
theorem bk_196_0 (X : (Nat → Int32) × Nat) (mo : Bool) (G : Nat × Nat) (I : Nat → Nat → Int32) (J : Nat → Nat → Int64) (Q : Option Value → sm_M → Prop) (x1 : Int32) (x2 : Int32) (x3 : Int32) :
    sm_wp X 196 0 [some (.ref 0), some (.int x1), some (.int x2), some (.int x3)] [] (sM mo G I J) Q =
    (sm_wp X 2 0 [some (.ref 71), some (.int x1)] [] (sM mo G I J) (fun v M => sm_wp X 196 8 [some (.ref 0), some (.int x1), some (.int x2), some (.int x3)] (v.toList ++ []) M Q)) :=
  (sm_blk X 196 0 (tt_lin 196 (by decide)) rfl rfl _ _ _ _).trans rfl
set_option maxRecDepth 100000 in
theorem bk_196_8 (X : (Nat → Int32) × Nat) (mo : Bool) (G : Nat × Nat) (I : Nat → Nat → Int32) (J : Nat → Nat → Int64) (Q : Option Value → sm_M → Prop) (x1 : Int32) (x2 : Int32) (x3 : Int32) (s0 : Int32) :
    sm_wp X 196 8 [some (.ref 0), some (.int x1), some (.int x2), some (.int x3)] [.int s0] (sM mo G I J) Q =
    (if (s0 : Int32) = 0 then sm_wp X 196 22 [some (.ref 0), some (.int x1), some (.int x2), some (.int x3)] [] (sM mo G I J) Q else (sm_wp X 94 0 [some (.ref 1), some (.int x2)] [] (sM mo G I J) (fun v M => sm_wp X 196 19 [some (.ref 0), some (.int x1), some (.int x2), some (.int x3)] (v.toList ++ []) M Q))) :=
  (sm_blk X 196 8 (tt_lin 196 (by decide)) rfl rfl _ _ _ _).trans rfl
set_option maxRecDepth 100000 in
theorem bk_196_19 (X : (Nat → Int32) × Nat) (mo : Bool) (G : Nat × Nat) (I : Nat → Nat → Int32) (J : Nat → Nat → Int64) (Q : Option Value → sm_M → Prop) (x1 : Int32) (x2 : Int32) (x3 : Int32) (s0 : Int32) :
    sm_wp X 196 19 [some (.ref 0), some (.int x1), some (.int x2), some (.int x3)] [.int s0] (sM mo G I J) Q =
    (if ¬ (s0 : Int32) = 0 then sm_wp X 196 24 [some (.ref 0), some (.int x1), some (.int x2), some (.int x3)] [] (sM mo G I J) Q else (True ∧ Q (some (.int (-1))) (sM mo G I J))) :=
  (sm_blk X 196 19 (tt_lin 196 (by decide)) rfl rfl _ _ _ _).trans rfl
set_option maxRecDepth 100000 in
theorem bk_196_22 (X : (Nat → Int32) × Nat) (mo : Bool) (G : Nat × Nat) (I : Nat → Nat → Int32) (J : Nat → Nat → Int64) (Q : Option Value → sm_M → Prop) (x1 : Int32) (x2 : Int32) (x3 : Int32) :
    sm_wp X 196 22 [some (.ref 0), some (.int x1), some (.int x2), some (.int x3)] [] (sM mo G I J) Q =
    (True ∧ Q (some (.int (-1))) (sM mo G I J)) :=
  (sm_blk X 196 22 (tt_lin 196 (by decide)) rfl rfl _ _ _ _).trans rfl
set_option maxRecDepth 100000 in
theorem bk_196_24 (X : (Nat → Int32) × Nat) (mo : Bool) (G : Nat × Nat) (I : Nat → Nat → Int32) (J : Nat → Nat → Int64) (Q : Option Value → sm_M → Prop) (x1 : Int32) (x2 : Int32) (x3 : Int32) :
    sm_wp X 196 24 [some (.ref 0), some (.int x1), some (.int x2), some (.int x3)] [] (sM mo G I J) Q =
    (if ¬ (x3 : Int32) = 0 then sm_wp X 196 38 [some (.ref 0), some (.int x1), some (.int x2), some (.int x3)] [] (sM mo G I J) Q else (sm_wp X 3 0 [some (.ref 71), some (.int x1), some (.int x2)] [] (sM mo G I J) (fun v M => sm_wp X 196 37 [some (.ref 0), some (.int x1), some (.int x2), some (.int x3)] (v.toList ++ []) M Q))) :=
  (sm_blk X 196 24 (tt_lin 196 (by decide)) rfl rfl _ _ _ _).trans rfl
set_option maxRecDepth 100000 in
theorem bk_196_37 (X : (Nat → Int32) × Nat) (mo : Bool) (G : Nat × Nat) (I : Nat → Nat → Int32) (J : Nat → Nat → Int64) (Q : Option Value → sm_M → Prop) (x1 : Int32) (x2 : Int32) (x3 : Int32) (s0 : Int32) :
    sm_wp X 196 37 [some (.ref 0), some (.int x1), some (.int x2), some (.int x3)] [.int s0] (sM mo G I J) Q =
    (True ∧ Q (some (.int s0)) (sM mo G I J)) :=
  (sm_blk X 196 37 (tt_lin 196 (by decide)) rfl rfl _ _ _ _).trans rfl
set_option maxRecDepth 100000 in
theorem bk_196_38 (X : (Nat → Int32) × Nat) (mo : Bool) (G : Nat × Nat) (I : Nat → Nat → Int32) (J : Nat → Nat → Int64) (Q : Option Value → sm_M → Prop) (x1 : Int32) (x2 : Int32) (x3 : Int32) :
    sm_wp X 196 38 [some (.ref 0), some (.int x1), some (.int x2), some (.int x3)] [] (sM mo G I J) Q =
    (sm_wp X 180 0 [some (.int x3)] [] (sM mo G I J) (fun v M => sm_wp X 196 42 [some (.ref 0), some (.int x1), some (.int x2), some (.int x3)] (v.toList ++ []) M Q)) :=
  (sm_blk X 196 38 (tt_lin 196 (by decide)) rfl rfl _ _ _ _).trans rfl
set_option maxRecDepth 100000 in
theorem bk_196_42 (X : (Nat → Int32) × Nat) (mo : Bool) (G : Nat × Nat) (I : Nat → Nat → Int32) (J : Nat → Nat → Int64) (Q : Option Value → sm_M → Prop) (x1 : Int32) (x2 : Int32) (x3 : Int32) (s0 : Int32) :
    sm_wp X 196 42 [some (.ref 0), some (.int x1), some (.int x2), some (.int x3)] [.int s0] (sM mo G I J) Q =
    (if (s0 : Int32) = 0 then sm_wp X 196 58 [some (.ref 0), some (.int x1), some (.int x2), some (.int x3)] [] (sM mo G I J) Q else (sm_wp X 4 0 [some (.ref 71), some (.int x1), some (.int x2), some (.int x3), none, none] [] (sM mo G I J) (fun v M => sm_wp X 196 55 [some (.ref 0), some (.int x1), some (.int x2), some (.int x3)] (v.toList ++ []) M Q))) :=
  (sm_blk X 196 42 (tt_lin 196 (by decide)) rfl rfl _ _ _ _).trans rfl
set_option maxRecDepth 100000 in
theorem bk_196_55 (X : (Nat → Int32) × Nat) (mo : Bool) (G : Nat × Nat) (I : Nat → Nat → Int32) (J : Nat → Nat → Int64) (Q : Option Value → sm_M → Prop) (x1 : Int32) (x2 : Int32) (x3 : Int32) (s0 : Int32) :
    sm_wp X 196 55 [some (.ref 0), some (.int x1), some (.int x2), some (.int x3)] [.int s0] (sM mo G I J) Q =
    (sm_wp X 196 59 [some (.ref 0), some (.int x1), some (.int x2), some (.int x3)] [.int s0] (sM mo G I J) Q) :=
  (sm_blk X 196 55 (tt_lin 196 (by decide)) rfl rfl _ _ _ _).trans rfl
set_option maxRecDepth 100000 in
theorem bk_196_58 (X : (Nat → Int32) × Nat) (mo : Bool) (G : Nat × Nat) (I : Nat → Nat → Int32) (J : Nat → Nat → Int64) (Q : Option Value → sm_M → Prop) (x1 : Int32) (x2 : Int32) (x3 : Int32) :
    sm_wp X 196 58 [some (.ref 0), some (.int x1), some (.int x2), some (.int x3)] [] (sM mo G I J) Q =
    (True ∧ Q (some (.int (-1))) (sM mo G I J)) :=
  (sm_blk X 196 58 (tt_lin 196 (by decide)) rfl rfl _ _ _ _).trans rfl
set_option maxRecDepth 100000 in
theorem bk_196_59 (X : (Nat → Int32) × Nat) (mo : Bool) (G : Nat × Nat) (I : Nat → Nat → Int32) (J : Nat → Nat → Int64) (Q : Option Value → sm_M → Prop) (x1 : Int32) (x2 : Int32) (x3 : Int32) (s0 : Int32) :
    sm_wp X 196 59 [some (.ref 0), some (.int x1), some (.int x2), some (.int x3)] [.int s0] (sM mo G I J) Q =
    (True ∧ Q (some (.int s0)) (sM mo G I J)) :=
  (sm_blk X 196 59 (tt_lin 196 (by decide)) rfl rfl _ _ _ _).trans rfl
set_option maxRecDepth 100000 in
theorem bk_197_0 (X : (Nat → Int32) × Nat) (mo : Bool) (G : Nat × Nat) (I : Nat → Nat → Int32) (J : Nat → Nat → Int64) (Q : Option Value → sm_M → Prop) (x1 : Int32) (x2 : Int32) (x3 : Int32) :
    sm_wp X 197 0 [some (.ref 0), some (.int x1), some (.int x2), some (.int x3)] [] (sM mo G I J) Q =
    (sm_wp X 2 0 [some (.ref 71), some (.int x1)] [] (sM mo G I J) (fun v M => sm_wp X 197 8 [some (.ref 0), some (.int x1), some (.int x2), some (.int x3)] (v.toList ++ []) M Q)) :=
  (sm_blk X 197 0 (tt_lin 197 (by decide)) rfl rfl _ _ _ _).trans rfl
set_option maxRecDepth 100000 in
theorem bk_197_8 (X : (Nat → Int32) × Nat) (mo : Bool) (G : Nat × Nat) (I : Nat → Nat → Int32) (J : Nat → Nat → Int64) (Q : Option Value → sm_M → Prop) (x1 : Int32) (x2 : Int32) (x3 : Int32) (s0 : Int32) :
    sm_wp X 197 8 [some (.ref 0), some (.int x1), some (.int x2), some (.int x3)] [.int s0] (sM mo G I J) Q =
    (if (s0 : Int32) = 0 then sm_wp X 197 27 [some (.ref 0), some (.int x1), some (.int x2), some (.int x3)] [] (sM mo G I J) Q else (sm_wp X 2 0 [some (.ref 71), some (.int x2)] [] (sM mo G I J) (fun v M => sm_wp X 197 19 [some (.ref 0), some (.int x1), some (.int x2), some (.int x3)] (v.toList ++ []) M Q))) :=
  (sm_blk X 197 8 (tt_lin 197 (by decide)) rfl rfl _ _ _ _).trans rfl
set_option maxRecDepth 100000 in
theorem bk_197_19 (X : (Nat → Int32) × Nat) (mo : Bool) (G : Nat × Nat) (I : Nat → Nat → Int32) (J : Nat → Nat → Int64) (Q : Option Value → sm_M → Prop) (x1 : Int32) (x2 : Int32) (x3 : Int32) (s0 : Int32) :
    sm_wp X 197 19 [some (.ref 0), some (.int x1), some (.int x2), some (.int x3)] [.int s0] (sM mo G I J) Q =
    (if (s0 : Int32) = 0 then sm_wp X 197 27 [some (.ref 0), some (.int x1), some (.int x2), some (.int x3)] [] (sM mo G I J) Q else (if ¬ (x1 : Int32) = (x2 : Int32) then sm_wp X 197 29 [some (.ref 0), some (.int x1), some (.int x2), some (.int x3)] [] (sM mo G I J) Q else (sm_zb 0 ∧ Q (some (.int 0)) (sM mo G I J)))) :=
  (sm_blk X 197 19 (tt_lin 197 (by decide)) rfl rfl _ _ _ _).trans rfl
set_option maxRecDepth 100000 in
theorem bk_197_27 (X : (Nat → Int32) × Nat) (mo : Bool) (G : Nat × Nat) (I : Nat → Nat → Int32) (J : Nat → Nat → Int64) (Q : Option Value → sm_M → Prop) (x1 : Int32) (x2 : Int32) (x3 : Int32) :
    sm_wp X 197 27 [some (.ref 0), some (.int x1), some (.int x2), some (.int x3)] [] (sM mo G I J) Q =
    (sm_zb 0 ∧ Q (some (.int 0)) (sM mo G I J)) :=
  (sm_blk X 197 27 (tt_lin 197 (by decide)) rfl rfl _ _ _ _).trans rfl
set_option maxRecDepth 100000 in
theorem bk_197_29 (X : (Nat → Int32) × Nat) (mo : Bool) (G : Nat × Nat) (I : Nat → Nat → Int32) (J : Nat → Nat → Int64) (Q : Option Value → sm_M → Prop) (x1 : Int32) (x2 : Int32) (x3 : Int32) :
    sm_wp X 197 29 [some (.ref 0), some (.int x1), some (.int x2), some (.int x3)] [] (sM mo G I J) Q =
    (sm_wp X 5 0 [some (.ref 71), some (.int x1), some (.int x2), some (.int x3)] [] (sM mo G I J) (fun v M => sm_wp X 197 39 [some (.ref 0), some (.int x1), some (.int x2), some (.int x3)] (v.toList ++ []) M Q)) :=
  (sm_blk X 197 29 (tt_lin 197 (by decide)) rfl rfl _ _ _ _).trans rfl
set_option maxRecDepth 100000 in
theorem bk_197_39 (X : (Nat → Int32) × Nat) (mo : Bool) (G : Nat × Nat) (I : Nat → Nat → Int32) (J : Nat → Nat → Int64) (Q : Option Value → sm_M → Prop) (x1 : Int32) (x2 : Int32) (x3 : Int32) (s0 : Int32) :
    sm_wp X 197 39 [some (.ref 0), some (.int x1), some (.int x2), some (.int x3)] [.int s0] (sM mo G I J) Q =
    (sm_zb s0 ∧ Q (some (.int s0)) (sM mo G I J)) :=
  (sm_blk X 197 39 (tt_lin 197 (by decide)) rfl rfl _ _ _ _).trans rfl
set_option maxRecDepth 100000 in
theorem bk_198_0 (X : (Nat → Int32) × Nat) (mo : Bool) (G : Nat × Nat) (I : Nat → Nat → Int32) (J : Nat → Nat → Int64) (Q : Option Value → sm_M → Prop) (x1 : Int32) (x2 : Int32) (x3 : Int32) :
    sm_wp X 198 0 [some (.ref 0), some (.int x1), some (.int x2), some (.int x3)] [] (sM mo G I J) Q =
    (sm_wp X 2 0 [some (.ref 71), some (.int x1)] [] (sM mo G I J) (fun v M => sm_wp X 198 8 [some (.ref 0), some (.int x1), some (.int x2), some (.int x3)] (v.toList ++ []) M Q)) :=
  (sm_blk X 198 0 (tt_lin 198 (by decide)) rfl rfl _ _ _ _).trans rfl
set_option maxRecDepth 100000 in
theorem bk_198_8 (X : (Nat → Int32) × Nat) (mo : Bool) (G : Nat × Nat) (I : Nat → Nat → Int32) (J : Nat → Nat → Int64) (Q : Option Value → sm_M → Prop) (x1 : Int32) (x2 : Int32) (x3 : Int32) (s0 : Int32) :
    sm_wp X 198 8 [some (.ref 0), some (.int x1), some (.int x2), some (.int x3)] [.int s0] (sM mo G I J) Q =
    (if (s0 : Int32) = 0 then sm_wp X 198 22 [some (.ref 0), some (.int x1), some (.int x2), some (.int x3)] [] (sM mo G I J) Q else (sm_wp X 94 0 [some (.ref 1), some (.int x2)] [] (sM mo G I J) (fun v M => sm_wp X 198 19 [some (.ref 0), some (.int x1), some (.int x2), some (.int x3)] (v.toList ++ []) M Q))) :=
  (sm_blk X 198 8 (tt_lin 198 (by decide)) rfl rfl _ _ _ _).trans rfl
set_option maxRecDepth 100000 in
theorem bk_198_19 (X : (Nat → Int32) × Nat) (mo : Bool) (G : Nat × Nat) (I : Nat → Nat → Int32) (J : Nat → Nat → Int64) (Q : Option Value → sm_M → Prop) (x1 : Int32) (x2 : Int32) (x3 : Int32) (s0 : Int32) :
    sm_wp X 198 19 [some (.ref 0), some (.int x1), some (.int x2), some (.int x3)] [.int s0] (sM mo G I J) Q =
    (if ¬ (s0 : Int32) = 0 then sm_wp X 198 24 [some (.ref 0), some (.int x1), some (.int x2), some (.int x3)] [] (sM mo G I J) Q else (sm_zb 0 ∧ Q (some (.int 0)) (sM mo G I J))) :=
  (sm_blk X 198 19 (tt_lin 198 (by decide)) rfl rfl _ _ _ _).trans rfl
set_option maxRecDepth 100000 in
theorem bk_198_22 (X : (Nat → Int32) × Nat) (mo : Bool) (G : Nat × Nat) (I : Nat → Nat → Int32) (J : Nat → Nat → Int64) (Q : Option Value → sm_M → Prop) (x1 : Int32) (x2 : Int32) (x3 : Int32) :
    sm_wp X 198 22 [some (.ref 0), some (.int x1), some (.int x2), some (.int x3)] [] (sM mo G I J) Q =
    (sm_zb 0 ∧ Q (some (.int 0)) (sM mo G I J)) :=
  (sm_blk X 198 22 (tt_lin 198 (by decide)) rfl rfl _ _ _ _).trans rfl
set_option maxRecDepth 100000 in
theorem bk_198_24 (X : (Nat → Int32) × Nat) (mo : Bool) (G : Nat × Nat) (I : Nat → Nat → Int32) (J : Nat → Nat → Int64) (Q : Option Value → sm_M → Prop) (x1 : Int32) (x2 : Int32) (x3 : Int32) :
    sm_wp X 198 24 [some (.ref 0), some (.int x1), some (.int x2), some (.int x3)] [] (sM mo G I J) Q =
    (sm_wp X 6 0 [some (.ref 71), some (.int x1), some (.int x2), some (.int x3)] [] (sM mo G I J) (fun v M => sm_wp X 198 34 [some (.ref 0), some (.int x1), some (.int x2), some (.int x3)] (v.toList ++ []) M Q)) :=
  (sm_blk X 198 24 (tt_lin 198 (by decide)) rfl rfl _ _ _ _).trans rfl
set_option maxRecDepth 100000 in
theorem bk_198_34 (X : (Nat → Int32) × Nat) (mo : Bool) (G : Nat × Nat) (I : Nat → Nat → Int32) (J : Nat → Nat → Int64) (Q : Option Value → sm_M → Prop) (x1 : Int32) (x2 : Int32) (x3 : Int32) (s0 : Int32) :
    sm_wp X 198 34 [some (.ref 0), some (.int x1), some (.int x2), some (.int x3)] [.int s0] (sM mo G I J) Q =
    (sm_zb s0 ∧ Q (some (.int s0)) (sM mo G I J)) :=
  (sm_blk X 198 34 (tt_lin 198 (by decide)) rfl rfl _ _ _ _).trans rfl
set_option maxRecDepth 100000 in
theorem bk_199_0 (X : (Nat → Int32) × Nat) (mo : Bool) (G : Nat × Nat) (I : Nat → Nat → Int32) (J : Nat → Nat → Int64) (Q : Option Value → sm_M → Prop) (x1 : Int32) (x2 : Int32) (x3 : Int32) :
    sm_wp X 199 0 [some (.ref 0), some (.int x1), some (.int x2), some (.int x3)] [] (sM mo G I J) Q =
    (sm_wp X 7 0 [some (.ref 71), some (.int x1), some (.int x2)] [] (sM mo G I J) (fun v M => sm_wp X 199 9 [some (.ref 0), some (.int x1), some (.int x2), some (.int x3)] (v.toList ++ []) M Q)) :=
  (sm_blk X 199 0 (tt_lin 199 (by decide)) rfl rfl _ _ _ _).trans rfl
set_option maxRecDepth 100000 in
theorem bk_199_9 (X : (Nat → Int32) × Nat) (mo : Bool) (G : Nat × Nat) (I : Nat → Nat → Int32) (J : Nat → Nat → Int64) (Q : Option Value → sm_M → Prop) (x1 : Int32) (x2 : Int32) (x3 : Int32) (s0 : Int32) :
    sm_wp X 199 9 [some (.ref 0), some (.int x1), some (.int x2), some (.int x3)] [.int s0] (sM mo G I J) Q =
    (if (s0 : Int32) = 0 then sm_wp X 199 24 [some (.ref 0), some (.int x1), some (.int x2), some (.int x3)] [] (sM mo G I J) Q else (sm_wp X 7 0 [some (.ref 71), some (.int x1), some (.int x3)] [] (sM mo G I J) (fun v M => sm_wp X 199 21 [some (.ref 0), some (.int x1), some (.int x2), some (.int x3)] (v.toList ++ []) M Q))) :=
  (sm_blk X 199 9 (tt_lin 199 (by decide)) rfl rfl _ _ _ _).trans rfl
set_option maxRecDepth 100000 in
theorem bk_199_21 (X : (Nat → Int32) × Nat) (mo : Bool) (G : Nat × Nat) (I : Nat → Nat → Int32) (J : Nat → Nat → Int64) (Q : Option Value → sm_M → Prop) (x1 : Int32) (x2 : Int32) (x3 : Int32) (s0 : Int32) :
    sm_wp X 199 21 [some (.ref 0), some (.int x1), some (.int x2), some (.int x3)] [.int s0] (sM mo G I J) Q =
    (if ¬ (s0 : Int32) = 0 then sm_wp X 199 26 [some (.ref 0), some (.int x1), some (.int x2), some (.int x3)] [] (sM mo G I J) Q else (True ∧ Q (some (.int (-1))) (sM mo G I J))) :=
  (sm_blk X 199 21 (tt_lin 199 (by decide)) rfl rfl _ _ _ _).trans rfl
set_option maxRecDepth 100000 in
theorem bk_199_24 (X : (Nat → Int32) × Nat) (mo : Bool) (G : Nat × Nat) (I : Nat → Nat → Int32) (J : Nat → Nat → Int64) (Q : Option Value → sm_M → Prop) (x1 : Int32) (x2 : Int32) (x3 : Int32) :
    sm_wp X 199 24 [some (.ref 0), some (.int x1), some (.int x2), some (.int x3)] [] (sM mo G I J) Q =
    (True ∧ Q (some (.int (-1))) (sM mo G I J)) :=
  (sm_blk X 199 24 (tt_lin 199 (by decide)) rfl rfl _ _ _ _).trans rfl
set_option maxRecDepth 100000 in
theorem bk_199_26 (X : (Nat → Int32) × Nat) (mo : Bool) (G : Nat × Nat) (I : Nat → Nat → Int32) (J : Nat → Nat → Int64) (Q : Option Value → sm_M → Prop) (x1 : Int32) (x2 : Int32) (x3 : Int32) :
    sm_wp X 199 26 [some (.ref 0), some (.int x1), some (.int x2), some (.int x3)] [] (sM mo G I J) Q =
    (sm_wp X 8 0 [some (.ref 71), some (.int x1), some (.int x2), some (.int x3), none, none, none, none, none, none, none] [] (sM mo G I J) (fun v M => sm_wp X 199 36 [some (.ref 0), some (.int x1), some (.int x2), some (.int x3)] (v.toList ++ []) M Q)) :=
  (sm_blk X 199 26 (tt_lin 199 (by decide)) rfl rfl _ _ _ _).trans rfl
set_option maxRecDepth 100000 in
theorem bk_199_36 (X : (Nat → Int32) × Nat) (mo : Bool) (G : Nat × Nat) (I : Nat → Nat → Int32) (J : Nat → Nat → Int64) (Q : Option Value → sm_M → Prop) (x1 : Int32) (x2 : Int32) (x3 : Int32) (s0 : Int32) :
    sm_wp X 199 36 [some (.ref 0), some (.int x1), some (.int x2), some (.int x3)] [.int s0] (sM mo G I J) Q =
    (True ∧ Q (some (.int s0)) (sM mo G I J)) :=
  (sm_blk X 199 36 (tt_lin 199 (by decide)) rfl rfl _ _ _ _).trans rfl
set_option maxRecDepth 100000 in
theorem bk_200_0 (X : (Nat → Int32) × Nat) (mo : Bool) (G : Nat × Nat) (I : Nat → Nat → Int32) (J : Nat → Nat → Int64) (Q : Option Value → sm_M → Prop) (x1 : Int32) (x2 : Int32) :
    sm_wp X 200 0 [some (.ref 0), some (.int x1), some (.int x2)] [] (sM mo G I J) Q =
    (sm_wp X 2 0 [some (.ref 71), some (.int x1)] [] (sM mo G I J) (fun v M => sm_wp X 200 8 [some (.ref 0), some (.int x1), some (.int x2)] (v.toList ++ []) M Q)) :=
  (sm_blk X 200 0 (tt_lin 200 (by decide)) rfl rfl _ _ _ _).trans rfl
set_option maxRecDepth 100000 in
theorem bk_200_8 (X : (Nat → Int32) × Nat) (mo : Bool) (G : Nat × Nat) (I : Nat → Nat → Int32) (J : Nat → Nat → Int64) (Q : Option Value → sm_M → Prop) (x1 : Int32) (x2 : Int32) (s0 : Int32) :
    sm_wp X 200 8 [some (.ref 0), some (.int x1), some (.int x2)] [.int s0] (sM mo G I J) Q =
    (if ¬ (s0 : Int32) = 0 then sm_wp X 200 13 [some (.ref 0), some (.int x1), some (.int x2)] [] (sM mo G I J) Q else (True ∧ Q (some (.int (-1))) (sM mo G I J))) :=
  (sm_blk X 200 8 (tt_lin 200 (by decide)) rfl rfl _ _ _ _).trans rfl
set_option maxRecDepth 100000 in
theorem bk_200_13 (X : (Nat → Int32) × Nat) (mo : Bool) (G : Nat × Nat) (I : Nat → Nat → Int32) (J : Nat → Nat → Int64) (Q : Option Value → sm_M → Prop) (x1 : Int32) (x2 : Int32) :
    sm_wp X 200 13 [some (.ref 0), some (.int x1), some (.int x2)] [] (sM mo G I J) Q =
    (if (x2 : Int32) = 0 then sm_wp X 200 44 [some (.ref 0), some (.int x1), some (.int x2)] [] (sM mo G I J) Q else if (x2 : Int32) = 1 then sm_wp X 200 53 [some (.ref 0), some (.int x1), some (.int x2)] [] (sM mo G I J) Q else if (x2 : Int32) = 2 then sm_wp X 200 70 [some (.ref 0), some (.int x1), some (.int x2)] [] (sM mo G I J) Q else if (x2 : Int32) = 3 then sm_wp X 200 87 [some (.ref 0), some (.int x1), some (.int x2)] [] (sM mo G I J) Q else sm_wp X 200 111 [some (.ref 0), some (.int x1), some (.int x2)] [] (sM mo G I J) Q) :=
  (sm_blk X 200 13 (tt_lin 200 (by decide)) rfl rfl _ _ _ _).trans rfl
set_option maxRecDepth 100000 in
theorem bk_200_44 (X : (Nat → Int32) × Nat) (mo : Bool) (G : Nat × Nat) (I : Nat → Nat → Int32) (J : Nat → Nat → Int64) (Q : Option Value → sm_M → Prop) (x1 : Int32) (x2 : Int32) :
    sm_wp X 200 44 [some (.ref 0), some (.int x1), some (.int x2)] [] (sM mo G I J) Q =
    (sm_wp X 10 0 [some (.ref 71), some (.int x1), none, none, none] [] (sM mo G I J) (fun v M => sm_wp X 200 52 [some (.ref 0), some (.int x1), some (.int x2)] (v.toList ++ []) M Q)) :=
  (sm_blk X 200 44 (tt_lin 200 (by decide)) rfl rfl _ _ _ _).trans rfl
set_option maxRecDepth 100000 in
theorem bk_200_52 (X : (Nat → Int32) × Nat) (mo : Bool) (G : Nat × Nat) (I : Nat → Nat → Int32) (J : Nat → Nat → Int64) (Q : Option Value → sm_M → Prop) (x1 : Int32) (x2 : Int32) (s0 : Int32) :
    sm_wp X 200 52 [some (.ref 0), some (.int x1), some (.int x2)] [.int s0] (sM mo G I J) Q =
    (True ∧ Q (some (.int s0)) (sM mo G I J)) :=
  (sm_blk X 200 52 (tt_lin 200 (by decide)) rfl rfl _ _ _ _).trans rfl
set_option maxRecDepth 100000 in
theorem bk_200_53 (X : (Nat → Int32) × Nat) (mo : Bool) (G : Nat × Nat) (I : Nat → Nat → Int32) (J : Nat → Nat → Int64) (Q : Option Value → sm_M → Prop) (x1 : Int32) (x2 : Int32) :
    sm_wp X 200 53 [some (.ref 0), some (.int x1), some (.int x2)] [] (sM mo G I J) Q =
    (sm_wp X 10 0 [some (.ref 71), some (.int x1), none, none, none] [] (sM mo G I J) (fun v M => sm_wp X 200 66 [some (.ref 0), some (.int x1), some (.int x2)] (v.toList ++ [.int x1, .ref 71]) M Q)) :=
  (sm_blk X 200 53 (tt_lin 200 (by decide)) rfl rfl _ _ _ _).trans rfl
set_option maxRecDepth 100000 in
theorem bk_200_66 (X : (Nat → Int32) × Nat) (mo : Bool) (G : Nat × Nat) (I : Nat → Nat → Int32) (J : Nat → Nat → Int64) (Q : Option Value → sm_M → Prop) (x1 : Int32) (x2 : Int32) (s1 : Int32) (s2 : Int32) :
    sm_wp X 200 66 [some (.ref 0), some (.int x1), some (.int x2)] [.int s2, .int s1, .ref 71] (sM mo G I J) Q =
    (sm_wp X 7 0 [some (.ref 71), some (.int s1), some (.int s2)] [] (sM mo G I J) (fun v M => sm_wp X 200 69 [some (.ref 0), some (.int x1), some (.int x2)] (v.toList ++ []) M Q)) :=
  (sm_blk X 200 66 (tt_lin 200 (by decide)) rfl rfl _ _ _ _).trans rfl
set_option maxRecDepth 100000 in
theorem bk_200_69 (X : (Nat → Int32) × Nat) (mo : Bool) (G : Nat × Nat) (I : Nat → Nat → Int32) (J : Nat → Nat → Int64) (Q : Option Value → sm_M → Prop) (x1 : Int32) (x2 : Int32) (s0 : Int32) :
    sm_wp X 200 69 [some (.ref 0), some (.int x1), some (.int x2)] [.int s0] (sM mo G I J) Q =
    (True ∧ Q (some (.int s0)) (sM mo G I J)) :=
  (sm_blk X 200 69 (tt_lin 200 (by decide)) rfl rfl _ _ _ _).trans rfl
set_option maxRecDepth 100000 in
theorem bk_200_70 (X : (Nat → Int32) × Nat) (mo : Bool) (G : Nat × Nat) (I : Nat → Nat → Int32) (J : Nat → Nat → Int64) (Q : Option Value → sm_M → Prop) (x1 : Int32) (x2 : Int32) :
    sm_wp X 200 70 [some (.ref 0), some (.int x1), some (.int x2)] [] (sM mo G I J) Q =
    (sm_wp X 13 0 [some (.ref 71), some (.int x1), none, none, none] [] (sM mo G I J) (fun v M => sm_wp X 200 78 [some (.ref 0), some (.int x1), some (.int x2)] (v.toList ++ []) M Q)) :=
  (sm_blk X 200 70 (tt_lin 200 (by decide)) rfl rfl _ _ _ _).trans rfl
set_option maxRecDepth 100000 in
theorem bk_200_78 (X : (Nat → Int32) × Nat) (mo : Bool) (G : Nat × Nat) (I : Nat → Nat → Int32) (J : Nat → Nat → Int64) (Q : Option Value → sm_M → Prop) (x1 : Int32) (x2 : Int32) (s0 : Int32) :
    sm_wp X 200 78 [some (.ref 0), some (.int x1), some (.int x2)] [.int s0] (sM mo G I J) Q =
    (if (s0 : Int32) = 0 then sm_wp X 200 85 [some (.ref 0), some (.int x1), some (.int x2)] [] (sM mo G I J) Q else (sm_wp X 200 86 [some (.ref 0), some (.int x1), some (.int x2)] [.int 1] (sM mo G I J) Q)) :=
  (sm_blk X 200 78 (tt_lin 200 (by decide)) rfl rfl _ _ _ _).trans rfl
set_option maxRecDepth 100000 in
theorem bk_200_85 (X : (Nat → Int32) × Nat) (mo : Bool) (G : Nat × Nat) (I : Nat → Nat → Int32) (J : Nat → Nat → Int64) (Q : Option Value → sm_M → Prop) (x1 : Int32) (x2 : Int32) :
    sm_wp X 200 85 [some (.ref 0), some (.int x1), some (.int x2)] [] (sM mo G I J) Q =
    (True ∧ Q (some (.int 0)) (sM mo G I J)) :=
  (sm_blk X 200 85 (tt_lin 200 (by decide)) rfl rfl _ _ _ _).trans rfl
set_option maxRecDepth 100000 in
theorem bk_200_86 (X : (Nat → Int32) × Nat) (mo : Bool) (G : Nat × Nat) (I : Nat → Nat → Int32) (J : Nat → Nat → Int64) (Q : Option Value → sm_M → Prop) (x1 : Int32) (x2 : Int32) (s0 : Int32) :
    sm_wp X 200 86 [some (.ref 0), some (.int x1), some (.int x2)] [.int s0] (sM mo G I J) Q =
    (True ∧ Q (some (.int s0)) (sM mo G I J)) :=
  (sm_blk X 200 86 (tt_lin 200 (by decide)) rfl rfl _ _ _ _).trans rfl
set_option maxRecDepth 100000 in
theorem bk_200_87 (X : (Nat → Int32) × Nat) (mo : Bool) (G : Nat × Nat) (I : Nat → Nat → Int32) (J : Nat → Nat → Int64) (Q : Option Value → sm_M → Prop) (x1 : Int32) (x2 : Int32) :
    sm_wp X 200 87 [some (.ref 0), some (.int x1), some (.int x2)] [] (sM mo G I J) Q =
    (sm_wp X 13 0 [some (.ref 71), some (.int x1), none, none, none] [] (sM mo G I J) (fun v M => sm_wp X 200 95 [some (.ref 0), some (.int x1), some (.int x2)] (v.toList ++ []) M Q)) :=
  (sm_blk X 200 87 (tt_lin 200 (by decide)) rfl rfl _ _ _ _).trans rfl
set_option maxRecDepth 100000 in
theorem bk_200_95 (X : (Nat → Int32) × Nat) (mo : Bool) (G : Nat × Nat) (I : Nat → Nat → Int32) (J : Nat → Nat → Int64) (Q : Option Value → sm_M → Prop) (x1 : Int32) (x2 : Int32) (s0 : Int32) :
    sm_wp X 200 95 [some (.ref 0), some (.int x1), some (.int x2)] [.int s0] (sM mo G I J) Q =
    (if (s0 : Int32) = 0 then sm_wp X 200 102 [some (.ref 0), some (.int x1), some (.int x2)] [] (sM mo G I J) Q else (sm_wp X 200 110 [some (.ref 0), some (.int x1), some (.int x2)] [.int 0] (sM mo G I J) Q)) :=
  (sm_blk X 200 95 (tt_lin 200 (by decide)) rfl rfl _ _ _ _).trans rfl
set_option maxRecDepth 100000 in
theorem bk_200_102 (X : (Nat → Int32) × Nat) (mo : Bool) (G : Nat × Nat) (I : Nat → Nat → Int32) (J : Nat → Nat → Int64) (Q : Option Value → sm_M → Prop) (x1 : Int32) (x2 : Int32) :
    sm_wp X 200 102 [some (.ref 0), some (.int x1), some (.int x2)] [] (sM mo G I J) Q =
    (sm_wp X 19 0 [some (.ref 71), some (.int x1), none] [] (sM mo G I J) (fun v M => sm_wp X 200 110 [some (.ref 0), some (.int x1), some (.int x2)] (v.toList ++ []) M Q)) :=
  (sm_blk X 200 102 (tt_lin 200 (by decide)) rfl rfl _ _ _ _).trans rfl
set_option maxRecDepth 100000 in
theorem bk_200_110 (X : (Nat → Int32) × Nat) (mo : Bool) (G : Nat × Nat) (I : Nat → Nat → Int32) (J : Nat → Nat → Int64) (Q : Option Value → sm_M → Prop) (x1 : Int32) (x2 : Int32) (s0 : Int32) :
    sm_wp X 200 110 [some (.ref 0), some (.int x1), some (.int x2)] [.int s0] (sM mo G I J) Q =
    (True ∧ Q (some (.int s0)) (sM mo G I J)) :=
  (sm_blk X 200 110 (tt_lin 200 (by decide)) rfl rfl _ _ _ _).trans rfl
set_option maxRecDepth 100000 in
theorem bk_200_111 (X : (Nat → Int32) × Nat) (mo : Bool) (G : Nat × Nat) (I : Nat → Nat → Int32) (J : Nat → Nat → Int64) (Q : Option Value → sm_M → Prop) (x1 : Int32) (x2 : Int32) :
    sm_wp X 200 111 [some (.ref 0), some (.int x1), some (.int x2)] [] (sM mo G I J) Q =
    (True ∧ Q (some (.int (-1))) (sM mo G I J)) :=
  (sm_blk X 200 111 (tt_lin 200 (by decide)) rfl rfl _ _ _ _).trans rfl
set_option maxRecDepth 100000 in
theorem bk_201_0 (X : (Nat → Int32) × Nat) (mo : Bool) (G : Nat × Nat) (I : Nat → Nat → Int32) (J : Nat → Nat → Int64) (Q : Option Value → sm_M → Prop) (x1 : Int32) (x2 : Int32) (x3 : Int32) :
    sm_wp X 201 0 [some (.ref 0), some (.int x1), some (.int x2), some (.int x3)] [] (sM mo G I J) Q =
    (sm_wp X 2 0 [some (.ref 71), some (.int x1)] [] (sM mo G I J) (fun v M => sm_wp X 201 8 [some (.ref 0), some (.int x1), some (.int x2), some (.int x3)] (v.toList ++ []) M Q)) :=
  (sm_blk X 201 0 (tt_lin 201 (by decide)) rfl rfl _ _ _ _).trans rfl
set_option maxRecDepth 100000 in
theorem bk_201_8 (X : (Nat → Int32) × Nat) (mo : Bool) (G : Nat × Nat) (I : Nat → Nat → Int32) (J : Nat → Nat → Int64) (Q : Option Value → sm_M → Prop) (x1 : Int32) (x2 : Int32) (x3 : Int32) (s0 : Int32) :
    sm_wp X 201 8 [some (.ref 0), some (.int x1), some (.int x2), some (.int x3)] [.int s0] (sM mo G I J) Q =
    (if ¬ (s0 : Int32) = 0 then sm_wp X 201 13 [some (.ref 0), some (.int x1), some (.int x2), some (.int x3)] [] (sM mo G I J) Q else (True ∧ Q (some (.int (-1))) (sM mo G I J))) :=
  (sm_blk X 201 8 (tt_lin 201 (by decide)) rfl rfl _ _ _ _).trans rfl
set_option maxRecDepth 100000 in
theorem bk_201_13 (X : (Nat → Int32) × Nat) (mo : Bool) (G : Nat × Nat) (I : Nat → Nat → Int32) (J : Nat → Nat → Int64) (Q : Option Value → sm_M → Prop) (x1 : Int32) (x2 : Int32) (x3 : Int32) :
    sm_wp X 201 13 [some (.ref 0), some (.int x1), some (.int x2), some (.int x3)] [] (sM mo G I J) Q =
    (sm_wp X 20 0 [some (.ref 71), some (.int x1), some (.int x2), some (.int x3), none] [] (sM mo G I J) (fun v M => sm_wp X 201 23 [some (.ref 0), some (.int x1), some (.int x2), some (.int x3)] (v.toList ++ []) M Q)) :=
  (sm_blk X 201 13 (tt_lin 201 (by decide)) rfl rfl _ _ _ _).trans rfl
set_option maxRecDepth 100000 in
theorem bk_201_23 (X : (Nat → Int32) × Nat) (mo : Bool) (G : Nat × Nat) (I : Nat → Nat → Int32) (J : Nat → Nat → Int64) (Q : Option Value → sm_M → Prop) (x1 : Int32) (x2 : Int32) (x3 : Int32) (s0 : Int32) :
    sm_wp X 201 23 [some (.ref 0), some (.int x1), some (.int x2), some (.int x3)] [.int s0] (sM mo G I J) Q =
    (True ∧ Q (some (.int s0)) (sM mo G I J)) :=
  (sm_blk X 201 23 (tt_lin 201 (by decide)) rfl rfl _ _ _ _).trans rfl
set_option maxRecDepth 100000 in
theorem bk_202_0 (X : (Nat → Int32) × Nat) (mo : Bool) (G : Nat × Nat) (I : Nat → Nat → Int32) (J : Nat → Nat → Int64) (Q : Option Value → sm_M → Prop) (x1 : Int32) :
    sm_wp X 202 0 [some (.ref 0), some (.int x1)] [] (sM mo G I J) Q =
    (sm_wp X 94 0 [some (.ref 1), some (.int x1)] [] (sM mo G I J) (fun v M => sm_wp X 202 8 [some (.ref 0), some (.int x1)] (v.toList ++ []) M Q)) :=
  (sm_blk X 202 0 (tt_lin 202 (by decide)) rfl rfl _ _ _ _).trans rfl
set_option maxRecDepth 100000 in
theorem bk_202_8 (X : (Nat → Int32) × Nat) (mo : Bool) (G : Nat × Nat) (I : Nat → Nat → Int32) (J : Nat → Nat → Int64) (Q : Option Value → sm_M → Prop) (x1 : Int32) (s0 : Int32) :
    sm_wp X 202 8 [some (.ref 0), some (.int x1)] [.int s0] (sM mo G I J) Q =
    (if ¬ (s0 : Int32) = 0 then sm_wp X 202 13 [some (.ref 0), some (.int x1)] [] (sM mo G I J) Q else (True ∧ Q (some (.int (-1))) (sM mo G I J))) :=
  (sm_blk X 202 8 (tt_lin 202 (by decide)) rfl rfl _ _ _ _).trans rfl
set_option maxRecDepth 100000 in
theorem bk_202_13 (X : (Nat → Int32) × Nat) (mo : Bool) (G : Nat × Nat) (I : Nat → Nat → Int32) (J : Nat → Nat → Int64) (Q : Option Value → sm_M → Prop) (x1 : Int32) :
    sm_wp X 202 13 [some (.ref 0), some (.int x1)] [] (sM mo G I J) Q =
    (sm_wp X 114 0 [some (.ref 1), some (.int x1)] [] (sM mo G I J) (fun v M => sm_wp X 202 21 [some (.ref 0), some (.int x1)] (v.toList ++ []) M Q)) :=
  (sm_blk X 202 13 (tt_lin 202 (by decide)) rfl rfl _ _ _ _).trans rfl
set_option maxRecDepth 100000 in
theorem bk_202_21 (X : (Nat → Int32) × Nat) (mo : Bool) (G : Nat × Nat) (I : Nat → Nat → Int32) (J : Nat → Nat → Int64) (Q : Option Value → sm_M → Prop) (x1 : Int32) :
    sm_wp X 202 21 [some (.ref 0), some (.int x1)] [] (sM mo G I J) Q =
    (sm_wp X 86 0 [some (.ref 31), some (.int x1), none, none] [] (sM mo G I J) (fun v M => sm_wp X 202 29 [some (.ref 0), some (.int x1)] (v.toList ++ []) M Q)) :=
  (sm_blk X 202 21 (tt_lin 202 (by decide)) rfl rfl _ _ _ _).trans rfl
set_option maxRecDepth 100000 in
theorem bk_202_29 (X : (Nat → Int32) × Nat) (mo : Bool) (G : Nat × Nat) (I : Nat → Nat → Int32) (J : Nat → Nat → Int64) (Q : Option Value → sm_M → Prop) (x1 : Int32) (s0 : Int32) :
    sm_wp X 202 29 [some (.ref 0), some (.int x1)] [.int s0] (sM mo G I J) Q =
    (True ∧ Q (some (.int s0)) (sM mo G I J)) :=
  (sm_blk X 202 29 (tt_lin 202 (by decide)) rfl rfl _ _ _ _).trans rfl
set_option maxRecDepth 100000 in
theorem bk_203_0 (X : (Nat → Int32) × Nat) (mo : Bool) (G : Nat × Nat) (I : Nat → Nat → Int32) (J : Nat → Nat → Int64) (Q : Option Value → sm_M → Prop) (x1 : Int32) (x2 : Int32) (x3 : Int32) :
    sm_wp X 203 0 [some (.ref 0), some (.int x1), some (.int x2), some (.int x3)] [] (sM mo G I J) Q =
    (sm_wp X 115 0 [some (.ref 1), some (.int x1), some (.int x2), some (.int x3), none] [] (sM mo G I J) (fun v M => sm_wp X 203 10 [some (.ref 0), some (.int x1), some (.int x2), some (.int x3)] (v.toList ++ []) M Q)) :=
  (sm_blk X 203 0 (tt_lin 203 (by decide)) rfl rfl _ _ _ _).trans rfl
set_option maxRecDepth 100000 in
theorem bk_203_10 (X : (Nat → Int32) × Nat) (mo : Bool) (G : Nat × Nat) (I : Nat → Nat → Int32) (J : Nat → Nat → Int64) (Q : Option Value → sm_M → Prop) (x1 : Int32) (x2 : Int32) (x3 : Int32) (s0 : Int32) :
    sm_wp X 203 10 [some (.ref 0), some (.int x1), some (.int x2), some (.int x3)] [.int s0] (sM mo G I J) Q =
    (True ∧ Q (some (.int s0)) (sM mo G I J)) :=
  (sm_blk X 203 10 (tt_lin 203 (by decide)) rfl rfl _ _ _ _).trans rfl
set_option maxRecDepth 100000 in
theorem bk_204_0 (X : (Nat → Int32) × Nat) (mo : Bool) (G : Nat × Nat) (I : Nat → Nat → Int32) (J : Nat → Nat → Int64) (Q : Option Value → sm_M → Prop) (x1 : Int32) :
    sm_wp X 204 0 [some (.ref 0), some (.int x1)] [] (sM mo G I J) Q =
    (if (x1 : Int32) = 0 then sm_wp X 204 48 [some (.ref 0), some (.int x1)] [] (sM mo G I J) Q else if (x1 : Int32) = 1 then sm_wp X 204 56 [some (.ref 0), some (.int x1)] [] (sM mo G I J) Q else if (x1 : Int32) = 2 then sm_wp X 204 64 [some (.ref 0), some (.int x1)] [] (sM mo G I J) Q else if (x1 : Int32) = 3 then sm_wp X 204 72 [some (.ref 0), some (.int x1)] [] (sM mo G I J) Q else if (x1 : Int32) = 4 then sm_wp X 204 80 [some (.ref 0), some (.int x1)] [] (sM mo G I J) Q else if (x1 : Int32) = 5 then sm_wp X 204 88 [some (.ref 0), some (.int x1)] [] (sM mo G I J) Q else if (x1 : Int32) = 6 then sm_wp X 204 96 [some (.ref 0), some (.int x1)] [] (sM mo G I J) Q else if (x1 : Int32) = 7 then sm_wp X 204 104 [some (.ref 0), some (.int x1)] [] (sM mo G I J) Q else sm_wp X 204 112 [some (.ref 0), some (.int x1)] [] (sM mo G I J) Q) :=
  (sm_blk X 204 0 (tt_lin 204 (by decide)) rfl rfl _ _ _ _).trans rfl
set_option maxRecDepth 100000 in
theorem bk_204_48 (X : (Nat → Int32) × Nat) (mo : Bool) (G : Nat × Nat) (I : Nat → Nat → Int32) (J : Nat → Nat → Int64) (Q : Option Value → sm_M → Prop) (x1 : Int32) :
    sm_wp X 204 48 [some (.ref 0), some (.int x1)] [] (sM mo G I J) Q =
    (True ∧ Q (some (.int (I 1 0))) (sM mo G I J)) :=
  (sm_blk X 204 48 (tt_lin 204 (by decide)) rfl rfl _ _ _ _).trans rfl
set_option maxRecDepth 100000 in
theorem bk_204_56 (X : (Nat → Int32) × Nat) (mo : Bool) (G : Nat × Nat) (I : Nat → Nat → Int32) (J : Nat → Nat → Int64) (Q : Option Value → sm_M → Prop) (x1 : Int32) :
    sm_wp X 204 56 [some (.ref 0), some (.int x1)] [] (sM mo G I J) Q =
    (True ∧ Q (some (.int (I 1 1))) (sM mo G I J)) :=
  (sm_blk X 204 56 (tt_lin 204 (by decide)) rfl rfl _ _ _ _).trans rfl
set_option maxRecDepth 100000 in
theorem bk_204_64 (X : (Nat → Int32) × Nat) (mo : Bool) (G : Nat × Nat) (I : Nat → Nat → Int32) (J : Nat → Nat → Int64) (Q : Option Value → sm_M → Prop) (x1 : Int32) :
    sm_wp X 204 64 [some (.ref 0), some (.int x1)] [] (sM mo G I J) Q =
    (True ∧ Q (some (.int (I 1 2))) (sM mo G I J)) :=
  (sm_blk X 204 64 (tt_lin 204 (by decide)) rfl rfl _ _ _ _).trans rfl
set_option maxRecDepth 100000 in
theorem bk_204_72 (X : (Nat → Int32) × Nat) (mo : Bool) (G : Nat × Nat) (I : Nat → Nat → Int32) (J : Nat → Nat → Int64) (Q : Option Value → sm_M → Prop) (x1 : Int32) :
    sm_wp X 204 72 [some (.ref 0), some (.int x1)] [] (sM mo G I J) Q =
    (True ∧ Q (some (.int (I 31 0))) (sM mo G I J)) :=
  (sm_blk X 204 72 (tt_lin 204 (by decide)) rfl rfl _ _ _ _).trans rfl
set_option maxRecDepth 100000 in
theorem bk_204_80 (X : (Nat → Int32) × Nat) (mo : Bool) (G : Nat × Nat) (I : Nat → Nat → Int32) (J : Nat → Nat → Int64) (Q : Option Value → sm_M → Prop) (x1 : Int32) :
    sm_wp X 204 80 [some (.ref 0), some (.int x1)] [] (sM mo G I J) Q =
    (True ∧ Q (some (.int (I 1 3))) (sM mo G I J)) :=
  (sm_blk X 204 80 (tt_lin 204 (by decide)) rfl rfl _ _ _ _).trans rfl
set_option maxRecDepth 100000 in
theorem bk_204_88 (X : (Nat → Int32) × Nat) (mo : Bool) (G : Nat × Nat) (I : Nat → Nat → Int32) (J : Nat → Nat → Int64) (Q : Option Value → sm_M → Prop) (x1 : Int32) :
    sm_wp X 204 88 [some (.ref 0), some (.int x1)] [] (sM mo G I J) Q =
    (True ∧ Q (some (.int (I 71 0))) (sM mo G I J)) :=
  (sm_blk X 204 88 (tt_lin 204 (by decide)) rfl rfl _ _ _ _).trans rfl
set_option maxRecDepth 100000 in
theorem bk_204_96 (X : (Nat → Int32) × Nat) (mo : Bool) (G : Nat × Nat) (I : Nat → Nat → Int32) (J : Nat → Nat → Int64) (Q : Option Value → sm_M → Prop) (x1 : Int32) :
    sm_wp X 204 96 [some (.ref 0), some (.int x1)] [] (sM mo G I J) Q =
    (True ∧ Q (some (.int (I 26 0))) (sM mo G I J)) :=
  (sm_blk X 204 96 (tt_lin 204 (by decide)) rfl rfl _ _ _ _).trans rfl
set_option maxRecDepth 100000 in
theorem bk_204_104 (X : (Nat → Int32) × Nat) (mo : Bool) (G : Nat × Nat) (I : Nat → Nat → Int32) (J : Nat → Nat → Int64) (Q : Option Value → sm_M → Prop) (x1 : Int32) :
    sm_wp X 204 104 [some (.ref 0), some (.int x1)] [] (sM mo G I J) Q =
    (sm_wp X 116 0 [some (.ref 1)] [] (sM mo G I J) (fun v M => sm_wp X 204 111 [some (.ref 0), some (.int x1)] (v.toList ++ []) M Q)) :=
  (sm_blk X 204 104 (tt_lin 204 (by decide)) rfl rfl _ _ _ _).trans rfl
set_option maxRecDepth 100000 in
theorem bk_204_111 (X : (Nat → Int32) × Nat) (mo : Bool) (G : Nat × Nat) (I : Nat → Nat → Int32) (J : Nat → Nat → Int64) (Q : Option Value → sm_M → Prop) (x1 : Int32) (s0 : Int32) :
    sm_wp X 204 111 [some (.ref 0), some (.int x1)] [.int s0] (sM mo G I J) Q =
    (True ∧ Q (some (.int s0)) (sM mo G I J)) :=
  (sm_blk X 204 111 (tt_lin 204 (by decide)) rfl rfl _ _ _ _).trans rfl
set_option maxRecDepth 100000 in
theorem bk_204_112 (X : (Nat → Int32) × Nat) (mo : Bool) (G : Nat × Nat) (I : Nat → Nat → Int32) (J : Nat → Nat → Int64) (Q : Option Value → sm_M → Prop) (x1 : Int32) :
    sm_wp X 204 112 [some (.ref 0), some (.int x1)] [] (sM mo G I J) Q =
    (True ∧ Q (some (.int (-1))) (sM mo G I J)) :=
  (sm_blk X 204 112 (tt_lin 204 (by decide)) rfl rfl _ _ _ _).trans rfl
