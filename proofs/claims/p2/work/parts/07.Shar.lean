set_option maxRecDepth 100000 in
theorem bk_145_0 (X : (Nat → Int32) × Nat) (G : Nat × Nat) (I : Nat → Nat → Int32) (J : Nat → Nat → Int64) (Q : Option Value → sm_M → Prop)  :
    sm_wp X 145 0 [some (.ref 48), none, none, none] [] (sM true G I J) Q =
    (if ¬ (I 48 1 : Int32) = (I 1 4 : Int32) then sm_wp X 145 19 [some (.ref 48), none, none, none] [] (sM true G I J) Q else (True ∧ Q (some (.int (I 48 2))) (sM true G I J))) :=
  (sm_blk X 145 0 (tt_lin 145 (by decide)) rfl rfl _ _ _ _).trans rfl
-- Shar_rivalPairs 145 at 19: newarray
set_option maxRecDepth 100000 in
theorem bk_145_55 (X : (Nat → Int32) × Nat) (G : Nat × Nat) (I : Nat → Nat → Int32) (J : Nat → Nat → Int64) (Q : Option Value → sm_M → Prop)  :
    sm_wp X 145 55 [some (.ref 48), none, none, none] [] (sM true G I J) Q =
    (sm_wp X 145 59 [some (.ref 48), some (.int 0), some (.int 1), none] [] (sM true G I J) Q) :=
  (sm_blk X 145 55 (tt_lin 145 (by decide)) rfl rfl _ _ _ _).trans rfl
set_option maxRecDepth 100000 in
theorem bk_145_59 (X : (Nat → Int32) × Nat) (G : Nat × Nat) (I : Nat → Nat → Int32) (J : Nat → Nat → Int64) (Q : Option Value → sm_M → Prop) (x1 : Int32) (x2 : Int32) :
    sm_wp X 145 59 [some (.ref 48), some (.int x1), some (.int x2), none] [] (sM true G I J) Q =
    (if (I 1 1 : Int32) ≤ (x2 : Int32) then sm_wp X 145 138 [some (.ref 48), some (.int x1), some (.int x2), none] [] (sM true G I J) Q else (sm_wp X 145 72 [some (.ref 48), some (.int x1), some (.int x2), some (.int 0)] [] (sM true G I J) Q)) :=
  (sm_blk X 145 59 (tt_lin 145 (by decide)) rfl rfl _ _ _ _).trans rfl
set_option maxRecDepth 100000 in
theorem bk_145_72 (X : (Nat → Int32) × Nat) (G : Nat × Nat) (I : Nat → Nat → Int32) (J : Nat → Nat → Int64) (Q : Option Value → sm_M → Prop) (x1 : Int32) (x2 : Int32) (x3 : Int32) :
    sm_wp X 145 72 [some (.ref 48), some (.int x1), some (.int x2), some (.int x3)] [] (sM true G I J) Q =
    (if (x2 : Int32) ≤ (x3 : Int32) then sm_wp X 145 132 [some (.ref 48), some (.int x1), some (.int x2), some (.int x3)] [] (sM true G I J) Q else (sm_wp X 146 0 [some (.ref 48), some (.int x1), some (.int x3), some (.int x2), none, none, none, none, none] [] (sM true G I J) (fun v M => sm_wp X 145 84 [some (.ref 48), some (.int x1), some (.int x2), some (.int x3)] (v.toList ++ []) M Q))) :=
  (sm_blk X 145 72 (tt_lin 145 (by decide)) rfl rfl _ _ _ _).trans rfl
set_option maxRecDepth 100000 in
theorem bk_145_84 (X : (Nat → Int32) × Nat) (G : Nat × Nat) (I : Nat → Nat → Int32) (J : Nat → Nat → Int64) (Q : Option Value → sm_M → Prop) (x1 : Int32) (x2 : Int32) (x3 : Int32) (s0 : Int32) :
    sm_wp X 145 84 [some (.ref 48), some (.int x1), some (.int x2), some (.int x3)] [.int s0] (sM true G I J) Q =
    (sm_wp X 111 0 [some (.ref 1), some (.int x3)] [] (sM true G I J) (fun v M => sm_wp X 145 96 [some (.ref 48), some (.int s0), some (.int x2), some (.int x3)] (v.toList ++ [.int x2, .int x3, .ref 48]) M Q)) :=
  (sm_blk X 145 84 (tt_lin 145 (by decide)) rfl rfl _ _ _ _).trans rfl
set_option maxRecDepth 100000 in
theorem bk_145_96 (X : (Nat → Int32) × Nat) (G : Nat × Nat) (I : Nat → Nat → Int32) (J : Nat → Nat → Int64) (Q : Option Value → sm_M → Prop) (x1 : Int32) (x2 : Int32) (x3 : Int32) (s1 : Int32) (s2 : Int32) (s3 : Int32) :
    sm_wp X 145 96 [some (.ref 48), some (.int x1), some (.int x2), some (.int x3)] [.int s3, .int s2, .int s1, .ref 48] (sM true G I J) Q =
    (sm_wp X 111 0 [some (.ref 1), some (.int x2)] [] (sM true G I J) (fun v M => sm_wp X 145 104 [some (.ref 48), some (.int x1), some (.int x2), some (.int x3)] (v.toList ++ [.int s3, .int s2, .int s1, .ref 48]) M Q)) :=
  (sm_blk X 145 96 (tt_lin 145 (by decide)) rfl rfl _ _ _ _).trans rfl
set_option maxRecDepth 100000 in
theorem bk_145_104 (X : (Nat → Int32) × Nat) (G : Nat × Nat) (I : Nat → Nat → Int32) (J : Nat → Nat → Int64) (Q : Option Value → sm_M → Prop) (x1 : Int32) (x2 : Int32) (x3 : Int32) (s1 : Int32) (s2 : Int32) (s3 : Int32) (s4 : Int32) :
    sm_wp X 145 104 [some (.ref 48), some (.int x1), some (.int x2), some (.int x3)] [.int s4, .int s3, .int s2, .int s1, .ref 48] (sM true G I J) Q =
    (sm_wp X 149 0 [some (.ref 48), some (.int s1), some (.int s2), some (.int s3), some (.int s4), none, none] [] (sM true G I J) (fun v M => sm_wp X 145 107 [some (.ref 48), some (.int x1), some (.int x2), some (.int x3)] (v.toList ++ []) M Q)) :=
  (sm_blk X 145 104 (tt_lin 145 (by decide)) rfl rfl _ _ _ _).trans rfl
set_option maxRecDepth 100000 in
theorem bk_145_107 (X : (Nat → Int32) × Nat) (G : Nat × Nat) (I : Nat → Nat → Int32) (J : Nat → Nat → Int64) (Q : Option Value → sm_M → Prop) (x1 : Int32) (x2 : Int32) (x3 : Int32) (s0 : Int32) :
    sm_wp X 145 107 [some (.ref 48), some (.int x1), some (.int x2), some (.int x3)] [.int s0] (sM true G I J) Q =
    (if (s0 : Int32) = 0 then sm_wp X 145 126 [some (.ref 48), some (.int x1), some (.int x2), some (.int x3)] [] (sM true G I J) Q else (sm_wp X 147 0 [some (.int x3), some (.int x2)] [] (sM true G I J) (fun v M => sm_wp X 145 121 [some (.ref 48), some (.int x1), some (.int x2), some (.int x3)] (v.toList ++ [.int 1, .int (I 48 2), .ref 48]) M Q))) :=
  (sm_blk X 145 107 (tt_lin 145 (by decide)) rfl rfl _ _ _ _).trans rfl
set_option maxRecDepth 100000 in
theorem bk_145_121 (X : (Nat → Int32) × Nat) (G : Nat × Nat) (I : Nat → Nat → Int32) (J : Nat → Nat → Int64) (Q : Option Value → sm_M → Prop) (x1 : Int32) (x2 : Int32) (x3 : Int32) (s1 : Int32) (s2 : Int32) (s3 : Int32) :
    sm_wp X 145 121 [some (.ref 48), some (.int x1), some (.int x2), some (.int x3)] [.int s3, .int s2, .int s1, .ref 48] (sM true G I J) Q =
    (sm_wp X 145 72 [some (.ref 48), some (.int x1), some (.int x2), some (.int (x3 + 1))] [] (sM true G (up2 I 48 2 (s1 ||| (s2 <<< (s3 &&& 31)))) J) Q) :=
  (sm_blk X 145 121 (tt_lin 145 (by decide)) rfl rfl _ _ _ _).trans rfl
set_option maxRecDepth 100000 in
theorem bk_145_126 (X : (Nat → Int32) × Nat) (G : Nat × Nat) (I : Nat → Nat → Int32) (J : Nat → Nat → Int64) (Q : Option Value → sm_M → Prop) (x1 : Int32) (x2 : Int32) (x3 : Int32) :
    sm_wp X 145 126 [some (.ref 48), some (.int x1), some (.int x2), some (.int x3)] [] (sM true G I J) Q =
    (sm_wp X 145 72 [some (.ref 48), some (.int x1), some (.int x2), some (.int (x3 + 1))] [] (sM true G I J) Q) :=
  (sm_blk X 145 126 (tt_lin 145 (by decide)) rfl rfl _ _ _ _).trans rfl
set_option maxRecDepth 100000 in
theorem bk_145_132 (X : (Nat → Int32) × Nat) (G : Nat × Nat) (I : Nat → Nat → Int32) (J : Nat → Nat → Int64) (Q : Option Value → sm_M → Prop) (x1 : Int32) (x2 : Int32) (x3 : Int32) :
    sm_wp X 145 132 [some (.ref 48), some (.int x1), some (.int x2), some (.int x3)] [] (sM true G I J) Q =
    (sm_wp X 145 59 [some (.ref 48), some (.int x1), some (.int (x2 + 1)), none] [] (sM true G I J) Q) :=
  (sm_blk X 145 132 (tt_lin 145 (by decide)) rfl rfl _ _ _ _).trans rfl
set_option maxRecDepth 100000 in
theorem bk_145_138 (X : (Nat → Int32) × Nat) (G : Nat × Nat) (I : Nat → Nat → Int32) (J : Nat → Nat → Int64) (Q : Option Value → sm_M → Prop) (x1 : Int32) (x2 : Int32) :
    sm_wp X 145 138 [some (.ref 48), some (.int x1), some (.int x2), none] [] (sM true G I J) Q =
    (True ∧ Q (some (.int (I 48 2))) (sM true G I J)) :=
  (sm_blk X 145 138 (tt_lin 145 (by decide)) rfl rfl _ _ _ _).trans rfl
set_option maxRecDepth 100000 in
theorem bkf_145_0 (X : (Nat → Int32) × Nat) (G : Nat × Nat) (I : Nat → Nat → Int32) (J : Nat → Nat → Int64) (Q : Option Value → sm_M → Prop)  :
    sm_wp X 145 0 [some (.ref 48), none, none, none] [] (sM false G I J) Q =
    (if ¬ (I 48 1 : Int32) = (I 1 4 : Int32) then sm_wp X 145 19 [some (.ref 48), none, none, none] [] (sM false G I J) Q else (True ∧ Q (some (.int (I 48 2))) (sM false G I J))) :=
  (sm_blk X 145 0 (tt_lin 145 (by decide)) rfl rfl _ _ _ _).trans rfl
-- Shar_rivalPairs 145 at 19: newarray
set_option maxRecDepth 100000 in
theorem bkf_145_55 (X : (Nat → Int32) × Nat) (G : Nat × Nat) (I : Nat → Nat → Int32) (J : Nat → Nat → Int64) (Q : Option Value → sm_M → Prop)  :
    sm_wp X 145 55 [some (.ref 48), none, none, none] [] (sM false G I J) Q =
    (sm_wp X 145 59 [some (.ref 48), some (.int 0), some (.int 1), none] [] (sM false G I J) Q) :=
  (sm_blk X 145 55 (tt_lin 145 (by decide)) rfl rfl _ _ _ _).trans rfl
set_option maxRecDepth 100000 in
theorem bkf_145_59 (X : (Nat → Int32) × Nat) (G : Nat × Nat) (I : Nat → Nat → Int32) (J : Nat → Nat → Int64) (Q : Option Value → sm_M → Prop) (x1 : Int32) (x2 : Int32) :
    sm_wp X 145 59 [some (.ref 48), some (.int x1), some (.int x2), none] [] (sM false G I J) Q =
    (if (I 1 1 : Int32) ≤ (x2 : Int32) then sm_wp X 145 138 [some (.ref 48), some (.int x1), some (.int x2), none] [] (sM false G I J) Q else (sm_wp X 145 72 [some (.ref 48), some (.int x1), some (.int x2), some (.int 0)] [] (sM false G I J) Q)) :=
  (sm_blk X 145 59 (tt_lin 145 (by decide)) rfl rfl _ _ _ _).trans rfl
set_option maxRecDepth 100000 in
theorem bkf_145_72 (X : (Nat → Int32) × Nat) (G : Nat × Nat) (I : Nat → Nat → Int32) (J : Nat → Nat → Int64) (Q : Option Value → sm_M → Prop) (x1 : Int32) (x2 : Int32) (x3 : Int32) :
    sm_wp X 145 72 [some (.ref 48), some (.int x1), some (.int x2), some (.int x3)] [] (sM false G I J) Q =
    (if (x2 : Int32) ≤ (x3 : Int32) then sm_wp X 145 132 [some (.ref 48), some (.int x1), some (.int x2), some (.int x3)] [] (sM false G I J) Q else (sm_wp X 146 0 [some (.ref 48), some (.int x1), some (.int x3), some (.int x2), none, none, none, none, none] [] (sM false G I J) (fun v M => sm_wp X 145 84 [some (.ref 48), some (.int x1), some (.int x2), some (.int x3)] (v.toList ++ []) M Q))) :=
  (sm_blk X 145 72 (tt_lin 145 (by decide)) rfl rfl _ _ _ _).trans rfl
set_option maxRecDepth 100000 in
theorem bkf_145_84 (X : (Nat → Int32) × Nat) (G : Nat × Nat) (I : Nat → Nat → Int32) (J : Nat → Nat → Int64) (Q : Option Value → sm_M → Prop) (x1 : Int32) (x2 : Int32) (x3 : Int32) (s0 : Int32) :
    sm_wp X 145 84 [some (.ref 48), some (.int x1), some (.int x2), some (.int x3)] [.int s0] (sM false G I J) Q =
    (sm_wp X 111 0 [some (.ref 1), some (.int x3)] [] (sM false G I J) (fun v M => sm_wp X 145 96 [some (.ref 48), some (.int s0), some (.int x2), some (.int x3)] (v.toList ++ [.int x2, .int x3, .ref 48]) M Q)) :=
  (sm_blk X 145 84 (tt_lin 145 (by decide)) rfl rfl _ _ _ _).trans rfl
set_option maxRecDepth 100000 in
theorem bkf_145_96 (X : (Nat → Int32) × Nat) (G : Nat × Nat) (I : Nat → Nat → Int32) (J : Nat → Nat → Int64) (Q : Option Value → sm_M → Prop) (x1 : Int32) (x2 : Int32) (x3 : Int32) (s1 : Int32) (s2 : Int32) (s3 : Int32) :
    sm_wp X 145 96 [some (.ref 48), some (.int x1), some (.int x2), some (.int x3)] [.int s3, .int s2, .int s1, .ref 48] (sM false G I J) Q =
    (sm_wp X 111 0 [some (.ref 1), some (.int x2)] [] (sM false G I J) (fun v M => sm_wp X 145 104 [some (.ref 48), some (.int x1), some (.int x2), some (.int x3)] (v.toList ++ [.int s3, .int s2, .int s1, .ref 48]) M Q)) :=
  (sm_blk X 145 96 (tt_lin 145 (by decide)) rfl rfl _ _ _ _).trans rfl
set_option maxRecDepth 100000 in
theorem bkf_145_104 (X : (Nat → Int32) × Nat) (G : Nat × Nat) (I : Nat → Nat → Int32) (J : Nat → Nat → Int64) (Q : Option Value → sm_M → Prop) (x1 : Int32) (x2 : Int32) (x3 : Int32) (s1 : Int32) (s2 : Int32) (s3 : Int32) (s4 : Int32) :
    sm_wp X 145 104 [some (.ref 48), some (.int x1), some (.int x2), some (.int x3)] [.int s4, .int s3, .int s2, .int s1, .ref 48] (sM false G I J) Q =
    (sm_wp X 149 0 [some (.ref 48), some (.int s1), some (.int s2), some (.int s3), some (.int s4), none, none] [] (sM false G I J) (fun v M => sm_wp X 145 107 [some (.ref 48), some (.int x1), some (.int x2), some (.int x3)] (v.toList ++ []) M Q)) :=
  (sm_blk X 145 104 (tt_lin 145 (by decide)) rfl rfl _ _ _ _).trans rfl
set_option maxRecDepth 100000 in
theorem bkf_145_107 (X : (Nat → Int32) × Nat) (G : Nat × Nat) (I : Nat → Nat → Int32) (J : Nat → Nat → Int64) (Q : Option Value → sm_M → Prop) (x1 : Int32) (x2 : Int32) (x3 : Int32) (s0 : Int32) :
    sm_wp X 145 107 [some (.ref 48), some (.int x1), some (.int x2), some (.int x3)] [.int s0] (sM false G I J) Q =
    (if (s0 : Int32) = 0 then sm_wp X 145 126 [some (.ref 48), some (.int x1), some (.int x2), some (.int x3)] [] (sM false G I J) Q else (sm_wp X 147 0 [some (.int x3), some (.int x2)] [] (sM false G I J) (fun v M => sm_wp X 145 121 [some (.ref 48), some (.int x1), some (.int x2), some (.int x3)] (v.toList ++ [.int 1, .int (I 48 2), .ref 48]) M Q))) :=
  (sm_blk X 145 107 (tt_lin 145 (by decide)) rfl rfl _ _ _ _).trans rfl
set_option maxRecDepth 100000 in
theorem bkf_145_121 (X : (Nat → Int32) × Nat) (G : Nat × Nat) (I : Nat → Nat → Int32) (J : Nat → Nat → Int64) (Q : Option Value → sm_M → Prop) (x1 : Int32) (x2 : Int32) (x3 : Int32) (s1 : Int32) (s2 : Int32) (s3 : Int32) :
    sm_wp X 145 121 [some (.ref 48), some (.int x1), some (.int x2), some (.int x3)] [.int s3, .int s2, .int s1, .ref 48] (sM false G I J) Q =
    (sm_wp X 145 72 [some (.ref 48), some (.int x1), some (.int x2), some (.int (x3 + 1))] [] (sM false G (up2 I 48 2 (s1 ||| (s2 <<< (s3 &&& 31)))) J) Q) :=
  (sm_blk X 145 121 (tt_lin 145 (by decide)) rfl rfl _ _ _ _).trans rfl
set_option maxRecDepth 100000 in
theorem bkf_145_126 (X : (Nat → Int32) × Nat) (G : Nat × Nat) (I : Nat → Nat → Int32) (J : Nat → Nat → Int64) (Q : Option Value → sm_M → Prop) (x1 : Int32) (x2 : Int32) (x3 : Int32) :
    sm_wp X 145 126 [some (.ref 48), some (.int x1), some (.int x2), some (.int x3)] [] (sM false G I J) Q =
    (sm_wp X 145 72 [some (.ref 48), some (.int x1), some (.int x2), some (.int (x3 + 1))] [] (sM false G I J) Q) :=
  (sm_blk X 145 126 (tt_lin 145 (by decide)) rfl rfl _ _ _ _).trans rfl
set_option maxRecDepth 100000 in
theorem bkf_145_132 (X : (Nat → Int32) × Nat) (G : Nat × Nat) (I : Nat → Nat → Int32) (J : Nat → Nat → Int64) (Q : Option Value → sm_M → Prop) (x1 : Int32) (x2 : Int32) (x3 : Int32) :
    sm_wp X 145 132 [some (.ref 48), some (.int x1), some (.int x2), some (.int x3)] [] (sM false G I J) Q =
    (sm_wp X 145 59 [some (.ref 48), some (.int x1), some (.int (x2 + 1)), none] [] (sM false G I J) Q) :=
  (sm_blk X 145 132 (tt_lin 145 (by decide)) rfl rfl _ _ _ _).trans rfl
set_option maxRecDepth 100000 in
theorem bkf_145_138 (X : (Nat → Int32) × Nat) (G : Nat × Nat) (I : Nat → Nat → Int32) (J : Nat → Nat → Int64) (Q : Option Value → sm_M → Prop) (x1 : Int32) (x2 : Int32) :
    sm_wp X 145 138 [some (.ref 48), some (.int x1), some (.int x2), none] [] (sM false G I J) Q =
    (True ∧ Q (some (.int (I 48 2))) (sM false G I J)) :=
  (sm_blk X 145 138 (tt_lin 145 (by decide)) rfl rfl _ _ _ _).trans rfl
set_option maxRecDepth 100000 in
theorem bk_146_0 (X : (Nat → Int32) × Nat) (G : Nat × Nat) (I : Nat → Nat → Int32) (J : Nat → Nat → Int64) (Q : Option Value → sm_M → Prop) (x1 : Int32) (x2 : Int32) (x3 : Int32) :
    sm_wp X 146 0 [some (.ref 48), some (.int x1), some (.int x2), some (.int x3), none, none, none, none, none] [] (sM true G I J) Q =
    (sm_wp X 147 0 [some (.int x2), some (.int x3)] [] (sM true G I J) (fun v M => sm_wp X 146 5 [some (.ref 48), some (.int x1), some (.int x2), some (.int x3), none, none, none, none, none] (v.toList ++ []) M Q)) :=
  (sm_blk X 146 0 (tt_lin 146 (by decide)) rfl rfl _ _ _ _).trans rfl
set_option maxRecDepth 100000 in
theorem bk_146_5 (X : (Nat → Int32) × Nat) (G : Nat × Nat) (I : Nat → Nat → Int32) (J : Nat → Nat → Int64) (Q : Option Value → sm_M → Prop) (x1 : Int32) (x2 : Int32) (x3 : Int32) (s0 : Int32) :
    sm_wp X 146 5 [some (.ref 48), some (.int x1), some (.int x2), some (.int x3), none, none, none, none, none] [.int s0] (sM true G I J) Q =
    (sm_wp X 105 0 [some (.ref 1), some (.int x2), none, none] [] (sM true G I J) (fun v M => sm_wp X 146 15 [some (.ref 48), some (.int x1), some (.int x2), some (.int x3), some (.int s0), none, none, none, none] (v.toList ++ []) M Q)) :=
  (sm_blk X 146 5 (tt_lin 146 (by decide)) rfl rfl _ _ _ _).trans rfl
set_option maxRecDepth 100000 in
theorem bk_146_15 (X : (Nat → Int32) × Nat) (G : Nat × Nat) (I : Nat → Nat → Int32) (J : Nat → Nat → Int64) (Q : Option Value → sm_M → Prop) (x1 : Int32) (x2 : Int32) (x3 : Int32) (x4 : Int32) (s0 : Int32) :
    sm_wp X 146 15 [some (.ref 48), some (.int x1), some (.int x2), some (.int x3), some (.int x4), none, none, none, none] [.int s0] (sM true G I J) Q =
    (sm_wp X 105 0 [some (.ref 1), some (.int x3), none, none] [] (sM true G I J) (fun v M => sm_wp X 146 23 [some (.ref 48), some (.int x1), some (.int x2), some (.int x3), some (.int x4), none, none, none, none] (v.toList ++ [.int s0]) M Q)) :=
  (sm_blk X 146 15 (tt_lin 146 (by decide)) rfl rfl _ _ _ _).trans rfl
set_option maxRecDepth 100000 in
theorem bk_146_23 (X : (Nat → Int32) × Nat) (G : Nat × Nat) (I : Nat → Nat → Int32) (J : Nat → Nat → Int64) (Q : Option Value → sm_M → Prop) (x1 : Int32) (x2 : Int32) (x3 : Int32) (x4 : Int32) (s0 : Int32) (s1 : Int32) :
    sm_wp X 146 23 [some (.ref 48), some (.int x1), some (.int x2), some (.int x3), some (.int x4), none, none, none, none] [.int s1, .int s0] (sM true G I J) Q =
    (sm_wp X 103 0 [some (.ref 1), some (.int x2), some (.int (s0 ||| s1)), none, none] [] (sM true G I J) (fun v M => sm_wp X 146 37 [some (.ref 48), some (.int x1), some (.int x2), some (.int x3), some (.int x4), some (.int (s0 ||| s1)), none, none, none] (v.toList ++ [.int x1]) M Q)) :=
  (sm_blk X 146 23 (tt_lin 146 (by decide)) rfl rfl _ _ _ _).trans rfl
set_option maxRecDepth 100000 in
theorem bk_146_37 (X : (Nat → Int32) × Nat) (G : Nat × Nat) (I : Nat → Nat → Int32) (J : Nat → Nat → Int64) (Q : Option Value → sm_M → Prop) (x1 : Int32) (x2 : Int32) (x3 : Int32) (x4 : Int32) (x5 : Int32) (s0 : Int32) (s1 : Int32) :
    sm_wp X 146 37 [some (.ref 48), some (.int x1), some (.int x2), some (.int x3), some (.int x4), some (.int x5), none, none, none] [.int s1, .int s0] (sM true G I J) Q =
    (if (x4 : Int32) < 0 then sm_wp X 146 66 [some (.ref 48), some (.int x1), some (.int x2), some (.int x3), some (.int x4), some (.int x5), some (.int (s0 + s1)), none, none] [] (sM true G I J) Q else (if (15 : Int32) ≤ (x4 : Int32) then sm_wp X 146 66 [some (.ref 48), some (.int x1), some (.int x2), some (.int x3), some (.int x4), some (.int x5), some (.int (s0 + s1)), none, none] [] (sM true G I J) Q else (if (x1 : Int32) < 0 then sm_wp X 146 66 [some (.ref 48), some (.int x1), some (.int x2), some (.int x3), some (.int x4), some (.int x5), some (.int (s0 + s1)), none, none] [] (sM true G I J) Q else (if (s0 + s1 : Int32) < (Int32.ofNat 5955 : Int32) then sm_wp X 146 68 [some (.ref 48), some (.int x1), some (.int x2), some (.int x3), some (.int x4), some (.int x5), some (.int (s0 + s1)), none, none] [] (sM true G I J) Q else (True ∧ Q (some (.int x1)) (sM true G I J)))))) :=
  (sm_blk X 146 37 (tt_lin 146 (by decide)) rfl rfl _ _ _ _).trans rfl
set_option maxRecDepth 100000 in
theorem bk_146_66 (X : (Nat → Int32) × Nat) (G : Nat × Nat) (I : Nat → Nat → Int32) (J : Nat → Nat → Int64) (Q : Option Value → sm_M → Prop) (x1 : Int32) (x2 : Int32) (x3 : Int32) (x4 : Int32) (x5 : Int32) (x6 : Int32) :
    sm_wp X 146 66 [some (.ref 48), some (.int x1), some (.int x2), some (.int x3), some (.int x4), some (.int x5), some (.int x6), none, none] [] (sM true G I J) Q =
    (True ∧ Q (some (.int x1)) (sM true G I J)) :=
  (sm_blk X 146 66 (tt_lin 146 (by decide)) rfl rfl _ _ _ _).trans rfl
set_option maxRecDepth 100000 in
theorem bk_146_68 (X : (Nat → Int32) × Nat) (G : Nat × Nat) (I : Nat → Nat → Int32) (J : Nat → Nat → Int64) (Q : Option Value → sm_M → Prop) (x1 : Int32) (x2 : Int32) (x3 : Int32) (x4 : Int32) (x5 : Int32) (x6 : Int32) :
    sm_wp X 146 68 [some (.ref 48), some (.int x1), some (.int x2), some (.int x3), some (.int x4), some (.int x5), some (.int x6), none, none] [] (sM true G I J) Q =
    (vp_in x4 15 ∧ (vp_in x4 15 ∧ (sm_wp X 146 90 [some (.ref 48), some (.int x1), some (.int x2), some (.int x3), none, some (.int x5), some (.int x6), some (.int x1), none] [] (sM true G (up2 (up2 I 49 x4.toNatClampNeg x1) 50 x4.toNatClampNeg (x6 - x1)) J) Q))) :=
  (sm_blk X 146 68 (tt_lin 146 (by decide)) rfl rfl _ _ _ _).trans rfl
set_option maxRecDepth 100000 in
theorem bk_146_90 (X : (Nat → Int32) × Nat) (G : Nat × Nat) (I : Nat → Nat → Int32) (J : Nat → Nat → Int64) (Q : Option Value → sm_M → Prop) (x1 : Int32) (x2 : Int32) (x3 : Int32) (x5 : Int32) (x6 : Int32) (x7 : Int32) :
    sm_wp X 146 90 [some (.ref 48), some (.int x1), some (.int x2), some (.int x3), none, some (.int x5), some (.int x6), some (.int x7), none] [] (sM true G I J) Q =
    (if (x6 : Int32) < (x7 : Int32) then sm_wp X 146 121 [some (.ref 48), some (.int x1), some (.int x2), some (.int x3), none, some (.int x5), some (.int x6), some (.int x7), none] [] (sM true G I J) Q else (if ¬ (x7 : Int32) = (x1 : Int32) then sm_wp X 146 113 [some (.ref 48), some (.int x1), some (.int x2), some (.int x3), none, some (.int x5), some (.int x6), some (.int x7), none] [.int x7, .ref 143] (sM true G I J) Q else (sm_wp X 146 114 [some (.ref 48), some (.int x1), some (.int x2), some (.int x3), none, some (.int x5), some (.int x6), some (.int x7), none] [.int 0, .int x7, .ref 143] (sM true G I J) Q))) :=
  (sm_blk X 146 90 (tt_lin 146 (by decide)) rfl rfl _ _ _ _).trans rfl
set_option maxRecDepth 100000 in
theorem bk_146_113 (X : (Nat → Int32) × Nat) (G : Nat × Nat) (I : Nat → Nat → Int32) (J : Nat → Nat → Int64) (Q : Option Value → sm_M → Prop) (x1 : Int32) (x2 : Int32) (x3 : Int32) (x5 : Int32) (x6 : Int32) (x7 : Int32) (s1 : Int32) :
    sm_wp X 146 113 [some (.ref 48), some (.int x1), some (.int x2), some (.int x3), none, some (.int x5), some (.int x6), some (.int x7), none] [.int s1, .ref 143] (sM true G I J) Q =
    (vp_in s1 5955 ∧ (sm_wp X 146 90 [some (.ref 48), some (.int x1), some (.int x2), some (.int x3), none, some (.int x5), some (.int x6), some (.int (x7 + 1)), none] [] (sM true G (up2 I 143 s1.toNatClampNeg (-1)) J) Q)) :=
  (sm_blk X 146 113 (tt_lin 146 (by decide)) rfl rfl _ _ _ _).trans rfl
set_option maxRecDepth 100000 in
theorem bk_146_114 (X : (Nat → Int32) × Nat) (G : Nat × Nat) (I : Nat → Nat → Int32) (J : Nat → Nat → Int64) (Q : Option Value → sm_M → Prop) (x1 : Int32) (x2 : Int32) (x3 : Int32) (x5 : Int32) (x6 : Int32) (x7 : Int32) (s1 : Int32) (s2 : Int32) :
    sm_wp X 146 114 [some (.ref 48), some (.int x1), some (.int x2), some (.int x3), none, some (.int x5), some (.int x6), some (.int x7), none] [.int s2, .int s1, .ref 143] (sM true G I J) Q =
    (vp_in s1 5955 ∧ (sm_wp X 146 90 [some (.ref 48), some (.int x1), some (.int x2), some (.int x3), none, some (.int x5), some (.int x6), some (.int (x7 + 1)), none] [] (sM true G (up2 I 143 s1.toNatClampNeg s2) J) Q)) :=
  (sm_blk X 146 114 (tt_lin 146 (by decide)) rfl rfl _ _ _ _).trans rfl
set_option maxRecDepth 100000 in
theorem bk_146_121 (X : (Nat → Int32) × Nat) (G : Nat × Nat) (I : Nat → Nat → Int32) (J : Nat → Nat → Int64) (Q : Option Value → sm_M → Prop) (x1 : Int32) (x2 : Int32) (x3 : Int32) (x5 : Int32) (x6 : Int32) (x7 : Int32) :
    sm_wp X 146 121 [some (.ref 48), some (.int x1), some (.int x2), some (.int x3), none, some (.int x5), some (.int x6), some (.int x7), none] [] (sM true G I J) Q =
    (sm_wp X 146 127 [some (.ref 48), some (.int x1), some (.int x2), some (.int x3), none, some (.int x5), some (.int x6), some (.int x1), some (.int 0)] [] (sM true G I J) Q) :=
  (sm_blk X 146 121 (tt_lin 146 (by decide)) rfl rfl _ _ _ _).trans rfl
set_option maxRecDepth 100000 in
theorem bk_146_127 (X : (Nat → Int32) × Nat) (G : Nat × Nat) (I : Nat → Nat → Int32) (J : Nat → Nat → Int64) (Q : Option Value → sm_M → Prop) (x1 : Int32) (x2 : Int32) (x3 : Int32) (x5 : Int32) (x6 : Int32) (x7 : Int32) (x8 : Int32) :
    sm_wp X 146 127 [some (.ref 48), some (.int x1), some (.int x2), some (.int x3), none, some (.int x5), some (.int x6), some (.int x7), some (.int x8)] [] (sM true G I J) Q =
    (if (12 : Int32) ≤ (x8 : Int32) then sm_wp X 146 192 [some (.ref 48), some (.int x1), some (.int x2), some (.int x3), none, some (.int x5), some (.int x6), some (.int x7), some (.int x8)] [] (sM true G I J) Q else (sm_wp X 169 0 [some (.int x5), some (.int x8)] [] (sM true G I J) (fun v M => sm_wp X 146 141 [some (.ref 48), some (.int x1), some (.int x2), some (.int x3), none, some (.int x5), some (.int x6), some (.int x7), some (.int x8)] (v.toList ++ []) M Q))) :=
  (sm_blk X 146 127 (tt_lin 146 (by decide)) rfl rfl _ _ _ _).trans rfl
set_option maxRecDepth 100000 in
theorem bk_146_141 (X : (Nat → Int32) × Nat) (G : Nat × Nat) (I : Nat → Nat → Int32) (J : Nat → Nat → Int64) (Q : Option Value → sm_M → Prop) (x1 : Int32) (x2 : Int32) (x3 : Int32) (x5 : Int32) (x6 : Int32) (x7 : Int32) (x8 : Int32) (s0 : Int32) :
    sm_wp X 146 141 [some (.ref 48), some (.int x1), some (.int x2), some (.int x3), none, some (.int x5), some (.int x6), some (.int x7), some (.int x8)] [.int s0] (sM true G I J) Q =
    (if (s0 : Int32) = 0 then sm_wp X 146 186 [some (.ref 48), some (.int x1), some (.int x2), some (.int x3), none, some (.int x5), some (.int x6), some (.int x7), some (.int x8)] [] (sM true G I J) Q else (sm_wp X 104 0 [some (.ref 1), some (.int x2), some (.int x8)] [] (sM true G I J) (fun v M => sm_wp X 146 156 [some (.ref 48), some (.int x1), some (.int x2), some (.int x3), none, some (.int x5), some (.int x6), some (.int x7), some (.int x8)] (v.toList ++ [.int x7]) M Q))) :=
  (sm_blk X 146 141 (tt_lin 146 (by decide)) rfl rfl _ _ _ _).trans rfl
set_option maxRecDepth 100000 in
theorem bk_146_156 (X : (Nat → Int32) × Nat) (G : Nat × Nat) (I : Nat → Nat → Int32) (J : Nat → Nat → Int64) (Q : Option Value → sm_M → Prop) (x1 : Int32) (x2 : Int32) (x3 : Int32) (x5 : Int32) (x6 : Int32) (x7 : Int32) (x8 : Int32) (s0 : Int32) (s1 : Int32) :
    sm_wp X 146 156 [some (.ref 48), some (.int x1), some (.int x2), some (.int x3), none, some (.int x5), some (.int x6), some (.int x7), some (.int x8)] [.int s1, .int s0] (sM true G I J) Q =
    (sm_wp X 104 0 [some (.ref 1), some (.int x2), some (.int x8)] [] (sM true G I J) (fun v M => sm_wp X 146 173 [some (.ref 48), some (.int x1), some (.int x2), some (.int x3), none, some (.int x5), some (.int x6), some (.int (s0 + s1)), some (.int x8)] (v.toList ++ [.int (s0 + s1), .int x1, .ref 48]) M Q)) :=
  (sm_blk X 146 156 (tt_lin 146 (by decide)) rfl rfl _ _ _ _).trans rfl
set_option maxRecDepth 100000 in
theorem bk_146_173 (X : (Nat → Int32) × Nat) (G : Nat × Nat) (I : Nat → Nat → Int32) (J : Nat → Nat → Int64) (Q : Option Value → sm_M → Prop) (x1 : Int32) (x2 : Int32) (x3 : Int32) (x5 : Int32) (x6 : Int32) (x7 : Int32) (x8 : Int32) (s1 : Int32) (s2 : Int32) (s3 : Int32) :
    sm_wp X 146 173 [some (.ref 48), some (.int x1), some (.int x2), some (.int x3), none, some (.int x5), some (.int x6), some (.int x7), some (.int x8)] [.int s3, .int s2, .int s1, .ref 48] (sM true G I J) Q =
    (sm_wp X 104 0 [some (.ref 1), some (.int x3), some (.int x8)] [] (sM true G I J) (fun v M => sm_wp X 146 183 [some (.ref 48), some (.int x1), some (.int x2), some (.int x3), none, some (.int x5), some (.int x6), some (.int x7), some (.int x8)] (v.toList ++ [.int s3, .int s2, .int s1, .ref 48]) M Q)) :=
  (sm_blk X 146 173 (tt_lin 146 (by decide)) rfl rfl _ _ _ _).trans rfl
set_option maxRecDepth 100000 in
theorem bk_146_183 (X : (Nat → Int32) × Nat) (G : Nat × Nat) (I : Nat → Nat → Int32) (J : Nat → Nat → Int64) (Q : Option Value → sm_M → Prop) (x1 : Int32) (x2 : Int32) (x3 : Int32) (x5 : Int32) (x6 : Int32) (x7 : Int32) (x8 : Int32) (s1 : Int32) (s2 : Int32) (s3 : Int32) (s4 : Int32) :
    sm_wp X 146 183 [some (.ref 48), some (.int x1), some (.int x2), some (.int x3), none, some (.int x5), some (.int x6), some (.int x7), some (.int x8)] [.int s4, .int s3, .int s2, .int s1, .ref 48] (sM true G I J) Q =
    (sm_wp X 148 0 [some (.ref 48), some (.int s1), some (.int s2), some (.int s3), some (.int s4), none, none, none] [] (sM true G I J) (fun v M => sm_wp X 146 186 [some (.ref 48), some (.int x1), some (.int x2), some (.int x3), none, some (.int x5), some (.int x6), some (.int x7), some (.int x8)] (v.toList ++ []) M Q)) :=
  (sm_blk X 146 183 (tt_lin 146 (by decide)) rfl rfl _ _ _ _).trans rfl
set_option maxRecDepth 100000 in
theorem bk_146_186 (X : (Nat → Int32) × Nat) (G : Nat × Nat) (I : Nat → Nat → Int32) (J : Nat → Nat → Int64) (Q : Option Value → sm_M → Prop) (x1 : Int32) (x2 : Int32) (x3 : Int32) (x5 : Int32) (x6 : Int32) (x7 : Int32) (x8 : Int32) :
    sm_wp X 146 186 [some (.ref 48), some (.int x1), some (.int x2), some (.int x3), none, some (.int x5), some (.int x6), some (.int x7), some (.int x8)] [] (sM true G I J) Q =
    (sm_wp X 146 127 [some (.ref 48), some (.int x1), some (.int x2), some (.int x3), none, some (.int x5), some (.int x6), some (.int x7), some (.int (x8 + 1))] [] (sM true G I J) Q) :=
  (sm_blk X 146 186 (tt_lin 146 (by decide)) rfl rfl _ _ _ _).trans rfl
set_option maxRecDepth 100000 in
theorem bk_146_192 (X : (Nat → Int32) × Nat) (G : Nat × Nat) (I : Nat → Nat → Int32) (J : Nat → Nat → Int64) (Q : Option Value → sm_M → Prop) (x1 : Int32) (x2 : Int32) (x3 : Int32) (x5 : Int32) (x6 : Int32) (x7 : Int32) (x8 : Int32) :
    sm_wp X 146 192 [some (.ref 48), some (.int x1), some (.int x2), some (.int x3), none, some (.int x5), some (.int x6), some (.int x7), some (.int x8)] [] (sM true G I J) Q =
    (sm_wp X 146 198 [some (.ref 48), some (.int x1), none, none, none, none, some (.int x6), none, some (.int (x6 - 1))] [] (sM true G I J) Q) :=
  (sm_blk X 146 192 (tt_lin 146 (by decide)) rfl rfl _ _ _ _).trans rfl
set_option maxRecDepth 100000 in
theorem bk_146_198 (X : (Nat → Int32) × Nat) (G : Nat × Nat) (I : Nat → Nat → Int32) (J : Nat → Nat → Int64) (Q : Option Value → sm_M → Prop) (x1 : Int32) (x6 : Int32) (x8 : Int32) :
    sm_wp X 146 198 [some (.ref 48), some (.int x1), none, none, none, none, some (.int x6), none, some (.int x8)] [] (sM true G I J) Q =
    (if (x8 : Int32) < (x1 : Int32) then sm_wp X 146 236 [some (.ref 48), some (.int x1), none, none, none, none, some (.int x6), none, some (.int x8)] [] (sM true G I J) Q else (vp_in x8 5955 ∧ (vp_in (x8 + 1) 5955 ∧ (True ∧ (vp_in x8 5955 ∧ (sm_wp X 146 198 [some (.ref 48), some (.int x1), none, none, none, none, some (.int x6), none, some (.int (x8 + (-1)))] [] (sM true G (up2 I 143 x8.toNatClampNeg (if (I 143 (x8.toNatClampNeg) : Int32) < I 143 ((x8 + 1).toNatClampNeg) then I 143 ((x8 + 1).toNatClampNeg) else I 143 (x8.toNatClampNeg))) J) Q)))))) :=
  (sm_blk X 146 198 (tt_lin 146 (by decide)) rfl rfl _ _ _ _).trans rfl
set_option maxRecDepth 100000 in
theorem bk_146_236 (X : (Nat → Int32) × Nat) (G : Nat × Nat) (I : Nat → Nat → Int32) (J : Nat → Nat → Int64) (Q : Option Value → sm_M → Prop) (x1 : Int32) (x6 : Int32) (x8 : Int32) :
    sm_wp X 146 236 [some (.ref 48), some (.int x1), none, none, none, none, some (.int x6), none, some (.int x8)] [] (sM true G I J) Q =
    (True ∧ Q (some (.int (x6 + 1))) (sM true G I J)) :=
  (sm_blk X 146 236 (tt_lin 146 (by decide)) rfl rfl _ _ _ _).trans rfl
set_option maxRecDepth 100000 in
theorem bk_147_0 (X : (Nat → Int32) × Nat) (G : Nat × Nat) (I : Nat → Nat → Int32) (J : Nat → Nat → Int64) (Q : Option Value → sm_M → Prop) (x0 : Int32) (x1 : Int32) :
    sm_wp X 147 0 [some (.int x0), some (.int x1)] [] (sM true G I J) Q =
    (¬ (2 : Int32) = 0 ∧ (True ∧ Q (some (.int (((x1 * (x1 - 1)) / 2) + x0))) (sM true G I J))) :=
  (sm_blk X 147 0 (tt_lin 147 (by decide)) rfl rfl _ _ _ _).trans rfl
set_option maxRecDepth 100000 in
theorem bk_148_0 (X : (Nat → Int32) × Nat) (G : Nat × Nat) (I : Nat → Nat → Int32) (J : Nat → Nat → Int64) (Q : Option Value → sm_M → Prop) (x1 : Int32) (x2 : Int32) (x3 : Int32) (x4 : Int32) :
    sm_wp X 148 0 [some (.ref 48), some (.int x1), some (.int x2), some (.int x3), some (.int x4), none, none, none] [] (sM true G I J) Q =
    (if (x1 : Int32) < 0 then sm_wp X 148 17 [some (.ref 48), some (.int x1), some (.int x2), some (.int x3), some (.int x4), none, none, none] [] (sM true G I J) Q else (if (Int32.ofNat 5955 : Int32) ≤ (x2 : Int32) then sm_wp X 148 17 [some (.ref 48), some (.int x1), some (.int x2), some (.int x3), some (.int x4), none, none, none] [] (sM true G I J) Q else (if 0 ≤ (x3 : Int32) then sm_wp X 148 18 [some (.ref 48), some (.int x1), some (.int x2), some (.int x3), some (.int x4), none, none, none] [] (sM true G I J) Q else (True ∧ Q none (sM true G I J))))) :=
  (sm_blk X 148 0 (tt_lin 148 (by decide)) rfl rfl _ _ _ _).trans rfl
set_option maxRecDepth 100000 in
theorem bk_148_17 (X : (Nat → Int32) × Nat) (G : Nat × Nat) (I : Nat → Nat → Int32) (J : Nat → Nat → Int64) (Q : Option Value → sm_M → Prop) (x1 : Int32) (x2 : Int32) (x3 : Int32) (x4 : Int32) :
    sm_wp X 148 17 [some (.ref 48), some (.int x1), some (.int x2), some (.int x3), some (.int x4), none, none, none] [] (sM true G I J) Q =
    (True ∧ Q none (sM true G I J)) :=
  (sm_blk X 148 17 (tt_lin 148 (by decide)) rfl rfl _ _ _ _).trans rfl
set_option maxRecDepth 100000 in
theorem bk_148_18 (X : (Nat → Int32) × Nat) (G : Nat × Nat) (I : Nat → Nat → Int32) (J : Nat → Nat → Int64) (Q : Option Value → sm_M → Prop) (x1 : Int32) (x2 : Int32) (x3 : Int32) (x4 : Int32) :
    sm_wp X 148 18 [some (.ref 48), some (.int x1), some (.int x2), some (.int x3), some (.int x4), none, none, none] [] (sM true G I J) Q =
    (sm_wp X 148 21 [some (.ref 48), some (.int x1), none, some (.int x3), some (.int x4), some (.int x2), none, none] [] (sM true G I J) Q) :=
  (sm_blk X 148 18 (tt_lin 148 (by decide)) rfl rfl _ _ _ _).trans rfl
set_option maxRecDepth 100000 in
theorem bk_148_21 (X : (Nat → Int32) × Nat) (G : Nat × Nat) (I : Nat → Nat → Int32) (J : Nat → Nat → Int64) (Q : Option Value → sm_M → Prop) (x1 : Int32) (x3 : Int32) (x4 : Int32) (x5 : Int32) :
    sm_wp X 148 21 [some (.ref 48), some (.int x1), none, some (.int x3), some (.int x4), some (.int x5), none, none] [] (sM true G I J) Q =
    (if (x5 : Int32) < (x1 : Int32) then sm_wp X 148 104 [some (.ref 48), some (.int x1), none, some (.int x3), some (.int x4), some (.int x5), none, none] [] (sM true G I J) Q else (vp_in x5 5955 ∧ (if ¬ (I 143 (x5.toNatClampNeg) : Int32) = ((-1) : Int32) then sm_wp X 148 42 [some (.ref 48), some (.int x1), none, some (.int x3), some (.int x4), some (.int x5), none, none] [] (sM true G I J) Q else (sm_wp X 148 52 [some (.ref 48), some (.int x1), none, some (.int x3), some (.int x4), some (.int x5), none, none] [.int (-1)] (sM true G I J) Q)))) :=
  (sm_blk X 148 21 (tt_lin 148 (by decide)) rfl rfl _ _ _ _).trans rfl
set_option maxRecDepth 100000 in
theorem bk_148_42 (X : (Nat → Int32) × Nat) (G : Nat × Nat) (I : Nat → Nat → Int32) (J : Nat → Nat → Int64) (Q : Option Value → sm_M → Prop) (x1 : Int32) (x3 : Int32) (x4 : Int32) (x5 : Int32) :
    sm_wp X 148 42 [some (.ref 48), some (.int x1), none, some (.int x3), some (.int x4), some (.int x5), none, none] [] (sM true G I J) Q =
    (vp_in x5 5955 ∧ (if (x5 - x3 : Int32) < (x1 : Int32) then sm_wp X 148 74 [some (.ref 48), some (.int x1), none, some (.int x3), some (.int x4), some (.int x5), some (.int ((I 143 (x5.toNatClampNeg)) + x4)), none] [] (sM true G I J) Q else (vp_in (x5 - x3) 5955 ∧ (sm_wp X 148 75 [some (.ref 48), some (.int x1), none, some (.int x3), some (.int x4), some (.int x5), some (.int ((I 143 (x5.toNatClampNeg)) + x4)), none] [.int (I 143 ((x5 - x3).toNatClampNeg))] (sM true G I J) Q)))) :=
  (sm_blk X 148 42 (tt_lin 148 (by decide)) rfl rfl _ _ _ _).trans rfl
set_option maxRecDepth 100000 in
theorem bk_148_52 (X : (Nat → Int32) × Nat) (G : Nat × Nat) (I : Nat → Nat → Int32) (J : Nat → Nat → Int64) (Q : Option Value → sm_M → Prop) (x1 : Int32) (x3 : Int32) (x4 : Int32) (x5 : Int32) (s0 : Int32) :
    sm_wp X 148 52 [some (.ref 48), some (.int x1), none, some (.int x3), some (.int x4), some (.int x5), none, none] [.int s0] (sM true G I J) Q =
    (if (x5 - x3 : Int32) < (x1 : Int32) then sm_wp X 148 74 [some (.ref 48), some (.int x1), none, some (.int x3), some (.int x4), some (.int x5), some (.int s0), none] [] (sM true G I J) Q else (vp_in (x5 - x3) 5955 ∧ (sm_wp X 148 75 [some (.ref 48), some (.int x1), none, some (.int x3), some (.int x4), some (.int x5), some (.int s0), none] [.int (I 143 ((x5 - x3).toNatClampNeg))] (sM true G I J) Q))) :=
  (sm_blk X 148 52 (tt_lin 148 (by decide)) rfl rfl _ _ _ _).trans rfl
set_option maxRecDepth 100000 in
theorem bk_148_74 (X : (Nat → Int32) × Nat) (G : Nat × Nat) (I : Nat → Nat → Int32) (J : Nat → Nat → Int64) (Q : Option Value → sm_M → Prop) (x1 : Int32) (x3 : Int32) (x4 : Int32) (x5 : Int32) (x6 : Int32) :
    sm_wp X 148 74 [some (.ref 48), some (.int x1), none, some (.int x3), some (.int x4), some (.int x5), some (.int x6), none] [] (sM true G I J) Q =
    (if ((-1) : Int32) ≤ (x6 : Int32) then sm_wp X 148 95 [some (.ref 48), some (.int x1), none, some (.int x3), some (.int x4), some (.int x5), some (.int x6), some (.int (-1))] [.int x5, .ref 143] (sM true G I J) Q else (sm_wp X 148 97 [some (.ref 48), some (.int x1), none, some (.int x3), some (.int x4), some (.int x5), some (.int x6), some (.int (-1))] [.int (-1), .int x5, .ref 143] (sM true G I J) Q)) :=
  (sm_blk X 148 74 (tt_lin 148 (by decide)) rfl rfl _ _ _ _).trans rfl
set_option maxRecDepth 100000 in
theorem bk_148_75 (X : (Nat → Int32) × Nat) (G : Nat × Nat) (I : Nat → Nat → Int32) (J : Nat → Nat → Int64) (Q : Option Value → sm_M → Prop) (x1 : Int32) (x3 : Int32) (x4 : Int32) (x5 : Int32) (x6 : Int32) (s0 : Int32) :
    sm_wp X 148 75 [some (.ref 48), some (.int x1), none, some (.int x3), some (.int x4), some (.int x5), some (.int x6), none] [.int s0] (sM true G I J) Q =
    (if (s0 : Int32) ≤ (x6 : Int32) then sm_wp X 148 95 [some (.ref 48), some (.int x1), none, some (.int x3), some (.int x4), some (.int x5), some (.int x6), some (.int s0)] [.int x5, .ref 143] (sM true G I J) Q else (sm_wp X 148 97 [some (.ref 48), some (.int x1), none, some (.int x3), some (.int x4), some (.int x5), some (.int x6), some (.int s0)] [.int s0, .int x5, .ref 143] (sM true G I J) Q)) :=
  (sm_blk X 148 75 (tt_lin 148 (by decide)) rfl rfl _ _ _ _).trans rfl
set_option maxRecDepth 100000 in
theorem bk_148_95 (X : (Nat → Int32) × Nat) (G : Nat × Nat) (I : Nat → Nat → Int32) (J : Nat → Nat → Int64) (Q : Option Value → sm_M → Prop) (x1 : Int32) (x3 : Int32) (x4 : Int32) (x5 : Int32) (x6 : Int32) (x7 : Int32) (s1 : Int32) :
    sm_wp X 148 95 [some (.ref 48), some (.int x1), none, some (.int x3), some (.int x4), some (.int x5), some (.int x6), some (.int x7)] [.int s1, .ref 143] (sM true G I J) Q =
    (vp_in s1 5955 ∧ (sm_wp X 148 21 [some (.ref 48), some (.int x1), none, some (.int x3), some (.int x4), some (.int (x5 + (-1))), none, none] [] (sM true G (up2 I 143 s1.toNatClampNeg x6) J) Q)) :=
  (sm_blk X 148 95 (tt_lin 148 (by decide)) rfl rfl _ _ _ _).trans rfl
set_option maxRecDepth 100000 in
theorem bk_148_97 (X : (Nat → Int32) × Nat) (G : Nat × Nat) (I : Nat → Nat → Int32) (J : Nat → Nat → Int64) (Q : Option Value → sm_M → Prop) (x1 : Int32) (x3 : Int32) (x4 : Int32) (x5 : Int32) (x6 : Int32) (x7 : Int32) (s1 : Int32) (s2 : Int32) :
    sm_wp X 148 97 [some (.ref 48), some (.int x1), none, some (.int x3), some (.int x4), some (.int x5), some (.int x6), some (.int x7)] [.int s2, .int s1, .ref 143] (sM true G I J) Q =
    (vp_in s1 5955 ∧ (sm_wp X 148 21 [some (.ref 48), some (.int x1), none, some (.int x3), some (.int x4), some (.int (x5 + (-1))), none, none] [] (sM true G (up2 I 143 s1.toNatClampNeg s2) J) Q)) :=
  (sm_blk X 148 97 (tt_lin 148 (by decide)) rfl rfl _ _ _ _).trans rfl
set_option maxRecDepth 100000 in
theorem bk_148_104 (X : (Nat → Int32) × Nat) (G : Nat × Nat) (I : Nat → Nat → Int32) (J : Nat → Nat → Int64) (Q : Option Value → sm_M → Prop) (x1 : Int32) (x3 : Int32) (x4 : Int32) (x5 : Int32) :
    sm_wp X 148 104 [some (.ref 48), some (.int x1), none, some (.int x3), some (.int x4), some (.int x5), none, none] [] (sM true G I J) Q =
    (True ∧ Q none (sM true G I J)) :=
  (sm_blk X 148 104 (tt_lin 148 (by decide)) rfl rfl _ _ _ _).trans rfl
set_option maxRecDepth 100000 in
theorem bk_149_0 (X : (Nat → Int32) × Nat) (G : Nat × Nat) (I : Nat → Nat → Int32) (J : Nat → Nat → Int64) (Q : Option Value → sm_M → Prop) (x1 : Int32) (x2 : Int32) (x3 : Int32) (x4 : Int32) :
    sm_wp X 149 0 [some (.ref 48), some (.int x1), some (.int x2), some (.int x3), some (.int x4), none, none] [] (sM true G I J) Q =
    (sm_wp X 147 0 [some (.int x1), some (.int x2)] [] (sM true G I J) (fun v M => sm_wp X 149 5 [some (.ref 48), some (.int x1), some (.int x2), some (.int x3), some (.int x4), none, none] (v.toList ++ []) M Q)) :=
  (sm_blk X 149 0 (tt_lin 149 (by decide)) rfl rfl _ _ _ _).trans rfl
set_option maxRecDepth 100000 in
theorem bk_149_5 (X : (Nat → Int32) × Nat) (G : Nat × Nat) (I : Nat → Nat → Int32) (J : Nat → Nat → Int64) (Q : Option Value → sm_M → Prop) (x1 : Int32) (x2 : Int32) (x3 : Int32) (x4 : Int32) (s0 : Int32) :
    sm_wp X 149 5 [some (.ref 48), some (.int x1), some (.int x2), some (.int x3), some (.int x4), none, none] [.int s0] (sM true G I J) Q =
    (if (x1 : Int32) < 0 then sm_wp X 149 38 [some (.ref 48), some (.int x1), some (.int x2), some (.int x3), some (.int x4), some (.int s0), none] [] (sM true G I J) Q else (if (x2 : Int32) ≤ (x1 : Int32) then sm_wp X 149 38 [some (.ref 48), some (.int x1), some (.int x2), some (.int x3), some (.int x4), some (.int s0), none] [] (sM true G I J) Q else (if (15 : Int32) ≤ (s0 : Int32) then sm_wp X 149 38 [some (.ref 48), some (.int x1), some (.int x2), some (.int x3), some (.int x4), some (.int s0), none] [] (sM true G I J) Q else (if (x3 : Int32) < 0 then sm_wp X 149 38 [some (.ref 48), some (.int x1), some (.int x2), some (.int x3), some (.int x4), some (.int s0), none] [] (sM true G I J) Q else (vp_in s0 15 ∧ (if (x3 : Int32) < (I 50 (s0.toNatClampNeg) : Int32) then sm_wp X 149 40 [some (.ref 48), some (.int x1), some (.int x2), some (.int x3), some (.int x4), some (.int s0), none] [] (sM true G I J) Q else (sm_zb 0 ∧ Q (some (.int 0)) (sM true G I J)))))))) :=
  (sm_blk X 149 5 (tt_lin 149 (by decide)) rfl rfl _ _ _ _).trans rfl
set_option maxRecDepth 100000 in
theorem bk_149_38 (X : (Nat → Int32) × Nat) (G : Nat × Nat) (I : Nat → Nat → Int32) (J : Nat → Nat → Int64) (Q : Option Value → sm_M → Prop) (x1 : Int32) (x2 : Int32) (x3 : Int32) (x4 : Int32) (x5 : Int32) :
    sm_wp X 149 38 [some (.ref 48), some (.int x1), some (.int x2), some (.int x3), some (.int x4), some (.int x5), none] [] (sM true G I J) Q =
    (sm_zb 0 ∧ Q (some (.int 0)) (sM true G I J)) :=
  (sm_blk X 149 38 (tt_lin 149 (by decide)) rfl rfl _ _ _ _).trans rfl
set_option maxRecDepth 100000 in
theorem bk_149_40 (X : (Nat → Int32) × Nat) (G : Nat × Nat) (I : Nat → Nat → Int32) (J : Nat → Nat → Int64) (Q : Option Value → sm_M → Prop) (x1 : Int32) (x2 : Int32) (x3 : Int32) (x4 : Int32) (x5 : Int32) :
    sm_wp X 149 40 [some (.ref 48), some (.int x1), some (.int x2), some (.int x3), some (.int x4), some (.int x5), none] [] (sM true G I J) Q =
    (vp_in x5 15 ∧ (if (((I 49 (x5.toNatClampNeg)) + x3) + 1 : Int32) < 0 then sm_wp X 149 84 [some (.ref 48), some (.int x1), some (.int x2), some (.int x3), some (.int x4), some (.int x5), some (.int (((I 49 (x5.toNatClampNeg)) + x3) + 1))] [] (sM true G I J) Q else (if (Int32.ofNat 5955 : Int32) ≤ (((I 49 (x5.toNatClampNeg)) + x3) + 1 : Int32) then sm_wp X 149 84 [some (.ref 48), some (.int x1), some (.int x2), some (.int x3), some (.int x4), some (.int x5), some (.int (((I 49 (x5.toNatClampNeg)) + x3) + 1))] [] (sM true G I J) Q else (vp_in (((I 49 (x5.toNatClampNeg)) + x3) + 1) 5955 ∧ (if (I 143 ((((I 49 (x5.toNatClampNeg)) + x3) + 1).toNatClampNeg) : Int32) ≤ (x4 : Int32) then sm_wp X 149 84 [some (.ref 48), some (.int x1), some (.int x2), some (.int x3), some (.int x4), some (.int x5), some (.int (((I 49 (x5.toNatClampNeg)) + x3) + 1))] [] (sM true G I J) Q else (sm_wp X 149 85 [some (.ref 48), some (.int x1), some (.int x2), some (.int x3), some (.int x4), some (.int x5), some (.int (((I 49 (x5.toNatClampNeg)) + x3) + 1))] [.int 1] (sM true G I J) Q)))))) :=
  (sm_blk X 149 40 (tt_lin 149 (by decide)) rfl rfl _ _ _ _).trans rfl
set_option maxRecDepth 100000 in
theorem bk_149_84 (X : (Nat → Int32) × Nat) (G : Nat × Nat) (I : Nat → Nat → Int32) (J : Nat → Nat → Int64) (Q : Option Value → sm_M → Prop) (x1 : Int32) (x2 : Int32) (x3 : Int32) (x4 : Int32) (x5 : Int32) (x6 : Int32) :
    sm_wp X 149 84 [some (.ref 48), some (.int x1), some (.int x2), some (.int x3), some (.int x4), some (.int x5), some (.int x6)] [] (sM true G I J) Q =
    (sm_zb 0 ∧ Q (some (.int 0)) (sM true G I J)) :=
  (sm_blk X 149 84 (tt_lin 149 (by decide)) rfl rfl _ _ _ _).trans rfl
set_option maxRecDepth 100000 in
theorem bk_149_85 (X : (Nat → Int32) × Nat) (G : Nat × Nat) (I : Nat → Nat → Int32) (J : Nat → Nat → Int64) (Q : Option Value → sm_M → Prop) (x1 : Int32) (x2 : Int32) (x3 : Int32) (x4 : Int32) (x5 : Int32) (x6 : Int32) (s0 : Int32) :
    sm_wp X 149 85 [some (.ref 48), some (.int x1), some (.int x2), some (.int x3), some (.int x4), some (.int x5), some (.int x6)] [.int s0] (sM true G I J) Q =
    (sm_zb s0 ∧ Q (some (.int s0)) (sM true G I J)) :=
  (sm_blk X 149 85 (tt_lin 149 (by decide)) rfl rfl _ _ _ _).trans rfl
