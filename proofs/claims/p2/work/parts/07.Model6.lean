set_option maxRecDepth 100000 in
theorem bk_309_0 (X : (Nat → Int32) × Nat) (mo : Bool) (G : Nat × Nat) (I : Nat → Nat → Int32) (J : Nat → Nat → Int64) (Q : Option Value → sm_M → Prop) (x1 : Int32) :
    sm_wp X 309 0 [some (.ref 81), some (.int x1)] [] (sM mo G I J) Q =
    (True ∧ Q (some (.int 0)) (sM mo G (up2 I 81 2 x1) J)) :=
  (sm_blk X 309 0 (tt_lin 309 (by decide)) rfl rfl _ _ _ _).trans rfl
set_option maxRecDepth 100000 in
theorem bk_310_0 (X : (Nat → Int32) × Nat) (mo : Bool) (G : Nat × Nat) (I : Nat → Nat → Int32) (J : Nat → Nat → Int64) (Q : Option Value → sm_M → Prop) (x1 : Int32) :
    sm_wp X 310 0 [some (.ref 81), some (.int x1), none, none] [] (sM mo G I J) Q =
    (if (x1 : Int32) = 0 then sm_wp X 310 56 [some (.ref 81), some (.int x1), some (.int 0), none] [] (sM mo G (up2 I 81 2 0) J) Q else if (x1 : Int32) = 1 then sm_wp X 310 61 [some (.ref 81), some (.int x1), some (.int 0), none] [] (sM mo G (up2 I 81 2 0) J) Q else if (x1 : Int32) = 2 then sm_wp X 310 66 [some (.ref 81), some (.int x1), some (.int 0), none] [] (sM mo G (up2 I 81 2 0) J) Q else if (x1 : Int32) = 3 then sm_wp X 310 71 [some (.ref 81), some (.int x1), some (.int 0), none] [] (sM mo G (up2 I 81 2 0) J) Q else if (x1 : Int32) = 4 then sm_wp X 310 76 [some (.ref 81), some (.int x1), some (.int 0), none] [] (sM mo G (up2 I 81 2 0) J) Q else if (x1 : Int32) = 5 then sm_wp X 310 81 [some (.ref 81), some (.int x1), some (.int 0), none] [] (sM mo G (up2 I 81 2 0) J) Q else if (x1 : Int32) = 6 then sm_wp X 310 86 [some (.ref 81), some (.int x1), some (.int 0), none] [] (sM mo G (up2 I 81 2 0) J) Q else if (x1 : Int32) = 7 then sm_wp X 310 91 [some (.ref 81), some (.int x1), some (.int 0), none] [] (sM mo G (up2 I 81 2 0) J) Q else sm_wp X 310 132 [some (.ref 81), some (.int x1), some (.int 0), none] [] (sM mo G (up2 I 81 2 0) J) Q) :=
  (sm_blk X 310 0 (tt_lin 310 (by decide)) rfl rfl _ _ _ _).trans rfl
set_option maxRecDepth 100000 in
theorem bk_310_56 (X : (Nat → Int32) × Nat) (mo : Bool) (G : Nat × Nat) (I : Nat → Nat → Int32) (J : Nat → Nat → Int64) (Q : Option Value → sm_M → Prop) (x1 : Int32) (x2 : Int32) :
    sm_wp X 310 56 [some (.ref 81), some (.int x1), some (.int x2), none] [] (sM mo G I J) Q =
    (True ∧ Q (some (.int (I 81 3))) (sM mo G I J)) :=
  (sm_blk X 310 56 (tt_lin 310 (by decide)) rfl rfl _ _ _ _).trans rfl
set_option maxRecDepth 100000 in
theorem bk_310_61 (X : (Nat → Int32) × Nat) (mo : Bool) (G : Nat × Nat) (I : Nat → Nat → Int32) (J : Nat → Nat → Int64) (Q : Option Value → sm_M → Prop) (x1 : Int32) (x2 : Int32) :
    sm_wp X 310 61 [some (.ref 81), some (.int x1), some (.int x2), none] [] (sM mo G I J) Q =
    (True ∧ Q (some (.int (I 81 10))) (sM mo G I J)) :=
  (sm_blk X 310 61 (tt_lin 310 (by decide)) rfl rfl _ _ _ _).trans rfl
set_option maxRecDepth 100000 in
theorem bk_310_66 (X : (Nat → Int32) × Nat) (mo : Bool) (G : Nat × Nat) (I : Nat → Nat → Int32) (J : Nat → Nat → Int64) (Q : Option Value → sm_M → Prop) (x1 : Int32) (x2 : Int32) :
    sm_wp X 310 66 [some (.ref 81), some (.int x1), some (.int x2), none] [] (sM mo G I J) Q =
    (True ∧ Q (some (.int (I 81 15))) (sM mo G I J)) :=
  (sm_blk X 310 66 (tt_lin 310 (by decide)) rfl rfl _ _ _ _).trans rfl
set_option maxRecDepth 100000 in
theorem bk_310_71 (X : (Nat → Int32) × Nat) (mo : Bool) (G : Nat × Nat) (I : Nat → Nat → Int32) (J : Nat → Nat → Int64) (Q : Option Value → sm_M → Prop) (x1 : Int32) (x2 : Int32) :
    sm_wp X 310 71 [some (.ref 81), some (.int x1), some (.int x2), none] [] (sM mo G I J) Q =
    (True ∧ Q (some (.int (I 81 46))) (sM mo G I J)) :=
  (sm_blk X 310 71 (tt_lin 310 (by decide)) rfl rfl _ _ _ _).trans rfl
set_option maxRecDepth 100000 in
theorem bk_310_76 (X : (Nat → Int32) × Nat) (mo : Bool) (G : Nat × Nat) (I : Nat → Nat → Int32) (J : Nat → Nat → Int64) (Q : Option Value → sm_M → Prop) (x1 : Int32) (x2 : Int32) :
    sm_wp X 310 76 [some (.ref 81), some (.int x1), some (.int x2), none] [] (sM mo G I J) Q =
    (True ∧ Q (some (.int (I 81 16))) (sM mo G I J)) :=
  (sm_blk X 310 76 (tt_lin 310 (by decide)) rfl rfl _ _ _ _).trans rfl
set_option maxRecDepth 100000 in
theorem bk_310_81 (X : (Nat → Int32) × Nat) (mo : Bool) (G : Nat × Nat) (I : Nat → Nat → Int32) (J : Nat → Nat → Int64) (Q : Option Value → sm_M → Prop) (x1 : Int32) (x2 : Int32) :
    sm_wp X 310 81 [some (.ref 81), some (.int x1), some (.int x2), none] [] (sM mo G I J) Q =
    (True ∧ Q (some (.int (I 81 81))) (sM mo G I J)) :=
  (sm_blk X 310 81 (tt_lin 310 (by decide)) rfl rfl _ _ _ _).trans rfl
set_option maxRecDepth 100000 in
theorem bk_310_86 (X : (Nat → Int32) × Nat) (mo : Bool) (G : Nat × Nat) (I : Nat → Nat → Int32) (J : Nat → Nat → Int64) (Q : Option Value → sm_M → Prop) (x1 : Int32) (x2 : Int32) :
    sm_wp X 310 86 [some (.ref 81), some (.int x1), some (.int x2), none] [] (sM mo G I J) Q =
    (True ∧ Q (some (.int (I 81 60))) (sM mo G I J)) :=
  (sm_blk X 310 86 (tt_lin 310 (by decide)) rfl rfl _ _ _ _).trans rfl
set_option maxRecDepth 100000 in
theorem bk_310_91 (X : (Nat → Int32) × Nat) (mo : Bool) (G : Nat × Nat) (I : Nat → Nat → Int32) (J : Nat → Nat → Int64) (Q : Option Value → sm_M → Prop) (x1 : Int32) (x2 : Int32) :
    sm_wp X 310 91 [some (.ref 81), some (.int x1), some (.int x2), none] [] (sM mo G I J) Q =
    (sm_wp X 310 93 [some (.ref 81), none, some (.int x2), some (.int 0)] [] (sM mo G I J) Q) :=
  (sm_blk X 310 91 (tt_lin 310 (by decide)) rfl rfl _ _ _ _).trans rfl
set_option maxRecDepth 100000 in
theorem bk_310_93 (X : (Nat → Int32) × Nat) (mo : Bool) (G : Nat × Nat) (I : Nat → Nat → Int32) (J : Nat → Nat → Int64) (Q : Option Value → sm_M → Prop) (x2 : Int32) (x3 : Int32) :
    sm_wp X 310 93 [some (.ref 81), none, some (.int x2), some (.int x3)] [] (sM mo G I J) Q =
    (if (I 81 3 : Int32) ≤ (x3 : Int32) then sm_wp X 310 130 [some (.ref 81), none, some (.int x2), some (.int x3)] [] (sM mo G I J) Q else (vp_in x3 12 ∧ (if (I 85 (x3.toNatClampNeg) : Int32) = ((-1) : Int32) then sm_wp X 310 121 [some (.ref 81), none, some (.int x2), some (.int x3)] [.int x2] (sM mo G I J) Q else (vp_in x3 12 ∧ (sm_wp X 310 122 [some (.ref 81), none, some (.int x2), some (.int x3)] [.int (I 83 (x3.toNatClampNeg)), .int x2] (sM mo G I J) Q))))) :=
  (sm_blk X 310 93 (tt_lin 310 (by decide)) rfl rfl _ _ _ _).trans rfl
set_option maxRecDepth 100000 in
theorem bk_310_121 (X : (Nat → Int32) × Nat) (mo : Bool) (G : Nat × Nat) (I : Nat → Nat → Int32) (J : Nat → Nat → Int64) (Q : Option Value → sm_M → Prop) (x2 : Int32) (x3 : Int32) (s0 : Int32) :
    sm_wp X 310 121 [some (.ref 81), none, some (.int x2), some (.int x3)] [.int s0] (sM mo G I J) Q =
    (sm_wp X 310 93 [some (.ref 81), none, some (.int (s0 + 0)), some (.int (x3 + 1))] [] (sM mo G I J) Q) :=
  (sm_blk X 310 121 (tt_lin 310 (by decide)) rfl rfl _ _ _ _).trans rfl
set_option maxRecDepth 100000 in
theorem bk_310_122 (X : (Nat → Int32) × Nat) (mo : Bool) (G : Nat × Nat) (I : Nat → Nat → Int32) (J : Nat → Nat → Int64) (Q : Option Value → sm_M → Prop) (x2 : Int32) (x3 : Int32) (s0 : Int32) (s1 : Int32) :
    sm_wp X 310 122 [some (.ref 81), none, some (.int x2), some (.int x3)] [.int s1, .int s0] (sM mo G I J) Q =
    (sm_wp X 310 93 [some (.ref 81), none, some (.int (s0 + s1)), some (.int (x3 + 1))] [] (sM mo G I J) Q) :=
  (sm_blk X 310 122 (tt_lin 310 (by decide)) rfl rfl _ _ _ _).trans rfl
set_option maxRecDepth 100000 in
theorem bk_310_130 (X : (Nat → Int32) × Nat) (mo : Bool) (G : Nat × Nat) (I : Nat → Nat → Int32) (J : Nat → Nat → Int64) (Q : Option Value → sm_M → Prop) (x2 : Int32) (x3 : Int32) :
    sm_wp X 310 130 [some (.ref 81), none, some (.int x2), some (.int x3)] [] (sM mo G I J) Q =
    (True ∧ Q (some (.int x2)) (sM mo G I J)) :=
  (sm_blk X 310 130 (tt_lin 310 (by decide)) rfl rfl _ _ _ _).trans rfl
set_option maxRecDepth 100000 in
theorem bk_310_132 (X : (Nat → Int32) × Nat) (mo : Bool) (G : Nat × Nat) (I : Nat → Nat → Int32) (J : Nat → Nat → Int64) (Q : Option Value → sm_M → Prop) (x1 : Int32) (x2 : Int32) :
    sm_wp X 310 132 [some (.ref 81), some (.int x1), some (.int x2), none] [] (sM mo G I J) Q =
    (True ∧ Q (some (.int (-1))) (sM mo G I J)) :=
  (sm_blk X 310 132 (tt_lin 310 (by decide)) rfl rfl _ _ _ _).trans rfl
