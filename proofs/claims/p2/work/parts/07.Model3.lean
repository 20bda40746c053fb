set_option maxRecDepth 100000 in
theorem bk_262_0 (X : (Nat → Int32) × Nat) (mo : Bool) (G : Nat × Nat) (I : Nat → Nat → Int32) (J : Nat → Nat → Int64) (Q : Option Value → sm_M → Prop) (x1 : Int64) :
    sm_wp X 262 0 [some (.ref 81), some (.long x1), none] [] (sM mo G I J) Q =
    (if ¬ (I 81 63 : Int32) = 0 then sm_wp X 262 19 [some (.ref 81), some (.long x1), none] [.ref 81] (sM mo G I J) Q else (sm_wp X 263 0 [some (.long x1), none] [] (sM mo G I J) (fun v M => sm_wp X 262 12 [some (.ref 81), some (.long x1), none] (v.toList ++ [.ref 81]) M Q))) :=
  (sm_blk X 262 0 (tt_lin 262 (by decide)) rfl rfl _ _ _ _).trans rfl
set_option maxRecDepth 100000 in
theorem bk_262_12 (X : (Nat → Int32) × Nat) (mo : Bool) (G : Nat × Nat) (I : Nat → Nat → Int32) (J : Nat → Nat → Int64) (Q : Option Value → sm_M → Prop) (x1 : Int64) (s1 : Int64) :
    sm_wp X 262 12 [some (.ref 81), some (.long x1), none] [.long s1, .ref 81] (sM mo G I J) Q =
    (if (lg_cmp s1 1000000000000 : Int32) ≤ 0 then sm_wp X 262 23 [some (.ref 81), some (.long x1), none] [.ref 81] (sM mo G I J) Q else (sm_wp X 262 24 [some (.ref 81), some (.long x1), none] [.int 1, .ref 81] (sM mo G I J) Q)) :=
  (sm_blk X 262 12 (tt_lin 262 (by decide)) rfl rfl _ _ _ _).trans rfl
set_option maxRecDepth 100000 in
theorem bk_262_19 (X : (Nat → Int32) × Nat) (mo : Bool) (G : Nat × Nat) (I : Nat → Nat → Int32) (J : Nat → Nat → Int64) (Q : Option Value → sm_M → Prop) (x1 : Int64) :
    sm_wp X 262 19 [some (.ref 81), some (.long x1), none] [.ref 81] (sM mo G I J) Q =
    (sm_wp X 262 24 [some (.ref 81), some (.long x1), none] [.int 1, .ref 81] (sM mo G I J) Q) :=
  (sm_blk X 262 19 (tt_lin 262 (by decide)) rfl rfl _ _ _ _).trans rfl
set_option maxRecDepth 100000 in
theorem bk_262_23 (X : (Nat → Int32) × Nat) (mo : Bool) (G : Nat × Nat) (I : Nat → Nat → Int32) (J : Nat → Nat → Int64) (Q : Option Value → sm_M → Prop) (x1 : Int64) :
    sm_wp X 262 23 [some (.ref 81), some (.long x1), none] [.ref 81] (sM mo G I J) Q =
    (sm_zb 0 ∧ (if ((up2 I 81 63 0) 81 63 : Int32) = 0 then sm_wp X 262 38 [some (.ref 81), some (.long x1), none] [] (sM mo G (up2 I 81 63 0) J) Q else (sm_wp X 262 39 [some (.ref 81), some (.long x1), none] [.long 0] (sM mo G (up2 I 81 63 0) J) Q))) :=
  (sm_blk X 262 23 (tt_lin 262 (by decide)) rfl rfl _ _ _ _).trans rfl
set_option maxRecDepth 100000 in
theorem bk_262_24 (X : (Nat → Int32) × Nat) (mo : Bool) (G : Nat × Nat) (I : Nat → Nat → Int32) (J : Nat → Nat → Int64) (Q : Option Value → sm_M → Prop) (x1 : Int64) (s1 : Int32) :
    sm_wp X 262 24 [some (.ref 81), some (.long x1), none] [.int s1, .ref 81] (sM mo G I J) Q =
    (sm_zb s1 ∧ (if ((up2 I 81 63 s1) 81 63 : Int32) = 0 then sm_wp X 262 38 [some (.ref 81), some (.long x1), none] [] (sM mo G (up2 I 81 63 s1) J) Q else (sm_wp X 262 39 [some (.ref 81), some (.long x1), none] [.long 0] (sM mo G (up2 I 81 63 s1) J) Q))) :=
  (sm_blk X 262 24 (tt_lin 262 (by decide)) rfl rfl _ _ _ _).trans rfl
set_option maxRecDepth 100000 in
theorem bk_262_38 (X : (Nat → Int32) × Nat) (mo : Bool) (G : Nat × Nat) (I : Nat → Nat → Int32) (J : Nat → Nat → Int64) (Q : Option Value → sm_M → Prop) (x1 : Int64) :
    sm_wp X 262 38 [some (.ref 81), some (.long x1), none] [] (sM mo G I J) Q =
    (True ∧ Q (some (.long x1)) (sM mo G I J)) :=
  (sm_blk X 262 38 (tt_lin 262 (by decide)) rfl rfl _ _ _ _).trans rfl
set_option maxRecDepth 100000 in
theorem bk_262_39 (X : (Nat → Int32) × Nat) (mo : Bool) (G : Nat × Nat) (I : Nat → Nat → Int32) (J : Nat → Nat → Int64) (Q : Option Value → sm_M → Prop) (x1 : Int64) (s0 : Int64) :
    sm_wp X 262 39 [some (.ref 81), some (.long x1), none] [.long s0] (sM mo G I J) Q =
    (True ∧ Q (some (.long s0)) (sM mo G I J)) :=
  (sm_blk X 262 39 (tt_lin 262 (by decide)) rfl rfl _ _ _ _).trans rfl
set_option maxRecDepth 100000 in
theorem bk_263_0 (X : (Nat → Int32) × Nat) (mo : Bool) (G : Nat × Nat) (I : Nat → Nat → Int32) (J : Nat → Nat → Int64) (Q : Option Value → sm_M → Prop) (x0 : Int64) :
    sm_wp X 263 0 [some (.long x0), none] [] (sM mo G I J) Q =
    (if 0 ≤ (lg_cmp x0 0 : Int32) then sm_wp X 263 11 [some (.long x0), none] [] (sM mo G I J) Q else (sm_wp X 263 12 [some (.long x0), none] [.long (-x0)] (sM mo G I J) Q)) :=
  (sm_blk X 263 0 (tt_lin 263 (by decide)) rfl rfl _ _ _ _).trans rfl
set_option maxRecDepth 100000 in
theorem bk_263_11 (X : (Nat → Int32) × Nat) (mo : Bool) (G : Nat × Nat) (I : Nat → Nat → Int32) (J : Nat → Nat → Int64) (Q : Option Value → sm_M → Prop) (x0 : Int64) :
    sm_wp X 263 11 [some (.long x0), none] [] (sM mo G I J) Q =
    (True ∧ Q (some (.long x0)) (sM mo G I J)) :=
  (sm_blk X 263 11 (tt_lin 263 (by decide)) rfl rfl _ _ _ _).trans rfl
set_option maxRecDepth 100000 in
theorem bk_263_12 (X : (Nat → Int32) × Nat) (mo : Bool) (G : Nat × Nat) (I : Nat → Nat → Int32) (J : Nat → Nat → Int64) (Q : Option Value → sm_M → Prop) (x0 : Int64) (s0 : Int64) :
    sm_wp X 263 12 [some (.long x0), none] [.long s0] (sM mo G I J) Q =
    (True ∧ Q (some (.long s0)) (sM mo G I J)) :=
  (sm_blk X 263 12 (tt_lin 263 (by decide)) rfl rfl _ _ _ _).trans rfl
set_option maxRecDepth 100000 in
theorem bk_264_0 (X : (Nat → Int32) × Nat) (mo : Bool) (G : Nat × Nat) (I : Nat → Nat → Int32) (J : Nat → Nat → Int64) (Q : Option Value → sm_M → Prop) (x1 : Int32) :
    sm_wp X 264 0 [some (.ref 81), some (.int x1), none, none, none, none] [] (sM mo G I J) Q =
    (sm_wp X 265 0 [some (.ref 81), some (.int x1), none, none] [] (sM mo G I J) (fun v M => sm_wp X 264 5 [some (.ref 81), some (.int x1), none, none, none, none] (v.toList ++ []) M Q)) :=
  (sm_blk X 264 0 (tt_lin 264 (by decide)) rfl rfl _ _ _ _).trans rfl
set_option maxRecDepth 100000 in
theorem bk_264_5 (X : (Nat → Int32) × Nat) (mo : Bool) (G : Nat × Nat) (I : Nat → Nat → Int32) (J : Nat → Nat → Int64) (Q : Option Value → sm_M → Prop) (x1 : Int32) :
    sm_wp X 264 5 [some (.ref 81), some (.int x1), none, none, none, none] [] (sM mo G I J) Q =
    (sm_wp X 264 12 [some (.ref 81), none, some (.int 0), some (.int 0), some (.int 0), none] [] (sM mo G I J) Q) :=
  (sm_blk X 264 5 (tt_lin 264 (by decide)) rfl rfl _ _ _ _).trans rfl
set_option maxRecDepth 100000 in
theorem bk_264_12 (X : (Nat → Int32) × Nat) (mo : Bool) (G : Nat × Nat) (I : Nat → Nat → Int32) (J : Nat → Nat → Int64) (Q : Option Value → sm_M → Prop) (x2 : Int32) (x3 : Int32) (x4 : Int32) :
    sm_wp X 264 12 [some (.ref 81), none, some (.int x2), some (.int x3), some (.int x4), none] [] (sM mo G I J) Q =
    (if (I 81 46 : Int32) ≤ (x4 : Int32) then sm_wp X 264 105 [some (.ref 81), none, some (.int x2), some (.int x3), some (.int x4), none] [] (sM mo G I J) Q else (vp_in x4 60 ∧ (if ¬ (I 122 (x4.toNatClampNeg) : Int32) = 0 then sm_wp X 264 34 [some (.ref 81), none, some (.int x2), some (.int x3), some (.int x4), none] [] (sM mo G I J) Q else (sm_wp X 264 99 [some (.ref 81), none, some (.int x2), some (.int x3), some (.int x4), none] [] (sM mo G I J) Q)))) :=
  (sm_blk X 264 12 (tt_lin 264 (by decide)) rfl rfl _ _ _ _).trans rfl
set_option maxRecDepth 100000 in
theorem bk_264_34 (X : (Nat → Int32) × Nat) (mo : Bool) (G : Nat × Nat) (I : Nat → Nat → Int32) (J : Nat → Nat → Int64) (Q : Option Value → sm_M → Prop) (x2 : Int32) (x3 : Int32) (x4 : Int32) :
    sm_wp X 264 34 [some (.ref 81), none, some (.int x2), some (.int x3), some (.int x4), none] [] (sM mo G I J) Q =
    (if ¬ (x2 : Int32) = 0 then sm_wp X 264 72 [some (.ref 81), none, some (.int x2), some (.int x3), some (.int x4), none] [] (sM mo G I J) Q else (vp_in x4 60 ∧ (if (I 117 (x4.toNatClampNeg) : Int32) = (3 : Int32) then sm_wp X 264 72 [some (.ref 81), none, some (.int x2), some (.int x3), some (.int x4), none] [] (sM mo G I J) Q else (vp_in x4 60 ∧ (if (I 117 (x4.toNatClampNeg) : Int32) = (4 : Int32) then sm_wp X 264 72 [some (.ref 81), none, some (.int x2), some (.int x3), some (.int x4), none] [] (sM mo G I J) Q else (vp_in x4 60 ∧ (if ¬ (I 117 (x4.toNatClampNeg) : Int32) = (6 : Int32) then sm_wp X 264 76 [some (.ref 81), none, some (.int x2), some (.int x3), some (.int x4), none] [] (sM mo G I J) Q else (sm_wp X 264 77 [some (.ref 81), none, some (.int x2), some (.int x3), some (.int x4), none] [.int 1] (sM mo G I J) Q)))))))) :=
  (sm_blk X 264 34 (tt_lin 264 (by decide)) rfl rfl _ _ _ _).trans rfl
set_option maxRecDepth 100000 in
theorem bk_264_72 (X : (Nat → Int32) × Nat) (mo : Bool) (G : Nat × Nat) (I : Nat → Nat → Int32) (J : Nat → Nat → Int64) (Q : Option Value → sm_M → Prop) (x2 : Int32) (x3 : Int32) (x4 : Int32) :
    sm_wp X 264 72 [some (.ref 81), none, some (.int x2), some (.int x3), some (.int x4), none] [] (sM mo G I J) Q =
    (sm_wp X 264 77 [some (.ref 81), none, some (.int x2), some (.int x3), some (.int x4), none] [.int 1] (sM mo G I J) Q) :=
  (sm_blk X 264 72 (tt_lin 264 (by decide)) rfl rfl _ _ _ _).trans rfl
set_option maxRecDepth 100000 in
theorem bk_264_76 (X : (Nat → Int32) × Nat) (mo : Bool) (G : Nat × Nat) (I : Nat → Nat → Int32) (J : Nat → Nat → Int64) (Q : Option Value → sm_M → Prop) (x2 : Int32) (x3 : Int32) (x4 : Int32) :
    sm_wp X 264 76 [some (.ref 81), none, some (.int x2), some (.int x3), some (.int x4), none] [] (sM mo G I J) Q =
    (if ¬ (x3 : Int32) = 0 then sm_wp X 264 93 [some (.ref 81), none, some (.int 0), some (.int x3), some (.int x4), none] [] (sM mo G I J) Q else (vp_in x4 60 ∧ (if (2 : Int32) ≤ (I 117 (x4.toNatClampNeg) : Int32) then sm_wp X 264 97 [some (.ref 81), none, some (.int 0), some (.int x3), some (.int x4), none] [] (sM mo G I J) Q else (sm_wp X 264 98 [some (.ref 81), none, some (.int 0), some (.int x3), some (.int x4), none] [.int 1] (sM mo G I J) Q)))) :=
  (sm_blk X 264 76 (tt_lin 264 (by decide)) rfl rfl _ _ _ _).trans rfl
set_option maxRecDepth 100000 in
theorem bk_264_77 (X : (Nat → Int32) × Nat) (mo : Bool) (G : Nat × Nat) (I : Nat → Nat → Int32) (J : Nat → Nat → Int64) (Q : Option Value → sm_M → Prop) (x2 : Int32) (x3 : Int32) (x4 : Int32) (s0 : Int32) :
    sm_wp X 264 77 [some (.ref 81), none, some (.int x2), some (.int x3), some (.int x4), none] [.int s0] (sM mo G I J) Q =
    (if ¬ (x3 : Int32) = 0 then sm_wp X 264 93 [some (.ref 81), none, some (.int s0), some (.int x3), some (.int x4), none] [] (sM mo G I J) Q else (vp_in x4 60 ∧ (if (2 : Int32) ≤ (I 117 (x4.toNatClampNeg) : Int32) then sm_wp X 264 97 [some (.ref 81), none, some (.int s0), some (.int x3), some (.int x4), none] [] (sM mo G I J) Q else (sm_wp X 264 98 [some (.ref 81), none, some (.int s0), some (.int x3), some (.int x4), none] [.int 1] (sM mo G I J) Q)))) :=
  (sm_blk X 264 77 (tt_lin 264 (by decide)) rfl rfl _ _ _ _).trans rfl
set_option maxRecDepth 100000 in
theorem bk_264_93 (X : (Nat → Int32) × Nat) (mo : Bool) (G : Nat × Nat) (I : Nat → Nat → Int32) (J : Nat → Nat → Int64) (Q : Option Value → sm_M → Prop) (x2 : Int32) (x3 : Int32) (x4 : Int32) :
    sm_wp X 264 93 [some (.ref 81), none, some (.int x2), some (.int x3), some (.int x4), none] [] (sM mo G I J) Q =
    (sm_wp X 264 98 [some (.ref 81), none, some (.int x2), some (.int x3), some (.int x4), none] [.int 1] (sM mo G I J) Q) :=
  (sm_blk X 264 93 (tt_lin 264 (by decide)) rfl rfl _ _ _ _).trans rfl
set_option maxRecDepth 100000 in
theorem bk_264_97 (X : (Nat → Int32) × Nat) (mo : Bool) (G : Nat × Nat) (I : Nat → Nat → Int32) (J : Nat → Nat → Int64) (Q : Option Value → sm_M → Prop) (x2 : Int32) (x3 : Int32) (x4 : Int32) :
    sm_wp X 264 97 [some (.ref 81), none, some (.int x2), some (.int x3), some (.int x4), none] [] (sM mo G I J) Q =
    (sm_wp X 264 12 [some (.ref 81), none, some (.int x2), some (.int 0), some (.int (x4 + 1)), none] [] (sM mo G I J) Q) :=
  (sm_blk X 264 97 (tt_lin 264 (by decide)) rfl rfl _ _ _ _).trans rfl
set_option maxRecDepth 100000 in
theorem bk_264_98 (X : (Nat → Int32) × Nat) (mo : Bool) (G : Nat × Nat) (I : Nat → Nat → Int32) (J : Nat → Nat → Int64) (Q : Option Value → sm_M → Prop) (x2 : Int32) (x3 : Int32) (x4 : Int32) (s0 : Int32) :
    sm_wp X 264 98 [some (.ref 81), none, some (.int x2), some (.int x3), some (.int x4), none] [.int s0] (sM mo G I J) Q =
    (sm_wp X 264 12 [some (.ref 81), none, some (.int x2), some (.int s0), some (.int (x4 + 1)), none] [] (sM mo G I J) Q) :=
  (sm_blk X 264 98 (tt_lin 264 (by decide)) rfl rfl _ _ _ _).trans rfl
set_option maxRecDepth 100000 in
theorem bk_264_99 (X : (Nat → Int32) × Nat) (mo : Bool) (G : Nat × Nat) (I : Nat → Nat → Int32) (J : Nat → Nat → Int64) (Q : Option Value → sm_M → Prop) (x2 : Int32) (x3 : Int32) (x4 : Int32) :
    sm_wp X 264 99 [some (.ref 81), none, some (.int x2), some (.int x3), some (.int x4), none] [] (sM mo G I J) Q =
    (sm_wp X 264 12 [some (.ref 81), none, some (.int x2), some (.int x3), some (.int (x4 + 1)), none] [] (sM mo G I J) Q) :=
  (sm_blk X 264 99 (tt_lin 264 (by decide)) rfl rfl _ _ _ _).trans rfl
set_option maxRecDepth 100000 in
theorem bk_264_105 (X : (Nat → Int32) × Nat) (mo : Bool) (G : Nat × Nat) (I : Nat → Nat → Int32) (J : Nat → Nat → Int64) (Q : Option Value → sm_M → Prop) (x2 : Int32) (x3 : Int32) (x4 : Int32) :
    sm_wp X 264 105 [some (.ref 81), none, some (.int x2), some (.int x3), some (.int x4), none] [] (sM mo G I J) Q =
    (if (x2 : Int32) = 0 then sm_wp X 264 118 [some (.ref 81), none, some (.int x2), some (.int x3), some (.int x4), none] [] (sM mo G I J) Q else (sm_wp X 266 0 [some (.ref 81), some (.int 0), some (.int 2), some (.int 6), none] [] (sM mo G I J) (fun v M => sm_wp X 264 117 [some (.ref 81), none, some (.int x2), some (.int x3), some (.int x4), none] (v.toList ++ []) M Q))) :=
  (sm_blk X 264 105 (tt_lin 264 (by decide)) rfl rfl _ _ _ _).trans rfl
set_option maxRecDepth 100000 in
theorem bk_264_117 (X : (Nat → Int32) × Nat) (mo : Bool) (G : Nat × Nat) (I : Nat → Nat → Int32) (J : Nat → Nat → Int64) (Q : Option Value → sm_M → Prop) (x2 : Int32) (x3 : Int32) (x4 : Int32) :
    sm_wp X 264 117 [some (.ref 81), none, some (.int x2), some (.int x3), some (.int x4), none] [] (sM mo G I J) Q =
    (True ∧ Q none (sM mo G I J)) :=
  (sm_blk X 264 117 (tt_lin 264 (by decide)) rfl rfl _ _ _ _).trans rfl
set_option maxRecDepth 100000 in
theorem bk_264_118 (X : (Nat → Int32) × Nat) (mo : Bool) (G : Nat × Nat) (I : Nat → Nat → Int32) (J : Nat → Nat → Int64) (Q : Option Value → sm_M → Prop) (x2 : Int32) (x3 : Int32) (x4 : Int32) :
    sm_wp X 264 118 [some (.ref 81), none, some (.int x2), some (.int x3), some (.int x4), none] [] (sM mo G I J) Q =
    (if (x3 : Int32) = 0 then sm_wp X 264 123 [some (.ref 81), none, some (.int x2), some (.int x3), some (.int x4), none] [] (sM mo G I J) Q else (True ∧ Q none (sM mo G I J))) :=
  (sm_blk X 264 118 (tt_lin 264 (by decide)) rfl rfl _ _ _ _).trans rfl
set_option maxRecDepth 100000 in
theorem bk_264_123 (X : (Nat → Int32) × Nat) (mo : Bool) (G : Nat × Nat) (I : Nat → Nat → Int32) (J : Nat → Nat → Int64) (Q : Option Value → sm_M → Prop) (x2 : Int32) (x3 : Int32) (x4 : Int32) :
    sm_wp X 264 123 [some (.ref 81), none, some (.int x2), some (.int x3), some (.int x4), none] [] (sM mo G I J) Q =
    (sm_wp X 267 0 [some (.ref 81), none, none, none] [] (sM mo G I J) (fun v M => sm_wp X 264 127 [some (.ref 81), none, some (.int x2), some (.int x3), some (.int x4), none] (v.toList ++ []) M Q)) :=
  (sm_blk X 264 123 (tt_lin 264 (by decide)) rfl rfl _ _ _ _).trans rfl
set_option maxRecDepth 100000 in
theorem bk_264_127 (X : (Nat → Int32) × Nat) (mo : Bool) (G : Nat × Nat) (I : Nat → Nat → Int32) (J : Nat → Nat → Int64) (Q : Option Value → sm_M → Prop) (x2 : Int32) (x3 : Int32) (x4 : Int32) (s0 : Int32) :
    sm_wp X 264 127 [some (.ref 81), none, some (.int x2), some (.int x3), some (.int x4), none] [.int s0] (sM mo G I J) Q =
    (if ¬ (s0 : Int32) = 0 then sm_wp X 264 139 [some (.ref 81), none, some (.int x2), some (.int x3), some (.int x4), none] [] (sM mo G I J) Q else (sm_wp X 266 0 [some (.ref 81), some (.int 2), some (.int 2), some (.int 6), none] [] (sM mo G I J) (fun v M => sm_wp X 264 138 [some (.ref 81), none, some (.int x2), some (.int x3), some (.int x4), none] (v.toList ++ []) M Q))) :=
  (sm_blk X 264 127 (tt_lin 264 (by decide)) rfl rfl _ _ _ _).trans rfl
set_option maxRecDepth 100000 in
theorem bk_264_138 (X : (Nat → Int32) × Nat) (mo : Bool) (G : Nat × Nat) (I : Nat → Nat → Int32) (J : Nat → Nat → Int64) (Q : Option Value → sm_M → Prop) (x2 : Int32) (x3 : Int32) (x4 : Int32) :
    sm_wp X 264 138 [some (.ref 81), none, some (.int x2), some (.int x3), some (.int x4), none] [] (sM mo G I J) Q =
    (True ∧ Q none (sM mo G I J)) :=
  (sm_blk X 264 138 (tt_lin 264 (by decide)) rfl rfl _ _ _ _).trans rfl
set_option maxRecDepth 100000 in
theorem bk_264_139 (X : (Nat → Int32) × Nat) (mo : Bool) (G : Nat × Nat) (I : Nat → Nat → Int32) (J : Nat → Nat → Int64) (Q : Option Value → sm_M → Prop) (x2 : Int32) (x3 : Int32) (x4 : Int32) :
    sm_wp X 264 139 [some (.ref 81), none, some (.int x2), some (.int x3), some (.int x4), none] [] (sM mo G I J) Q =
    (sm_wp X 264 142 [some (.ref 81), none, none, none, some (.int 0), none] [] (sM mo G I J) Q) :=
  (sm_blk X 264 139 (tt_lin 264 (by decide)) rfl rfl _ _ _ _).trans rfl
set_option maxRecDepth 100000 in
theorem bk_264_142 (X : (Nat → Int32) × Nat) (mo : Bool) (G : Nat × Nat) (I : Nat → Nat → Int32) (J : Nat → Nat → Int64) (Q : Option Value → sm_M → Prop) (x4 : Int32) :
    sm_wp X 264 142 [some (.ref 81), none, none, none, some (.int x4), none] [] (sM mo G I J) Q =
    (if (I 81 46 : Int32) ≤ (x4 : Int32) then sm_wp X 264 261 [some (.ref 81), none, none, none, some (.int x4), none] [] (sM mo G I J) Q else (vp_in x4 60 ∧ (if (I 122 (x4.toNatClampNeg) : Int32) = 0 then sm_wp X 264 255 [some (.ref 81), none, none, none, some (.int x4), none] [] (sM mo G I J) Q else (vp_in x4 60 ∧ (if (I 117 (x4.toNatClampNeg) : Int32) = (2 : Int32) then sm_wp X 264 175 [some (.ref 81), none, none, none, some (.int x4), none] [] (sM mo G I J) Q else (sm_wp X 264 255 [some (.ref 81), none, none, none, some (.int x4), none] [] (sM mo G I J) Q)))))) :=
  (sm_blk X 264 142 (tt_lin 264 (by decide)) rfl rfl _ _ _ _).trans rfl
set_option maxRecDepth 100000 in
theorem bk_264_175 (X : (Nat → Int32) × Nat) (mo : Bool) (G : Nat × Nat) (I : Nat → Nat → Int32) (J : Nat → Nat → Int64) (Q : Option Value → sm_M → Prop) (x4 : Int32) :
    sm_wp X 264 175 [some (.ref 81), none, none, none, some (.int x4), none] [] (sM mo G I J) Q =
    (sm_wp X 264 178 [some (.ref 81), none, none, none, some (.int x4), some (.int 0)] [] (sM mo G I J) Q) :=
  (sm_blk X 264 175 (tt_lin 264 (by decide)) rfl rfl _ _ _ _).trans rfl
set_option maxRecDepth 100000 in
theorem bk_264_178 (X : (Nat → Int32) × Nat) (mo : Bool) (G : Nat × Nat) (I : Nat → Nat → Int32) (J : Nat → Nat → Int64) (Q : Option Value → sm_M → Prop) (x4 : Int32) (x5 : Int32) :
    sm_wp X 264 178 [some (.ref 81), none, none, none, some (.int x4), some (.int x5)] [] (sM mo G I J) Q =
    (if (I 81 3 : Int32) ≤ (x5 : Int32) then sm_wp X 264 255 [some (.ref 81), none, none, none, some (.int x4), some (.int x5)] [] (sM mo G I J) Q else (vp_in x4 60 ∧ (if ¬ (((I 111 (x4.toNatClampNeg)) >>> (x5 &&& 31)) &&& 1 : Int32) = (1 : Int32) then sm_wp X 264 218 [some (.ref 81), none, none, none, some (.int x4), some (.int x5)] [] (sM mo G I J) Q else (vp_in x4 60 ∧ (sm_wp X 217 0 [some (.ref 81), some (.int x5), some (.int (I 109 (x4.toNatClampNeg))), some (.int x4), none] [] (sM mo G I J) (fun v M => sm_wp X 264 218 [some (.ref 81), none, none, none, some (.int x4), some (.int x5)] (v.toList ++ []) M Q)))))) :=
  (sm_blk X 264 178 (tt_lin 264 (by decide)) rfl rfl _ _ _ _).trans rfl
set_option maxRecDepth 100000 in
theorem bk_264_218 (X : (Nat → Int32) × Nat) (mo : Bool) (G : Nat × Nat) (I : Nat → Nat → Int32) (J : Nat → Nat → Int64) (Q : Option Value → sm_M → Prop) (x4 : Int32) (x5 : Int32) :
    sm_wp X 264 218 [some (.ref 81), none, none, none, some (.int x4), some (.int x5)] [] (sM mo G I J) Q =
    (vp_in x4 60 ∧ (if ¬ (((I 112 (x4.toNatClampNeg)) >>> (x5 &&& 31)) &&& 1 : Int32) = (1 : Int32) then sm_wp X 264 249 [some (.ref 81), none, none, none, some (.int x4), some (.int x5)] [] (sM mo G I J) Q else (vp_in x4 60 ∧ (sm_wp X 217 0 [some (.ref 81), some (.int x5), some (.int (I 108 (x4.toNatClampNeg))), some (.int x4), none] [] (sM mo G I J) (fun v M => sm_wp X 264 249 [some (.ref 81), none, none, none, some (.int x4), some (.int x5)] (v.toList ++ []) M Q))))) :=
  (sm_blk X 264 218 (tt_lin 264 (by decide)) rfl rfl _ _ _ _).trans rfl
set_option maxRecDepth 100000 in
theorem bk_264_249 (X : (Nat → Int32) × Nat) (mo : Bool) (G : Nat × Nat) (I : Nat → Nat → Int32) (J : Nat → Nat → Int64) (Q : Option Value → sm_M → Prop) (x4 : Int32) (x5 : Int32) :
    sm_wp X 264 249 [some (.ref 81), none, none, none, some (.int x4), some (.int x5)] [] (sM mo G I J) Q =
    (sm_wp X 264 178 [some (.ref 81), none, none, none, some (.int x4), some (.int (x5 + 1))] [] (sM mo G I J) Q) :=
  (sm_blk X 264 249 (tt_lin 264 (by decide)) rfl rfl _ _ _ _).trans rfl
set_option maxRecDepth 100000 in
theorem bk_264_255 (X : (Nat → Int32) × Nat) (mo : Bool) (G : Nat × Nat) (I : Nat → Nat → Int32) (J : Nat → Nat → Int64) (Q : Option Value → sm_M → Prop) (x4 : Int32) :
    sm_wp X 264 255 [some (.ref 81), none, none, none, some (.int x4), none] [] (sM mo G I J) Q =
    (sm_wp X 264 142 [some (.ref 81), none, none, none, some (.int (x4 + 1)), none] [] (sM mo G I J) Q) :=
  (sm_blk X 264 255 (tt_lin 264 (by decide)) rfl rfl _ _ _ _).trans rfl
set_option maxRecDepth 100000 in
theorem bk_264_261 (X : (Nat → Int32) × Nat) (mo : Bool) (G : Nat × Nat) (I : Nat → Nat → Int32) (J : Nat → Nat → Int64) (Q : Option Value → sm_M → Prop) (x4 : Int32) :
    sm_wp X 264 261 [some (.ref 81), none, none, none, some (.int x4), none] [] (sM mo G I J) Q =
    (sm_wp X 266 0 [some (.ref 81), some (.int 2), some (.int 2), some (.int 5), none] [] (sM mo G I J) (fun v M => sm_wp X 264 268 [some (.ref 81), none, none, none, some (.int x4), none] (v.toList ++ []) M Q)) :=
  (sm_blk X 264 261 (tt_lin 264 (by decide)) rfl rfl _ _ _ _).trans rfl
set_option maxRecDepth 100000 in
theorem bk_264_268 (X : (Nat → Int32) × Nat) (mo : Bool) (G : Nat × Nat) (I : Nat → Nat → Int32) (J : Nat → Nat → Int64) (Q : Option Value → sm_M → Prop) (x4 : Int32) :
    sm_wp X 264 268 [some (.ref 81), none, none, none, some (.int x4), none] [] (sM mo G I J) Q =
    (True ∧ Q none (sM mo G I J)) :=
  (sm_blk X 264 268 (tt_lin 264 (by decide)) rfl rfl _ _ _ _).trans rfl
set_option maxRecDepth 100000 in
theorem bk_265_0 (X : (Nat → Int32) × Nat) (mo : Bool) (G : Nat × Nat) (I : Nat → Nat → Int32) (J : Nat → Nat → Int64) (Q : Option Value → sm_M → Prop) (x1 : Int32) :
    sm_wp X 265 0 [some (.ref 81), some (.int x1), none, none] [] (sM mo G I J) Q =
    (sm_wp X 265 2 [some (.ref 81), some (.int x1), some (.int 0), none] [] (sM mo G I J) Q) :=
  (sm_blk X 265 0 (tt_lin 265 (by decide)) rfl rfl _ _ _ _).trans rfl
set_option maxRecDepth 100000 in
theorem bk_265_2 (X : (Nat → Int32) × Nat) (mo : Bool) (G : Nat × Nat) (I : Nat → Nat → Int32) (J : Nat → Nat → Int64) (Q : Option Value → sm_M → Prop) (x1 : Int32) (x2 : Int32) :
    sm_wp X 265 2 [some (.ref 81), some (.int x1), some (.int x2), none] [] (sM mo G I J) Q =
    (if (60 : Int32) ≤ (x2 : Int32) then sm_wp X 265 30 [some (.ref 81), some (.int x1), some (.int x2), none] [] (sM mo G I J) Q else (if ¬ (x2 : Int32) = (x1 : Int32) then sm_wp X 265 22 [some (.ref 81), some (.int x1), some (.int x2), none] [.int x2, .ref 122] (sM mo G I J) Q else (sm_wp X 265 23 [some (.ref 81), some (.int x1), some (.int x2), none] [.int 1, .int x2, .ref 122] (sM mo G I J) Q))) :=
  (sm_blk X 265 2 (tt_lin 265 (by decide)) rfl rfl _ _ _ _).trans rfl
set_option maxRecDepth 100000 in
theorem bk_265_22 (X : (Nat → Int32) × Nat) (mo : Bool) (G : Nat × Nat) (I : Nat → Nat → Int32) (J : Nat → Nat → Int64) (Q : Option Value → sm_M → Prop) (x1 : Int32) (x2 : Int32) (s1 : Int32) :
    sm_wp X 265 22 [some (.ref 81), some (.int x1), some (.int x2), none] [.int s1, .ref 122] (sM mo G I J) Q =
    (vp_in s1 60 ∧ (sm_wp X 265 2 [some (.ref 81), some (.int x1), some (.int (x2 + 1)), none] [] (sM mo G (up2 I 122 s1.toNatClampNeg (vp_nar .boolean 0)) J) Q)) :=
  (sm_blk X 265 22 (tt_lin 265 (by decide)) rfl rfl _ _ _ _).trans rfl
set_option maxRecDepth 100000 in
theorem bk_265_23 (X : (Nat → Int32) × Nat) (mo : Bool) (G : Nat × Nat) (I : Nat → Nat → Int32) (J : Nat → Nat → Int64) (Q : Option Value → sm_M → Prop) (x1 : Int32) (x2 : Int32) (s1 : Int32) (s2 : Int32) :
    sm_wp X 265 23 [some (.ref 81), some (.int x1), some (.int x2), none] [.int s2, .int s1, .ref 122] (sM mo G I J) Q =
    (vp_in s1 60 ∧ (sm_wp X 265 2 [some (.ref 81), some (.int x1), some (.int (x2 + 1)), none] [] (sM mo G (up2 I 122 s1.toNatClampNeg (vp_nar .boolean s2)) J) Q)) :=
  (sm_blk X 265 23 (tt_lin 265 (by decide)) rfl rfl _ _ _ _).trans rfl
set_option maxRecDepth 100000 in
theorem bk_265_30 (X : (Nat → Int32) × Nat) (mo : Bool) (G : Nat × Nat) (I : Nat → Nat → Int32) (J : Nat → Nat → Int64) (Q : Option Value → sm_M → Prop) (x1 : Int32) (x2 : Int32) :
    sm_wp X 265 30 [some (.ref 81), some (.int x1), some (.int x2), none] [] (sM mo G I J) Q =
    (sm_wp X 265 32 [some (.ref 81), none, some (.int 1), none] [] (sM mo G I J) Q) :=
  (sm_blk X 265 30 (tt_lin 265 (by decide)) rfl rfl _ _ _ _).trans rfl
set_option maxRecDepth 100000 in
theorem bk_265_32 (X : (Nat → Int32) × Nat) (mo : Bool) (G : Nat × Nat) (I : Nat → Nat → Int32) (J : Nat → Nat → Int64) (Q : Option Value → sm_M → Prop) (x2 : Int32) :
    sm_wp X 265 32 [some (.ref 81), none, some (.int x2), none] [] (sM mo G I J) Q =
    (if (x2 : Int32) = 0 then sm_wp X 265 120 [some (.ref 81), none, some (.int x2), none] [] (sM mo G I J) Q else (sm_wp X 265 40 [some (.ref 81), none, some (.int 0), some (.int 0)] [] (sM mo G I J) Q)) :=
  (sm_blk X 265 32 (tt_lin 265 (by decide)) rfl rfl _ _ _ _).trans rfl
set_option maxRecDepth 100000 in
theorem bk_265_40 (X : (Nat → Int32) × Nat) (mo : Bool) (G : Nat × Nat) (I : Nat → Nat → Int32) (J : Nat → Nat → Int64) (Q : Option Value → sm_M → Prop) (x2 : Int32) (x3 : Int32) :
    sm_wp X 265 40 [some (.ref 81), none, some (.int x2), some (.int x3)] [] (sM mo G I J) Q =
    (if (I 81 46 : Int32) ≤ (x3 : Int32) then sm_wp X 265 117 [some (.ref 81), none, some (.int x2), some (.int x3)] [] (sM mo G I J) Q else (vp_in x3 60 ∧ (if ¬ (I 107 (x3.toNatClampNeg) : Int32) = 0 then sm_wp X 265 111 [some (.ref 81), none, some (.int x2), some (.int x3)] [] (sM mo G I J) Q else (vp_in x3 60 ∧ (if (I 114 (x3.toNatClampNeg) : Int32) = ((-1) : Int32) then sm_wp X 265 111 [some (.ref 81), none, some (.int x2), some (.int x3)] [] (sM mo G I J) Q else (vp_in x3 60 ∧ (vp_in x3 60 ∧ (vp_in (I 114 (x3.toNatClampNeg)) 60 ∧ (if ¬ (I 122 (x3.toNatClampNeg) : Int32) = (I 122 ((I 114 (x3.toNatClampNeg)).toNatClampNeg) : Int32) then sm_wp X 265 90 [some (.ref 81), none, some (.int x2), some (.int x3)] [] (sM mo G I J) Q else (sm_wp X 265 111 [some (.ref 81), none, some (.int x2), some (.int x3)] [] (sM mo G I J) Q)))))))))) :=
  (sm_blk X 265 40 (tt_lin 265 (by decide)) rfl rfl _ _ _ _).trans rfl
set_option maxRecDepth 100000 in
theorem bk_265_90 (X : (Nat → Int32) × Nat) (mo : Bool) (G : Nat × Nat) (I : Nat → Nat → Int32) (J : Nat → Nat → Int64) (Q : Option Value → sm_M → Prop) (x2 : Int32) (x3 : Int32) :
    sm_wp X 265 90 [some (.ref 81), none, some (.int x2), some (.int x3)] [] (sM mo G I J) Q =
    (vp_in x3 60 ∧ (vp_in x3 60 ∧ (vp_in ((up2 I 122 x3.toNatClampNeg (vp_nar .boolean 1)) 114 (x3.toNatClampNeg)) 60 ∧ (sm_wp X 265 40 [some (.ref 81), none, some (.int 1), some (.int (x3 + 1))] [] (sM mo G (up2 (up2 I 122 x3.toNatClampNeg (vp_nar .boolean 1)) 122 ((up2 I 122 x3.toNatClampNeg (vp_nar .boolean 1)) 114 (x3.toNatClampNeg)).toNatClampNeg (vp_nar .boolean 1)) J) Q)))) :=
  (sm_blk X 265 90 (tt_lin 265 (by decide)) rfl rfl _ _ _ _).trans rfl
set_option maxRecDepth 100000 in
theorem bk_265_111 (X : (Nat → Int32) × Nat) (mo : Bool) (G : Nat × Nat) (I : Nat → Nat → Int32) (J : Nat → Nat → Int64) (Q : Option Value → sm_M → Prop) (x2 : Int32) (x3 : Int32) :
    sm_wp X 265 111 [some (.ref 81), none, some (.int x2), some (.int x3)] [] (sM mo G I J) Q =
    (sm_wp X 265 40 [some (.ref 81), none, some (.int x2), some (.int (x3 + 1))] [] (sM mo G I J) Q) :=
  (sm_blk X 265 111 (tt_lin 265 (by decide)) rfl rfl _ _ _ _).trans rfl
set_option maxRecDepth 100000 in
theorem bk_265_117 (X : (Nat → Int32) × Nat) (mo : Bool) (G : Nat × Nat) (I : Nat → Nat → Int32) (J : Nat → Nat → Int64) (Q : Option Value → sm_M → Prop) (x2 : Int32) (x3 : Int32) :
    sm_wp X 265 117 [some (.ref 81), none, some (.int x2), some (.int x3)] [] (sM mo G I J) Q =
    (sm_wp X 265 32 [some (.ref 81), none, some (.int x2), none] [] (sM mo G I J) Q) :=
  (sm_blk X 265 117 (tt_lin 265 (by decide)) rfl rfl _ _ _ _).trans rfl
set_option maxRecDepth 100000 in
theorem bk_265_120 (X : (Nat → Int32) × Nat) (mo : Bool) (G : Nat × Nat) (I : Nat → Nat → Int32) (J : Nat → Nat → Int64) (Q : Option Value → sm_M → Prop) (x2 : Int32) :
    sm_wp X 265 120 [some (.ref 81), none, some (.int x2), none] [] (sM mo G I J) Q =
    (True ∧ Q none (sM mo G I J)) :=
  (sm_blk X 265 120 (tt_lin 265 (by decide)) rfl rfl _ _ _ _).trans rfl
set_option maxRecDepth 100000 in
theorem bk_266_0 (X : (Nat → Int32) × Nat) (mo : Bool) (G : Nat × Nat) (I : Nat → Nat → Int32) (J : Nat → Nat → Int64) (Q : Option Value → sm_M → Prop) (x1 : Int32) (x2 : Int32) (x3 : Int32) :
    sm_wp X 266 0 [some (.ref 81), some (.int x1), some (.int x2), some (.int x3), none] [] (sM mo G I J) Q =
    (sm_wp X 266 3 [some (.ref 81), some (.int x1), some (.int x2), some (.int x3), some (.int 0)] [] (sM mo G I J) Q) :=
  (sm_blk X 266 0 (tt_lin 266 (by decide)) rfl rfl _ _ _ _).trans rfl
set_option maxRecDepth 100000 in
theorem bk_266_3 (X : (Nat → Int32) × Nat) (mo : Bool) (G : Nat × Nat) (I : Nat → Nat → Int32) (J : Nat → Nat → Int64) (Q : Option Value → sm_M → Prop) (x1 : Int32) (x2 : Int32) (x3 : Int32) (x4 : Int32) :
    sm_wp X 266 3 [some (.ref 81), some (.int x1), some (.int x2), some (.int x3), some (.int x4)] [] (sM mo G I J) Q =
    (if (I 81 46 : Int32) ≤ (x4 : Int32) then sm_wp X 266 58 [some (.ref 81), some (.int x1), some (.int x2), some (.int x3), some (.int x4)] [] (sM mo G I J) Q else (vp_in x4 60 ∧ (if (I 122 (x4.toNatClampNeg) : Int32) = 0 then sm_wp X 266 52 [some (.ref 81), some (.int x1), some (.int x2), some (.int x3), some (.int x4)] [] (sM mo G I J) Q else (vp_in x4 60 ∧ (if (I 117 (x4.toNatClampNeg) : Int32) < (x1 : Int32) then sm_wp X 266 52 [some (.ref 81), some (.int x1), some (.int x2), some (.int x3), some (.int x4)] [] (sM mo G I J) Q else (vp_in x4 60 ∧ (if (x2 : Int32) < (I 117 (x4.toNatClampNeg) : Int32) then sm_wp X 266 52 [some (.ref 81), some (.int x1), some (.int x2), some (.int x3), some (.int x4)] [] (sM mo G I J) Q else (vp_in x4 60 ∧ (sm_wp X 266 3 [some (.ref 81), some (.int x1), some (.int x2), some (.int x3), some (.int (x4 + 1))] [] (sM mo G (up2 I 117 x4.toNatClampNeg x3) J) Q))))))))) :=
  (sm_blk X 266 3 (tt_lin 266 (by decide)) rfl rfl _ _ _ _).trans rfl
set_option maxRecDepth 100000 in
theorem bk_266_52 (X : (Nat → Int32) × Nat) (mo : Bool) (G : Nat × Nat) (I : Nat → Nat → Int32) (J : Nat → Nat → Int64) (Q : Option Value → sm_M → Prop) (x1 : Int32) (x2 : Int32) (x3 : Int32) (x4 : Int32) :
    sm_wp X 266 52 [some (.ref 81), some (.int x1), some (.int x2), some (.int x3), some (.int x4)] [] (sM mo G I J) Q =
    (sm_wp X 266 3 [some (.ref 81), some (.int x1), some (.int x2), some (.int x3), some (.int (x4 + 1))] [] (sM mo G I J) Q) :=
  (sm_blk X 266 52 (tt_lin 266 (by decide)) rfl rfl _ _ _ _).trans rfl
set_option maxRecDepth 100000 in
theorem bk_266_58 (X : (Nat → Int32) × Nat) (mo : Bool) (G : Nat × Nat) (I : Nat → Nat → Int32) (J : Nat → Nat → Int64) (Q : Option Value → sm_M → Prop) (x1 : Int32) (x2 : Int32) (x3 : Int32) (x4 : Int32) :
    sm_wp X 266 58 [some (.ref 81), some (.int x1), some (.int x2), some (.int x3), some (.int x4)] [] (sM mo G I J) Q =
    (True ∧ Q none (sM mo G I J)) :=
  (sm_blk X 266 58 (tt_lin 266 (by decide)) rfl rfl _ _ _ _).trans rfl
set_option maxRecDepth 100000 in
theorem bk_267_0 (X : (Nat → Int32) × Nat) (mo : Bool) (G : Nat × Nat) (I : Nat → Nat → Int32) (J : Nat → Nat → Int64) (Q : Option Value → sm_M → Prop)  :
    sm_wp X 267 0 [some (.ref 81), none, none, none] [] (sM mo G I J) Q =
    (sm_wp X 267 4 [some (.ref 81), some (.int 0), some (.int 0), none] [] (sM mo G I J) Q) :=
  (sm_blk X 267 0 (tt_lin 267 (by decide)) rfl rfl _ _ _ _).trans rfl
set_option maxRecDepth 100000 in
theorem bk_267_4 (X : (Nat → Int32) × Nat) (mo : Bool) (G : Nat × Nat) (I : Nat → Nat → Int32) (J : Nat → Nat → Int64) (Q : Option Value → sm_M → Prop) (x1 : Int32) (x2 : Int32) :
    sm_wp X 267 4 [some (.ref 81), some (.int x1), some (.int x2), none] [] (sM mo G I J) Q =
    (if (I 81 46 : Int32) ≤ (x2 : Int32) then sm_wp X 267 112 [some (.ref 81), some (.int x1), some (.int x2), none] [] (sM mo G I J) Q else (vp_in x2 60 ∧ (if (I 122 (x2.toNatClampNeg) : Int32) = 0 then sm_wp X 267 106 [some (.ref 81), some (.int x1), some (.int x2), none] [] (sM mo G I J) Q else (vp_in x2 60 ∧ (if (I 117 (x2.toNatClampNeg) : Int32) = (2 : Int32) then sm_wp X 267 34 [some (.ref 81), some (.int x1), some (.int x2), none] [] (sM mo G I J) Q else (sm_wp X 267 106 [some (.ref 81), some (.int x1), some (.int x2), none] [] (sM mo G I J) Q)))))) :=
  (sm_blk X 267 4 (tt_lin 267 (by decide)) rfl rfl _ _ _ _).trans rfl
set_option maxRecDepth 100000 in
theorem bk_267_34 (X : (Nat → Int32) × Nat) (mo : Bool) (G : Nat × Nat) (I : Nat → Nat → Int32) (J : Nat → Nat → Int64) (Q : Option Value → sm_M → Prop) (x1 : Int32) (x2 : Int32) :
    sm_wp X 267 34 [some (.ref 81), some (.int x1), some (.int x2), none] [] (sM mo G I J) Q =
    (vp_in x2 60 ∧ (vp_in x2 60 ∧ (if (x1 &&& ((I 111 (x2.toNatClampNeg)) ||| (I 112 (x2.toNatClampNeg))) : Int32) = 0 then sm_wp X 267 56 [some (.ref 81), some (.int x1), some (.int x2), some (.int ((I 111 (x2.toNatClampNeg)) ||| (I 112 (x2.toNatClampNeg))))] [] (sM mo G I J) Q else (sm_zb 0 ∧ Q (some (.int 0)) (sM mo G I J))))) :=
  (sm_blk X 267 34 (tt_lin 267 (by decide)) rfl rfl _ _ _ _).trans rfl
set_option maxRecDepth 100000 in
theorem bk_267_56 (X : (Nat → Int32) × Nat) (mo : Bool) (G : Nat × Nat) (I : Nat → Nat → Int32) (J : Nat → Nat → Int64) (Q : Option Value → sm_M → Prop) (x1 : Int32) (x2 : Int32) (x3 : Int32) :
    sm_wp X 267 56 [some (.ref 81), some (.int x1), some (.int x2), some (.int x3)] [] (sM mo G I J) Q =
    (vp_in x2 60 ∧ (vp_in x2 60 ∧ (sm_wp X 223 0 [some (.ref 81), some (.int (I 108 (x2.toNatClampNeg))), none, none] [] (sM mo G I J) (fun v M => sm_wp X 267 76 [some (.ref 81), some (.int (x1 ||| x3)), some (.int x2), some (.int x3)] (v.toList ++ [.int (I 111 (x2.toNatClampNeg))]) M Q)))) :=
  (sm_blk X 267 56 (tt_lin 267 (by decide)) rfl rfl _ _ _ _).trans rfl
set_option maxRecDepth 100000 in
theorem bk_267_76 (X : (Nat → Int32) × Nat) (mo : Bool) (G : Nat × Nat) (I : Nat → Nat → Int32) (J : Nat → Nat → Int64) (Q : Option Value → sm_M → Prop) (x1 : Int32) (x2 : Int32) (x3 : Int32) (s0 : Int32) (s1 : Int32) :
    sm_wp X 267 76 [some (.ref 81), some (.int x1), some (.int x2), some (.int x3)] [.int s1, .int s0] (sM mo G I J) Q =
    (if ¬ (s0 &&& (s1 ^^^ (-1)) : Int32) = 0 then sm_wp X 267 104 [some (.ref 81), some (.int x1), some (.int x2), some (.int x3)] [] (sM mo G I J) Q else (vp_in x2 60 ∧ (vp_in x2 60 ∧ (sm_wp X 223 0 [some (.ref 81), some (.int (I 109 (x2.toNatClampNeg))), none, none] [] (sM mo G I J) (fun v M => sm_wp X 267 98 [some (.ref 81), some (.int x1), some (.int x2), some (.int x3)] (v.toList ++ [.int (I 112 (x2.toNatClampNeg))]) M Q))))) :=
  (sm_blk X 267 76 (tt_lin 267 (by decide)) rfl rfl _ _ _ _).trans rfl
set_option maxRecDepth 100000 in
theorem bk_267_98 (X : (Nat → Int32) × Nat) (mo : Bool) (G : Nat × Nat) (I : Nat → Nat → Int32) (J : Nat → Nat → Int64) (Q : Option Value → sm_M → Prop) (x1 : Int32) (x2 : Int32) (x3 : Int32) (s0 : Int32) (s1 : Int32) :
    sm_wp X 267 98 [some (.ref 81), some (.int x1), some (.int x2), some (.int x3)] [.int s1, .int s0] (sM mo G I J) Q =
    (if (s0 &&& (s1 ^^^ (-1)) : Int32) = 0 then sm_wp X 267 106 [some (.ref 81), some (.int x1), some (.int x2), some (.int x3)] [] (sM mo G I J) Q else (sm_zb 0 ∧ Q (some (.int 0)) (sM mo G I J))) :=
  (sm_blk X 267 98 (tt_lin 267 (by decide)) rfl rfl _ _ _ _).trans rfl
set_option maxRecDepth 100000 in
theorem bk_267_104 (X : (Nat → Int32) × Nat) (mo : Bool) (G : Nat × Nat) (I : Nat → Nat → Int32) (J : Nat → Nat → Int64) (Q : Option Value → sm_M → Prop) (x1 : Int32) (x2 : Int32) (x3 : Int32) :
    sm_wp X 267 104 [some (.ref 81), some (.int x1), some (.int x2), some (.int x3)] [] (sM mo G I J) Q =
    (sm_zb 0 ∧ Q (some (.int 0)) (sM mo G I J)) :=
  (sm_blk X 267 104 (tt_lin 267 (by decide)) rfl rfl _ _ _ _).trans rfl
set_option maxRecDepth 100000 in
theorem bk_267_106 (X : (Nat → Int32) × Nat) (mo : Bool) (G : Nat × Nat) (I : Nat → Nat → Int32) (J : Nat → Nat → Int64) (Q : Option Value → sm_M → Prop) (x1 : Int32) (x2 : Int32) :
    sm_wp X 267 106 [some (.ref 81), some (.int x1), some (.int x2), none] [] (sM mo G I J) Q =
    (sm_wp X 267 4 [some (.ref 81), some (.int x1), some (.int (x2 + 1)), none] [] (sM mo G I J) Q) :=
  (sm_blk X 267 106 (tt_lin 267 (by decide)) rfl rfl _ _ _ _).trans rfl
set_option maxRecDepth 100000 in
theorem bk_267_112 (X : (Nat → Int32) × Nat) (mo : Bool) (G : Nat × Nat) (I : Nat → Nat → Int32) (J : Nat → Nat → Int64) (Q : Option Value → sm_M → Prop) (x1 : Int32) (x2 : Int32) :
    sm_wp X 267 112 [some (.ref 81), some (.int x1), some (.int x2), none] [] (sM mo G I J) Q =
    (sm_zb 1 ∧ Q (some (.int 1)) (sM mo G I J)) :=
  (sm_blk X 267 112 (tt_lin 267 (by decide)) rfl rfl _ _ _ _).trans rfl
set_option maxRecDepth 100000 in
theorem bk_268_0 (X : (Nat → Int32) × Nat) (mo : Bool) (G : Nat × Nat) (I : Nat → Nat → Int32) (J : Nat → Nat → Int64) (Q : Option Value → sm_M → Prop) (x1 : Int32) (x2 : Int32) :
    sm_wp X 268 0 [some (.ref 81), some (.int x1), some (.int x2)] [] (sM mo G I J) Q =
    (if (x1 : Int32) < 0 then sm_wp X 268 27 [some (.ref 81), some (.int x1), some (.int x2)] [] (sM mo G (up2 I 81 2 0) J) Q else (if ((up2 I 81 2 0) 81 46 : Int32) ≤ (x1 : Int32) then sm_wp X 268 27 [some (.ref 81), some (.int x1), some (.int x2)] [] (sM mo G (up2 I 81 2 0) J) Q else (sm_wp X 210 0 [some (.int x2), some (.int 0), some (.int 6)] [] (sM mo G (up2 I 81 2 0) J) (fun v M => sm_wp X 268 24 [some (.ref 81), some (.int x1), some (.int x2)] (v.toList ++ []) M Q)))) :=
  (sm_blk X 268 0 (tt_lin 268 (by decide)) rfl rfl _ _ _ _).trans rfl
set_option maxRecDepth 100000 in
theorem bk_268_24 (X : (Nat → Int32) × Nat) (mo : Bool) (G : Nat × Nat) (I : Nat → Nat → Int32) (J : Nat → Nat → Int64) (Q : Option Value → sm_M → Prop) (x1 : Int32) (x2 : Int32) (s0 : Int32) :
    sm_wp X 268 24 [some (.ref 81), some (.int x1), some (.int x2)] [.int s0] (sM mo G I J) Q =
    (if ¬ (s0 : Int32) = 0 then sm_wp X 268 30 [some (.ref 81), some (.int x1), some (.int x2)] [] (sM mo G I J) Q else (True ∧ Q (some (.int (-2))) (sM mo G I J))) :=
  (sm_blk X 268 24 (tt_lin 268 (by decide)) rfl rfl _ _ _ _).trans rfl
set_option maxRecDepth 100000 in
theorem bk_268_27 (X : (Nat → Int32) × Nat) (mo : Bool) (G : Nat × Nat) (I : Nat → Nat → Int32) (J : Nat → Nat → Int64) (Q : Option Value → sm_M → Prop) (x1 : Int32) (x2 : Int32) :
    sm_wp X 268 27 [some (.ref 81), some (.int x1), some (.int x2)] [] (sM mo G I J) Q =
    (True ∧ Q (some (.int (-2))) (sM mo G I J)) :=
  (sm_blk X 268 27 (tt_lin 268 (by decide)) rfl rfl _ _ _ _).trans rfl
set_option maxRecDepth 100000 in
theorem bk_268_30 (X : (Nat → Int32) × Nat) (mo : Bool) (G : Nat × Nat) (I : Nat → Nat → Int32) (J : Nat → Nat → Int64) (Q : Option Value → sm_M → Prop) (x1 : Int32) (x2 : Int32) :
    sm_wp X 268 30 [some (.ref 81), some (.int x1), some (.int x2)] [] (sM mo G I J) Q =
    (if (x2 : Int32) = 0 then sm_wp X 268 68 [some (.ref 81), some (.int x1), some (.int x2)] [] (sM mo G I J) Q else if (x2 : Int32) = 1 then sm_wp X 268 83 [some (.ref 81), some (.int x1), some (.int x2)] [] (sM mo G I J) Q else if (x2 : Int32) = 2 then sm_wp X 268 90 [some (.ref 81), some (.int x1), some (.int x2)] [] (sM mo G I J) Q else if (x2 : Int32) = 3 then sm_wp X 268 97 [some (.ref 81), some (.int x1), some (.int x2)] [] (sM mo G I J) Q else if (x2 : Int32) = 4 then sm_wp X 268 104 [some (.ref 81), some (.int x1), some (.int x2)] [] (sM mo G I J) Q else if (x2 : Int32) = 5 then sm_wp X 268 111 [some (.ref 81), some (.int x1), some (.int x2)] [] (sM mo G I J) Q else sm_wp X 268 118 [some (.ref 81), some (.int x1), some (.int x2)] [] (sM mo G I J) Q) :=
  (sm_blk X 268 30 (tt_lin 268 (by decide)) rfl rfl _ _ _ _).trans rfl
set_option maxRecDepth 100000 in
theorem bk_268_68 (X : (Nat → Int32) × Nat) (mo : Bool) (G : Nat × Nat) (I : Nat → Nat → Int32) (J : Nat → Nat → Int64) (Q : Option Value → sm_M → Prop) (x1 : Int32) (x2 : Int32) :
    sm_wp X 268 68 [some (.ref 81), some (.int x1), some (.int x2)] [] (sM mo G I J) Q =
    (vp_in x1 60 ∧ (if (I 107 (x1.toNatClampNeg) : Int32) = 0 then sm_wp X 268 81 [some (.ref 81), some (.int x1), some (.int x2)] [] (sM mo G I J) Q else (sm_wp X 268 82 [some (.ref 81), some (.int x1), some (.int x2)] [.int 1] (sM mo G I J) Q))) :=
  (sm_blk X 268 68 (tt_lin 268 (by decide)) rfl rfl _ _ _ _).trans rfl
set_option maxRecDepth 100000 in
theorem bk_268_81 (X : (Nat → Int32) × Nat) (mo : Bool) (G : Nat × Nat) (I : Nat → Nat → Int32) (J : Nat → Nat → Int64) (Q : Option Value → sm_M → Prop) (x1 : Int32) (x2 : Int32) :
    sm_wp X 268 81 [some (.ref 81), some (.int x1), some (.int x2)] [] (sM mo G I J) Q =
    (True ∧ Q (some (.int 0)) (sM mo G I J)) :=
  (sm_blk X 268 81 (tt_lin 268 (by decide)) rfl rfl _ _ _ _).trans rfl
set_option maxRecDepth 100000 in
theorem bk_268_82 (X : (Nat → Int32) × Nat) (mo : Bool) (G : Nat × Nat) (I : Nat → Nat → Int32) (J : Nat → Nat → Int64) (Q : Option Value → sm_M → Prop) (x1 : Int32) (x2 : Int32) (s0 : Int32) :
    sm_wp X 268 82 [some (.ref 81), some (.int x1), some (.int x2)] [.int s0] (sM mo G I J) Q =
    (True ∧ Q (some (.int s0)) (sM mo G I J)) :=
  (sm_blk X 268 82 (tt_lin 268 (by decide)) rfl rfl _ _ _ _).trans rfl
set_option maxRecDepth 100000 in
theorem bk_268_83 (X : (Nat → Int32) × Nat) (mo : Bool) (G : Nat × Nat) (I : Nat → Nat → Int32) (J : Nat → Nat → Int64) (Q : Option Value → sm_M → Prop) (x1 : Int32) (x2 : Int32) :
    sm_wp X 268 83 [some (.ref 81), some (.int x1), some (.int x2)] [] (sM mo G I J) Q =
    (vp_in x1 60 ∧ (True ∧ Q (some (.int (I 110 (x1.toNatClampNeg)))) (sM mo G I J))) :=
  (sm_blk X 268 83 (tt_lin 268 (by decide)) rfl rfl _ _ _ _).trans rfl
set_option maxRecDepth 100000 in
theorem bk_268_90 (X : (Nat → Int32) × Nat) (mo : Bool) (G : Nat × Nat) (I : Nat → Nat → Int32) (J : Nat → Nat → Int64) (Q : Option Value → sm_M → Prop) (x1 : Int32) (x2 : Int32) :
    sm_wp X 268 90 [some (.ref 81), some (.int x1), some (.int x2)] [] (sM mo G I J) Q =
    (vp_in x1 60 ∧ (True ∧ Q (some (.int (I 117 (x1.toNatClampNeg)))) (sM mo G I J))) :=
  (sm_blk X 268 90 (tt_lin 268 (by decide)) rfl rfl _ _ _ _).trans rfl
set_option maxRecDepth 100000 in
theorem bk_268_97 (X : (Nat → Int32) × Nat) (mo : Bool) (G : Nat × Nat) (I : Nat → Nat → Int32) (J : Nat → Nat → Int64) (Q : Option Value → sm_M → Prop) (x1 : Int32) (x2 : Int32) :
    sm_wp X 268 97 [some (.ref 81), some (.int x1), some (.int x2)] [] (sM mo G I J) Q =
    (vp_in x1 60 ∧ (True ∧ Q (some (.int (I 118 (x1.toNatClampNeg)))) (sM mo G I J))) :=
  (sm_blk X 268 97 (tt_lin 268 (by decide)) rfl rfl _ _ _ _).trans rfl
set_option maxRecDepth 100000 in
theorem bk_268_104 (X : (Nat → Int32) × Nat) (mo : Bool) (G : Nat × Nat) (I : Nat → Nat → Int32) (J : Nat → Nat → Int64) (Q : Option Value → sm_M → Prop) (x1 : Int32) (x2 : Int32) :
    sm_wp X 268 104 [some (.ref 81), some (.int x1), some (.int x2)] [] (sM mo G I J) Q =
    (vp_in x1 60 ∧ (True ∧ Q (some (.int (I 108 (x1.toNatClampNeg)))) (sM mo G I J))) :=
  (sm_blk X 268 104 (tt_lin 268 (by decide)) rfl rfl _ _ _ _).trans rfl
set_option maxRecDepth 100000 in
theorem bk_268_111 (X : (Nat → Int32) × Nat) (mo : Bool) (G : Nat × Nat) (I : Nat → Nat → Int32) (J : Nat → Nat → Int64) (Q : Option Value → sm_M → Prop) (x1 : Int32) (x2 : Int32) :
    sm_wp X 268 111 [some (.ref 81), some (.int x1), some (.int x2)] [] (sM mo G I J) Q =
    (vp_in x1 60 ∧ (True ∧ Q (some (.int (I 109 (x1.toNatClampNeg)))) (sM mo G I J))) :=
  (sm_blk X 268 111 (tt_lin 268 (by decide)) rfl rfl _ _ _ _).trans rfl
set_option maxRecDepth 100000 in
theorem bk_268_118 (X : (Nat → Int32) × Nat) (mo : Bool) (G : Nat × Nat) (I : Nat → Nat → Int32) (J : Nat → Nat → Int64) (Q : Option Value → sm_M → Prop) (x1 : Int32) (x2 : Int32) :
    sm_wp X 268 118 [some (.ref 81), some (.int x1), some (.int x2)] [] (sM mo G I J) Q =
    (vp_in x1 60 ∧ (True ∧ Q (some (.int (I 119 (x1.toNatClampNeg)))) (sM mo G I J))) :=
  (sm_blk X 268 118 (tt_lin 268 (by decide)) rfl rfl _ _ _ _).trans rfl
set_option maxRecDepth 100000 in
theorem bk_269_0 (X : (Nat → Int32) × Nat) (mo : Bool) (G : Nat × Nat) (I : Nat → Nat → Int32) (J : Nat → Nat → Int64) (Q : Option Value → sm_M → Prop) (x1 : Int32) :
    sm_wp X 269 0 [some (.ref 81), some (.int x1)] [] (sM mo G I J) Q =
    (sm_wp X 248 0 [some (.ref 81), some (.int x1)] [] (sM mo G (up2 I 81 2 0) J) (fun v M => sm_wp X 269 10 [some (.ref 81), some (.int x1)] (v.toList ++ []) M Q)) :=
  (sm_blk X 269 0 (tt_lin 269 (by decide)) rfl rfl _ _ _ _).trans rfl
set_option maxRecDepth 100000 in
theorem bk_269_10 (X : (Nat → Int32) × Nat) (mo : Bool) (G : Nat × Nat) (I : Nat → Nat → Int32) (J : Nat → Nat → Int64) (Q : Option Value → sm_M → Prop) (x1 : Int32) (s0 : Int32) :
    sm_wp X 269 10 [some (.ref 81), some (.int x1)] [.int s0] (sM mo G I J) Q =
    (if (s0 : Int32) = 0 then sm_wp X 269 22 [some (.ref 81), some (.int x1)] [] (sM mo G I J) Q else (sm_wp X 254 0 [some (.ref 81), some (.int x1), some (.int 0), none, none] [] (sM mo G I J) (fun v M => sm_wp X 269 19 [some (.ref 81), some (.int x1)] (v.toList ++ []) M Q))) :=
  (sm_blk X 269 10 (tt_lin 269 (by decide)) rfl rfl _ _ _ _).trans rfl
set_option maxRecDepth 100000 in
theorem bk_269_19 (X : (Nat → Int32) × Nat) (mo : Bool) (G : Nat × Nat) (I : Nat → Nat → Int32) (J : Nat → Nat → Int64) (Q : Option Value → sm_M → Prop) (x1 : Int32) (s0 : Int32) :
    sm_wp X 269 19 [some (.ref 81), some (.int x1)] [.int s0] (sM mo G I J) Q =
    (sm_wp X 269 23 [some (.ref 81), some (.int x1)] [.int s0] (sM mo G I J) Q) :=
  (sm_blk X 269 19 (tt_lin 269 (by decide)) rfl rfl _ _ _ _).trans rfl
set_option maxRecDepth 100000 in
theorem bk_269_22 (X : (Nat → Int32) × Nat) (mo : Bool) (G : Nat × Nat) (I : Nat → Nat → Int32) (J : Nat → Nat → Int64) (Q : Option Value → sm_M → Prop) (x1 : Int32) :
    sm_wp X 269 22 [some (.ref 81), some (.int x1)] [] (sM mo G I J) Q =
    (True ∧ Q (some (.int (-1))) (sM mo G I J)) :=
  (sm_blk X 269 22 (tt_lin 269 (by decide)) rfl rfl _ _ _ _).trans rfl
set_option maxRecDepth 100000 in
theorem bk_269_23 (X : (Nat → Int32) × Nat) (mo : Bool) (G : Nat × Nat) (I : Nat → Nat → Int32) (J : Nat → Nat → Int64) (Q : Option Value → sm_M → Prop) (x1 : Int32) (s0 : Int32) :
    sm_wp X 269 23 [some (.ref 81), some (.int x1)] [.int s0] (sM mo G I J) Q =
    (True ∧ Q (some (.int s0)) (sM mo G I J)) :=
  (sm_blk X 269 23 (tt_lin 269 (by decide)) rfl rfl _ _ _ _).trans rfl
set_option maxRecDepth 100000 in
theorem bk_270_0 (X : (Nat → Int32) × Nat) (mo : Bool) (G : Nat × Nat) (I : Nat → Nat → Int32) (J : Nat → Nat → Int64) (Q : Option Value → sm_M → Prop) (x1 : Int32) (x2 : Int32) :
    sm_wp X 270 0 [some (.ref 81), some (.int x1), some (.int x2)] [] (sM mo G I J) Q =
    (sm_wp X 248 0 [some (.ref 81), some (.int x1)] [] (sM mo G (up2 I 81 2 0) J) (fun v M => sm_wp X 270 10 [some (.ref 81), some (.int x1), some (.int x2)] (v.toList ++ []) M Q)) :=
  (sm_blk X 270 0 (tt_lin 270 (by decide)) rfl rfl _ _ _ _).trans rfl
set_option maxRecDepth 100000 in
theorem bk_270_10 (X : (Nat → Int32) × Nat) (mo : Bool) (G : Nat × Nat) (I : Nat → Nat → Int32) (J : Nat → Nat → Int64) (Q : Option Value → sm_M → Prop) (x1 : Int32) (x2 : Int32) (s0 : Int32) :
    sm_wp X 270 10 [some (.ref 81), some (.int x1), some (.int x2)] [.int s0] (sM mo G I J) Q =
    (if (s0 : Int32) = 0 then sm_wp X 270 41 [some (.ref 81), some (.int x1), some (.int x2)] [] (sM mo G I J) Q else (if (x2 : Int32) < 0 then sm_wp X 270 41 [some (.ref 81), some (.int x1), some (.int x2)] [] (sM mo G I J) Q else (vp_in x1 60 ∧ (vp_in (I 109 (x1.toNatClampNeg)) 7 ∧ (if (I 102 ((I 109 (x1.toNatClampNeg)).toNatClampNeg) : Int32) ≤ (x2 : Int32) then sm_wp X 270 41 [some (.ref 81), some (.int x1), some (.int x2)] [] (sM mo G I J) Q else (sm_wp X 256 0 [some (.ref 81), some (.int x1), some (.int x2), none, none, none, none, none, none, none] [] (sM mo G I J) (fun v M => sm_wp X 270 38 [some (.ref 81), some (.int x1), some (.int x2)] (v.toList ++ []) M Q))))))) :=
  (sm_blk X 270 10 (tt_lin 270 (by decide)) rfl rfl _ _ _ _).trans rfl
set_option maxRecDepth 100000 in
theorem bk_270_38 (X : (Nat → Int32) × Nat) (mo : Bool) (G : Nat × Nat) (I : Nat → Nat → Int32) (J : Nat → Nat → Int64) (Q : Option Value → sm_M → Prop) (x1 : Int32) (x2 : Int32) (s0 : Int64) :
    sm_wp X 270 38 [some (.ref 81), some (.int x1), some (.int x2)] [.long s0] (sM mo G I J) Q =
    (sm_wp X 270 44 [some (.ref 81), some (.int x1), some (.int x2)] [.long s0] (sM mo G I J) Q) :=
  (sm_blk X 270 38 (tt_lin 270 (by decide)) rfl rfl _ _ _ _).trans rfl
set_option maxRecDepth 100000 in
theorem bk_270_41 (X : (Nat → Int32) × Nat) (mo : Bool) (G : Nat × Nat) (I : Nat → Nat → Int32) (J : Nat → Nat → Int64) (Q : Option Value → sm_M → Prop) (x1 : Int32) (x2 : Int32) :
    sm_wp X 270 41 [some (.ref 81), some (.int x1), some (.int x2)] [] (sM mo G I J) Q =
    (True ∧ Q (some (.long (-9223372036854775808))) (sM mo G I J)) :=
  (sm_blk X 270 41 (tt_lin 270 (by decide)) rfl rfl _ _ _ _).trans rfl
set_option maxRecDepth 100000 in
theorem bk_270_44 (X : (Nat → Int32) × Nat) (mo : Bool) (G : Nat × Nat) (I : Nat → Nat → Int32) (J : Nat → Nat → Int64) (Q : Option Value → sm_M → Prop) (x1 : Int32) (x2 : Int32) (s0 : Int64) :
    sm_wp X 270 44 [some (.ref 81), some (.int x1), some (.int x2)] [.long s0] (sM mo G I J) Q =
    (True ∧ Q (some (.long s0)) (sM mo G I J)) :=
  (sm_blk X 270 44 (tt_lin 270 (by decide)) rfl rfl _ _ _ _).trans rfl
set_option maxRecDepth 100000 in
theorem bk_271_0 (X : (Nat → Int32) × Nat) (mo : Bool) (G : Nat × Nat) (I : Nat → Nat → Int32) (J : Nat → Nat → Int64) (Q : Option Value → sm_M → Prop) (x1 : Int32) (x2 : Int32) :
    sm_wp X 271 0 [some (.ref 81), some (.int x1), some (.int x2), none] [] (sM mo G I J) Q =
    (if (x1 : Int32) < 0 then sm_wp X 271 25 [some (.ref 81), some (.int x1), some (.int x2), none] [] (sM mo G (up2 I 81 2 0) J) Q else (if ((up2 I 81 2 0) 81 46 : Int32) ≤ (x1 : Int32) then sm_wp X 271 25 [some (.ref 81), some (.int x1), some (.int x2), none] [] (sM mo G (up2 I 81 2 0) J) Q else (sm_wp X 216 0 [some (.ref 81), some (.int x2)] [] (sM mo G (up2 I 81 2 0) J) (fun v M => sm_wp X 271 22 [some (.ref 81), some (.int x1), some (.int x2), none] (v.toList ++ []) M Q)))) :=
  (sm_blk X 271 0 (tt_lin 271 (by decide)) rfl rfl _ _ _ _).trans rfl
set_option maxRecDepth 100000 in
theorem bk_271_22 (X : (Nat → Int32) × Nat) (mo : Bool) (G : Nat × Nat) (I : Nat → Nat → Int32) (J : Nat → Nat → Int64) (Q : Option Value → sm_M → Prop) (x1 : Int32) (x2 : Int32) (s0 : Int32) :
    sm_wp X 271 22 [some (.ref 81), some (.int x1), some (.int x2), none] [.int s0] (sM mo G I J) Q =
    (if ¬ (s0 : Int32) = 0 then sm_wp X 271 27 [some (.ref 81), some (.int x1), some (.int x2), none] [] (sM mo G I J) Q else (True ∧ Q (some (.int (-1))) (sM mo G I J))) :=
  (sm_blk X 271 22 (tt_lin 271 (by decide)) rfl rfl _ _ _ _).trans rfl
set_option maxRecDepth 100000 in
theorem bk_271_25 (X : (Nat → Int32) × Nat) (mo : Bool) (G : Nat × Nat) (I : Nat → Nat → Int32) (J : Nat → Nat → Int64) (Q : Option Value → sm_M → Prop) (x1 : Int32) (x2 : Int32) :
    sm_wp X 271 25 [some (.ref 81), some (.int x1), some (.int x2), none] [] (sM mo G I J) Q =
    (True ∧ Q (some (.int (-1))) (sM mo G I J)) :=
  (sm_blk X 271 25 (tt_lin 271 (by decide)) rfl rfl _ _ _ _).trans rfl
set_option maxRecDepth 100000 in
theorem bk_271_27 (X : (Nat → Int32) × Nat) (mo : Bool) (G : Nat × Nat) (I : Nat → Nat → Int32) (J : Nat → Nat → Int64) (Q : Option Value → sm_M → Prop) (x1 : Int32) (x2 : Int32) :
    sm_wp X 271 27 [some (.ref 81), some (.int x1), some (.int x2), none] [] (sM mo G I J) Q =
    (sm_wp X 272 0 [some (.ref 81), some (.int x1), some (.int x2)] [] (sM mo G I J) (fun v M => sm_wp X 271 33 [some (.ref 81), some (.int x1), some (.int x2), none] (v.toList ++ []) M Q)) :=
  (sm_blk X 271 27 (tt_lin 271 (by decide)) rfl rfl _ _ _ _).trans rfl
set_option maxRecDepth 100000 in
theorem bk_271_33 (X : (Nat → Int32) × Nat) (mo : Bool) (G : Nat × Nat) (I : Nat → Nat → Int32) (J : Nat → Nat → Int64) (Q : Option Value → sm_M → Prop) (x1 : Int32) (x2 : Int32) (s0 : Int32) :
    sm_wp X 271 33 [some (.ref 81), some (.int x1), some (.int x2), none] [.int s0] (sM mo G I J) Q =
    (if (s0 : Int32) ≤ (I 81 16 : Int32) then sm_wp X 271 46 [some (.ref 81), some (.int x1), some (.int x2), some (.int s0)] [] (sM mo G I J) Q else (sm_wp X 271 47 [some (.ref 81), some (.int x1), some (.int x2), some (.int s0)] [.int (-1)] (sM mo G I J) Q)) :=
  (sm_blk X 271 33 (tt_lin 271 (by decide)) rfl rfl _ _ _ _).trans rfl
set_option maxRecDepth 100000 in
theorem bk_271_46 (X : (Nat → Int32) × Nat) (mo : Bool) (G : Nat × Nat) (I : Nat → Nat → Int32) (J : Nat → Nat → Int64) (Q : Option Value → sm_M → Prop) (x1 : Int32) (x2 : Int32) (x3 : Int32) :
    sm_wp X 271 46 [some (.ref 81), some (.int x1), some (.int x2), some (.int x3)] [] (sM mo G I J) Q =
    (True ∧ Q (some (.int x3)) (sM mo G I J)) :=
  (sm_blk X 271 46 (tt_lin 271 (by decide)) rfl rfl _ _ _ _).trans rfl
set_option maxRecDepth 100000 in
theorem bk_271_47 (X : (Nat → Int32) × Nat) (mo : Bool) (G : Nat × Nat) (I : Nat → Nat → Int32) (J : Nat → Nat → Int64) (Q : Option Value → sm_M → Prop) (x1 : Int32) (x2 : Int32) (x3 : Int32) (s0 : Int32) :
    sm_wp X 271 47 [some (.ref 81), some (.int x1), some (.int x2), some (.int x3)] [.int s0] (sM mo G I J) Q =
    (True ∧ Q (some (.int s0)) (sM mo G I J)) :=
  (sm_blk X 271 47 (tt_lin 271 (by decide)) rfl rfl _ _ _ _).trans rfl
set_option maxRecDepth 100000 in
theorem bk_272_0 (X : (Nat → Int32) × Nat) (mo : Bool) (G : Nat × Nat) (I : Nat → Nat → Int32) (J : Nat → Nat → Int64) (Q : Option Value → sm_M → Prop) (x1 : Int32) (x2 : Int32) :
    sm_wp X 272 0 [some (.ref 81), some (.int x1), some (.int x2)] [] (sM mo G I J) Q =
    (vp_in x1 60 ∧ (if (I 108 (x1.toNatClampNeg) : Int32) = (x2 : Int32) then sm_wp X 272 20 [some (.ref 81), some (.int x1), some (.int x2)] [] (sM mo G I J) Q else (vp_in x1 60 ∧ (if ¬ (I 109 (x1.toNatClampNeg) : Int32) = (x2 : Int32) then sm_wp X 272 27 [some (.ref 81), some (.int x1), some (.int x2)] [] (sM mo G I J) Q else (vp_in x1 60 ∧ (True ∧ Q (some (.int (I 110 (x1.toNatClampNeg)))) (sM mo G I J))))))) :=
  (sm_blk X 272 0 (tt_lin 272 (by decide)) rfl rfl _ _ _ _).trans rfl
set_option maxRecDepth 100000 in
theorem bk_272_20 (X : (Nat → Int32) × Nat) (mo : Bool) (G : Nat × Nat) (I : Nat → Nat → Int32) (J : Nat → Nat → Int64) (Q : Option Value → sm_M → Prop) (x1 : Int32) (x2 : Int32) :
    sm_wp X 272 20 [some (.ref 81), some (.int x1), some (.int x2)] [] (sM mo G I J) Q =
    (vp_in x1 60 ∧ (True ∧ Q (some (.int (I 110 (x1.toNatClampNeg)))) (sM mo G I J))) :=
  (sm_blk X 272 20 (tt_lin 272 (by decide)) rfl rfl _ _ _ _).trans rfl
set_option maxRecDepth 100000 in
theorem bk_272_27 (X : (Nat → Int32) × Nat) (mo : Bool) (G : Nat × Nat) (I : Nat → Nat → Int32) (J : Nat → Nat → Int64) (Q : Option Value → sm_M → Prop) (x1 : Int32) (x2 : Int32) :
    sm_wp X 272 27 [some (.ref 81), some (.int x1), some (.int x2)] [] (sM mo G I J) Q =
    (vp_in x1 60 ∧ (if (I 107 (x1.toNatClampNeg) : Int32) = 0 then sm_wp X 272 61 [some (.ref 81), some (.int x1), some (.int x2)] [] (sM mo G I J) Q else (vp_in x1 60 ∧ (if ¬ (((I 116 (x1.toNatClampNeg)) >>> (x2 &&& 31)) &&& 1 : Int32) = (1 : Int32) then sm_wp X 272 61 [some (.ref 81), some (.int x1), some (.int x2)] [] (sM mo G I J) Q else (vp_in x1 60 ∧ (sm_wp X 272 62 [some (.ref 81), some (.int x1), some (.int x2)] [.int ((I 110 (x1.toNatClampNeg)) + 1)] (sM mo G I J) Q)))))) :=
  (sm_blk X 272 27 (tt_lin 272 (by decide)) rfl rfl _ _ _ _).trans rfl
set_option maxRecDepth 100000 in
theorem bk_272_61 (X : (Nat → Int32) × Nat) (mo : Bool) (G : Nat × Nat) (I : Nat → Nat → Int32) (J : Nat → Nat → Int64) (Q : Option Value → sm_M → Prop) (x1 : Int32) (x2 : Int32) :
    sm_wp X 272 61 [some (.ref 81), some (.int x1), some (.int x2)] [] (sM mo G I J) Q =
    (True ∧ Q (some (.int (-1))) (sM mo G I J)) :=
  (sm_blk X 272 61 (tt_lin 272 (by decide)) rfl rfl _ _ _ _).trans rfl
set_option maxRecDepth 100000 in
theorem bk_272_62 (X : (Nat → Int32) × Nat) (mo : Bool) (G : Nat × Nat) (I : Nat → Nat → Int32) (J : Nat → Nat → Int64) (Q : Option Value → sm_M → Prop) (x1 : Int32) (x2 : Int32) (s0 : Int32) :
    sm_wp X 272 62 [some (.ref 81), some (.int x1), some (.int x2)] [.int s0] (sM mo G I J) Q =
    (True ∧ Q (some (.int s0)) (sM mo G I J)) :=
  (sm_blk X 272 62 (tt_lin 272 (by decide)) rfl rfl _ _ _ _).trans rfl
set_option maxRecDepth 100000 in
theorem bk_273_0 (X : (Nat → Int32) × Nat) (mo : Bool) (G : Nat × Nat) (I : Nat → Nat → Int32) (J : Nat → Nat → Int64) (Q : Option Value → sm_M → Prop) (x1 : Int32) (x2 : Int32) (x3 : Int32) :
    sm_wp X 273 0 [some (.ref 81), some (.int x1), some (.int x2), some (.int x3), none, none, none] [] (sM mo G I J) Q =
    (sm_wp X 216 0 [some (.ref 81), some (.int x1)] [] (sM mo G (up2 I 81 2 0) J) (fun v M => sm_wp X 273 10 [some (.ref 81), some (.int x1), some (.int x2), some (.int x3), none, none, none] (v.toList ++ []) M Q)) :=
  (sm_blk X 273 0 (tt_lin 273 (by decide)) rfl rfl _ _ _ _).trans rfl
set_option maxRecDepth 100000 in
theorem bk_273_10 (X : (Nat → Int32) × Nat) (mo : Bool) (G : Nat × Nat) (I : Nat → Nat → Int32) (J : Nat → Nat → Int64) (Q : Option Value → sm_M → Prop) (x1 : Int32) (x2 : Int32) (x3 : Int32) (s0 : Int32) :
    sm_wp X 273 10 [some (.ref 81), some (.int x1), some (.int x2), some (.int x3), none, none, none] [.int s0] (sM mo G I J) Q =
    (if (s0 : Int32) = 0 then sm_wp X 273 35 [some (.ref 81), some (.int x1), some (.int x2), some (.int x3), none, none, none] [] (sM mo G I J) Q else (sm_wp X 210 0 [some (.int x2), some (.int 0), some (.int (I 81 16))] [] (sM mo G I J) (fun v M => sm_wp X 273 22 [some (.ref 81), some (.int x1), some (.int x2), some (.int x3), none, none, none] (v.toList ++ []) M Q))) :=
  (sm_blk X 273 10 (tt_lin 273 (by decide)) rfl rfl _ _ _ _).trans rfl
set_option maxRecDepth 100000 in
theorem bk_273_22 (X : (Nat → Int32) × Nat) (mo : Bool) (G : Nat × Nat) (I : Nat → Nat → Int32) (J : Nat → Nat → Int64) (Q : Option Value → sm_M → Prop) (x1 : Int32) (x2 : Int32) (x3 : Int32) (s0 : Int32) :
    sm_wp X 273 22 [some (.ref 81), some (.int x1), some (.int x2), some (.int x3), none, none, none] [.int s0] (sM mo G I J) Q =
    (if (s0 : Int32) = 0 then sm_wp X 273 35 [some (.ref 81), some (.int x1), some (.int x2), some (.int x3), none, none, none] [] (sM mo G I J) Q else (sm_wp X 210 0 [some (.int x3), some (.int 1), some (.int 99)] [] (sM mo G I J) (fun v M => sm_wp X 273 32 [some (.ref 81), some (.int x1), some (.int x2), some (.int x3), none, none, none] (v.toList ++ []) M Q))) :=
  (sm_blk X 273 22 (tt_lin 273 (by decide)) rfl rfl _ _ _ _).trans rfl
set_option maxRecDepth 100000 in
theorem bk_273_32 (X : (Nat → Int32) × Nat) (mo : Bool) (G : Nat × Nat) (I : Nat → Nat → Int32) (J : Nat → Nat → Int64) (Q : Option Value → sm_M → Prop) (x1 : Int32) (x2 : Int32) (x3 : Int32) (s0 : Int32) :
    sm_wp X 273 32 [some (.ref 81), some (.int x1), some (.int x2), some (.int x3), none, none, none] [.int s0] (sM mo G I J) Q =
    (if ¬ (s0 : Int32) = 0 then sm_wp X 273 37 [some (.ref 81), some (.int x1), some (.int x2), some (.int x3), none, none, none] [] (sM mo G I J) Q else (True ∧ Q (some (.int (-1))) (sM mo G I J))) :=
  (sm_blk X 273 32 (tt_lin 273 (by decide)) rfl rfl _ _ _ _).trans rfl
set_option maxRecDepth 100000 in
theorem bk_273_35 (X : (Nat → Int32) × Nat) (mo : Bool) (G : Nat × Nat) (I : Nat → Nat → Int32) (J : Nat → Nat → Int64) (Q : Option Value → sm_M → Prop) (x1 : Int32) (x2 : Int32) (x3 : Int32) :
    sm_wp X 273 35 [some (.ref 81), some (.int x1), some (.int x2), some (.int x3), none, none, none] [] (sM mo G I J) Q =
    (True ∧ Q (some (.int (-1))) (sM mo G I J)) :=
  (sm_blk X 273 35 (tt_lin 273 (by decide)) rfl rfl _ _ _ _).trans rfl
set_option maxRecDepth 100000 in
theorem bk_273_37 (X : (Nat → Int32) × Nat) (mo : Bool) (G : Nat × Nat) (I : Nat → Nat → Int32) (J : Nat → Nat → Int64) (Q : Option Value → sm_M → Prop) (x1 : Int32) (x2 : Int32) (x3 : Int32) :
    sm_wp X 273 37 [some (.ref 81), some (.int x1), some (.int x2), some (.int x3), none, none, none] [] (sM mo G I J) Q =
    (sm_wp X 273 43 [some (.ref 81), some (.int x1), some (.int x2), some (.int x3), some (.int 0), some (.int 0), none] [] (sM mo G I J) Q) :=
  (sm_blk X 273 37 (tt_lin 273 (by decide)) rfl rfl _ _ _ _).trans rfl
set_option maxRecDepth 100000 in
theorem bk_273_43 (X : (Nat → Int32) × Nat) (mo : Bool) (G : Nat × Nat) (I : Nat → Nat → Int32) (J : Nat → Nat → Int64) (Q : Option Value → sm_M → Prop) (x1 : Int32) (x2 : Int32) (x3 : Int32) (x4 : Int32) (x5 : Int32) :
    sm_wp X 273 43 [some (.ref 81), some (.int x1), some (.int x2), some (.int x3), some (.int x4), some (.int x5), none] [] (sM mo G I J) Q =
    (if (I 81 46 : Int32) ≤ (x5 : Int32) then sm_wp X 273 109 [some (.ref 81), some (.int x1), some (.int x2), some (.int x3), some (.int x4), some (.int x5), none] [] (sM mo G I J) Q else (sm_wp X 272 0 [some (.ref 81), some (.int x5), some (.int x1)] [] (sM mo G I J) (fun v M => sm_wp X 273 59 [some (.ref 81), some (.int x1), some (.int x2), some (.int x3), some (.int x4), some (.int x5), none] (v.toList ++ []) M Q))) :=
  (sm_blk X 273 43 (tt_lin 273 (by decide)) rfl rfl _ _ _ _).trans rfl
set_option maxRecDepth 100000 in
theorem bk_273_59 (X : (Nat → Int32) × Nat) (mo : Bool) (G : Nat × Nat) (I : Nat → Nat → Int32) (J : Nat → Nat → Int64) (Q : Option Value → sm_M → Prop) (x1 : Int32) (x2 : Int32) (x3 : Int32) (x4 : Int32) (x5 : Int32) (s0 : Int32) :
    sm_wp X 273 59 [some (.ref 81), some (.int x1), some (.int x2), some (.int x3), some (.int x4), some (.int x5), none] [.int s0] (sM mo G I J) Q =
    (vp_in x5 60 ∧ (if (I 107 (x5.toNatClampNeg) : Int32) = 0 then sm_wp X 273 99 [some (.ref 81), some (.int x1), some (.int x2), some (.int x3), some (.int x4), some (.int x5), some (.int s0)] [.int x4] (sM mo G I J) Q else (vp_in x5 60 ∧ (if ¬ (I 115 (x5.toNatClampNeg) : Int32) = (x3 : Int32) then sm_wp X 273 99 [some (.ref 81), some (.int x1), some (.int x2), some (.int x3), some (.int x4), some (.int x5), some (.int s0)] [.int x4] (sM mo G I J) Q else (if (s0 : Int32) < 0 then sm_wp X 273 99 [some (.ref 81), some (.int x1), some (.int x2), some (.int x3), some (.int x4), some (.int x5), some (.int s0)] [.int x4] (sM mo G I J) Q else (if (x2 : Int32) < (s0 : Int32) then sm_wp X 273 99 [some (.ref 81), some (.int x1), some (.int x2), some (.int x3), some (.int x4), some (.int x5), some (.int s0)] [.int x4] (sM mo G I J) Q else (sm_wp X 273 100 [some (.ref 81), some (.int x1), some (.int x2), some (.int x3), some (.int x4), some (.int x5), some (.int s0)] [.int 1, .int x4] (sM mo G I J) Q))))))) :=
  (sm_blk X 273 59 (tt_lin 273 (by decide)) rfl rfl _ _ _ _).trans rfl
set_option maxRecDepth 100000 in
theorem bk_273_99 (X : (Nat → Int32) × Nat) (mo : Bool) (G : Nat × Nat) (I : Nat → Nat → Int32) (J : Nat → Nat → Int64) (Q : Option Value → sm_M → Prop) (x1 : Int32) (x2 : Int32) (x3 : Int32) (x4 : Int32) (x5 : Int32) (x6 : Int32) (s0 : Int32) :
    sm_wp X 273 99 [some (.ref 81), some (.int x1), some (.int x2), some (.int x3), some (.int x4), some (.int x5), some (.int x6)] [.int s0] (sM mo G I J) Q =
    (sm_wp X 273 43 [some (.ref 81), some (.int x1), some (.int x2), some (.int x3), some (.int (s0 + 0)), some (.int (x5 + 1)), none] [] (sM mo G I J) Q) :=
  (sm_blk X 273 99 (tt_lin 273 (by decide)) rfl rfl _ _ _ _).trans rfl
set_option maxRecDepth 100000 in
theorem bk_273_100 (X : (Nat → Int32) × Nat) (mo : Bool) (G : Nat × Nat) (I : Nat → Nat → Int32) (J : Nat → Nat → Int64) (Q : Option Value → sm_M → Prop) (x1 : Int32) (x2 : Int32) (x3 : Int32) (x4 : Int32) (x5 : Int32) (x6 : Int32) (s0 : Int32) (s1 : Int32) :
    sm_wp X 273 100 [some (.ref 81), some (.int x1), some (.int x2), some (.int x3), some (.int x4), some (.int x5), some (.int x6)] [.int s1, .int s0] (sM mo G I J) Q =
    (sm_wp X 273 43 [some (.ref 81), some (.int x1), some (.int x2), some (.int x3), some (.int (s0 + s1)), some (.int (x5 + 1)), none] [] (sM mo G I J) Q) :=
  (sm_blk X 273 100 (tt_lin 273 (by decide)) rfl rfl _ _ _ _).trans rfl
set_option maxRecDepth 100000 in
theorem bk_273_109 (X : (Nat → Int32) × Nat) (mo : Bool) (G : Nat × Nat) (I : Nat → Nat → Int32) (J : Nat → Nat → Int64) (Q : Option Value → sm_M → Prop) (x1 : Int32) (x2 : Int32) (x3 : Int32) (x4 : Int32) (x5 : Int32) :
    sm_wp X 273 109 [some (.ref 81), some (.int x1), some (.int x2), some (.int x3), some (.int x4), some (.int x5), none] [] (sM mo G I J) Q =
    (True ∧ Q (some (.int x4)) (sM mo G I J)) :=
  (sm_blk X 273 109 (tt_lin 273 (by decide)) rfl rfl _ _ _ _).trans rfl
set_option maxRecDepth 100000 in
theorem bk_274_0 (X : (Nat → Int32) × Nat) (mo : Bool) (G : Nat × Nat) (I : Nat → Nat → Int32) (J : Nat → Nat → Int64) (Q : Option Value → sm_M → Prop) (x1 : Int32) :
    sm_wp X 274 0 [some (.ref 81), some (.int x1), none, none] [] (sM mo G I J) Q =
    (sm_wp X 210 0 [some (.int x1), some (.int 0), some (.int 3)] [] (sM mo G (up2 I 81 2 0) J) (fun v M => sm_wp X 274 11 [some (.ref 81), some (.int x1), none, none] (v.toList ++ []) M Q)) :=
  (sm_blk X 274 0 (tt_lin 274 (by decide)) rfl rfl _ _ _ _).trans rfl
set_option maxRecDepth 100000 in
theorem bk_274_11 (X : (Nat → Int32) × Nat) (mo : Bool) (G : Nat × Nat) (I : Nat → Nat → Int32) (J : Nat → Nat → Int64) (Q : Option Value → sm_M → Prop) (x1 : Int32) (s0 : Int32) :
    sm_wp X 274 11 [some (.ref 81), some (.int x1), none, none] [.int s0] (sM mo G I J) Q =
    (if ¬ (s0 : Int32) = 0 then sm_wp X 274 16 [some (.ref 81), some (.int x1), none, none] [] (sM mo G I J) Q else (True ∧ Q (some (.int (-1))) (sM mo G I J))) :=
  (sm_blk X 274 11 (tt_lin 274 (by decide)) rfl rfl _ _ _ _).trans rfl
set_option maxRecDepth 100000 in
theorem bk_274_16 (X : (Nat → Int32) × Nat) (mo : Bool) (G : Nat × Nat) (I : Nat → Nat → Int32) (J : Nat → Nat → Int64) (Q : Option Value → sm_M → Prop) (x1 : Int32) :
    sm_wp X 274 16 [some (.ref 81), some (.int x1), none, none] [] (sM mo G I J) Q =
    (sm_wp X 275 0 [some (.ref 81), none, none, none] [] (sM mo G I J) (fun v M => sm_wp X 274 20 [some (.ref 81), some (.int x1), none, none] (v.toList ++ []) M Q)) :=
  (sm_blk X 274 16 (tt_lin 274 (by decide)) rfl rfl _ _ _ _).trans rfl
set_option maxRecDepth 100000 in
theorem bk_274_20 (X : (Nat → Int32) × Nat) (mo : Bool) (G : Nat × Nat) (I : Nat → Nat → Int32) (J : Nat → Nat → Int64) (Q : Option Value → sm_M → Prop) (x1 : Int32) :
    sm_wp X 274 20 [some (.ref 81), some (.int x1), none, none] [] (sM mo G I J) Q =
    (if ¬ (x1 : Int32) = 0 then sm_wp X 274 29 [some (.ref 81), some (.int x1), none, none] [] (sM mo G I J) Q else (True ∧ Q (some (.int (I 81 65))) (sM mo G I J))) :=
  (sm_blk X 274 20 (tt_lin 274 (by decide)) rfl rfl _ _ _ _).trans rfl
set_option maxRecDepth 100000 in
theorem bk_274_29 (X : (Nat → Int32) × Nat) (mo : Bool) (G : Nat × Nat) (I : Nat → Nat → Int32) (J : Nat → Nat → Int64) (Q : Option Value → sm_M → Prop) (x1 : Int32) :
    sm_wp X 274 29 [some (.ref 81), some (.int x1), none, none] [] (sM mo G I J) Q =
    (sm_wp X 276 0 [some (.ref 81)] [] (sM mo G I J) (fun v M => sm_wp X 274 33 [some (.ref 81), some (.int x1), none, none] (v.toList ++ []) M Q)) :=
  (sm_blk X 274 29 (tt_lin 274 (by decide)) rfl rfl _ _ _ _).trans rfl
set_option maxRecDepth 100000 in
theorem bk_274_33 (X : (Nat → Int32) × Nat) (mo : Bool) (G : Nat × Nat) (I : Nat → Nat → Int32) (J : Nat → Nat → Int64) (Q : Option Value → sm_M → Prop) (x1 : Int32) (s0 : Int32) :
    sm_wp X 274 33 [some (.ref 81), some (.int x1), none, none] [.int s0] (sM mo G I J) Q =
    (if (s0 : Int32) = 0 then sm_wp X 274 38 [some (.ref 81), some (.int x1), none, none] [] (sM mo G I J) Q else (True ∧ Q (some (.int (-1))) (sM mo G I J))) :=
  (sm_blk X 274 33 (tt_lin 274 (by decide)) rfl rfl _ _ _ _).trans rfl
set_option maxRecDepth 100000 in
theorem bk_274_38 (X : (Nat → Int32) × Nat) (mo : Bool) (G : Nat × Nat) (I : Nat → Nat → Int32) (J : Nat → Nat → Int64) (Q : Option Value → sm_M → Prop) (x1 : Int32) :
    sm_wp X 274 38 [some (.ref 81), some (.int x1), none, none] [] (sM mo G I J) Q =
    (if ¬ (x1 : Int32) = (1 : Int32) then sm_wp X 274 48 [some (.ref 81), some (.int x1), none, none] [] (sM mo G I J) Q else (True ∧ Q (some (.int (I 81 69))) (sM mo G I J))) :=
  (sm_blk X 274 38 (tt_lin 274 (by decide)) rfl rfl _ _ _ _).trans rfl
set_option maxRecDepth 100000 in
theorem bk_274_48 (X : (Nat → Int32) × Nat) (mo : Bool) (G : Nat × Nat) (I : Nat → Nat → Int32) (J : Nat → Nat → Int64) (Q : Option Value → sm_M → Prop) (x1 : Int32) :
    sm_wp X 274 48 [some (.ref 81), some (.int x1), none, none] [] (sM mo G I J) Q =
    (if ¬ (x1 : Int32) = (3 : Int32) then sm_wp X 274 57 [some (.ref 81), some (.int x1), none, none] [] (sM mo G I J) Q else (sm_wp X 277 0 [some (.ref 81), none, none, none, none, none, none, none] [] (sM mo G I J) (fun v M => sm_wp X 274 57 [some (.ref 81), some (.int x1), none, none] (v.toList ++ []) M Q))) :=
  (sm_blk X 274 48 (tt_lin 274 (by decide)) rfl rfl _ _ _ _).trans rfl
set_option maxRecDepth 100000 in
theorem bk_274_57 (X : (Nat → Int32) × Nat) (mo : Bool) (G : Nat × Nat) (I : Nat → Nat → Int32) (J : Nat → Nat → Int64) (Q : Option Value → sm_M → Prop) (x1 : Int32) :
    sm_wp X 274 57 [some (.ref 81), some (.int x1), none, none] [] (sM mo G I J) Q =
    (sm_wp X 274 61 [some (.ref 81), some (.int x1), some (.int 0), some (.int 0)] [] (sM mo G I J) Q) :=
  (sm_blk X 274 57 (tt_lin 274 (by decide)) rfl rfl _ _ _ _).trans rfl
set_option maxRecDepth 100000 in
theorem bk_274_61 (X : (Nat → Int32) × Nat) (mo : Bool) (G : Nat × Nat) (I : Nat → Nat → Int32) (J : Nat → Nat → Int64) (Q : Option Value → sm_M → Prop) (x1 : Int32) (x2 : Int32) (x3 : Int32) :
    sm_wp X 274 61 [some (.ref 81), some (.int x1), some (.int x2), some (.int x3)] [] (sM mo G I J) Q =
    (if (I 81 69 : Int32) ≤ (x3 : Int32) then sm_wp X 274 107 [some (.ref 81), some (.int x1), some (.int x2), some (.int x3)] [] (sM mo G I J) Q else (sm_wp X 278 0 [some (.ref 81), some (.int x3), none, none] [] (sM mo G I J) (fun v M => sm_wp X 274 74 [some (.ref 81), some (.int x1), some (.int x2), some (.int x3)] (v.toList ++ []) M Q))) :=
  (sm_blk X 274 61 (tt_lin 274 (by decide)) rfl rfl _ _ _ _).trans rfl
set_option maxRecDepth 100000 in
theorem bk_274_74 (X : (Nat → Int32) × Nat) (mo : Bool) (G : Nat × Nat) (I : Nat → Nat → Int32) (J : Nat → Nat → Int64) (Q : Option Value → sm_M → Prop) (x1 : Int32) (x2 : Int32) (x3 : Int32) :
    sm_wp X 274 74 [some (.ref 81), some (.int x1), some (.int x2), some (.int x3)] [] (sM mo G I J) Q =
    (sm_wp X 279 0 [some (.ref 81), none] [] (sM mo G I J) (fun v M => sm_wp X 274 79 [some (.ref 81), some (.int x1), some (.int x2), some (.int x3)] (v.toList ++ [.int x2]) M Q)) :=
  (sm_blk X 274 74 (tt_lin 274 (by decide)) rfl rfl _ _ _ _).trans rfl
set_option maxRecDepth 100000 in
theorem bk_274_79 (X : (Nat → Int32) × Nat) (mo : Bool) (G : Nat × Nat) (I : Nat → Nat → Int32) (J : Nat → Nat → Int64) (Q : Option Value → sm_M → Prop) (x1 : Int32) (x2 : Int32) (x3 : Int32) (s0 : Int32) (s1 : Int32) :
    sm_wp X 274 79 [some (.ref 81), some (.int x1), some (.int x2), some (.int x3)] [.int s1, .int s0] (sM mo G I J) Q =
    (if (s1 : Int32) = 0 then sm_wp X 274 98 [some (.ref 81), some (.int x1), some (.int x2), some (.int x3)] [.int s0] (sM mo G I J) Q else (if (x1 : Int32) = (2 : Int32) then sm_wp X 274 94 [some (.ref 81), some (.int x1), some (.int x2), some (.int x3)] [.int s0] (sM mo G I J) Q else (sm_wp X 280 0 [some (.ref 81), none, none] [] (sM mo G I J) (fun v M => sm_wp X 274 91 [some (.ref 81), some (.int x1), some (.int x2), some (.int x3)] (v.toList ++ [.int s0]) M Q)))) :=
  (sm_blk X 274 79 (tt_lin 274 (by decide)) rfl rfl _ _ _ _).trans rfl
set_option maxRecDepth 100000 in
theorem bk_274_91 (X : (Nat → Int32) × Nat) (mo : Bool) (G : Nat × Nat) (I : Nat → Nat → Int32) (J : Nat → Nat → Int64) (Q : Option Value → sm_M → Prop) (x1 : Int32) (x2 : Int32) (x3 : Int32) (s0 : Int32) (s1 : Int32) :
    sm_wp X 274 91 [some (.ref 81), some (.int x1), some (.int x2), some (.int x3)] [.int s1, .int s0] (sM mo G I J) Q =
    (if (s1 : Int32) = 0 then sm_wp X 274 98 [some (.ref 81), some (.int x1), some (.int x2), some (.int x3)] [.int s0] (sM mo G I J) Q else (sm_wp X 274 99 [some (.ref 81), some (.int x1), some (.int x2), some (.int x3)] [.int 1, .int s0] (sM mo G I J) Q)) :=
  (sm_blk X 274 91 (tt_lin 274 (by decide)) rfl rfl _ _ _ _).trans rfl
set_option maxRecDepth 100000 in
theorem bk_274_94 (X : (Nat → Int32) × Nat) (mo : Bool) (G : Nat × Nat) (I : Nat → Nat → Int32) (J : Nat → Nat → Int64) (Q : Option Value → sm_M → Prop) (x1 : Int32) (x2 : Int32) (x3 : Int32) (s0 : Int32) :
    sm_wp X 274 94 [some (.ref 81), some (.int x1), some (.int x2), some (.int x3)] [.int s0] (sM mo G I J) Q =
    (sm_wp X 274 99 [some (.ref 81), some (.int x1), some (.int x2), some (.int x3)] [.int 1, .int s0] (sM mo G I J) Q) :=
  (sm_blk X 274 94 (tt_lin 274 (by decide)) rfl rfl _ _ _ _).trans rfl
set_option maxRecDepth 100000 in
theorem bk_274_98 (X : (Nat → Int32) × Nat) (mo : Bool) (G : Nat × Nat) (I : Nat → Nat → Int32) (J : Nat → Nat → Int64) (Q : Option Value → sm_M → Prop) (x1 : Int32) (x2 : Int32) (x3 : Int32) (s0 : Int32) :
    sm_wp X 274 98 [some (.ref 81), some (.int x1), some (.int x2), some (.int x3)] [.int s0] (sM mo G I J) Q =
    (sm_wp X 274 61 [some (.ref 81), some (.int x1), some (.int (s0 + 0)), some (.int (x3 + 1))] [] (sM mo G I J) Q) :=
  (sm_blk X 274 98 (tt_lin 274 (by decide)) rfl rfl _ _ _ _).trans rfl
set_option maxRecDepth 100000 in
theorem bk_274_99 (X : (Nat → Int32) × Nat) (mo : Bool) (G : Nat × Nat) (I : Nat → Nat → Int32) (J : Nat → Nat → Int64) (Q : Option Value → sm_M → Prop) (x1 : Int32) (x2 : Int32) (x3 : Int32) (s0 : Int32) (s1 : Int32) :
    sm_wp X 274 99 [some (.ref 81), some (.int x1), some (.int x2), some (.int x3)] [.int s1, .int s0] (sM mo G I J) Q =
    (sm_wp X 274 61 [some (.ref 81), some (.int x1), some (.int (s0 + s1)), some (.int (x3 + 1))] [] (sM mo G I J) Q) :=
  (sm_blk X 274 99 (tt_lin 274 (by decide)) rfl rfl _ _ _ _).trans rfl
set_option maxRecDepth 100000 in
theorem bk_274_107 (X : (Nat → Int32) × Nat) (mo : Bool) (G : Nat × Nat) (I : Nat → Nat → Int32) (J : Nat → Nat → Int64) (Q : Option Value → sm_M → Prop) (x1 : Int32) (x2 : Int32) (x3 : Int32) :
    sm_wp X 274 107 [some (.ref 81), some (.int x1), some (.int x2), some (.int x3)] [] (sM mo G I J) Q =
    (True ∧ Q (some (.int x2)) (sM mo G I J)) :=
  (sm_blk X 274 107 (tt_lin 274 (by decide)) rfl rfl _ _ _ _).trans rfl
set_option maxRecDepth 100000 in
theorem bk_275_0 (X : (Nat → Int32) × Nat) (mo : Bool) (G : Nat × Nat) (I : Nat → Nat → Int32) (J : Nat → Nat → Int64) (Q : Option Value → sm_M → Prop)  :
    sm_wp X 275 0 [some (.ref 81), none, none, none] [] (sM mo G I J) Q =
    (sm_wp X 275 12 [some (.ref 81), some (.int 0), none, none] [] (sM mo G (up2 (up2 I 81 65 0) 81 69 1) J) Q) :=
  (sm_blk X 275 0 (tt_lin 275 (by decide)) rfl rfl _ _ _ _).trans rfl
set_option maxRecDepth 100000 in
theorem bk_275_12 (X : (Nat → Int32) × Nat) (mo : Bool) (G : Nat × Nat) (I : Nat → Nat → Int32) (J : Nat → Nat → Int64) (Q : Option Value → sm_M → Prop) (x1 : Int32) :
    sm_wp X 275 12 [some (.ref 81), some (.int x1), none, none] [] (sM mo G I J) Q =
    (if (6 : Int32) ≤ (x1 : Int32) then sm_wp X 275 59 [some (.ref 81), some (.int x1), none, none] [] (sM mo G I J) Q else (vp_in x1 6 ∧ (if ((up2 I 126 x1.toNatClampNeg 0) 81 10 : Int32) ≤ (x1 : Int32) then sm_wp X 275 51 [some (.ref 81), some (.int x1), none, none] [.int x1, .ref 127] (sM mo G (up2 I 126 x1.toNatClampNeg 0) J) Q else (sm_wp X 223 0 [some (.ref 81), some (.int x1), none, none] [] (sM mo G (up2 I 126 x1.toNatClampNeg 0) J) (fun v M => sm_wp X 275 45 [some (.ref 81), some (.int x1), none, none] (v.toList ++ [.int x1, .ref 81, .int x1, .ref 127]) M Q))))) :=
  (sm_blk X 275 12 (tt_lin 275 (by decide)) rfl rfl _ _ _ _).trans rfl
set_option maxRecDepth 100000 in
theorem bk_275_45 (X : (Nat → Int32) × Nat) (mo : Bool) (G : Nat × Nat) (I : Nat → Nat → Int32) (J : Nat → Nat → Int64) (Q : Option Value → sm_M → Prop) (x1 : Int32) (s1 : Int32) (s3 : Int32) (s4 : Int32) :
    sm_wp X 275 45 [some (.ref 81), some (.int x1), none, none] [.int s4, .int s3, .ref 81, .int s1, .ref 127] (sM mo G I J) Q =
    (sm_wp X 224 0 [some (.ref 81), some (.int s3), some (.int s4), none, none] [] (sM mo G I J) (fun v M => sm_wp X 275 48 [some (.ref 81), some (.int x1), none, none] (v.toList ++ [.int s1, .ref 127]) M Q)) :=
  (sm_blk X 275 45 (tt_lin 275 (by decide)) rfl rfl _ _ _ _).trans rfl
set_option maxRecDepth 100000 in
theorem bk_275_48 (X : (Nat → Int32) × Nat) (mo : Bool) (G : Nat × Nat) (I : Nat → Nat → Int32) (J : Nat → Nat → Int64) (Q : Option Value → sm_M → Prop) (x1 : Int32) (s1 : Int32) (s2 : Int32) :
    sm_wp X 275 48 [some (.ref 81), some (.int x1), none, none] [.int s2, .int s1, .ref 127] (sM mo G I J) Q =
    (sm_wp X 275 52 [some (.ref 81), some (.int x1), none, none] [.int s2, .int s1, .ref 127] (sM mo G I J) Q) :=
  (sm_blk X 275 48 (tt_lin 275 (by decide)) rfl rfl _ _ _ _).trans rfl
set_option maxRecDepth 100000 in
theorem bk_275_51 (X : (Nat → Int32) × Nat) (mo : Bool) (G : Nat × Nat) (I : Nat → Nat → Int32) (J : Nat → Nat → Int64) (Q : Option Value → sm_M → Prop) (x1 : Int32) (s1 : Int32) :
    sm_wp X 275 51 [some (.ref 81), some (.int x1), none, none] [.int s1, .ref 127] (sM mo G I J) Q =
    (vp_in s1 6 ∧ (sm_wp X 275 12 [some (.ref 81), some (.int (x1 + 1)), none, none] [] (sM mo G (up2 I 127 s1.toNatClampNeg 0) J) Q)) :=
  (sm_blk X 275 51 (tt_lin 275 (by decide)) rfl rfl _ _ _ _).trans rfl
set_option maxRecDepth 100000 in
theorem bk_275_52 (X : (Nat → Int32) × Nat) (mo : Bool) (G : Nat × Nat) (I : Nat → Nat → Int32) (J : Nat → Nat → Int64) (Q : Option Value → sm_M → Prop) (x1 : Int32) (s1 : Int32) (s2 : Int32) :
    sm_wp X 275 52 [some (.ref 81), some (.int x1), none, none] [.int s2, .int s1, .ref 127] (sM mo G I J) Q =
    (vp_in s1 6 ∧ (sm_wp X 275 12 [some (.ref 81), some (.int (x1 + 1)), none, none] [] (sM mo G (up2 I 127 s1.toNatClampNeg s2) J) Q)) :=
  (sm_blk X 275 52 (tt_lin 275 (by decide)) rfl rfl _ _ _ _).trans rfl
set_option maxRecDepth 100000 in
theorem bk_275_59 (X : (Nat → Int32) × Nat) (mo : Bool) (G : Nat × Nat) (I : Nat → Nat → Int32) (J : Nat → Nat → Int64) (Q : Option Value → sm_M → Prop) (x1 : Int32) :
    sm_wp X 275 59 [some (.ref 81), some (.int x1), none, none] [] (sM mo G I J) Q =
    (sm_wp X 275 61 [some (.ref 81), some (.int 0), none, none] [] (sM mo G I J) Q) :=
  (sm_blk X 275 59 (tt_lin 275 (by decide)) rfl rfl _ _ _ _).trans rfl
set_option maxRecDepth 100000 in
theorem bk_275_61 (X : (Nat → Int32) × Nat) (mo : Bool) (G : Nat × Nat) (I : Nat → Nat → Int32) (J : Nat → Nat → Int64) (Q : Option Value → sm_M → Prop) (x1 : Int32) :
    sm_wp X 275 61 [some (.ref 81), some (.int x1), none, none] [] (sM mo G I J) Q =
    (if (I 81 3 : Int32) ≤ (x1 : Int32) then sm_wp X 275 257 [some (.ref 81), some (.int x1), none, none] [] (sM mo G I J) Q else (vp_in x1 12 ∧ (sm_wp X 219 0 [some (.int ((I 86 (x1.toNatClampNeg)) &&& (I 81 15))), none, none] [] (sM mo G I J) (fun v M => sm_wp X 275 85 [some (.ref 81), some (.int x1), some (.int ((I 86 (x1.toNatClampNeg)) &&& (I 81 15))), none] (v.toList ++ []) M Q)))) :=
  (sm_blk X 275 61 (tt_lin 275 (by decide)) rfl rfl _ _ _ _).trans rfl
set_option maxRecDepth 100000 in
theorem bk_275_85 (X : (Nat → Int32) × Nat) (mo : Bool) (G : Nat × Nat) (I : Nat → Nat → Int32) (J : Nat → Nat → Int64) (Q : Option Value → sm_M → Prop) (x1 : Int32) (x2 : Int32) (s0 : Int32) :
    sm_wp X 275 85 [some (.ref 81), some (.int x1), some (.int x2), none] [.int s0] (sM mo G I J) Q =
    (if (2 : Int32) ≤ (s0 : Int32) then sm_wp X 275 132 [some (.ref 81), some (.int x1), some (.int x2), none] [] (sM mo G I J) Q else (vp_in x1 12 ∧ (if (I 85 (x1.toNatClampNeg) : Int32) = ((-1) : Int32) then sm_wp X 275 251 [some (.ref 81), some (.int x1), some (.int x2), none] [] (sM mo G I J) Q else (vp_in x1 12 ∧ (vp_in (I 85 (x1.toNatClampNeg)) 6 ∧ (vp_in x1 12 ∧ (vp_in ((12 * (I 85 (x1.toNatClampNeg))) + x1) 72 ∧ (vp_in (I 85 (x1.toNatClampNeg)) 6 ∧ (sm_wp X 275 251 [some (.ref 81), some (.int x1), some (.int x2), none] [] (sM mo G (up2 I 126 (I 85 (x1.toNatClampNeg)).toNatClampNeg ((I 126 ((I 85 (x1.toNatClampNeg)).toNatClampNeg)) + (I 91 (((12 * (I 85 (x1.toNatClampNeg))) + x1).toNatClampNeg)))) J) Q))))))))) :=
  (sm_blk X 275 85 (tt_lin 275 (by decide)) rfl rfl _ _ _ _).trans rfl
set_option maxRecDepth 100000 in
theorem bk_275_132 (X : (Nat → Int32) × Nat) (mo : Bool) (G : Nat × Nat) (I : Nat → Nat → Int32) (J : Nat → Nat → Int64) (Q : Option Value → sm_M → Prop) (x1 : Int32) (x2 : Int32) :
    sm_wp X 275 132 [some (.ref 81), some (.int x1), some (.int x2), none] [] (sM mo G I J) Q =
    (vp_in (I 81 65) 12 ∧ (if (8 : Int32) ≤ ((up2 I 123 (I 81 65).toNatClampNeg x1) 81 65 : Int32) then sm_wp X 275 241 [some (.ref 81), some (.int x1), some (.int x2), none] [] (sM mo G (up2 I 123 (I 81 65).toNatClampNeg x1) J) Q else (vp_in ((up2 I 123 (I 81 65).toNatClampNeg x1) 81 65) 8 ∧ (sm_wp X 275 163 [some (.ref 81), some (.int x1), some (.int x2), some (.int 0)] [] (sM mo G (up2 (up2 I 123 (I 81 65).toNatClampNeg x1) 125 ((up2 I 123 (I 81 65).toNatClampNeg x1) 81 65).toNatClampNeg 0) J) Q)))) :=
  (sm_blk X 275 132 (tt_lin 275 (by decide)) rfl rfl _ _ _ _).trans rfl
set_option maxRecDepth 100000 in
theorem bk_275_163 (X : (Nat → Int32) × Nat) (mo : Bool) (G : Nat × Nat) (I : Nat → Nat → Int32) (J : Nat → Nat → Int64) (Q : Option Value → sm_M → Prop) (x1 : Int32) (x2 : Int32) (x3 : Int32) :
    sm_wp X 275 163 [some (.ref 81), some (.int x1), some (.int x2), some (.int x3)] [] (sM mo G I J) Q =
    (if (I 81 10 : Int32) ≤ (x3 : Int32) then sm_wp X 275 223 [some (.ref 81), some (.int x1), some (.int x2), some (.int x3)] [] (sM mo G I J) Q else (if ¬ ((x2 >>> (x3 &&& 31)) &&& 1 : Int32) = 0 then sm_wp X 275 182 [some (.ref 81), some (.int x1), some (.int x2), some (.int x3)] [] (sM mo G I J) Q else (sm_wp X 275 217 [some (.ref 81), some (.int x1), some (.int x2), some (.int x3)] [] (sM mo G I J) Q))) :=
  (sm_blk X 275 163 (tt_lin 275 (by decide)) rfl rfl _ _ _ _).trans rfl
set_option maxRecDepth 100000 in
theorem bk_275_182 (X : (Nat → Int32) × Nat) (mo : Bool) (G : Nat × Nat) (I : Nat → Nat → Int32) (J : Nat → Nat → Int64) (Q : Option Value → sm_M → Prop) (x1 : Int32) (x2 : Int32) (x3 : Int32) :
    sm_wp X 275 182 [some (.ref 81), some (.int x1), some (.int x2), some (.int x3)] [] (sM mo G I J) Q =
    (vp_in (I 81 65) 8 ∧ (vp_in ((3 * (I 81 65)) + (I 125 ((I 81 65).toNatClampNeg))) 24 ∧ (vp_in ((up2 I 124 ((3 * (I 81 65)) + (I 125 ((I 81 65).toNatClampNeg))).toNatClampNeg x3) 81 65) 8 ∧ (vp_in ((up2 I 124 ((3 * (I 81 65)) + (I 125 ((I 81 65).toNatClampNeg))).toNatClampNeg x3) 81 65) 8 ∧ (sm_wp X 275 163 [some (.ref 81), some (.int x1), some (.int x2), some (.int (x3 + 1))] [] (sM mo G (up2 (up2 I 124 ((3 * (I 81 65)) + (I 125 ((I 81 65).toNatClampNeg))).toNatClampNeg x3) 125 ((up2 I 124 ((3 * (I 81 65)) + (I 125 ((I 81 65).toNatClampNeg))).toNatClampNeg x3) 81 65).toNatClampNeg (((up2 I 124 ((3 * (I 81 65)) + (I 125 ((I 81 65).toNatClampNeg))).toNatClampNeg x3) 125 (((up2 I 124 ((3 * (I 81 65)) + (I 125 ((I 81 65).toNatClampNeg))).toNatClampNeg x3) 81 65).toNatClampNeg)) + 1)) J) Q))))) :=
  (sm_blk X 275 182 (tt_lin 275 (by decide)) rfl rfl _ _ _ _).trans rfl
set_option maxRecDepth 100000 in
theorem bk_275_217 (X : (Nat → Int32) × Nat) (mo : Bool) (G : Nat × Nat) (I : Nat → Nat → Int32) (J : Nat → Nat → Int64) (Q : Option Value → sm_M → Prop) (x1 : Int32) (x2 : Int32) (x3 : Int32) :
    sm_wp X 275 217 [some (.ref 81), some (.int x1), some (.int x2), some (.int x3)] [] (sM mo G I J) Q =
    (sm_wp X 275 163 [some (.ref 81), some (.int x1), some (.int x2), some (.int (x3 + 1))] [] (sM mo G I J) Q) :=
  (sm_blk X 275 217 (tt_lin 275 (by decide)) rfl rfl _ _ _ _).trans rfl
set_option maxRecDepth 100000 in
theorem bk_275_223 (X : (Nat → Int32) × Nat) (mo : Bool) (G : Nat × Nat) (I : Nat → Nat → Int32) (J : Nat → Nat → Int64) (Q : Option Value → sm_M → Prop) (x1 : Int32) (x2 : Int32) (x3 : Int32) :
    sm_wp X 275 223 [some (.ref 81), some (.int x1), some (.int x2), some (.int x3)] [] (sM mo G I J) Q =
    (vp_in (I 81 65) 8 ∧ (sm_wp X 275 61 [some (.ref 81), some (.int (x1 + 1)), none, none] [] (sM mo G (up2 (up2 I 81 69 ((I 81 69) * (I 125 ((I 81 65).toNatClampNeg)))) 81 65 (((up2 I 81 69 ((I 81 69) * (I 125 ((I 81 65).toNatClampNeg)))) 81 65) + 1)) J) Q)) :=
  (sm_blk X 275 223 (tt_lin 275 (by decide)) rfl rfl _ _ _ _).trans rfl
set_option maxRecDepth 100000 in
theorem bk_275_241 (X : (Nat → Int32) × Nat) (mo : Bool) (G : Nat × Nat) (I : Nat → Nat → Int32) (J : Nat → Nat → Int64) (Q : Option Value → sm_M → Prop) (x1 : Int32) (x2 : Int32) :
    sm_wp X 275 241 [some (.ref 81), some (.int x1), some (.int x2), none] [] (sM mo G I J) Q =
    (sm_wp X 275 61 [some (.ref 81), some (.int (x1 + 1)), none, none] [] (sM mo G (up2 I 81 65 ((I 81 65) + 1)) J) Q) :=
  (sm_blk X 275 241 (tt_lin 275 (by decide)) rfl rfl _ _ _ _).trans rfl
set_option maxRecDepth 100000 in
theorem bk_275_251 (X : (Nat → Int32) × Nat) (mo : Bool) (G : Nat × Nat) (I : Nat → Nat → Int32) (J : Nat → Nat → Int64) (Q : Option Value → sm_M → Prop) (x1 : Int32) (x2 : Int32) :
    sm_wp X 275 251 [some (.ref 81), some (.int x1), some (.int x2), none] [] (sM mo G I J) Q =
    (sm_wp X 275 61 [some (.ref 81), some (.int (x1 + 1)), none, none] [] (sM mo G I J) Q) :=
  (sm_blk X 275 251 (tt_lin 275 (by decide)) rfl rfl _ _ _ _).trans rfl
set_option maxRecDepth 100000 in
theorem bk_275_257 (X : (Nat → Int32) × Nat) (mo : Bool) (G : Nat × Nat) (I : Nat → Nat → Int32) (J : Nat → Nat → Int64) (Q : Option Value → sm_M → Prop) (x1 : Int32) :
    sm_wp X 275 257 [some (.ref 81), some (.int x1), none, none] [] (sM mo G I J) Q =
    (True ∧ Q none (sM mo G I J)) :=
  (sm_blk X 275 257 (tt_lin 275 (by decide)) rfl rfl _ _ _ _).trans rfl
set_option maxRecDepth 100000 in
theorem bk_276_0 (X : (Nat → Int32) × Nat) (mo : Bool) (G : Nat × Nat) (I : Nat → Nat → Int32) (J : Nat → Nat → Int64) (Q : Option Value → sm_M → Prop)  :
    sm_wp X 276 0 [some (.ref 81)] [] (sM mo G I J) Q =
    (if (I 81 65 : Int32) ≤ (8 : Int32) then sm_wp X 276 13 [some (.ref 81)] [] (sM mo G I J) Q else (sm_wp X 276 14 [some (.ref 81)] [.int 1] (sM mo G I J) Q)) :=
  (sm_blk X 276 0 (tt_lin 276 (by decide)) rfl rfl _ _ _ _).trans rfl
set_option maxRecDepth 100000 in
theorem bk_276_13 (X : (Nat → Int32) × Nat) (mo : Bool) (G : Nat × Nat) (I : Nat → Nat → Int32) (J : Nat → Nat → Int64) (Q : Option Value → sm_M → Prop)  :
    sm_wp X 276 13 [some (.ref 81)] [] (sM mo G I J) Q =
    (sm_zb 0 ∧ Q (some (.int 0)) (sM mo G I J)) :=
  (sm_blk X 276 13 (tt_lin 276 (by decide)) rfl rfl _ _ _ _).trans rfl
set_option maxRecDepth 100000 in
theorem bk_276_14 (X : (Nat → Int32) × Nat) (mo : Bool) (G : Nat × Nat) (I : Nat → Nat → Int32) (J : Nat → Nat → Int64) (Q : Option Value → sm_M → Prop) (s0 : Int32) :
    sm_wp X 276 14 [some (.ref 81)] [.int s0] (sM mo G I J) Q =
    (sm_zb s0 ∧ Q (some (.int s0)) (sM mo G I J)) :=
  (sm_blk X 276 14 (tt_lin 276 (by decide)) rfl rfl _ _ _ _).trans rfl
set_option maxRecDepth 100000 in
theorem bk_277_0 (X : (Nat → Int32) × Nat) (mo : Bool) (G : Nat × Nat) (I : Nat → Nat → Int32) (J : Nat → Nat → Int64) (Q : Option Value → sm_M → Prop)  :
    sm_wp X 277 0 [some (.ref 81), none, none, none, none, none, none, none] [] (sM mo G I J) Q =
    (sm_wp X 277 2 [some (.ref 81), some (.int 0), none, none, none, none, none, none] [] (sM mo G I J) Q) :=
  (sm_blk X 277 0 (tt_lin 277 (by decide)) rfl rfl _ _ _ _).trans rfl
set_option maxRecDepth 100000 in
theorem bk_277_2 (X : (Nat → Int32) × Nat) (mo : Bool) (G : Nat × Nat) (I : Nat → Nat → Int32) (J : Nat → Nat → Int64) (Q : Option Value → sm_M → Prop) (x1 : Int32) :
    sm_wp X 277 2 [some (.ref 81), some (.int x1), none, none, none, none, none, none] [] (sM mo G I J) Q =
    (if (I 81 10 : Int32) ≤ (x1 : Int32) then sm_wp X 277 251 [some (.ref 81), some (.int x1), none, none, none, none, none, none] [] (sM mo G I J) Q else (sm_wp X 277 12 [some (.ref 81), some (.int x1), some (.int 0), none, none, none, none, none] [] (sM mo G I J) Q)) :=
  (sm_blk X 277 2 (tt_lin 277 (by decide)) rfl rfl _ _ _ _).trans rfl
set_option maxRecDepth 100000 in
theorem bk_277_12 (X : (Nat → Int32) × Nat) (mo : Bool) (G : Nat × Nat) (I : Nat → Nat → Int32) (J : Nat → Nat → Int64) (Q : Option Value → sm_M → Prop) (x1 : Int32) (x2 : Int32) :
    sm_wp X 277 12 [some (.ref 81), some (.int x1), some (.int x2), none, none, none, none, none] [] (sM mo G I J) Q =
    (if (I 81 10 : Int32) ≤ (x2 : Int32) then sm_wp X 277 245 [some (.ref 81), some (.int x1), some (.int x2), none, none, none, none, none] [] (sM mo G I J) Q else (sm_wp X 277 34 [some (.ref 81), some (.int x1), some (.int x2), some (.int (1200 * ((6 * x1) + x2))), some (.int 0), none, none, none] [] (sM mo G I J) Q)) :=
  (sm_blk X 277 12 (tt_lin 277 (by decide)) rfl rfl _ _ _ _).trans rfl
set_option maxRecDepth 100000 in
theorem bk_277_34 (X : (Nat → Int32) × Nat) (mo : Bool) (G : Nat × Nat) (I : Nat → Nat → Int32) (J : Nat → Nat → Int64) (Q : Option Value → sm_M → Prop) (x1 : Int32) (x2 : Int32) (x3 : Int32) (x4 : Int32) :
    sm_wp X 277 34 [some (.ref 81), some (.int x1), some (.int x2), some (.int x3), some (.int x4), none, none, none] [] (sM mo G I J) Q =
    (if (1200 : Int32) ≤ (x4 : Int32) then sm_wp X 277 58 [some (.ref 81), some (.int x1), some (.int x2), some (.int x3), some (.int x4), none, none, none] [] (sM mo G I J) Q else (vp_in (x3 + x4) 43200 ∧ (sm_wp X 277 34 [some (.ref 81), some (.int x1), some (.int x2), some (.int x3), some (.int (x4 + 1)), none, none, none] [] (sM mo G (up2 I 130 (x3 + x4).toNatClampNeg (-1)) J) Q))) :=
  (sm_blk X 277 34 (tt_lin 277 (by decide)) rfl rfl _ _ _ _).trans rfl
set_option maxRecDepth 100000 in
theorem bk_277_58 (X : (Nat → Int32) × Nat) (mo : Bool) (G : Nat × Nat) (I : Nat → Nat → Int32) (J : Nat → Nat → Int64) (Q : Option Value → sm_M → Prop) (x1 : Int32) (x2 : Int32) (x3 : Int32) (x4 : Int32) :
    sm_wp X 277 58 [some (.ref 81), some (.int x1), some (.int x2), some (.int x3), some (.int x4), none, none, none] [] (sM mo G I J) Q =
    (if (x1 : Int32) = (x2 : Int32) then sm_wp X 277 239 [some (.ref 81), some (.int x1), some (.int x2), some (.int x3), some (.int x4), none, none, none] [] (sM mo G I J) Q else (sm_wp X 215 0 [some (.ref 81), some (.int x1)] [] (sM mo G I J) (fun v M => sm_wp X 277 68 [some (.ref 81), some (.int x1), some (.int x2), some (.int x3), some (.int x4), none, none, none] (v.toList ++ []) M Q))) :=
  (sm_blk X 277 58 (tt_lin 277 (by decide)) rfl rfl _ _ _ _).trans rfl
set_option maxRecDepth 100000 in
theorem bk_277_68 (X : (Nat → Int32) × Nat) (mo : Bool) (G : Nat × Nat) (I : Nat → Nat → Int32) (J : Nat → Nat → Int64) (Q : Option Value → sm_M → Prop) (x1 : Int32) (x2 : Int32) (x3 : Int32) (x4 : Int32) (s0 : Int32) :
    sm_wp X 277 68 [some (.ref 81), some (.int x1), some (.int x2), some (.int x3), some (.int x4), none, none, none] [.int s0] (sM mo G I J) Q =
    (if (s0 : Int32) = 0 then sm_wp X 277 239 [some (.ref 81), some (.int x1), some (.int x2), some (.int x3), some (.int x4), none, none, none] [] (sM mo G I J) Q else (sm_wp X 215 0 [some (.ref 81), some (.int x2)] [] (sM mo G I J) (fun v M => sm_wp X 277 76 [some (.ref 81), some (.int x1), some (.int x2), some (.int x3), some (.int x4), none, none, none] (v.toList ++ []) M Q))) :=
  (sm_blk X 277 68 (tt_lin 277 (by decide)) rfl rfl _ _ _ _).trans rfl
set_option maxRecDepth 100000 in
theorem bk_277_76 (X : (Nat → Int32) × Nat) (mo : Bool) (G : Nat × Nat) (I : Nat → Nat → Int32) (J : Nat → Nat → Int64) (Q : Option Value → sm_M → Prop) (x1 : Int32) (x2 : Int32) (x3 : Int32) (x4 : Int32) (s0 : Int32) :
    sm_wp X 277 76 [some (.ref 81), some (.int x1), some (.int x2), some (.int x3), some (.int x4), none, none, none] [.int s0] (sM mo G I J) Q =
    (if ¬ (s0 : Int32) = 0 then sm_wp X 277 82 [some (.ref 81), some (.int x1), some (.int x2), some (.int x3), some (.int x4), none, none, none] [] (sM mo G I J) Q else (sm_wp X 277 239 [some (.ref 81), some (.int x1), some (.int x2), some (.int x3), some (.int x4), none, none, none] [] (sM mo G I J) Q)) :=
  (sm_blk X 277 76 (tt_lin 277 (by decide)) rfl rfl _ _ _ _).trans rfl
set_option maxRecDepth 100000 in
theorem bk_277_82 (X : (Nat → Int32) × Nat) (mo : Bool) (G : Nat × Nat) (I : Nat → Nat → Int32) (J : Nat → Nat → Int64) (Q : Option Value → sm_M → Prop) (x1 : Int32) (x2 : Int32) (x3 : Int32) (x4 : Int32) :
    sm_wp X 277 82 [some (.ref 81), some (.int x1), some (.int x2), some (.int x3), some (.int x4), none, none, none] [] (sM mo G I J) Q =
    (sm_wp X 223 0 [some (.ref 81), some (.int x1), none, none] [] (sM mo G I J) (fun v M => sm_wp X 277 87 [some (.ref 81), some (.int x1), some (.int x2), some (.int x3), some (.int x4), none, none, none] (v.toList ++ []) M Q)) :=
  (sm_blk X 277 82 (tt_lin 277 (by decide)) rfl rfl _ _ _ _).trans rfl
set_option maxRecDepth 100000 in
theorem bk_277_87 (X : (Nat → Int32) × Nat) (mo : Bool) (G : Nat × Nat) (I : Nat → Nat → Int32) (J : Nat → Nat → Int64) (Q : Option Value → sm_M → Prop) (x1 : Int32) (x2 : Int32) (x3 : Int32) (x4 : Int32) (s0 : Int32) :
    sm_wp X 277 87 [some (.ref 81), some (.int x1), some (.int x2), some (.int x3), some (.int x4), none, none, none] [.int s0] (sM mo G I J) Q =
    (sm_wp X 223 0 [some (.ref 81), some (.int x2), none, none] [] (sM mo G I J) (fun v M => sm_wp X 277 92 [some (.ref 81), some (.int x1), some (.int x2), some (.int x3), some (.int x4), none, none, none] (v.toList ++ [.int s0]) M Q)) :=
  (sm_blk X 277 87 (tt_lin 277 (by decide)) rfl rfl _ _ _ _).trans rfl
set_option maxRecDepth 100000 in
theorem bk_277_92 (X : (Nat → Int32) × Nat) (mo : Bool) (G : Nat × Nat) (I : Nat → Nat → Int32) (J : Nat → Nat → Int64) (Q : Option Value → sm_M → Prop) (x1 : Int32) (x2 : Int32) (x3 : Int32) (x4 : Int32) (s0 : Int32) (s1 : Int32) :
    sm_wp X 277 92 [some (.ref 81), some (.int x1), some (.int x2), some (.int x3), some (.int x4), none, none, none] [.int s1, .int s0] (sM mo G I J) Q =
    (sm_wp X 277 99 [some (.ref 81), some (.int x1), some (.int x2), some (.int x3), some (.int (s0 ||| s1)), some (.int (s0 ||| s1)), none, none] [] (sM mo G I J) Q) :=
  (sm_blk X 277 92 (tt_lin 277 (by decide)) rfl rfl _ _ _ _).trans rfl
set_option maxRecDepth 100000 in
theorem bk_277_99 (X : (Nat → Int32) × Nat) (mo : Bool) (G : Nat × Nat) (I : Nat → Nat → Int32) (J : Nat → Nat → Int64) (Q : Option Value → sm_M → Prop) (x1 : Int32) (x2 : Int32) (x3 : Int32) (x4 : Int32) (x5 : Int32) :
    sm_wp X 277 99 [some (.ref 81), some (.int x1), some (.int x2), some (.int x3), some (.int x4), some (.int x5), none, none] [] (sM mo G I J) Q =
    (if (x5 : Int32) < 0 then sm_wp X 277 180 [some (.ref 81), some (.int x1), some (.int x2), some (.int x3), some (.int x4), some (.int x5), none, none] [] (sM mo G I J) Q else (sm_wp X 224 0 [some (.ref 81), some (.int x1), some (.int x5), none, none] [] (sM mo G I J) (fun v M => sm_wp X 277 111 [some (.ref 81), some (.int x1), some (.int x2), some (.int x3), some (.int x4), some (.int x5), none, none] (v.toList ++ []) M Q))) :=
  (sm_blk X 277 99 (tt_lin 277 (by decide)) rfl rfl _ _ _ _).trans rfl
set_option maxRecDepth 100000 in
theorem bk_277_111 (X : (Nat → Int32) × Nat) (mo : Bool) (G : Nat × Nat) (I : Nat → Nat → Int32) (J : Nat → Nat → Int64) (Q : Option Value → sm_M → Prop) (x1 : Int32) (x2 : Int32) (x3 : Int32) (x4 : Int32) (x5 : Int32) (s0 : Int32) :
    sm_wp X 277 111 [some (.ref 81), some (.int x1), some (.int x2), some (.int x3), some (.int x4), some (.int x5), none, none] [.int s0] (sM mo G I J) Q =
    (sm_wp X 224 0 [some (.ref 81), some (.int x2), some (.int (x4 &&& (x5 ^^^ (-1)))), none, none] [] (sM mo G I J) (fun v M => sm_wp X 277 127 [some (.ref 81), some (.int x1), some (.int x2), some (.int x3), some (.int x4), some (.int x5), some (.int (s0 - 1)), none] (v.toList ++ []) M Q)) :=
  (sm_blk X 277 111 (tt_lin 277 (by decide)) rfl rfl _ _ _ _).trans rfl
set_option maxRecDepth 100000 in
theorem bk_277_127 (X : (Nat → Int32) × Nat) (mo : Bool) (G : Nat × Nat) (I : Nat → Nat → Int32) (J : Nat → Nat → Int64) (Q : Option Value → sm_M → Prop) (x1 : Int32) (x2 : Int32) (x3 : Int32) (x4 : Int32) (x5 : Int32) (x6 : Int32) (s0 : Int32) :
    sm_wp X 277 127 [some (.ref 81), some (.int x1), some (.int x2), some (.int x3), some (.int x4), some (.int x5), some (.int x6), none] [.int s0] (sM mo G I J) Q =
    (if (x6 : Int32) < 0 then sm_wp X 277 159 [some (.ref 81), some (.int x1), some (.int x2), some (.int x3), some (.int x4), some (.int x5), some (.int x6), some (.int s0)] [] (sM mo G I J) Q else (vp_in (x3 + x6) 43200 ∧ (if (s0 : Int32) ≤ (I 130 ((x3 + x6).toNatClampNeg) : Int32) then sm_wp X 277 159 [some (.ref 81), some (.int x1), some (.int x2), some (.int x3), some (.int x4), some (.int x5), some (.int x6), some (.int s0)] [] (sM mo G I J) Q else (vp_in (x3 + x6) 43200 ∧ (if ¬ (x5 : Int32) = 0 then sm_wp X 277 168 [some (.ref 81), some (.int x1), some (.int x2), some (.int x3), some (.int x4), some (.int x5), some (.int x6), some (.int s0)] [] (sM mo G (up2 I 130 (x3 + x6).toNatClampNeg s0) J) Q else (sm_wp X 277 175 [some (.ref 81), some (.int x1), some (.int x2), some (.int x3), some (.int x4), some (.int x5), some (.int x6), some (.int s0)] [.int (-1)] (sM mo G (up2 I 130 (x3 + x6).toNatClampNeg s0) J) Q)))))) :=
  (sm_blk X 277 127 (tt_lin 277 (by decide)) rfl rfl _ _ _ _).trans rfl
set_option maxRecDepth 100000 in
theorem bk_277_159 (X : (Nat → Int32) × Nat) (mo : Bool) (G : Nat × Nat) (I : Nat → Nat → Int32) (J : Nat → Nat → Int64) (Q : Option Value → sm_M → Prop) (x1 : Int32) (x2 : Int32) (x3 : Int32) (x4 : Int32) (x5 : Int32) (x6 : Int32) (x7 : Int32) :
    sm_wp X 277 159 [some (.ref 81), some (.int x1), some (.int x2), some (.int x3), some (.int x4), some (.int x5), some (.int x6), some (.int x7)] [] (sM mo G I J) Q =
    (if ¬ (x5 : Int32) = 0 then sm_wp X 277 168 [some (.ref 81), some (.int x1), some (.int x2), some (.int x3), some (.int x4), some (.int x5), some (.int x6), some (.int x7)] [] (sM mo G I J) Q else (sm_wp X 277 175 [some (.ref 81), some (.int x1), some (.int x2), some (.int x3), some (.int x4), some (.int x5), some (.int x6), some (.int x7)] [.int (-1)] (sM mo G I J) Q)) :=
  (sm_blk X 277 159 (tt_lin 277 (by decide)) rfl rfl _ _ _ _).trans rfl
set_option maxRecDepth 100000 in
theorem bk_277_168 (X : (Nat → Int32) × Nat) (mo : Bool) (G : Nat × Nat) (I : Nat → Nat → Int32) (J : Nat → Nat → Int64) (Q : Option Value → sm_M → Prop) (x1 : Int32) (x2 : Int32) (x3 : Int32) (x4 : Int32) (x5 : Int32) (x6 : Int32) (x7 : Int32) :
    sm_wp X 277 168 [some (.ref 81), some (.int x1), some (.int x2), some (.int x3), some (.int x4), some (.int x5), some (.int x6), some (.int x7)] [] (sM mo G I J) Q =
    (sm_wp X 277 99 [some (.ref 81), some (.int x1), some (.int x2), some (.int x3), some (.int x4), some (.int ((x5 - 1) &&& x4)), none, none] [] (sM mo G I J) Q) :=
  (sm_blk X 277 168 (tt_lin 277 (by decide)) rfl rfl _ _ _ _).trans rfl
set_option maxRecDepth 100000 in
theorem bk_277_175 (X : (Nat → Int32) × Nat) (mo : Bool) (G : Nat × Nat) (I : Nat → Nat → Int32) (J : Nat → Nat → Int64) (Q : Option Value → sm_M → Prop) (x1 : Int32) (x2 : Int32) (x3 : Int32) (x4 : Int32) (x5 : Int32) (x6 : Int32) (x7 : Int32) (s0 : Int32) :
    sm_wp X 277 175 [some (.ref 81), some (.int x1), some (.int x2), some (.int x3), some (.int x4), some (.int x5), some (.int x6), some (.int x7)] [.int s0] (sM mo G I J) Q =
    (sm_wp X 277 99 [some (.ref 81), some (.int x1), some (.int x2), some (.int x3), some (.int x4), some (.int s0), none, none] [] (sM mo G I J) Q) :=
  (sm_blk X 277 175 (tt_lin 277 (by decide)) rfl rfl _ _ _ _).trans rfl
set_option maxRecDepth 100000 in
theorem bk_277_180 (X : (Nat → Int32) × Nat) (mo : Bool) (G : Nat × Nat) (I : Nat → Nat → Int32) (J : Nat → Nat → Int64) (Q : Option Value → sm_M → Prop) (x1 : Int32) (x2 : Int32) (x3 : Int32) (x4 : Int32) (x5 : Int32) :
    sm_wp X 277 180 [some (.ref 81), some (.int x1), some (.int x2), some (.int x3), some (.int x4), some (.int x5), none, none] [] (sM mo G I J) Q =
    (sm_wp X 277 185 [some (.ref 81), some (.int x1), some (.int x2), some (.int x3), none, some (.int 1198), none, none] [] (sM mo G I J) Q) :=
  (sm_blk X 277 180 (tt_lin 277 (by decide)) rfl rfl _ _ _ _).trans rfl
set_option maxRecDepth 100000 in
theorem bk_277_185 (X : (Nat → Int32) × Nat) (mo : Bool) (G : Nat × Nat) (I : Nat → Nat → Int32) (J : Nat → Nat → Int64) (Q : Option Value → sm_M → Prop) (x1 : Int32) (x2 : Int32) (x3 : Int32) (x5 : Int32) :
    sm_wp X 277 185 [some (.ref 81), some (.int x1), some (.int x2), some (.int x3), none, some (.int x5), none, none] [] (sM mo G I J) Q =
    (if (x5 : Int32) < 0 then sm_wp X 277 239 [some (.ref 81), some (.int x1), some (.int x2), some (.int x3), none, some (.int x5), none, none] [] (sM mo G I J) Q else (vp_in ((x3 + x5) + 1) 43200 ∧ (vp_in (x3 + x5) 43200 ∧ (if (I 130 (((x3 + x5) + 1).toNatClampNeg) : Int32) ≤ (I 130 ((x3 + x5).toNatClampNeg) : Int32) then sm_wp X 277 233 [some (.ref 81), some (.int x1), some (.int x2), some (.int x3), none, some (.int x5), none, none] [] (sM mo G I J) Q else (vp_in ((x3 + x5) + 1) 43200 ∧ (vp_in (x3 + x5) 43200 ∧ (sm_wp X 277 185 [some (.ref 81), some (.int x1), some (.int x2), some (.int x3), none, some (.int (x5 + (-1))), none, none] [] (sM mo G (up2 I 130 (x3 + x5).toNatClampNeg (I 130 (((x3 + x5) + 1).toNatClampNeg))) J) Q))))))) :=
  (sm_blk X 277 185 (tt_lin 277 (by decide)) rfl rfl _ _ _ _).trans rfl
set_option maxRecDepth 100000 in
theorem bk_277_233 (X : (Nat → Int32) × Nat) (mo : Bool) (G : Nat × Nat) (I : Nat → Nat → Int32) (J : Nat → Nat → Int64) (Q : Option Value → sm_M → Prop) (x1 : Int32) (x2 : Int32) (x3 : Int32) (x5 : Int32) :
    sm_wp X 277 233 [some (.ref 81), some (.int x1), some (.int x2), some (.int x3), none, some (.int x5), none, none] [] (sM mo G I J) Q =
    (sm_wp X 277 185 [some (.ref 81), some (.int x1), some (.int x2), some (.int x3), none, some (.int (x5 + (-1))), none, none] [] (sM mo G I J) Q) :=
  (sm_blk X 277 233 (tt_lin 277 (by decide)) rfl rfl _ _ _ _).trans rfl
set_option maxRecDepth 100000 in
theorem bk_277_239 (X : (Nat → Int32) × Nat) (mo : Bool) (G : Nat × Nat) (I : Nat → Nat → Int32) (J : Nat → Nat → Int64) (Q : Option Value → sm_M → Prop) (x1 : Int32) (x2 : Int32) (x3 : Int32) :
    sm_wp X 277 239 [some (.ref 81), some (.int x1), some (.int x2), some (.int x3), none, none, none, none] [] (sM mo G I J) Q =
    (sm_wp X 277 12 [some (.ref 81), some (.int x1), some (.int (x2 + 1)), none, none, none, none, none] [] (sM mo G I J) Q) :=
  (sm_blk X 277 239 (tt_lin 277 (by decide)) rfl rfl _ _ _ _).trans rfl
set_option maxRecDepth 100000 in
theorem bk_277_245 (X : (Nat → Int32) × Nat) (mo : Bool) (G : Nat × Nat) (I : Nat → Nat → Int32) (J : Nat → Nat → Int64) (Q : Option Value → sm_M → Prop) (x1 : Int32) (x2 : Int32) :
    sm_wp X 277 245 [some (.ref 81), some (.int x1), some (.int x2), none, none, none, none, none] [] (sM mo G I J) Q =
    (sm_wp X 277 2 [some (.ref 81), some (.int (x1 + 1)), none, none, none, none, none, none] [] (sM mo G I J) Q) :=
  (sm_blk X 277 245 (tt_lin 277 (by decide)) rfl rfl _ _ _ _).trans rfl
set_option maxRecDepth 100000 in
theorem bk_277_251 (X : (Nat → Int32) × Nat) (mo : Bool) (G : Nat × Nat) (I : Nat → Nat → Int32) (J : Nat → Nat → Int64) (Q : Option Value → sm_M → Prop) (x1 : Int32) :
    sm_wp X 277 251 [some (.ref 81), some (.int x1), none, none, none, none, none, none] [] (sM mo G I J) Q =
    (True ∧ Q none (sM mo G I J)) :=
  (sm_blk X 277 251 (tt_lin 277 (by decide)) rfl rfl _ _ _ _).trans rfl
