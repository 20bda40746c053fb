/-! Blocks of other shapes. -/
set_option maxRecDepth 100000 in
theorem bkx_8_205_0 (X : (Nat → Int32) × Nat) (mo : Bool) (G : Nat × Nat) (I : Nat → Nat → Int32) (J : Nat → Nat → Int64) (Q : Option Value → sm_M → Prop) (x4 : Int32) (x5 : Int32) (x6 : Int32) (x7 : Int32) (x8 : Int32) (x9 : Int32) (x10 : Int32) :
    sm_wp X 8 205 [some (.ref 71), none, none, none, some (.int x4), some (.int x5), some (.int x6), some (.int x7), some (.int x8), some (.int x9), some (.int x10)] [] (sM mo G I J) Q =
    (vp_in ((x6 * 9) + x7) 81 ∧ (sm_wp X 8 85 [some (.ref 71), none, none, none, some (.int x4), some (.int x5), some (.int x6), some (.int (x7 + (-1))), none, none, none] [] (sM mo G (up2 I 78 ((x6 * 9) + x7).toNatClampNeg x8) J) Q)) :=
  (sm_blk X 8 205 (tt_lin 8 (by decide)) rfl rfl _ _ _ _).trans rfl
set_option maxRecDepth 100000 in
theorem bkx_10_85_1 (X : (Nat → Int32) × Nat) (mo : Bool) (G : Nat × Nat) (I : Nat → Nat → Int32) (J : Nat → Nat → Int64) (Q : Option Value → sm_M → Prop) (x1 : Int32) (x2 : Int32) (x3 : Int32) (x4 : Int32) :
    sm_wp X 10 85 [some (.ref 71), some (.int x1), some (.int x2), some (.int x3), some (.int x4)] [] (sM mo G I J) Q =
    (sm_wp X 10 31 [some (.ref 71), some (.int x1), some (.int x2), some (.int (x3 + 1)), none] [] (sM mo G I J) Q) :=
  (sm_blk X 10 85 (tt_lin 10 (by decide)) rfl rfl _ _ _ _).trans rfl
set_option maxRecDepth 100000 in
theorem bkx_24_85_2 (X : (Nat → Int32) × Nat) (mo : Bool) (G : Nat × Nat) (I : Nat → Nat → Int32) (J : Nat → Nat → Int64) (Q : Option Value → sm_M → Prop) (x2 : Int32) (x3 : Int32) (x4 : Int32) (x5 : Int32) (x6 : Int64) :
    sm_wp X 24 85 [some (.ref 45), none, some (.int x2), some (.int x3), some (.int x4), some (.int x5), some (.long x6), none] [] (sM mo G I J) Q =
    (sm_wp X 24 27 [some (.ref 45), none, some (.int x2), some (.int x3), some (.int x4), some (.int (x5 + 1)), none, none] [] (sM mo G I J) Q) :=
  (sm_blk X 24 85 (tt_lin 24 (by decide)) rfl rfl _ _ _ _).trans rfl
set_option maxRecDepth 100000 in
theorem bkx_34_93_3 (X : (Nat → Int32) × Nat) (mo : Bool) (G : Nat × Nat) (I : Nat → Nat → Int32) (J : Nat → Nat → Int64) (Q : Option Value → sm_M → Prop) (x1 : Int32) (x2 : Int32) (x3 : Int32) (x4 : Int32) (x5 : Int32) :
    sm_wp X 34 93 [some (.ref 45), some (.int x1), some (.int x2), some (.int x3), some (.int x4), some (.int x5)] [] (sM mo G I J) Q =
    (sm_wp X 34 7 [some (.ref 45), some (.int x1), some (.int x2), some (.int x3), some (.int (x4 + 1)), none] [] (sM mo G I J) Q) :=
  (sm_blk X 34 93 (tt_lin 34 (by decide)) rfl rfl _ _ _ _).trans rfl
set_option maxRecDepth 100000 in
theorem bkx_37_125_4 (X : (Nat → Int32) × Nat) (mo : Bool) (G : Nat × Nat) (I : Nat → Nat → Int32) (J : Nat → Nat → Int64) (Q : Option Value → sm_M → Prop) (x1 : Int32) (x2 : Int32) (x3 : Int32) (x4 : Int32) (x5 : Int32) :
    sm_wp X 37 125 [some (.ref 45), some (.int x1), some (.int x2), some (.int x3), some (.int x4), some (.int x5)] [] (sM mo G I J) Q =
    (sm_wp X 37 4 [some (.ref 45), some (.int x1), some (.int x2), some (.int (x3 + 1)), none, none] [] (sM mo G I J) Q) :=
  (sm_blk X 37 125 (tt_lin 37 (by decide)) rfl rfl _ _ _ _).trans rfl
set_option maxRecDepth 100000 in
theorem bkx_226_314_5 (X : (Nat → Int32) × Nat) (mo : Bool) (G : Nat × Nat) (I : Nat → Nat → Int32) (J : Nat → Nat → Int64) (Q : Option Value → sm_M → Prop) (x1 : Int32) :
    sm_wp X 226 314 [some (.ref 81), some (.int x1)] [] (sM mo G I J) Q =
    (True ∧ Q none (sM mo G I J)) :=
  (sm_blk X 226 314 (tt_lin 226 (by decide)) rfl rfl _ _ _ _).trans rfl
set_option maxRecDepth 100000 in
theorem bkx_253_145_6 (X : (Nat → Int32) × Nat) (mo : Bool) (G : Nat × Nat) (I : Nat → Nat → Int32) (J : Nat → Nat → Int64) (Q : Option Value → sm_M → Prop) (x1 : Int32) (x2 : Int32) (x3 : Int32) :
    sm_wp X 253 145 [some (.ref 81), some (.int x1), some (.int x2), some (.int x3)] [] (sM mo G I J) Q =
    (vp_in x1 60 ∧ (if ¬ (I 117 (x1.toNatClampNeg) : Int32) = (1 : Int32) then sm_wp X 253 168 [some (.ref 81), some (.int x1), some (.int x2), some (.int x3)] [] (sM mo G I J) Q else (vp_in x1 60 ∧ (if (I 119 (x1.toNatClampNeg) : Int32) ≤ (I 81 16 : Int32) then sm_wp X 253 169 [some (.ref 81), some (.int x1), some (.int x2), some (.int x3)] [] (sM mo G I J) Q else (True ∧ Q none (sM mo G I J)))))) :=
  (sm_blk X 253 145 (tt_lin 253 (by decide)) rfl rfl _ _ _ _).trans rfl
set_option maxRecDepth 100000 in
theorem bkx_253_168_7 (X : (Nat → Int32) × Nat) (mo : Bool) (G : Nat × Nat) (I : Nat → Nat → Int32) (J : Nat → Nat → Int64) (Q : Option Value → sm_M → Prop) (x1 : Int32) (x2 : Int32) (x3 : Int32) :
    sm_wp X 253 168 [some (.ref 81), some (.int x1), some (.int x2), some (.int x3)] [] (sM mo G I J) Q =
    (True ∧ Q none (sM mo G I J)) :=
  (sm_blk X 253 168 (tt_lin 253 (by decide)) rfl rfl _ _ _ _).trans rfl
set_option maxRecDepth 100000 in
theorem bkx_253_169_8 (X : (Nat → Int32) × Nat) (mo : Bool) (G : Nat × Nat) (I : Nat → Nat → Int32) (J : Nat → Nat → Int64) (Q : Option Value → sm_M → Prop) (x1 : Int32) (x2 : Int32) (x3 : Int32) :
    sm_wp X 253 169 [some (.ref 81), some (.int x1), some (.int x2), some (.int x3)] [] (sM mo G I J) Q =
    (sm_wp X 254 0 [some (.ref 81), some (.int x1), some (.int 1), none, none] [] (sM mo G I J) (fun v M => sm_wp X 253 180 [some (.ref 81), some (.int x1), some (.int x2), some (.int x3)] (v.toList ++ [.int x1, .ref 118]) M Q)) :=
  (sm_blk X 253 169 (tt_lin 253 (by decide)) rfl rfl _ _ _ _).trans rfl
set_option maxRecDepth 100000 in
theorem bkx_264_255_9 (X : (Nat → Int32) × Nat) (mo : Bool) (G : Nat × Nat) (I : Nat → Nat → Int32) (J : Nat → Nat → Int64) (Q : Option Value → sm_M → Prop) (x4 : Int32) (x5 : Int32) :
    sm_wp X 264 255 [some (.ref 81), none, none, none, some (.int x4), some (.int x5)] [] (sM mo G I J) Q =
    (sm_wp X 264 142 [some (.ref 81), none, none, none, some (.int (x4 + 1)), none] [] (sM mo G I J) Q) :=
  (sm_blk X 264 255 (tt_lin 264 (by decide)) rfl rfl _ _ _ _).trans rfl
set_option maxRecDepth 100000 in
theorem bkx_267_106_10 (X : (Nat → Int32) × Nat) (mo : Bool) (G : Nat × Nat) (I : Nat → Nat → Int32) (J : Nat → Nat → Int64) (Q : Option Value → sm_M → Prop) (x1 : Int32) (x2 : Int32) (x3 : Int32) :
    sm_wp X 267 106 [some (.ref 81), some (.int x1), some (.int x2), some (.int x3)] [] (sM mo G I J) Q =
    (sm_wp X 267 4 [some (.ref 81), some (.int x1), some (.int (x2 + 1)), none] [] (sM mo G I J) Q) :=
  (sm_blk X 267 106 (tt_lin 267 (by decide)) rfl rfl _ _ _ _).trans rfl
set_option maxRecDepth 100000 in
theorem bkx_275_241_11 (X : (Nat → Int32) × Nat) (mo : Bool) (G : Nat × Nat) (I : Nat → Nat → Int32) (J : Nat → Nat → Int64) (Q : Option Value → sm_M → Prop) (x1 : Int32) (x2 : Int32) (x3 : Int32) :
    sm_wp X 275 241 [some (.ref 81), some (.int x1), some (.int x2), some (.int x3)] [] (sM mo G I J) Q =
    (sm_wp X 275 61 [some (.ref 81), some (.int (x1 + 1)), none, none] [] (sM mo G (up2 I 81 65 ((I 81 65) + 1)) J) Q) :=
  (sm_blk X 275 241 (tt_lin 275 (by decide)) rfl rfl _ _ _ _).trans rfl
set_option maxRecDepth 100000 in
theorem bkx_275_251_12 (X : (Nat → Int32) × Nat) (mo : Bool) (G : Nat × Nat) (I : Nat → Nat → Int32) (J : Nat → Nat → Int64) (Q : Option Value → sm_M → Prop) (x1 : Int32) (x2 : Int32) (x3 : Int32) :
    sm_wp X 275 251 [some (.ref 81), some (.int x1), some (.int x2), some (.int x3)] [] (sM mo G I J) Q =
    (sm_wp X 275 61 [some (.ref 81), some (.int (x1 + 1)), none, none] [] (sM mo G I J) Q) :=
  (sm_blk X 275 251 (tt_lin 275 (by decide)) rfl rfl _ _ _ _).trans rfl
set_option maxRecDepth 100000 in
theorem bkx_277_239_13 (X : (Nat → Int32) × Nat) (mo : Bool) (G : Nat × Nat) (I : Nat → Nat → Int32) (J : Nat → Nat → Int64) (Q : Option Value → sm_M → Prop) (x1 : Int32) (x2 : Int32) (x3 : Int32) (x4 : Int32) :
    sm_wp X 277 239 [some (.ref 81), some (.int x1), some (.int x2), some (.int x3), some (.int x4), none, none, none] [] (sM mo G I J) Q =
    (sm_wp X 277 12 [some (.ref 81), some (.int x1), some (.int (x2 + 1)), none, none, none, none, none] [] (sM mo G I J) Q) :=
  (sm_blk X 277 239 (tt_lin 277 (by decide)) rfl rfl _ _ _ _).trans rfl
set_option maxRecDepth 100000 in
theorem bkx_277_239_14 (X : (Nat → Int32) × Nat) (mo : Bool) (G : Nat × Nat) (I : Nat → Nat → Int32) (J : Nat → Nat → Int64) (Q : Option Value → sm_M → Prop) (x1 : Int32) (x2 : Int32) (x3 : Int32) (x5 : Int32) :
    sm_wp X 277 239 [some (.ref 81), some (.int x1), some (.int x2), some (.int x3), none, some (.int x5), none, none] [] (sM mo G I J) Q =
    (sm_wp X 277 12 [some (.ref 81), some (.int x1), some (.int (x2 + 1)), none, none, none, none, none] [] (sM mo G I J) Q) :=
  (sm_blk X 277 239 (tt_lin 277 (by decide)) rfl rfl _ _ _ _).trans rfl
set_option maxRecDepth 100000 in
theorem bkx_280_99_15 (X : (Nat → Int32) × Nat) (mo : Bool) (G : Nat × Nat) (I : Nat → Nat → Int32) (J : Nat → Nat → Int64) (Q : Option Value → sm_M → Prop) (x1 : Int32) (x2 : Int32) :
    sm_wp X 280 99 [some (.ref 81), some (.int x1), some (.int x2)] [] (sM mo G I J) Q =
    (sm_wp X 280 2 [some (.ref 81), some (.int (x1 + 1)), none] [] (sM mo G I J) Q) :=
  (sm_blk X 280 99 (tt_lin 280 (by decide)) rfl rfl _ _ _ _).trans rfl
set_option maxRecDepth 100000 in
theorem bkx_283_260_16 (X : (Nat → Int32) × Nat) (mo : Bool) (G : Nat × Nat) (I : Nat → Nat → Int32) (J : Nat → Nat → Int64) (Q : Option Value → sm_M → Prop) (x1 : Int32) (x2 : Int32) (x3 : Int32) (x4 : Int32) (x5 : Int32) :
    sm_wp X 283 260 [some (.ref 81), some (.int x1), some (.int x2), some (.int x3), some (.int x4), some (.int x5)] [] (sM mo G I J) Q =
    (sm_wp X 283 28 [some (.ref 81), some (.int x1), some (.int (x2 + 1)), none, none, none] [] (sM mo G I J) Q) :=
  (sm_blk X 283 260 (tt_lin 283 (by decide)) rfl rfl _ _ _ _).trans rfl
set_option maxRecDepth 100000 in
theorem bkx_283_260_17 (X : (Nat → Int32) × Nat) (mo : Bool) (G : Nat × Nat) (I : Nat → Nat → Int32) (J : Nat → Nat → Int64) (Q : Option Value → sm_M → Prop) (x1 : Int32) (x2 : Int32) (x5 : Int32) :
    sm_wp X 283 260 [some (.ref 81), some (.int x1), some (.int x2), none, none, some (.int x5)] [] (sM mo G I J) Q =
    (sm_wp X 283 28 [some (.ref 81), some (.int x1), some (.int (x2 + 1)), none, none, none] [] (sM mo G I J) Q) :=
  (sm_blk X 283 260 (tt_lin 283 (by decide)) rfl rfl _ _ _ _).trans rfl
set_option maxRecDepth 100000 in
theorem bkx_285_210_18 (X : (Nat → Int32) × Nat) (mo : Bool) (G : Nat × Nat) (I : Nat → Nat → Int32) (J : Nat → Nat → Int64) (Q : Option Value → sm_M → Prop) (x1 : Int32) (x2 : Int32) (x3 : Int32) (x4 : Int32) :
    sm_wp X 285 210 [some (.ref 81), some (.int x1), some (.int x2), some (.int x3), some (.int x4)] [] (sM mo G I J) Q =
    (sm_wp X 285 122 [some (.ref 81), some (.int x1), some (.int (x2 + 1)), none, none] [] (sM mo G I J) Q) :=
  (sm_blk X 285 210 (tt_lin 285 (by decide)) rfl rfl _ _ _ _).trans rfl
set_option maxRecDepth 100000 in
theorem bkx_288_158_19 (X : (Nat → Int32) × Nat) (mo : Bool) (G : Nat × Nat) (I : Nat → Nat → Int32) (J : Nat → Nat → Int64) (Q : Option Value → sm_M → Prop) (x1 : Int32) (x2 : Int32) (x3 : Int32) (x4 : Int32) (x5 : Int32) (x6 : Int32) :
    sm_wp X 288 158 [some (.ref 81), some (.int x1), some (.int x2), some (.int x3), some (.int x4), some (.int x5), some (.int x6), none, none] [] (sM mo G I J) Q =
    (sm_wp X 288 34 [some (.ref 81), some (.int x1), some (.int x2), some (.int x3), some (.int (x4 + 1)), none, none, none, none] [] (sM mo G I J) Q) :=
  (sm_blk X 288 158 (tt_lin 288 (by decide)) rfl rfl _ _ _ _).trans rfl
set_option maxRecDepth 100000 in
theorem bkx_299_128_20 (X : (Nat → Int32) × Nat) (mo : Bool) (G : Nat × Nat) (I : Nat → Nat → Int32) (J : Nat → Nat → Int64) (Q : Option Value → sm_M → Prop) (x1 : Int32) (x2 : Int32) (x3 : Int32) (x4 : Int32) (x5 : Int32) (x6 : Int32) :
    sm_wp X 299 128 [some (.ref 81), some (.int x1), some (.int x2), some (.int x3), some (.int x4), some (.int x5), some (.int x6)] [] (sM mo G I J) Q =
    (sm_wp X 299 7 [some (.ref 81), some (.int x1), some (.int x2), some (.int x3), some (.int (x4 + 1)), none, none] [] (sM mo G I J) Q) :=
  (sm_blk X 299 128 (tt_lin 299 (by decide)) rfl rfl _ _ _ _).trans rfl
set_option maxRecDepth 100000 in
theorem bkx_303_280_21 (X : (Nat → Int32) × Nat) (mo : Bool) (G : Nat × Nat) (I : Nat → Nat → Int32) (J : Nat → Nat → Int64) (Q : Option Value → sm_M → Prop) (x1 : Int32) (x3 : Int32) (x4 : Int32) (x5 : Int32) (x7 : Int32) (x8 : Int32) :
    sm_wp X 303 280 [some (.ref 81), some (.int x1), none, some (.int x3), some (.int x4), some (.int x5), none, some (.int x7), some (.int x8), none] [] (sM mo G I J) Q =
    (sm_wp X 303 36 [some (.ref 81), some (.int x1), none, some (.int x3), some (.int (x4 + 1)), none, none, none, none, none] [] (sM mo G I J) Q) :=
  (sm_blk X 303 280 (tt_lin 303 (by decide)) rfl rfl _ _ _ _).trans rfl
