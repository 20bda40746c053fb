/-! Closed forms of the loop-free methods of Realm, Papers, Spies, Book. -/
theorem up2_sn {α : Type} {I : Nat → Nat → α} {a k : Nat} {v : α} {j : Nat} (h : j ≠ k) : up2 I a k v a j = I a j := by rw [up2_ap, if_pos rfl, if_neg h]
theorem up2_ss {α : Type} {I : Nat → Nat → α} {a k : Nat} {v : α} : up2 I a k v a k = v := by rw [up2_ap, if_pos rfl, if_pos rfl]
theorem oz_f : ((1 : Int32) = 0) = False := eq_false (by decide)
theorem zz_t : ((0 : Int32) = 0) = True := eq_self 0
theorem vp_of32 {x m : Int32} {n : Nat} (hm : m.toInt = n) (h : ¬ x < 0) (h2 : ¬ m ≤ x) : vp_in x n := by
  rw [vp_in_iff]
  rw [Int32.lt_iff_toInt_lt] at h
  rw [Int32.le_iff_toInt_le] at h2
  have e : (0 : Int32).toInt = 0 := by decide
  omega
theorem vp_4 {x : Int32} (h : ¬ x < 0) (h2 : ¬ (4 : Int32) ≤ x) : vp_in x 4 := vp_of32 (by decide) h h2
theorem vp_6 {x : Int32} (h : ¬ x < 0) (h2 : ¬ (6 : Int32) ≤ x) : vp_in x 6 := vp_of32 (by decide) h h2
theorem vp_7 {x : Int32} (h : ¬ x < 0) (h2 : ¬ (7 : Int32) ≤ x) : vp_in x 7 := vp_of32 (by decide) h h2
theorem vp_8 {x : Int32} (h : ¬ x < 0) (h2 : ¬ (8 : Int32) ≤ x) : vp_in x 8 := vp_of32 (by decide) h h2
theorem vp_12 {x : Int32} (h : ¬ x < 0) (h2 : ¬ (12 : Int32) ≤ x) : vp_in x 12 := vp_of32 (by decide) h h2
theorem vp_15 {x : Int32} (h : ¬ x < 0) (h2 : ¬ (15 : Int32) ≤ x) : vp_in x 15 := vp_of32 (by decide) h h2
theorem vp_16 {x : Int32} (h : ¬ x < 0) (h2 : ¬ (16 : Int32) ≤ x) : vp_in x 16 := vp_of32 (by decide) h h2
theorem vp_20 {x : Int32} (h : ¬ x < 0) (h2 : ¬ (20 : Int32) ≤ x) : vp_in x 20 := vp_of32 (by decide) h h2
theorem vp_24 {x : Int32} (h : ¬ x < 0) (h2 : ¬ (24 : Int32) ≤ x) : vp_in x 24 := vp_of32 (by decide) h h2
theorem vp_60 {x : Int32} (h : ¬ x < 0) (h2 : ¬ (60 : Int32) ≤ x) : vp_in x 60 := vp_of32 (by decide) h h2
theorem vp_64 {x : Int32} (h : ¬ x < 0) (h2 : ¬ (64 : Int32) ≤ x) : vp_in x 64 := vp_of32 (by decide) h h2
theorem vp_72 {x : Int32} (h : ¬ x < 0) (h2 : ¬ (72 : Int32) ≤ x) : vp_in x 72 := vp_of32 (by decide) h h2
theorem vp_80 {x : Int32} (h : ¬ x < 0) (h2 : ¬ (80 : Int32) ≤ x) : vp_in x 80 := vp_of32 (by decide) h h2
theorem vp_96 {x : Int32} (h : ¬ x < 0) (h2 : ¬ (96 : Int32) ≤ x) : vp_in x 96 := vp_of32 (by decide) h h2
theorem vp_144 {x : Int32} (h : ¬ x < 0) (h2 : ¬ (144 : Int32) ≤ x) : vp_in x 144 := vp_of32 (by decide) h h2
theorem vp_384 {x : Int32} (h : ¬ x < 0) (h2 : ¬ (384 : Int32) ≤ x) : vp_in x 384 := vp_of32 (by decide) h h2
theorem vp_400 {x : Int32} (h : ¬ x < 0) (h2 : ¬ (400 : Int32) ≤ x) : vp_in x 400 := vp_of32 (by decide) h h2
theorem vp_960 {x : Int32} (h : ¬ x < 0) (h2 : ¬ (960 : Int32) ≤ x) : vp_in x 960 := vp_of32 (by decide) h h2
abbrev hBit (b k : Int32) : Prop := ¬ k < 0 ∧ ¬ 31 ≤ k ∧ ¬ (b >>> (k &&& 31)) &&& 1 = 0
abbrev hLand (I : Nat → Nat → Int32) (x : Int32) : Prop := ¬ x < 0 ∧ ¬ I 1 0 ≤ x ∧ ¬ 12 ≤ x
abbrev hState (I : Nat → Nat → Int32) (x : Int32) : Prop := ¬ x < 0 ∧ ¬ I 1 1 ≤ x ∧ ¬ 6 ≤ x
abbrev hPres (I : Nat → Nat → Int32) (x : Int32) : Prop := hState I x ∧ hBit (I 1 2) x
abbrev hPap (I : Nat → Nat → Int32) (x : Int32) : Prop := ¬ x < 0 ∧ ¬ I 31 0 ≤ x ∧ ¬ 60 ≤ x
abbrev hArt (I : Nat → Nat → Int32) (x : Int32) : Prop := ¬ x < 0 ∧ ¬ I 71 0 ≤ x ∧ ¬ 8 ≤ x
section R1
variable (X : (Nat → Int32) × Nat) (mo : Bool) (G : Nat × Nat) (I : Nat → Nat → Int32) (J : Nat → Nat → Int64) (Q : Option Value → sm_M → Prop)
theorem ct_House_hasBit (x : Int32) (y : Int32) : sm_wp X 169 0 [some (.int x), some (.int y)] [] (sM mo G I J) Q = (Q (some (.int (bi (hBit x y)))) (sM mo G I J)) := by
  rw [bk_169_0]
  simp (decide := true) only [bk_169_22, bk_169_23, up2_ne, up2_sn, up2_ss, ne_eq, tl_some, tl_none, zb_0, zb_1, zb_bi, true_and, bi_eq, bi_ne, oz_f, zz_t, if_true, if_false, not_true_eq_false, not_false_eq_true]
  all_goals grind [bi]
theorem ct_House_isWord (x : Int32) : sm_wp X 180 0 [some (.int x)] [] (sM mo G I J) Q = (Q (some (.int (bi (¬ x < 1 ∧ ¬ 99 < x)))) (sM mo G I J)) := by
  rw [bk_180_0]
  simp (decide := true) only [bk_180_15, bk_180_16, up2_ne, up2_sn, up2_ss, ne_eq, tl_some, tl_none, zb_0, zb_1, zb_bi, true_and, bi_eq, bi_ne, oz_f, zz_t, if_true, if_false, not_true_eq_false, not_false_eq_true]
  all_goals grind [bi]
theorem ct_Realm_isLand (x : Int32) : sm_wp X 90 0 [some (.ref 1), some (.int x)] [] (sM mo G I J) Q = (Q (some (.int (bi (hLand I x)))) (sM mo G I J)) := by
  rw [bk_90_0]
  simp (decide := true) only [bk_90_22, bk_90_23, up2_ne, up2_sn, up2_ss, ne_eq, tl_some, tl_none, zb_0, zb_1, zb_bi, true_and, bi_eq, bi_ne, oz_f, zz_t, if_true, if_false, not_true_eq_false, not_false_eq_true]
  all_goals grind [bi]
theorem ct_Realm_isState (x : Int32) : sm_wp X 88 0 [some (.ref 1), some (.int x)] [] (sM mo G I J) Q = (Q (some (.int (bi (hState I x)))) (sM mo G I J)) := by
  rw [bk_88_0]
  simp (decide := true) only [bk_88_22, bk_88_23, up2_ne, up2_sn, up2_ss, ne_eq, tl_some, tl_none, zb_0, zb_1, zb_bi, true_and, bi_eq, bi_ne, oz_f, zz_t, if_true, if_false, not_true_eq_false, not_false_eq_true]
  all_goals grind [bi]
theorem ct_Realm_isPresent (x : Int32) : sm_wp X 94 0 [some (.ref 1), some (.int x)] [] (sM mo G I J) Q = (Q (some (.int (bi (hPres I x)))) (sM mo G I J)) := by
  rw [bk_94_0]
  simp (decide := true) only [bk_94_5, bk_94_16, bk_94_23, bk_94_24, ct_Realm_isState, ct_House_hasBit, up2_ne, up2_sn, up2_ss, ne_eq, tl_some, tl_none, zb_0, zb_1, zb_bi, true_and, bi_eq, bi_ne, oz_f, zz_t, if_true, if_false, not_true_eq_false, not_false_eq_true]
  all_goals grind [bi]
theorem ct_Realm_allLands  : sm_wp X 102 0 [some (.ref 1)] [] (sM mo G I J) Q = (Q (some (.int (((1 : Int32) <<< ((I 1 0) &&& 31)) - 1))) (sM mo G I J)) := by
  rw [bk_102_0]
  simp (decide := true) only [up2_ne, up2_sn, up2_ss, ne_eq, tl_some, tl_none, zb_0, zb_1, zb_bi, true_and, bi_eq, bi_ne, oz_f, zz_t, if_true, if_false, not_true_eq_false, not_false_eq_true]
  all_goals grind [bi]
theorem ct_Realm_soulsOf (x : Int32) : sm_wp X 117 0 [some (.ref 1), some (.int x)] [] (sM mo G I J) Q = (if hLand I x then (Q (some (.int (I 2 (x.toNatClampNeg)))) (sM mo G I J)) else (Q (some (.int 0)) (sM mo G I J))) := by
  rw [bk_117_0]
  simp (decide := true) only [bk_117_5, bk_117_17, bk_117_18, ct_Realm_isLand, up2_ne, up2_sn, up2_ss, ne_eq, tl_some, tl_none, zb_0, zb_1, zb_bi, true_and, bi_eq, bi_ne, oz_f, zz_t, if_true, if_false, not_true_eq_false, not_false_eq_true]
  all_goals grind [bi, vp_12]
theorem ct_Realm_holderOf (x : Int32) : sm_wp X 95 0 [some (.ref 1), some (.int x)] [] (sM mo G I J) Q = (if hLand I x then (Q (some (.int (I 4 (x.toNatClampNeg)))) (sM mo G I J)) else (Q (some (.int (-1))) (sM mo G I J))) := by
  rw [bk_95_0]
  simp (decide := true) only [bk_95_5, bk_95_17, bk_95_18, ct_Realm_isLand, up2_ne, up2_sn, up2_ss, ne_eq, tl_some, tl_none, zb_0, zb_1, zb_bi, true_and, bi_eq, bi_ne, oz_f, zz_t, if_true, if_false, not_true_eq_false, not_false_eq_true]
  all_goals grind [bi, vp_12]
theorem ct_Realm_claimsOf (x : Int32) : sm_wp X 98 0 [some (.ref 1), some (.int x)] [] (sM mo G I J) Q = (if hLand I x then (Q (some (.int (I 5 (x.toNatClampNeg)))) (sM mo G I J)) else (Q (some (.int 0)) (sM mo G I J))) := by
  rw [bk_98_0]
  simp (decide := true) only [bk_98_5, bk_98_17, bk_98_18, ct_Realm_isLand, up2_ne, up2_sn, up2_ss, ne_eq, tl_some, tl_none, zb_0, zb_1, zb_bi, true_and, bi_eq, bi_ne, oz_f, zz_t, if_true, if_false, not_true_eq_false, not_false_eq_true]
  all_goals grind [bi, vp_12]
theorem ct_Realm_wayLengthOf (x : Int32) : sm_wp X 96 0 [some (.ref 1), some (.int x)] [] (sM mo G I J) Q = (if hLand I x then (Q (some (.int (I 6 (x.toNatClampNeg)))) (sM mo G I J)) else (Q (some (.int 0)) (sM mo G I J))) := by
  rw [bk_96_0]
  simp (decide := true) only [bk_96_5, bk_96_17, bk_96_18, ct_Realm_isLand, up2_ne, up2_sn, up2_ss, ne_eq, tl_some, tl_none, zb_0, zb_1, zb_bi, true_and, bi_eq, bi_ne, oz_f, zz_t, if_true, if_false, not_true_eq_false, not_false_eq_true]
  all_goals grind [bi, vp_12]
theorem ct_Realm_rankOf (x : Int32) : sm_wp X 109 0 [some (.ref 1), some (.int x)] [] (sM mo G I J) Q = (if hState I x then (Q (some (.int (I 10 (x.toNatClampNeg)))) (sM mo G I J)) else (Q (some (.int 0)) (sM mo G I J))) := by
  rw [bk_109_0]
  simp (decide := true) only [bk_109_5, bk_109_17, bk_109_18, ct_Realm_isState, up2_ne, up2_sn, up2_ss, ne_eq, tl_some, tl_none, zb_0, zb_1, zb_bi, true_and, bi_eq, bi_ne, oz_f, zz_t, if_true, if_false, not_true_eq_false, not_false_eq_true]
  all_goals grind [bi, vp_6]
theorem ct_Realm_homeOf (x : Int32) : sm_wp X 110 0 [some (.ref 1), some (.int x)] [] (sM mo G I J) Q = (if hState I x then (Q (some (.int (I 11 (x.toNatClampNeg)))) (sM mo G I J)) else (Q (some (.int 0)) (sM mo G I J))) := by
  rw [bk_110_0]
  simp (decide := true) only [bk_110_5, bk_110_17, bk_110_18, ct_Realm_isState, up2_ne, up2_sn, up2_ss, ne_eq, tl_some, tl_none, zb_0, zb_1, zb_bi, true_and, bi_eq, bi_ne, oz_f, zz_t, if_true, if_false, not_true_eq_false, not_false_eq_true]
  all_goals grind [bi, vp_6]
theorem ct_Realm_boundOf (x : Int32) : sm_wp X 108 0 [some (.ref 1), some (.int x)] [] (sM mo G I J) Q = (if hState I x then (Q (some (.int (I 12 (x.toNatClampNeg)))) (sM mo G I J)) else (Q (some (.int 0)) (sM mo G I J))) := by
  rw [bk_108_0]
  simp (decide := true) only [bk_108_5, bk_108_17, bk_108_18, ct_Realm_isState, up2_ne, up2_sn, up2_ss, ne_eq, tl_some, tl_none, zb_0, zb_1, zb_bi, true_and, bi_eq, bi_ne, oz_f, zz_t, if_true, if_false, not_true_eq_false, not_false_eq_true]
  all_goals grind [bi, vp_6]
theorem ct_Pap_isFull  : sm_wp X 64 0 [some (.ref 31)] [] (sM mo G I J) Q = (Q (some (.int (bi (60 ≤ I 31 0)))) (sM mo G I J)) := by
  rw [bk_64_0]
  simp (decide := true) only [bk_64_13, bk_64_14, up2_ne, up2_sn, up2_ss, ne_eq, tl_some, tl_none, zb_0, zb_1, zb_bi, true_and, bi_eq, bi_ne, oz_f, zz_t, if_true, if_false, not_true_eq_false, not_false_eq_true]
  all_goals grind [bi]
theorem ct_Pap_isPaper (x : Int32) : sm_wp X 66 0 [some (.ref 31), some (.int x)] [] (sM mo G I J) Q = (Q (some (.int (bi (hPap I x)))) (sM mo G I J)) := by
  rw [bk_66_0]
  simp (decide := true) only [bk_66_22, bk_66_23, up2_ne, up2_sn, up2_ss, ne_eq, tl_some, tl_none, zb_0, zb_1, zb_bi, true_and, bi_eq, bi_ne, oz_f, zz_t, if_true, if_false, not_true_eq_false, not_false_eq_true]
  all_goals grind [bi]
theorem ct_Pap_isOffer (x : Int32) : sm_wp X 65 0 [some (.ref 31), some (.int x)] [] (sM mo G I J) Q = (Q (some (.int (bi (hPap I x ∧ ¬ I 42 (x.toNatClampNeg) = -1)))) (sM mo G I J)) := by
  rw [bk_65_0]
  simp (decide := true) only [bk_65_5, bk_65_22, bk_65_23, ct_Pap_isPaper, up2_ne, up2_sn, up2_ss, ne_eq, tl_some, tl_none, zb_0, zb_1, zb_bi, true_and, bi_eq, bi_ne, oz_f, zz_t, if_true, if_false, not_true_eq_false, not_false_eq_true]
  all_goals grind [bi, vp_60]
theorem ct_Pap_sender (x : Int32) : sm_wp X 72 0 [some (.ref 31), some (.int x)] [] (sM mo G I J) Q = (if hPap I x then (Q (some (.int (I 32 (x.toNatClampNeg)))) (sM mo G I J)) else (Q (some (.int (-1))) (sM mo G I J))) := by
  rw [bk_72_0]
  simp (decide := true) only [bk_72_5, bk_72_17, bk_72_18, ct_Pap_isPaper, up2_ne, up2_sn, up2_ss, ne_eq, tl_some, tl_none, zb_0, zb_1, zb_bi, true_and, bi_eq, bi_ne, oz_f, zz_t, if_true, if_false, not_true_eq_false, not_false_eq_true]
  all_goals grind [bi, vp_60]
theorem ct_Pap_receiver (x : Int32) : sm_wp X 73 0 [some (.ref 31), some (.int x)] [] (sM mo G I J) Q = (if hPap I x then (Q (some (.int (I 33 (x.toNatClampNeg)))) (sM mo G I J)) else (Q (some (.int (-1))) (sM mo G I J))) := by
  rw [bk_73_0]
  simp (decide := true) only [bk_73_5, bk_73_17, bk_73_18, ct_Pap_isPaper, up2_ne, up2_sn, up2_ss, ne_eq, tl_some, tl_none, zb_0, zb_1, zb_bi, true_and, bi_eq, bi_ne, oz_f, zz_t, if_true, if_false, not_true_eq_false, not_false_eq_true]
  all_goals grind [bi, vp_60]
theorem ct_Pap_givenBySender (x : Int32) : sm_wp X 75 0 [some (.ref 31), some (.int x)] [] (sM mo G I J) Q = (if hPap I x then (Q (some (.int (I 37 (x.toNatClampNeg)))) (sM mo G I J)) else (Q (some (.int 0)) (sM mo G I J))) := by
  rw [bk_75_0]
  simp (decide := true) only [bk_75_5, bk_75_17, bk_75_18, ct_Pap_isPaper, up2_ne, up2_sn, up2_ss, ne_eq, tl_some, tl_none, zb_0, zb_1, zb_bi, true_and, bi_eq, bi_ne, oz_f, zz_t, if_true, if_false, not_true_eq_false, not_false_eq_true]
  all_goals grind [bi, vp_60]
theorem ct_Pap_givenByReceiver (x : Int32) : sm_wp X 76 0 [some (.ref 31), some (.int x)] [] (sM mo G I J) Q = (if hPap I x then (Q (some (.int (I 38 (x.toNatClampNeg)))) (sM mo G I J)) else (Q (some (.int 0)) (sM mo G I J))) := by
  rw [bk_76_0]
  simp (decide := true) only [bk_76_5, bk_76_17, bk_76_18, ct_Pap_isPaper, up2_ne, up2_sn, up2_ss, ne_eq, tl_some, tl_none, zb_0, zb_1, zb_bi, true_and, bi_eq, bi_ne, oz_f, zz_t, if_true, if_false, not_true_eq_false, not_false_eq_true]
  all_goals grind [bi, vp_60]
theorem ct_Pap_lastDayOf (x : Int32) : sm_wp X 71 0 [some (.ref 31), some (.int x)] [] (sM mo G I J) Q = (if hPap I x then (Q (some (.int (I 39 (x.toNatClampNeg)))) (sM mo G I J)) else (Q (some (.int (-1))) (sM mo G I J))) := by
  rw [bk_71_0]
  simp (decide := true) only [bk_71_5, bk_71_17, bk_71_18, ct_Pap_isPaper, up2_ne, up2_sn, up2_ss, ne_eq, tl_some, tl_none, zb_0, zb_1, zb_bi, true_and, bi_eq, bi_ne, oz_f, zz_t, if_true, if_false, not_true_eq_false, not_false_eq_true]
  all_goals grind [bi, vp_60]
theorem ct_Pap_answerDay (x : Int32) : sm_wp X 80 0 [some (.ref 31), some (.int x)] [] (sM mo G I J) Q = (if hPap I x then (Q (some (.int (I 44 (x.toNatClampNeg)))) (sM mo G I J)) else (Q (some (.int (-1))) (sM mo G I J))) := by
  rw [bk_80_0]
  simp (decide := true) only [bk_80_5, bk_80_17, bk_80_18, ct_Pap_isPaper, up2_ne, up2_sn, up2_ss, ne_eq, tl_some, tl_none, zb_0, zb_1, zb_bi, true_and, bi_eq, bi_ne, oz_f, zz_t, if_true, if_false, not_true_eq_false, not_false_eq_true]
  all_goals grind [bi, vp_60]
theorem ct_Pap_standingOf (x : Int32) : sm_wp X 70 0 [some (.ref 31), some (.int x)] [] (sM mo G I J) Q = (if hPap I x then (Q (some (.int (I 42 (x.toNatClampNeg)))) (sM mo G I J)) else (Q (some (.int (-1))) (sM mo G I J))) := by
  rw [bk_70_0]
  simp (decide := true) only [bk_70_5, bk_70_17, bk_70_18, ct_Pap_isPaper, up2_ne, up2_sn, up2_ss, ne_eq, tl_some, tl_none, zb_0, zb_1, zb_bi, true_and, bi_eq, bi_ne, oz_f, zz_t, if_true, if_false, not_true_eq_false, not_false_eq_true]
  all_goals grind [bi, vp_60]
theorem ct_Realm_setClaims (x : Int32) (y : Int32) : sm_wp X 99 0 [some (.ref 1), some (.int x), some (.int y)] [] (sM mo G I J) Q = (if ¬ (hLand I x) then (Q none (sM mo G I J)) else (vp_in x 12 ∧ (Q none (sM mo G (up2 (up2 I 5 x.toNatClampNeg y) 1 4 ((I 1 4) + 1)) J)))) := by
  rw [bk_99_0]
  simp (decide := true) only [bk_99_5, bk_99_25, ct_Realm_isLand, up2_ne, up2_sn, up2_ss, ne_eq, tl_some, tl_none, zb_0, zb_1, zb_bi, true_and, bi_eq, bi_ne, oz_f, zz_t, if_true, if_false, not_true_eq_false, not_false_eq_true]
  all_goals grind [bi]
theorem ct_Realm_setBound (x : Int32) (y : Int32) : sm_wp X 101 0 [some (.ref 1), some (.int x), some (.int y)] [] (sM mo G I J) Q = (if ¬ (hState I x) then (Q none (sM mo G I J)) else (vp_in x 6 ∧ (Q none (sM mo G (up2 (up2 I 12 x.toNatClampNeg y) 1 4 ((I 1 4) + 1)) J)))) := by
  rw [bk_101_0]
  simp (decide := true) only [bk_101_5, bk_101_25, ct_Realm_isState, up2_ne, up2_sn, up2_ss, ne_eq, tl_some, tl_none, zb_0, zb_1, zb_bi, true_and, bi_eq, bi_ne, oz_f, zz_t, if_true, if_false, not_true_eq_false, not_false_eq_true]
  all_goals grind [bi]
theorem ct_Realm_setWorth (x : Int32) (y : Int32) (z : Int32) : sm_wp X 100 0 [some (.ref 1), some (.int x), some (.int y), some (.int z)] [] (sM mo G I J) Q = (if ¬ (hState I x) then (Q none (sM mo G I J)) else (if ¬ (hLand I y) then (Q none (sM mo G I J)) else (vp_in ((x * 12) + y) 72 ∧ (Q none (sM mo G (up2 (up2 I 13 ((x * 12) + y).toNatClampNeg z) 1 4 ((I 1 4) + 1)) J))))) := by
  rw [bk_100_0]
  simp (decide := true) only [bk_100_5, bk_100_13, bk_100_38, ct_Realm_isState, ct_Realm_isLand, up2_ne, up2_sn, up2_ss, ne_eq, tl_some, tl_none, zb_0, zb_1, zb_bi, true_and, bi_eq, bi_ne, oz_f, zz_t, if_true, if_false, not_true_eq_false, not_false_eq_true]
  all_goals grind [bi]
theorem ct_Realm_addLand (x : Int32) : sm_wp X 89 0 [some (.ref 1), some (.int x)] [] (sM mo G I J) Q = (if I 1 0 < 12 then (vp_in (I 1 0) 12 ∧ (vp_in (I 1 0) 12 ∧ (Q (some (.int (((I 1 0) + 1) - 1))) (sM mo G (up2 (up2 (up2 (up2 I 2 (I 1 0).toNatClampNeg x) 4 (I 1 0).toNatClampNeg (-1)) 1 0 ((I 1 0) + 1)) 1 4 ((I 1 4) + 1)) J)))) else (Q (some (.int (-1))) (sM mo G I J))) := by
  rw [bk_89_0]
  simp (decide := true) only [bk_89_11, up2_ne, up2_sn, up2_ss, ne_eq, tl_some, tl_none, zb_0, zb_1, zb_bi, true_and, bi_eq, bi_ne, oz_f, zz_t, if_true, if_false, not_true_eq_false, not_false_eq_true]
  all_goals grind [bi]
theorem ct_Realm_addState (x : Int32) (y : Int32) : sm_wp X 93 0 [some (.ref 1), some (.int x), some (.int y)] [] (sM mo G I J) Q = (if I 1 1 < 6 then (vp_in (I 1 1) 6 ∧ (vp_in (I 1 1) 6 ∧ (Q (some (.int (((I 1 1) + 1) - 1))) (sM mo G (up2 (up2 (up2 (up2 (up2 I 10 (I 1 1).toNatClampNeg x) 11 (I 1 1).toNatClampNeg y) 1 2 ((I 1 2) ||| ((1 : Int32) <<< ((I 1 1) &&& 31)))) 1 1 ((I 1 1) + 1)) 1 4 ((I 1 4) + 1)) J)))) else (Q (some (.int (-1))) (sM mo G I J))) := by
  rw [bk_93_0]
  simp (decide := true) only [bk_93_11, up2_ne, up2_sn, up2_ss, ne_eq, tl_some, tl_none, zb_0, zb_1, zb_bi, true_and, bi_eq, bi_ne, oz_f, zz_t, if_true, if_false, not_true_eq_false, not_false_eq_true]
  all_goals grind [bi]
theorem ct_Realm_removeState (x : Int32) : sm_wp X 114 0 [some (.ref 1), some (.int x)] [] (sM mo G I J) Q = (if ¬ (hState I x) then (Q none (sM mo G I J)) else (Q none (sM mo G (up2 (up2 I 1 2 ((I 1 2) &&& (((1 : Int32) <<< (x &&& 31)) ^^^ (-1)))) 1 4 ((I 1 4) + 1)) J))) := by
  rw [bk_114_0]
  simp (decide := true) only [bk_114_5, bk_114_32, ct_Realm_isState, up2_ne, up2_sn, up2_ss, ne_eq, tl_some, tl_none, zb_0, zb_1, zb_bi, true_and, bi_eq, bi_ne, oz_f, zz_t, if_true, if_false, not_true_eq_false, not_false_eq_true]
  all_goals grind [bi]
theorem ct_Realm_areNear (x : Int32) (y : Int32) : sm_wp X 91 0 [some (.ref 1), some (.int x), some (.int y)] [] (sM mo G I J) Q = (if ¬ (hLand I x) then (Q (some (.int 0)) (sM mo G I J)) else (vp_in x 12 ∧ (if ¬ (hBit (I 3 (x.toNatClampNeg)) y) then (Q (some (.int 0)) (sM mo G I J)) else (Q (some (.int 1)) (sM mo G I J))))) := by
  rw [bk_91_0]
  simp (decide := true) only [bk_91_5, bk_91_18, bk_91_25, bk_91_26, ct_Realm_isLand, ct_House_hasBit, up2_ne, up2_sn, up2_ss, ne_eq, tl_some, tl_none, zb_0, zb_1, zb_bi, true_and, bi_eq, bi_ne, oz_f, zz_t, if_true, if_false, not_true_eq_false, not_false_eq_true]
  all_goals grind [bi]
theorem ct_Realm_makeNear (x : Int32) (y : Int32) : sm_wp X 92 0 [some (.ref 1), some (.int x), some (.int y)] [] (sM mo G I J) Q = (if ¬ (hLand I x) then (Q none (sM mo G I J)) else (if ¬ (hLand I y) then (Q none (sM mo G I J)) else (vp_in x 12 ∧ (vp_in x 12 ∧ (vp_in y 12 ∧ (vp_in y 12 ∧ (Q none (sM mo G (up2 (up2 I 3 x.toNatClampNeg ((I 3 (x.toNatClampNeg)) ||| ((1 : Int32) <<< (y &&& 31)))) 3 y.toNatClampNeg (((up2 I 3 x.toNatClampNeg ((I 3 (x.toNatClampNeg)) ||| ((1 : Int32) <<< (y &&& 31)))) 3 (y.toNatClampNeg)) ||| ((1 : Int32) <<< (x &&& 31)))) J)))))))) := by
  rw [bk_92_0]
  simp (decide := true) only [bk_92_5, bk_92_13, bk_92_40, ct_Realm_isLand, up2_ne, up2_sn, up2_ss, ne_eq, tl_some, tl_none, zb_0, zb_1, zb_bi, true_and, bi_eq, bi_ne, oz_f, zz_t, if_true, if_false, not_true_eq_false, not_false_eq_true]
  all_goals grind [bi]
theorem ct_Realm_worthOf (x : Int32) (y : Int32) : sm_wp X 104 0 [some (.ref 1), some (.int x), some (.int y)] [] (sM mo G I J) Q = (if x < 0 then (Q (some (.int 0)) (sM mo G I J)) else (if 6 ≤ x then (Q (some (.int 0)) (sM mo G I J)) else (if y < 0 then (Q (some (.int 0)) (sM mo G I J)) else (if y < 12 then (vp_in ((x * 12) + y) 72 ∧ (Q (some (.int (I 13 (((x * 12) + y).toNatClampNeg)))) (sM mo G I J))) else (Q (some (.int 0)) (sM mo G I J)))))) := by
  rw [bk_104_0]
  simp (decide := true) only [bk_104_20, bk_104_22, up2_ne, up2_sn, up2_ss, ne_eq, tl_some, tl_none, zb_0, zb_1, zb_bi, true_and, bi_eq, bi_ne, oz_f, zz_t, if_true, if_false, not_true_eq_false, not_false_eq_true]
  all_goals grind [bi]
theorem ct_Realm_giveLand (x : Int32) (y : Int32) (z : Int32) : sm_wp X 97 0 [some (.ref 1), some (.int x), some (.int y), some (.int z), none, none] [] (sM mo G I J) Q = (if (hLand I x) then (vp_in x 12 ∧ (if I 6 (x.toNatClampNeg) < 0 then (vp_in x 12 ∧ (Q none (sM mo G (up2 (up2 I 4 x.toNatClampNeg y) 1 4 ((I 1 4) + 1)) J))) else (if 80 ≤ I 6 (x.toNatClampNeg) then (vp_in x 12 ∧ (Q none (sM mo G (up2 (up2 I 4 x.toNatClampNeg y) 1 4 ((I 1 4) + 1)) J))) else (vp_in ((x * 80) + (I 6 (x.toNatClampNeg))) 960 ∧ (vp_in ((x * 80) + (I 6 (x.toNatClampNeg))) 960 ∧ (vp_in ((x * 80) + (I 6 (x.toNatClampNeg))) 960 ∧ (vp_in x 12 ∧ (vp_in x 12 ∧ (Q none (sM mo G (up2 (up2 (up2 (up2 (up2 (up2 I 7 ((x * 80) + (I 6 (x.toNatClampNeg))).toNatClampNeg y) 8 ((x * 80) + (I 6 (x.toNatClampNeg))).toNatClampNeg (I 1 3)) 9 ((x * 80) + (I 6 (x.toNatClampNeg))).toNatClampNeg z) 6 x.toNatClampNeg ((I 6 (x.toNatClampNeg)) + 1)) 4 x.toNatClampNeg y) 1 4 ((I 1 4) + 1)) J)))))))))) else (Q none (sM mo G I J))) := by
  rw [bk_97_0]
  simp (decide := true) only [bk_97_5, bk_97_9, bk_97_75, ct_Realm_isLand, up2_ne, up2_sn, up2_ss, ne_eq, tl_some, tl_none, zb_0, zb_1, zb_bi, true_and, bi_eq, bi_ne, oz_f, zz_t, if_true, if_false, not_true_eq_false, not_false_eq_true]
  all_goals grind [bi]
theorem ct_Realm_tellWay (x : Int32) (y : Int32) (z : Int32) : sm_wp X 115 0 [some (.ref 1), some (.int x), some (.int y), some (.int z), none] [] (sM mo G I J) Q = (if ¬ (hLand I x) then (Q (some (.int (-2))) (sM mo G I J)) else (if y < 0 then (Q (some (.int (-2))) (sM mo G I J)) else (vp_in x 12 ∧ (if I 6 (x.toNatClampNeg) ≤ y then (Q (some (.int (-2))) (sM mo G I J)) else (if y < 80 then (if z = 0 then (vp_in ((x * 80) + y) 960 ∧ (Q (some (.int (I 7 (((x * 80) + y).toNatClampNeg)))) (sM mo G I J))) else (if z = 1 then (vp_in ((x * 80) + y) 960 ∧ (Q (some (.int (I 8 (((x * 80) + y).toNatClampNeg)))) (sM mo G I J))) else (if z = 2 then (vp_in ((x * 80) + y) 960 ∧ (Q (some (.int (I 9 (((x * 80) + y).toNatClampNeg)))) (sM mo G I J))) else (Q (some (.int (-2))) (sM mo G I J))))) else (Q (some (.int (-2))) (sM mo G I J))))))) := by
  rw [bk_115_0]
  simp (decide := true) only [bk_115_5, bk_115_28, bk_115_31, bk_115_68, bk_115_76, bk_115_84, bk_115_92, ct_Realm_isLand, up2_ne, up2_sn, up2_ss, ne_eq, tl_some, tl_none, zb_0, zb_1, zb_bi, true_and, bi_eq, bi_ne, oz_f, zz_t, if_true, if_false, not_true_eq_false, not_false_eq_true]
  all_goals grind [bi]
theorem ct_Pap_addPaper (x : Int32) (y : Int32) (z : Int32) : sm_wp X 67 0 [some (.ref 31), some (.int x), some (.int y), some (.int z)] [] (sM mo G I J) Q = (if ¬ (60 ≤ I 31 0) then (vp_in (I 31 0) 60 ∧ (vp_in (I 31 0) 60 ∧ (vp_in (I 31 0) 60 ∧ (vp_in (I 31 0) 60 ∧ (vp_in (I 31 0) 60 ∧ (vp_in (I 31 0) 60 ∧ (vp_in (I 31 0) 60 ∧ (vp_in (I 31 0) 60 ∧ (Q (some (.int (((I 31 0) + 1) - 1))) (sM mo G (up2 (up2 (up2 (up2 (up2 (up2 (up2 (up2 (up2 I 32 (I 31 0).toNatClampNeg x) 33 (I 31 0).toNatClampNeg y) 34 (I 31 0).toNatClampNeg z) 40 (I 31 0).toNatClampNeg (-1)) 41 (I 31 0).toNatClampNeg (-1)) 42 (I 31 0).toNatClampNeg (-1)) 43 (I 31 0).toNatClampNeg (-1)) 44 (I 31 0).toNatClampNeg (-1)) 31 0 ((I 31 0) + 1)) J)))))))))) else (Q (some (.int (-1))) (sM mo G I J))) := by
  rw [bk_67_0]
  simp (decide := true) only [bk_67_4, bk_67_9, ct_Pap_isFull, up2_ne, up2_sn, up2_ss, ne_eq, tl_some, tl_none, zb_0, zb_1, zb_bi, true_and, bi_eq, bi_ne, oz_f, zz_t, if_true, if_false, not_true_eq_false, not_false_eq_true]
  all_goals grind [bi]
theorem ct_Pap_makeNote (x : Int32) (y : Int32) (z : Int32) : sm_wp X 69 0 [some (.ref 31), some (.int x), some (.int y), some (.int z)] [] (sM mo G I J) Q = (if ¬ (hPap I x) then (Q none (sM mo G I J)) else (vp_in x 60 ∧ (vp_in x 60 ∧ (Q none (sM mo G (up2 (up2 I 35 x.toNatClampNeg y) 36 x.toNatClampNeg z) J))))) := by
  rw [bk_69_0]
  simp (decide := true) only [bk_69_5, bk_69_22, ct_Pap_isPaper, up2_ne, up2_sn, up2_ss, ne_eq, tl_some, tl_none, zb_0, zb_1, zb_bi, true_and, bi_eq, bi_ne, oz_f, zz_t, if_true, if_false, not_true_eq_false, not_false_eq_true]
  all_goals grind [bi]
theorem ct_Pap_makeOffer (x : Int32) (y : Int32) (z : Int32) (u : Int32) (v : Int32) : sm_wp X 68 0 [some (.ref 31), some (.int x), some (.int y), some (.int z), some (.int u), some (.int v)] [] (sM mo G I J) Q = (if ¬ (hPap I x) then (Q none (sM mo G I J)) else (vp_in x 60 ∧ (vp_in x 60 ∧ (vp_in x 60 ∧ (vp_in x 60 ∧ (if ¬ (hPap (up2 (up2 (up2 (up2 I 37 x.toNatClampNeg y) 38 x.toNatClampNeg z) 39 x.toNatClampNeg u) 40 x.toNatClampNeg v) v) then (vp_in x 60 ∧ (vp_in x 60 ∧ (Q none (sM mo G (up2 (up2 (up2 (up2 (up2 (up2 I 37 x.toNatClampNeg y) 38 x.toNatClampNeg z) 39 x.toNatClampNeg u) 40 x.toNatClampNeg v) 41 x.toNatClampNeg x) 42 x.toNatClampNeg 0) J)))) else (vp_in v 60 ∧ (vp_in x 60 ∧ (vp_in x 60 ∧ (Q none (sM mo G (up2 (up2 (up2 (up2 (up2 (up2 I 37 x.toNatClampNeg y) 38 x.toNatClampNeg z) 39 x.toNatClampNeg u) 40 x.toNatClampNeg v) 41 x.toNatClampNeg (I 41 (v.toNatClampNeg))) 42 x.toNatClampNeg 0) J))))))))))) := by
  rw [bk_68_0]
  simp (decide := true) only [bk_68_5, bk_68_49, bk_68_62, bk_68_63, bk_68_71, ct_Pap_isPaper, up2_ne, up2_sn, up2_ss, ne_eq, tl_some, tl_none, zb_0, zb_1, zb_bi, true_and, bi_eq, bi_ne, oz_f, zz_t, if_true, if_false, not_true_eq_false, not_false_eq_true]
  all_goals grind [bi]
theorem ct_Pap_isLinked (x : Int32) : sm_wp X 77 0 [some (.ref 31), some (.int x)] [] (sM mo G I J) Q = (if ¬ (hPap I x) then (Q (some (.int 0)) (sM mo G I J)) else (vp_in x 60 ∧ (if I 40 (x.toNatClampNeg) = (-1) then (Q (some (.int 0)) (sM mo G I J)) else (Q (some (.int 1)) (sM mo G I J))))) := by
  rw [bk_77_0]
  simp (decide := true) only [bk_77_5, bk_77_22, bk_77_23, ct_Pap_isPaper, up2_ne, up2_sn, up2_ss, ne_eq, tl_some, tl_none, zb_0, zb_1, zb_bi, true_and, bi_eq, bi_ne, oz_f, zz_t, if_true, if_false, not_true_eq_false, not_false_eq_true]
  all_goals grind [bi]
theorem ct_Pap_inOneChain (x : Int32) (y : Int32) : sm_wp X 81 0 [some (.ref 31), some (.int x), some (.int y)] [] (sM mo G I J) Q = (if ¬ (hPap I x) then (Q (some (.int 0)) (sM mo G I J)) else (if ¬ (hPap I y) then (Q (some (.int 0)) (sM mo G I J)) else (vp_in x 60 ∧ (vp_in y 60 ∧ (if ¬ I 41 (x.toNatClampNeg) = I 41 (y.toNatClampNeg) then (Q (some (.int 0)) (sM mo G I J)) else (vp_in x 60 ∧ (if I 41 (x.toNatClampNeg) = (-1) then (Q (some (.int 0)) (sM mo G I J)) else (Q (some (.int 1)) (sM mo G I J))))))))) := by
  rw [bk_81_0]
  simp (decide := true) only [bk_81_5, bk_81_13, bk_81_45, bk_81_46, ct_Pap_isPaper, up2_ne, up2_sn, up2_ss, ne_eq, tl_some, tl_none, zb_0, zb_1, zb_bi, true_and, bi_eq, bi_ne, oz_f, zz_t, if_true, if_false, not_true_eq_false, not_false_eq_true]
  all_goals grind [bi]
theorem ct_Pap_setStanding (x : Int32) (y : Int32) : sm_wp X 74 0 [some (.ref 31), some (.int x), some (.int y)] [] (sM mo G I J) Q = (if ¬ (hPap I x) then (Q none (sM mo G I J)) else (vp_in x 60 ∧ (Q none (sM mo G (up2 I 42 x.toNatClampNeg y) J)))) := by
  rw [bk_74_0]
  simp (decide := true) only [bk_74_5, bk_74_15, ct_Pap_isPaper, up2_ne, up2_sn, up2_ss, ne_eq, tl_some, tl_none, zb_0, zb_1, zb_bi, true_and, bi_eq, bi_ne, oz_f, zz_t, if_true, if_false, not_true_eq_false, not_false_eq_true]
  all_goals grind [bi]
theorem ct_Pap_setLine (x : Int32) (y : Int32) : sm_wp X 78 0 [some (.ref 31), some (.int x), some (.int y)] [] (sM mo G I J) Q = (if ¬ (hPap I x) then (Q none (sM mo G I J)) else (vp_in x 60 ∧ (Q none (sM mo G (up2 I 43 x.toNatClampNeg y) J)))) := by
  rw [bk_78_0]
  simp (decide := true) only [bk_78_5, bk_78_15, ct_Pap_isPaper, up2_ne, up2_sn, up2_ss, ne_eq, tl_some, tl_none, zb_0, zb_1, zb_bi, true_and, bi_eq, bi_ne, oz_f, zz_t, if_true, if_false, not_true_eq_false, not_false_eq_true]
  all_goals grind [bi]
theorem ct_Pap_setAnswerDay (x : Int32) (y : Int32) : sm_wp X 79 0 [some (.ref 31), some (.int x), some (.int y)] [] (sM mo G I J) Q = (if ¬ (hPap I x) then (Q none (sM mo G I J)) else (vp_in x 60 ∧ (Q none (sM mo G (up2 I 44 x.toNatClampNeg y) J)))) := by
  rw [bk_79_0]
  simp (decide := true) only [bk_79_5, bk_79_15, ct_Pap_isPaper, up2_ne, up2_sn, up2_ss, ne_eq, tl_some, tl_none, zb_0, zb_1, zb_bi, true_and, bi_eq, bi_ne, oz_f, zz_t, if_true, if_false, not_true_eq_false, not_false_eq_true]
  all_goals grind [bi]
theorem ct_Pap_isUnended (x : Int32) : sm_wp X 82 0 [some (.ref 31), some (.int x), none] [] (sM mo G I J) Q = (if hPap I x then (if I 42 (x.toNatClampNeg) = 0 then (Q (some (.int 1)) (sM mo G I J)) else (if I 42 (x.toNatClampNeg) = 1 then (Q (some (.int 1)) (sM mo G I J)) else (if ¬ I 42 (x.toNatClampNeg) = 2 then (Q (some (.int 0)) (sM mo G I J)) else (Q (some (.int 1)) (sM mo G I J))))) else (Q (some (.int 0)) (sM mo G I J))) := by
  rw [bk_82_0]
  simp (decide := true) only [bk_82_5, bk_82_20, bk_82_24, bk_82_25, ct_Pap_standingOf, up2_ne, up2_sn, up2_ss, ne_eq, tl_some, tl_none, zb_0, zb_1, zb_bi, true_and, bi_eq, bi_ne, oz_f, zz_t, if_true, if_false, not_true_eq_false, not_false_eq_true]
  all_goals grind [bi]
theorem ct_Pap_tell (x : Int32) (y : Int32) : sm_wp X 83 0 [some (.ref 31), some (.int x), some (.int y)] [] (sM mo G I J) Q = (if (hPap I x) then (if y = 0 then (if ¬ (hPap I x ∧ ¬ I 42 (x.toNatClampNeg) = -1) then (Q (some (.int 1)) (sM mo G I J)) else (Q (some (.int 0)) (sM mo G I J))) else (if y = 1 then (vp_in x 60 ∧ (Q (some (.int (I 34 (x.toNatClampNeg)))) (sM mo G I J))) else (if y = 2 then (vp_in x 60 ∧ (Q (some (.int (I 42 (x.toNatClampNeg)))) (sM mo G I J))) else (if y = 3 then (vp_in x 60 ∧ (Q (some (.int (I 43 (x.toNatClampNeg)))) (sM mo G I J))) else (if y = 4 then (vp_in x 60 ∧ (Q (some (.int (I 32 (x.toNatClampNeg)))) (sM mo G I J))) else (if y = 5 then (vp_in x 60 ∧ (Q (some (.int (I 33 (x.toNatClampNeg)))) (sM mo G I J))) else (if y = 6 then (vp_in x 60 ∧ (Q (some (.int (I 44 (x.toNatClampNeg)))) (sM mo G I J))) else (Q (some (.int (-2))) (sM mo G I J))))))))) else (Q (some (.int (-2))) (sM mo G I J))) := by
  rw [bk_83_0]
  simp (decide := true) only [bk_83_5, bk_83_11, bk_83_56, bk_83_61, bk_83_68, bk_83_69, bk_83_70, bk_83_77, bk_83_84, bk_83_91, bk_83_98, bk_83_105, bk_83_112, ct_Pap_isPaper, ct_Pap_isOffer, up2_ne, up2_sn, up2_ss, ne_eq, tl_some, tl_none, zb_0, zb_1, zb_bi, true_and, bi_eq, bi_ne, oz_f, zz_t, if_true, if_false, not_true_eq_false, not_false_eq_true]
  all_goals grind [bi]
theorem ct_Pap_knownDay (x : Int32) (y : Int32) : sm_wp X 84 0 [some (.ref 31), some (.int x), some (.int y)] [] (sM mo G I J) Q = (if (hPap I x) then (vp_in x 60 ∧ (if I 32 (x.toNatClampNeg) = y then (vp_in x 60 ∧ (Q (some (.int (I 34 (x.toNatClampNeg)))) (sM mo G I J))) else (vp_in x 60 ∧ (if ¬ I 33 (x.toNatClampNeg) = y then (vp_in x 60 ∧ (if ¬ (hBit (I 36 (x.toNatClampNeg)) y) then (Q (some (.int (-1))) (sM mo G I J)) else (vp_in x 60 ∧ (Q (some (.int ((I 34 (x.toNatClampNeg)) + 1))) (sM mo G I J))))) else (vp_in x 60 ∧ (Q (some (.int (I 34 (x.toNatClampNeg)))) (sM mo G I J))))))) else (Q (some (.int (-1))) (sM mo G I J))) := by
  rw [bk_84_0]
  simp (decide := true) only [bk_84_5, bk_84_10, bk_84_30, bk_84_37, bk_84_47, bk_84_61, bk_84_62, ct_Pap_isPaper, ct_House_hasBit, up2_ne, up2_sn, up2_ss, ne_eq, tl_some, tl_none, zb_0, zb_1, zb_bi, true_and, bi_eq, bi_ne, oz_f, zz_t, if_true, if_false, not_true_eq_false, not_false_eq_true]
  all_goals grind [bi]
theorem ct_Spy_addSpy (x : Int32) (y : Int32) (z : Int32) (u : Int32) : sm_wp X 152 0 [some (.ref 26), some (.int x), some (.int y), some (.int z), some (.int u)] [] (sM mo G I J) Q = (if I 26 0 < 20 then (vp_in (I 26 0) 20 ∧ (vp_in (I 26 0) 20 ∧ (vp_in (I 26 0) 20 ∧ (vp_in (I 26 0) 20 ∧ (Q (some (.int 1)) (sM mo G (up2 (up2 (up2 (up2 (up2 I 27 (I 26 0).toNatClampNeg x) 28 (I 26 0).toNatClampNeg y) 29 (I 26 0).toNatClampNeg z) 30 (I 26 0).toNatClampNeg u) 26 0 ((I 26 0) + 1)) J)))))) else (Q (some (.int 0)) (sM mo G I J))) := by
  rw [bk_152_0]
  simp (decide := true) only [bk_152_11, up2_ne, up2_sn, up2_ss, ne_eq, tl_some, tl_none, zb_0, zb_1, zb_bi, true_and, bi_eq, bi_ne, oz_f, zz_t, if_true, if_false, not_true_eq_false, not_false_eq_true]
  all_goals grind [bi]
theorem ct_Book_linesOf (x : Int32) : sm_wp X 41 0 [some (.ref 21), some (.int x)] [] (sM mo G I J) Q = (if x < 0 then (Q (some (.int 0)) (sM mo G I J)) else (if 6 ≤ x then (Q (some (.int 0)) (sM mo G I J)) else (vp_in x 6 ∧ (Q (some (.int (I 22 (x.toNatClampNeg)))) (sM mo G I J))))) := by
  rw [bk_41_0]
  simp (decide := true) only [bk_41_19, bk_41_20, up2_ne, up2_sn, up2_ss, ne_eq, tl_some, tl_none, zb_0, zb_1, zb_bi, true_and, bi_eq, bi_ne, oz_f, zz_t, if_true, if_false, not_true_eq_false, not_false_eq_true]
  all_goals grind [bi]
theorem ct_Book_isLine (x : Int32) (y : Int32) : sm_wp X 43 0 [some (.ref 21), some (.int x), some (.int y)] [] (sM mo G I J) Q = (if y < 0 then (Q (some (.int 0)) (sM mo G I J)) else (if 16 ≤ y then (Q (some (.int 0)) (sM mo G I J)) else (if x < 0 then (if 0 ≤ y then (Q (some (.int 0)) (sM mo G I J)) else (Q (some (.int 1)) (sM mo G I J))) else (if 6 ≤ x then (if 0 ≤ y then (Q (some (.int 0)) (sM mo G I J)) else (Q (some (.int 1)) (sM mo G I J))) else (vp_in x 6 ∧ (if I 22 (x.toNatClampNeg) ≤ y then (Q (some (.int 0)) (sM mo G I J)) else (Q (some (.int 1)) (sM mo G I J)))))))) := by
  rw [bk_43_0]
  simp (decide := true) only [bk_43_16, bk_43_23, bk_43_24, ct_Book_linesOf, up2_ne, up2_sn, up2_ss, ne_eq, tl_some, tl_none, zb_0, zb_1, zb_bi, true_and, bi_eq, bi_ne, oz_f, zz_t, if_true, if_false, not_true_eq_false, not_false_eq_true]
  all_goals grind [bi]
theorem ct_Book_verbOf (x : Int32) (y : Int32) : sm_wp X 42 0 [some (.ref 21), some (.int x), some (.int y)] [] (sM mo G I J) Q = (if y < 0 then (Q (some (.int (-1))) (sM mo G I J)) else (if 16 ≤ y then (Q (some (.int (-1))) (sM mo G I J)) else (if x < 0 then (if 0 ≤ y then (Q (some (.int (-1))) (sM mo G I J)) else (vp_in ((x * 16) + y) 96 ∧ (Q (some (.int (I 24 (((x * 16) + y).toNatClampNeg)))) (sM mo G I J)))) else (if 6 ≤ x then (if 0 ≤ y then (Q (some (.int (-1))) (sM mo G I J)) else (vp_in ((x * 16) + y) 96 ∧ (Q (some (.int (I 24 (((x * 16) + y).toNatClampNeg)))) (sM mo G I J)))) else (vp_in x 6 ∧ (if I 22 (x.toNatClampNeg) ≤ y then (Q (some (.int (-1))) (sM mo G I J)) else (vp_in ((x * 16) + y) 96 ∧ (Q (some (.int (I 24 (((x * 16) + y).toNatClampNeg)))) (sM mo G I J))))))))) := by
  rw [bk_42_0]
  simp (decide := true) only [bk_42_6, bk_42_23, bk_42_24, ct_Book_isLine, up2_ne, up2_sn, up2_ss, ne_eq, tl_some, tl_none, zb_0, zb_1, zb_bi, true_and, bi_eq, bi_ne, oz_f, zz_t, if_true, if_false, not_true_eq_false, not_false_eq_true]
  all_goals grind [bi]
theorem ct_Book_endOf (x : Int32) (y : Int32) : sm_wp X 44 0 [some (.ref 21), some (.int x), some (.int y)] [] (sM mo G I J) Q = (if y < 0 then (Q (some (.int 0)) (sM mo G I J)) else (if 16 ≤ y then (Q (some (.int 0)) (sM mo G I J)) else (if x < 0 then (if 0 ≤ y then (Q (some (.int 0)) (sM mo G I J)) else (vp_in ((x * 16) + y) 96 ∧ (Q (some (.int (I 25 (((x * 16) + y).toNatClampNeg)))) (sM mo G I J)))) else (if 6 ≤ x then (if 0 ≤ y then (Q (some (.int 0)) (sM mo G I J)) else (vp_in ((x * 16) + y) 96 ∧ (Q (some (.int (I 25 (((x * 16) + y).toNatClampNeg)))) (sM mo G I J)))) else (vp_in x 6 ∧ (if I 22 (x.toNatClampNeg) ≤ y then (Q (some (.int 0)) (sM mo G I J)) else (vp_in ((x * 16) + y) 96 ∧ (Q (some (.int (I 25 (((x * 16) + y).toNatClampNeg)))) (sM mo G I J))))))))) := by
  rw [bk_44_0]
  simp (decide := true) only [bk_44_6, bk_44_23, bk_44_24, ct_Book_isLine, up2_ne, up2_sn, up2_ss, ne_eq, tl_some, tl_none, zb_0, zb_1, zb_bi, true_and, bi_eq, bi_ne, oz_f, zz_t, if_true, if_false, not_true_eq_false, not_false_eq_true]
  all_goals grind [bi]
theorem ct_Book_codeAt (x : Int32) (y : Int32) : sm_wp X 45 0 [some (.ref 21), some (.int x), some (.int y)] [] (sM mo G I J) Q = (if x < 0 then (Q (some (.int 100)) (sM mo G I J)) else (if 6 ≤ x then (Q (some (.int 100)) (sM mo G I J)) else (if y < 0 then (Q (some (.int 100)) (sM mo G I J)) else (if y < 64 then (vp_in ((x * 64) + y) 384 ∧ (Q (some (.int (I 23 (((x * 64) + y).toNatClampNeg)))) (sM mo G I J))) else (Q (some (.int 100)) (sM mo G I J)))))) := by
  rw [bk_45_0]
  simp (decide := true) only [bk_45_20, bk_45_23, up2_ne, up2_sn, up2_ss, ne_eq, tl_some, tl_none, zb_0, zb_1, zb_bi, true_and, bi_eq, bi_ne, oz_f, zz_t, if_true, if_false, not_true_eq_false, not_false_eq_true]
  all_goals grind [bi]
end R1
