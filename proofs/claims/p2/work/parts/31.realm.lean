/-! Closed forms of the loop-free methods of Realm, Papers, Spies, Book; values have names. -/
theorem up2_sn {α : Type} {I : Nat → Nat → α} {a k : Nat} {v : α} {j : Nat} (h : j ≠ k) : up2 I a k v a j = I a j := by rw [up2_ap, if_pos rfl, if_neg h]
theorem up2_ss {α : Type} {I : Nat → Nat → α} {a k : Nat} {v : α} : up2 I a k v a k = v := by rw [up2_ap, if_pos rfl, if_pos rfl]
theorem oz_f : ((1 : Int32) = 0) = False := eq_false (by decide)
theorem zz_t : ((0 : Int32) = 0) = True := eq_self 0
theorem vp_of32 {x m : Int32} {n : Nat} (hm : m.toInt = n) (h : ¬ x < 0) (h2 : ¬ m ≤ x) : vp_in x n := by
  rw [vp_in_iff]
  rw [Int32.lt_iff_toInt_lt] at h
  rw [Int32.le_iff_toInt_le] at h2
  have e : (0 : Int32).toInt = 0 := by decide
  omega
theorem vp_4 {x : Int32} (h : ¬ x < 0) (h2 : ¬ (4 : Int32) ≤ x) : vp_in x 4 := vp_of32 (by decide) h h2
theorem vp_6 {x : Int32} (h : ¬ x < 0) (h2 : ¬ (6 : Int32) ≤ x) : vp_in x 6 := vp_of32 (by decide) h h2
theorem vp_7 {x : Int32} (h : ¬ x < 0) (h2 : ¬ (7 : Int32) ≤ x) : vp_in x 7 := vp_of32 (by decide) h h2
theorem vp_8 {x : Int32} (h : ¬ x < 0) (h2 : ¬ (8 : Int32) ≤ x) : vp_in x 8 := vp_of32 (by decide) h h2
theorem vp_12 {x : Int32} (h : ¬ x < 0) (h2 : ¬ (12 : Int32) ≤ x) : vp_in x 12 := vp_of32 (by decide) h h2
theorem vp_15 {x : Int32} (h : ¬ x < 0) (h2 : ¬ (15 : Int32) ≤ x) : vp_in x 15 := vp_of32 (by decide) h h2
theorem vp_16 {x : Int32} (h : ¬ x < 0) (h2 : ¬ (16 : Int32) ≤ x) : vp_in x 16 := vp_of32 (by decide) h h2
theorem vp_20 {x : Int32} (h : ¬ x < 0) (h2 : ¬ (20 : Int32) ≤ x) : vp_in x 20 := vp_of32 (by decide) h h2
theorem vp_24 {x : Int32} (h : ¬ x < 0) (h2 : ¬ (24 : Int32) ≤ x) : vp_in x 24 := vp_of32 (by decide) h h2
theorem vp_48 {x : Int32} (h : ¬ x < 0) (h2 : ¬ (48 : Int32) ≤ x) : vp_in x 48 := vp_of32 (by decide) h h2
theorem vp_60 {x : Int32} (h : ¬ x < 0) (h2 : ¬ (60 : Int32) ≤ x) : vp_in x 60 := vp_of32 (by decide) h h2
theorem vp_64 {x : Int32} (h : ¬ x < 0) (h2 : ¬ (64 : Int32) ≤ x) : vp_in x 64 := vp_of32 (by decide) h h2
theorem vp_72 {x : Int32} (h : ¬ x < 0) (h2 : ¬ (72 : Int32) ≤ x) : vp_in x 72 := vp_of32 (by decide) h h2
theorem vp_80 {x : Int32} (h : ¬ x < 0) (h2 : ¬ (80 : Int32) ≤ x) : vp_in x 80 := vp_of32 (by decide) h h2
theorem vp_96 {x : Int32} (h : ¬ x < 0) (h2 : ¬ (96 : Int32) ≤ x) : vp_in x 96 := vp_of32 (by decide) h h2
theorem vp_144 {x : Int32} (h : ¬ x < 0) (h2 : ¬ (144 : Int32) ≤ x) : vp_in x 144 := vp_of32 (by decide) h h2
theorem vp_384 {x : Int32} (h : ¬ x < 0) (h2 : ¬ (384 : Int32) ≤ x) : vp_in x 384 := vp_of32 (by decide) h h2
theorem vp_400 {x : Int32} (h : ¬ x < 0) (h2 : ¬ (400 : Int32) ≤ x) : vp_in x 400 := vp_of32 (by decide) h h2
theorem vp_960 {x : Int32} (h : ¬ x < 0) (h2 : ¬ (960 : Int32) ≤ x) : vp_in x 960 := vp_of32 (by decide) h h2
abbrev hBit (b k : Int32) : Prop := ¬ k < 0 ∧ ¬ 31 ≤ k ∧ ¬ (b >>> (k &&& 31)) &&& 1 = 0
abbrev hLand (I : Nat → Nat → Int32) (x : Int32) : Prop := ¬ x < 0 ∧ ¬ I 1 0 ≤ x ∧ ¬ 12 ≤ x
abbrev hState (I : Nat → Nat → Int32) (x : Int32) : Prop := ¬ x < 0 ∧ ¬ I 1 1 ≤ x ∧ ¬ 6 ≤ x
abbrev hPres (I : Nat → Nat → Int32) (x : Int32) : Prop := hState I x ∧ hBit (I 1 2) x
abbrev hPap (I : Nat → Nat → Int32) (x : Int32) : Prop := ¬ x < 0 ∧ ¬ I 31 0 ≤ x ∧ ¬ 60 ≤ x
abbrev hArt (I : Nat → Nat → Int32) (x : Int32) : Prop := ¬ x < 0 ∧ ¬ I 71 0 ≤ x ∧ ¬ 8 ≤ x
def aLand (I : Nat → Nat → Int32) (c : Nat) (d x : Int32) : Int32 := if hLand I x then I c x.toNatClampNeg else d
def aState (I : Nat → Nat → Int32) (c : Nat) (d x : Int32) : Int32 := if hState I x then I c x.toNatClampNeg else d
def aPap (I : Nat → Nat → Int32) (c : Nat) (d x : Int32) : Int32 := if hPap I x then I c x.toNatClampNeg else d
def wof (W : Nat → Int32) (s l : Int32) : Int32 := if s < 0 ∨ 6 ≤ s ∨ l < 0 ∨ 12 ≤ l then 0 else W ((s * 12 + l).toNatClampNeg)
section R1
variable (X : (Nat → Int32) × Nat) (mo : Bool) (G : Nat × Nat) (I : Nat → Nat → Int32) (J : Nat → Nat → Int64) (Q : Option Value → sm_M → Prop)
theorem ct_House_hasBit (x : Int32) (y : Int32) : sm_wp X 169 0 [some (.int x), some (.int y)] [] (sM mo G I J) Q = (Q (some (.int (bi (hBit x y)))) (sM mo G I J)) := by
  rw [bk_169_0]
  simp (decide := true) only [bk_169_22, bk_169_23, up2_ne, up2_sn, up2_ss, ne_eq, tl_some, tl_none, zb_0, zb_1, zb_bi, true_and, bi_eq, bi_ne, oz_f, zz_t, if_true, if_false, not_true_eq_false, not_false_eq_true]
  all_goals grind (splits := 40) [bi]
theorem ct_House_isWord (x : Int32) : sm_wp X 180 0 [some (.int x)] [] (sM mo G I J) Q = (Q (some (.int (bi (¬ x < 1 ∧ ¬ 99 < x)))) (sM mo G I J)) := by
  rw [bk_180_0]
  simp (decide := true) only [bk_180_15, bk_180_16, up2_ne, up2_sn, up2_ss, ne_eq, tl_some, tl_none, zb_0, zb_1, zb_bi, true_and, bi_eq, bi_ne, oz_f, zz_t, if_true, if_false, not_true_eq_false, not_false_eq_true]
  all_goals grind (splits := 40) [bi]
theorem ct_Realm_isLand (x : Int32) : sm_wp X 90 0 [some (.ref 1), some (.int x)] [] (sM mo G I J) Q = (Q (some (.int (bi (hLand I x)))) (sM mo G I J)) := by
  rw [bk_90_0]
  simp (decide := true) only [bk_90_22, bk_90_23, up2_ne, up2_sn, up2_ss, ne_eq, tl_some, tl_none, zb_0, zb_1, zb_bi, true_and, bi_eq, bi_ne, oz_f, zz_t, if_true, if_false, not_true_eq_false, not_false_eq_true]
  all_goals grind (splits := 40) [bi]
theorem ct_Realm_isState (x : Int32) : sm_wp X 88 0 [some (.ref 1), some (.int x)] [] (sM mo G I J) Q = (Q (some (.int (bi (hState I x)))) (sM mo G I J)) := by
  rw [bk_88_0]
  simp (decide := true) only [bk_88_22, bk_88_23, up2_ne, up2_sn, up2_ss, ne_eq, tl_some, tl_none, zb_0, zb_1, zb_bi, true_and, bi_eq, bi_ne, oz_f, zz_t, if_true, if_false, not_true_eq_false, not_false_eq_true]
  all_goals grind (splits := 40) [bi]
theorem ct_Realm_isPresent (x : Int32) : sm_wp X 94 0 [some (.ref 1), some (.int x)] [] (sM mo G I J) Q = (Q (some (.int (bi (hPres I x)))) (sM mo G I J)) := by
  rw [bk_94_0]
  simp (decide := true) only [bk_94_5, bk_94_16, bk_94_23, bk_94_24, ct_Realm_isState, ct_House_hasBit, up2_ne, up2_sn, up2_ss, ne_eq, tl_some, tl_none, zb_0, zb_1, zb_bi, true_and, bi_eq, bi_ne, oz_f, zz_t, if_true, if_false, not_true_eq_false, not_false_eq_true]
  all_goals grind (splits := 40) [bi]
theorem ct_Realm_allLands  : sm_wp X 102 0 [some (.ref 1)] [] (sM mo G I J) Q = (Q (some (.int (((1 : Int32) <<< ((I 1 0) &&& 31)) - 1))) (sM mo G I J)) := by
  rw [bk_102_0]
  simp (decide := true) only [up2_ne, up2_sn, up2_ss, ne_eq, tl_some, tl_none, zb_0, zb_1, zb_bi, true_and, bi_eq, bi_ne, oz_f, zz_t, if_true, if_false, not_true_eq_false, not_false_eq_true]
  all_goals grind (splits := 40) [bi]
theorem ct_Realm_soulsOf (x : Int32) : sm_wp X 117 0 [some (.ref 1), some (.int x)] [] (sM mo G I J) Q = (Q (some (.int (aLand I 2 0 x))) (sM mo G I J)) := by
  rw [bk_117_0]
  simp (decide := true) only [bk_117_5, bk_117_17, bk_117_18, ct_Realm_isLand, up2_ne, up2_sn, up2_ss, ne_eq, tl_some, tl_none, zb_0, zb_1, zb_bi, true_and, bi_eq, bi_ne, oz_f, zz_t, if_true, if_false, not_true_eq_false, not_false_eq_true]
  all_goals grind (splits := 40) [bi, vp_12, aLand]
theorem ct_Realm_holderOf (x : Int32) : sm_wp X 95 0 [some (.ref 1), some (.int x)] [] (sM mo G I J) Q = (Q (some (.int (aLand I 4 (-1) x))) (sM mo G I J)) := by
  rw [bk_95_0]
  simp (decide := true) only [bk_95_5, bk_95_17, bk_95_18, ct_Realm_isLand, up2_ne, up2_sn, up2_ss, ne_eq, tl_some, tl_none, zb_0, zb_1, zb_bi, true_and, bi_eq, bi_ne, oz_f, zz_t, if_true, if_false, not_true_eq_false, not_false_eq_true]
  all_goals grind (splits := 40) [bi, vp_12, aLand]
theorem ct_Realm_claimsOf (x : Int32) : sm_wp X 98 0 [some (.ref 1), some (.int x)] [] (sM mo G I J) Q = (Q (some (.int (aLand I 5 0 x))) (sM mo G I J)) := by
  rw [bk_98_0]
  simp (decide := true) only [bk_98_5, bk_98_17, bk_98_18, ct_Realm_isLand, up2_ne, up2_sn, up2_ss, ne_eq, tl_some, tl_none, zb_0, zb_1, zb_bi, true_and, bi_eq, bi_ne, oz_f, zz_t, if_true, if_false, not_true_eq_false, not_false_eq_true]
  all_goals grind (splits := 40) [bi, vp_12, aLand]
theorem ct_Realm_wayLengthOf (x : Int32) : sm_wp X 96 0 [some (.ref 1), some (.int x)] [] (sM mo G I J) Q = (Q (some (.int (aLand I 6 0 x))) (sM mo G I J)) := by
  rw [bk_96_0]
  simp (decide := true) only [bk_96_5, bk_96_17, bk_96_18, ct_Realm_isLand, up2_ne, up2_sn, up2_ss, ne_eq, tl_some, tl_none, zb_0, zb_1, zb_bi, true_and, bi_eq, bi_ne, oz_f, zz_t, if_true, if_false, not_true_eq_false, not_false_eq_true]
  all_goals grind (splits := 40) [bi, vp_12, aLand]
theorem ct_Realm_rankOf (x : Int32) : sm_wp X 109 0 [some (.ref 1), some (.int x)] [] (sM mo G I J) Q = (Q (some (.int (aState I 10 0 x))) (sM mo G I J)) := by
  rw [bk_109_0]
  simp (decide := true) only [bk_109_5, bk_109_17, bk_109_18, ct_Realm_isState, up2_ne, up2_sn, up2_ss, ne_eq, tl_some, tl_none, zb_0, zb_1, zb_bi, true_and, bi_eq, bi_ne, oz_f, zz_t, if_true, if_false, not_true_eq_false, not_false_eq_true]
  all_goals grind (splits := 40) [bi, vp_6, aState]
theorem ct_Realm_homeOf (x : Int32) : sm_wp X 110 0 [some (.ref 1), some (.int x)] [] (sM mo G I J) Q = (Q (some (.int (aState I 11 0 x))) (sM mo G I J)) := by
  rw [bk_110_0]
  simp (decide := true) only [bk_110_5, bk_110_17, bk_110_18, ct_Realm_isState, up2_ne, up2_sn, up2_ss, ne_eq, tl_some, tl_none, zb_0, zb_1, zb_bi, true_and, bi_eq, bi_ne, oz_f, zz_t, if_true, if_false, not_true_eq_false, not_false_eq_true]
  all_goals grind (splits := 40) [bi, vp_6, aState]
theorem ct_Realm_boundOf (x : Int32) : sm_wp X 108 0 [some (.ref 1), some (.int x)] [] (sM mo G I J) Q = (Q (some (.int (aState I 12 0 x))) (sM mo G I J)) := by
  rw [bk_108_0]
  simp (decide := true) only [bk_108_5, bk_108_17, bk_108_18, ct_Realm_isState, up2_ne, up2_sn, up2_ss, ne_eq, tl_some, tl_none, zb_0, zb_1, zb_bi, true_and, bi_eq, bi_ne, oz_f, zz_t, if_true, if_false, not_true_eq_false, not_false_eq_true]
  all_goals grind (splits := 40) [bi, vp_6, aState]
theorem ct_Realm_worthOf (x : Int32) (y : Int32) : sm_wp X 104 0 [some (.ref 1), some (.int x), some (.int y)] [] (sM mo G I J) Q = (Q (some (.int (wof (I 13) x y))) (sM mo G I J)) := by
  rw [bk_104_0]
  simp (decide := true) only [bk_104_20, bk_104_22, up2_ne, up2_sn, up2_ss, ne_eq, tl_some, tl_none, zb_0, zb_1, zb_bi, true_and, bi_eq, bi_ne, oz_f, zz_t, if_true, if_false, not_true_eq_false, not_false_eq_true]
  all_goals grind (splits := 40) [bi, wof, vp_72]
theorem ct_Pap_isFull  : sm_wp X 64 0 [some (.ref 31)] [] (sM mo G I J) Q = (Q (some (.int (bi (60 ≤ I 31 0)))) (sM mo G I J)) := by
  rw [bk_64_0]
  simp (decide := true) only [bk_64_13, bk_64_14, up2_ne, up2_sn, up2_ss, ne_eq, tl_some, tl_none, zb_0, zb_1, zb_bi, true_and, bi_eq, bi_ne, oz_f, zz_t, if_true, if_false, not_true_eq_false, not_false_eq_true]
  all_goals grind (splits := 40) [bi]
theorem ct_Pap_isPaper (x : Int32) : sm_wp X 66 0 [some (.ref 31), some (.int x)] [] (sM mo G I J) Q = (Q (some (.int (bi (hPap I x)))) (sM mo G I J)) := by
  rw [bk_66_0]
  simp (decide := true) only [bk_66_22, bk_66_23, up2_ne, up2_sn, up2_ss, ne_eq, tl_some, tl_none, zb_0, zb_1, zb_bi, true_and, bi_eq, bi_ne, oz_f, zz_t, if_true, if_false, not_true_eq_false, not_false_eq_true]
  all_goals grind (splits := 40) [bi]
theorem ct_Pap_isOffer (x : Int32) : sm_wp X 65 0 [some (.ref 31), some (.int x)] [] (sM mo G I J) Q = (Q (some (.int (bi (hPap I x ∧ ¬ I 42 (x.toNatClampNeg) = -1)))) (sM mo G I J)) := by
  rw [bk_65_0]
  simp (decide := true) only [bk_65_5, bk_65_22, bk_65_23, ct_Pap_isPaper, up2_ne, up2_sn, up2_ss, ne_eq, tl_some, tl_none, zb_0, zb_1, zb_bi, true_and, bi_eq, bi_ne, oz_f, zz_t, if_true, if_false, not_true_eq_false, not_false_eq_true]
  all_goals grind (splits := 40) [bi, vp_60]
theorem ct_Pap_sender (x : Int32) : sm_wp X 72 0 [some (.ref 31), some (.int x)] [] (sM mo G I J) Q = (Q (some (.int (aPap I 32 (-1) x))) (sM mo G I J)) := by
  rw [bk_72_0]
  simp (decide := true) only [bk_72_5, bk_72_17, bk_72_18, ct_Pap_isPaper, up2_ne, up2_sn, up2_ss, ne_eq, tl_some, tl_none, zb_0, zb_1, zb_bi, true_and, bi_eq, bi_ne, oz_f, zz_t, if_true, if_false, not_true_eq_false, not_false_eq_true]
  all_goals grind (splits := 40) [bi, vp_60, aPap]
theorem ct_Pap_receiver (x : Int32) : sm_wp X 73 0 [some (.ref 31), some (.int x)] [] (sM mo G I J) Q = (Q (some (.int (aPap I 33 (-1) x))) (sM mo G I J)) := by
  rw [bk_73_0]
  simp (decide := true) only [bk_73_5, bk_73_17, bk_73_18, ct_Pap_isPaper, up2_ne, up2_sn, up2_ss, ne_eq, tl_some, tl_none, zb_0, zb_1, zb_bi, true_and, bi_eq, bi_ne, oz_f, zz_t, if_true, if_false, not_true_eq_false, not_false_eq_true]
  all_goals grind (splits := 40) [bi, vp_60, aPap]
theorem ct_Pap_givenBySender (x : Int32) : sm_wp X 75 0 [some (.ref 31), some (.int x)] [] (sM mo G I J) Q = (Q (some (.int (aPap I 37 0 x))) (sM mo G I J)) := by
  rw [bk_75_0]
  simp (decide := true) only [bk_75_5, bk_75_17, bk_75_18, ct_Pap_isPaper, up2_ne, up2_sn, up2_ss, ne_eq, tl_some, tl_none, zb_0, zb_1, zb_bi, true_and, bi_eq, bi_ne, oz_f, zz_t, if_true, if_false, not_true_eq_false, not_false_eq_true]
  all_goals grind (splits := 40) [bi, vp_60, aPap]
theorem ct_Pap_givenByReceiver (x : Int32) : sm_wp X 76 0 [some (.ref 31), some (.int x)] [] (sM mo G I J) Q = (Q (some (.int (aPap I 38 0 x))) (sM mo G I J)) := by
  rw [bk_76_0]
  simp (decide := true) only [bk_76_5, bk_76_17, bk_76_18, ct_Pap_isPaper, up2_ne, up2_sn, up2_ss, ne_eq, tl_some, tl_none, zb_0, zb_1, zb_bi, true_and, bi_eq, bi_ne, oz_f, zz_t, if_true, if_false, not_true_eq_false, not_false_eq_true]
  all_goals grind (splits := 40) [bi, vp_60, aPap]
theorem ct_Pap_lastDayOf (x : Int32) : sm_wp X 71 0 [some (.ref 31), some (.int x)] [] (sM mo G I J) Q = (Q (some (.int (aPap I 39 (-1) x))) (sM mo G I J)) := by
  rw [bk_71_0]
  simp (decide := true) only [bk_71_5, bk_71_17, bk_71_18, ct_Pap_isPaper, up2_ne, up2_sn, up2_ss, ne_eq, tl_some, tl_none, zb_0, zb_1, zb_bi, true_and, bi_eq, bi_ne, oz_f, zz_t, if_true, if_false, not_true_eq_false, not_false_eq_true]
  all_goals grind (splits := 40) [bi, vp_60, aPap]
theorem ct_Pap_answerDay (x : Int32) : sm_wp X 80 0 [some (.ref 31), some (.int x)] [] (sM mo G I J) Q = (Q (some (.int (aPap I 44 (-1) x))) (sM mo G I J)) := by
  rw [bk_80_0]
  simp (decide := true) only [bk_80_5, bk_80_17, bk_80_18, ct_Pap_isPaper, up2_ne, up2_sn, up2_ss, ne_eq, tl_some, tl_none, zb_0, zb_1, zb_bi, true_and, bi_eq, bi_ne, oz_f, zz_t, if_true, if_false, not_true_eq_false, not_false_eq_true]
  all_goals grind (splits := 40) [bi, vp_60, aPap]
theorem ct_Pap_standingOf (x : Int32) : sm_wp X 70 0 [some (.ref 31), some (.int x)] [] (sM mo G I J) Q = (Q (some (.int (aPap I 42 (-1) x))) (sM mo G I J)) := by
  rw [bk_70_0]
  simp (decide := true) only [bk_70_5, bk_70_17, bk_70_18, ct_Pap_isPaper, up2_ne, up2_sn, up2_ss, ne_eq, tl_some, tl_none, zb_0, zb_1, zb_bi, true_and, bi_eq, bi_ne, oz_f, zz_t, if_true, if_false, not_true_eq_false, not_false_eq_true]
  all_goals grind (splits := 40) [bi, vp_60, aPap]
theorem ct_Art_isArticle (x : Int32) : sm_wp X 2 0 [some (.ref 71), some (.int x)] [] (sM mo G I J) Q = (Q (some (.int (bi (hArt I x)))) (sM mo G I J)) := by
  rw [bk_2_0]
  simp (decide := true) only [bk_2_22, bk_2_23, up2_ne, up2_sn, up2_ss, ne_eq, tl_some, tl_none, zb_0, zb_1, zb_bi, true_and, bi_eq, bi_ne, oz_f, zz_t, if_true, if_false, not_true_eq_false, not_false_eq_true]
  all_goals grind (splits := 40) [bi]
def vf_Integer_bitCount (x : Int32) : Int32 := (((((((x - (((x.toUInt32 >>> ((1 : Int32).toUInt32 &&& Int32.toUInt32 31)).toInt32) &&& 1431655765)) &&& 858993459) + ((((x - (((x.toUInt32 >>> ((1 : Int32).toUInt32 &&& Int32.toUInt32 31)).toInt32) &&& 1431655765)).toUInt32 >>> ((2 : Int32).toUInt32 &&& Int32.toUInt32 31)).toInt32) &&& 858993459)) + (((((x - (((x.toUInt32 >>> ((1 : Int32).toUInt32 &&& Int32.toUInt32 31)).toInt32) &&& 1431655765)) &&& 858993459) + ((((x - (((x.toUInt32 >>> ((1 : Int32).toUInt32 &&& Int32.toUInt32 31)).toInt32) &&& 1431655765)).toUInt32 >>> ((2 : Int32).toUInt32 &&& Int32.toUInt32 31)).toInt32) &&& 858993459)).toUInt32 >>> ((4 : Int32).toUInt32 &&& Int32.toUInt32 31)).toInt32)) &&& 252645135) + (((((((x - (((x.toUInt32 >>> ((1 : Int32).toUInt32 &&& Int32.toUInt32 31)).toInt32) &&& 1431655765)) &&& 858993459) + ((((x - (((x.toUInt32 >>> ((1 : Int32).toUInt32 &&& Int32.toUInt32 31)).toInt32) &&& 1431655765)).toUInt32 >>> ((2 : Int32).toUInt32 &&& Int32.toUInt32 31)).toInt32) &&& 858993459)) + (((((x - (((x.toUInt32 >>> ((1 : Int32).toUInt32 &&& Int32.toUInt32 31)).toInt32) &&& 1431655765)) &&& 858993459) + ((((x - (((x.toUInt32 >>> ((1 : Int32).toUInt32 &&& Int32.toUInt32 31)).toInt32) &&& 1431655765)).toUInt32 >>> ((2 : Int32).toUInt32 &&& Int32.toUInt32 31)).toInt32) &&& 858993459)).toUInt32 >>> ((4 : Int32).toUInt32 &&& Int32.toUInt32 31)).toInt32)) &&& 252645135).toUInt32 >>> ((8 : Int32).toUInt32 &&& Int32.toUInt32 31)).toInt32)) + ((((((((x - (((x.toUInt32 >>> ((1 : Int32).toUInt32 &&& Int32.toUInt32 31)).toInt32) &&& 1431655765)) &&& 858993459) + ((((x - (((x.toUInt32 >>> ((1 : Int32).toUInt32 &&& Int32.toUInt32 31)).toInt32) &&& 1431655765)).toUInt32 >>> ((2 : Int32).toUInt32 &&& Int32.toUInt32 31)).toInt32) &&& 858993459)) + (((((x - (((x.toUInt32 >>> ((1 : Int32).toUInt32 &&& Int32.toUInt32 31)).toInt32) &&& 1431655765)) &&& 858993459) + ((((x - (((x.toUInt32 >>> ((1 : Int32).toUInt32 &&& Int32.toUInt32 31)).toInt32) &&& 1431655765)).toUInt32 >>> ((2 : Int32).toUInt32 &&& Int32.toUInt32 31)).toInt32) &&& 858993459)).toUInt32 >>> ((4 : Int32).toUInt32 &&& Int32.toUInt32 31)).toInt32)) &&& 252645135) + (((((((x - (((x.toUInt32 >>> ((1 : Int32).toUInt32 &&& Int32.toUInt32 31)).toInt32) &&& 1431655765)) &&& 858993459) + ((((x - (((x.toUInt32 >>> ((1 : Int32).toUInt32 &&& Int32.toUInt32 31)).toInt32) &&& 1431655765)).toUInt32 >>> ((2 : Int32).toUInt32 &&& Int32.toUInt32 31)).toInt32) &&& 858993459)) + (((((x - (((x.toUInt32 >>> ((1 : Int32).toUInt32 &&& Int32.toUInt32 31)).toInt32) &&& 1431655765)) &&& 858993459) + ((((x - (((x.toUInt32 >>> ((1 : Int32).toUInt32 &&& Int32.toUInt32 31)).toInt32) &&& 1431655765)).toUInt32 >>> ((2 : Int32).toUInt32 &&& Int32.toUInt32 31)).toInt32) &&& 858993459)).toUInt32 >>> ((4 : Int32).toUInt32 &&& Int32.toUInt32 31)).toInt32)) &&& 252645135).toUInt32 >>> ((8 : Int32).toUInt32 &&& Int32.toUInt32 31)).toInt32)).toUInt32 >>> ((16 : Int32).toUInt32 &&& Int32.toUInt32 31)).toInt32)) &&& 63
theorem ct_Integer_bitCount (x : Int32) : sm_wp X 314 0 [some (.int x)] [] (sM mo G I J) Q = (Q (some (.int (vf_Integer_bitCount x))) (sM mo G I J)) := by
  rw [bk_314_0]
  simp (decide := true) only [up2_ne, up2_sn, up2_ss, ne_eq, tl_some, tl_none, zb_0, zb_1, zb_bi, true_and, bi_eq, bi_ne, oz_f, zz_t, if_true, if_false, not_true_eq_false, not_false_eq_true]
  all_goals grind (splits := 40) [bi, vf_Integer_bitCount, vp_4, vp_6, vp_7, vp_8, vp_12, vp_15, vp_16, vp_20, vp_24, vp_48, vp_60, vp_64, vp_72, vp_80, vp_96, vp_144, vp_384, vp_400, vp_960]
abbrev vf_Realm_areNear (I : Nat → Nat → Int32) (x : Int32) (y : Int32) : Prop := (hLand I x) ∧ (hBit (I 3 (x.toNatClampNeg)) y)
theorem ct_Realm_areNear (x : Int32) (y : Int32) : sm_wp X 91 0 [some (.ref 1), some (.int x), some (.int y)] [] (sM mo G I J) Q = (Q (some (.int (bi (vf_Realm_areNear I x y)))) (sM mo G I J)) := by
  rw [bk_91_0]
  simp (decide := true) only [bk_91_5, bk_91_18, bk_91_25, bk_91_26, ct_Realm_isLand, ct_House_hasBit, up2_ne, up2_sn, up2_ss, ne_eq, tl_some, tl_none, zb_0, zb_1, zb_bi, true_and, bi_eq, bi_ne, oz_f, zz_t, if_true, if_false, not_true_eq_false, not_false_eq_true]
  all_goals grind (splits := 40) [bi, vp_4, vp_6, vp_7, vp_8, vp_12, vp_15, vp_16, vp_20, vp_24, vp_48, vp_60, vp_64, vp_72, vp_80, vp_96, vp_144, vp_384, vp_400, vp_960]
abbrev vf_Realm_isDisputed (I : Nat → Nat → Int32) (x : Int32) (y : Int32) : Prop := ¬ (vf_Integer_bitCount ((aLand I 5 0 x) &&& y) < 2)
theorem ct_Realm_isDisputed (x : Int32) (y : Int32) : sm_wp X 113 0 [some (.ref 1), some (.int x), some (.int y)] [] (sM mo G I J) Q = (Q (some (.int (bi (vf_Realm_isDisputed I x y)))) (sM mo G I J)) := by
  rw [bk_113_0]
  simp (decide := true) only [bk_113_5, bk_113_10, bk_113_18, bk_113_19, ct_Realm_claimsOf, ct_Integer_bitCount, up2_ne, up2_sn, up2_ss, ne_eq, tl_some, tl_none, zb_0, zb_1, zb_bi, true_and, bi_eq, bi_ne, oz_f, zz_t, if_true, if_false, not_true_eq_false, not_false_eq_true]
  all_goals grind (splits := 40) [bi, vp_4, vp_6, vp_7, vp_8, vp_12, vp_15, vp_16, vp_20, vp_24, vp_48, vp_60, vp_64, vp_72, vp_80, vp_96, vp_144, vp_384, vp_400, vp_960]
theorem ct_Realm_setClaims (x : Int32) (y : Int32) : sm_wp X 99 0 [some (.ref 1), some (.int x), some (.int y)] [] (sM mo G I J) Q = (if ¬ (hLand I x) then (Q none (sM mo G I J)) else (vp_in x 12 ∧ (Q none (sM mo G (up2 (up2 I 5 x.toNatClampNeg y) 1 4 ((I 1 4) + 1)) J)))) := by
  rw [bk_99_0]
  simp (decide := true) only [bk_99_5, bk_99_25, ct_Realm_isLand, up2_ne, up2_sn, up2_ss, ne_eq, tl_some, tl_none, zb_0, zb_1, zb_bi, true_and, bi_eq, bi_ne, oz_f, zz_t, if_true, if_false, not_true_eq_false, not_false_eq_true]
  all_goals grind (splits := 40) [bi]
theorem ct_Realm_setBound (x : Int32) (y : Int32) : sm_wp X 101 0 [some (.ref 1), some (.int x), some (.int y)] [] (sM mo G I J) Q = (if ¬ (hState I x) then (Q none (sM mo G I J)) else (vp_in x 6 ∧ (Q none (sM mo G (up2 (up2 I 12 x.toNatClampNeg y) 1 4 ((I 1 4) + 1)) J)))) := by
  rw [bk_101_0]
  simp (decide := true) only [bk_101_5, bk_101_25, ct_Realm_isState, up2_ne, up2_sn, up2_ss, ne_eq, tl_some, tl_none, zb_0, zb_1, zb_bi, true_and, bi_eq, bi_ne, oz_f, zz_t, if_true, if_false, not_true_eq_false, not_false_eq_true]
  all_goals grind (splits := 40) [bi]
theorem ct_Realm_setWorth (x : Int32) (y : Int32) (z : Int32) : sm_wp X 100 0 [some (.ref 1), some (.int x), some (.int y), some (.int z)] [] (sM mo G I J) Q = (if ¬ (hState I x) then (Q none (sM mo G I J)) else (if ¬ (hLand I y) then (Q none (sM mo G I J)) else (vp_in ((x * 12) + y) 72 ∧ (Q none (sM mo G (up2 (up2 I 13 ((x * 12) + y).toNatClampNeg z) 1 4 ((I 1 4) + 1)) J))))) := by
  rw [bk_100_0]
  simp (decide := true) only [bk_100_5, bk_100_13, bk_100_38, ct_Realm_isState, ct_Realm_isLand, up2_ne, up2_sn, up2_ss, ne_eq, tl_some, tl_none, zb_0, zb_1, zb_bi, true_and, bi_eq, bi_ne, oz_f, zz_t, if_true, if_false, not_true_eq_false, not_false_eq_true]
  all_goals grind (splits := 40) [bi]
theorem ct_Realm_addLand (x : Int32) : sm_wp X 89 0 [some (.ref 1), some (.int x)] [] (sM mo G I J) Q = (if I 1 0 < 12 then (vp_in (I 1 0) 12 ∧ (Q (some (.int (((I 1 0) + 1) - 1))) (sM mo G (up2 (up2 (up2 (up2 I 2 (I 1 0).toNatClampNeg x) 4 (I 1 0).toNatClampNeg (-1)) 1 0 ((I 1 0) + 1)) 1 4 ((I 1 4) + 1)) J))) else (Q (some (.int (-1))) (sM mo G I J))) := by
  rw [bk_89_0]
  simp (decide := true) only [bk_89_11, up2_ne, up2_sn, up2_ss, ne_eq, tl_some, tl_none, zb_0, zb_1, zb_bi, true_and, bi_eq, bi_ne, oz_f, zz_t, if_true, if_false, not_true_eq_false, not_false_eq_true]
  all_goals grind (splits := 40) [bi]
theorem ct_Realm_addState (x : Int32) (y : Int32) : sm_wp X 93 0 [some (.ref 1), some (.int x), some (.int y)] [] (sM mo G I J) Q = (if I 1 1 < 6 then (vp_in (I 1 1) 6 ∧ (Q (some (.int (((I 1 1) + 1) - 1))) (sM mo G (up2 (up2 (up2 (up2 (up2 I 10 (I 1 1).toNatClampNeg x) 11 (I 1 1).toNatClampNeg y) 1 2 ((I 1 2) ||| ((1 : Int32) <<< ((I 1 1) &&& 31)))) 1 1 ((I 1 1) + 1)) 1 4 ((I 1 4) + 1)) J))) else (Q (some (.int (-1))) (sM mo G I J))) := by
  rw [bk_93_0]
  simp (decide := true) only [bk_93_11, up2_ne, up2_sn, up2_ss, ne_eq, tl_some, tl_none, zb_0, zb_1, zb_bi, true_and, bi_eq, bi_ne, oz_f, zz_t, if_true, if_false, not_true_eq_false, not_false_eq_true]
  all_goals grind (splits := 40) [bi]
theorem ct_Realm_removeState (x : Int32) : sm_wp X 114 0 [some (.ref 1), some (.int x)] [] (sM mo G I J) Q = (if ¬ (hState I x) then (Q none (sM mo G I J)) else (Q none (sM mo G (up2 (up2 I 1 2 ((I 1 2) &&& (((1 : Int32) <<< (x &&& 31)) ^^^ (-1)))) 1 4 ((I 1 4) + 1)) J))) := by
  rw [bk_114_0]
  simp (decide := true) only [bk_114_5, bk_114_32, ct_Realm_isState, up2_ne, up2_sn, up2_ss, ne_eq, tl_some, tl_none, zb_0, zb_1, zb_bi, true_and, bi_eq, bi_ne, oz_f, zz_t, if_true, if_false, not_true_eq_false, not_false_eq_true]
  all_goals grind (splits := 40) [bi]
theorem ct_Realm_makeNear (x : Int32) (y : Int32) : sm_wp X 92 0 [some (.ref 1), some (.int x), some (.int y)] [] (sM mo G I J) Q = (if ¬ (hLand I x) then (Q none (sM mo G I J)) else (if ¬ (hLand I y) then (Q none (sM mo G I J)) else (vp_in x 12 ∧ (vp_in y 12 ∧ (Q none (sM mo G (up2 (up2 I 3 x.toNatClampNeg ((I 3 (x.toNatClampNeg)) ||| ((1 : Int32) <<< (y &&& 31)))) 3 y.toNatClampNeg (((up2 I 3 x.toNatClampNeg ((I 3 (x.toNatClampNeg)) ||| ((1 : Int32) <<< (y &&& 31)))) 3 (y.toNatClampNeg)) ||| ((1 : Int32) <<< (x &&& 31)))) J)))))) := by
  rw [bk_92_0]
  simp (decide := true) only [bk_92_5, bk_92_13, bk_92_40, ct_Realm_isLand, up2_ne, up2_sn, up2_ss, ne_eq, tl_some, tl_none, zb_0, zb_1, zb_bi, true_and, bi_eq, bi_ne, oz_f, zz_t, if_true, if_false, not_true_eq_false, not_false_eq_true]
  all_goals grind (splits := 40) [bi]
theorem ct_Realm_giveLand (x : Int32) (y : Int32) (z : Int32) : sm_wp X 97 0 [some (.ref 1), some (.int x), some (.int y), some (.int z), none, none] [] (sM mo G I J) Q = (if (hLand I x) then (vp_in x 12 ∧ (if I 6 (x.toNatClampNeg) < 0 then (Q none (sM mo G (up2 (up2 I 4 x.toNatClampNeg y) 1 4 ((I 1 4) + 1)) J)) else (if 80 ≤ I 6 (x.toNatClampNeg) then (Q none (sM mo G (up2 (up2 I 4 x.toNatClampNeg y) 1 4 ((I 1 4) + 1)) J)) else (vp_in ((x * 80) + (I 6 (x.toNatClampNeg))) 960 ∧ (Q none (sM mo G (up2 (up2 (up2 (up2 (up2 (up2 I 7 ((x * 80) + (I 6 (x.toNatClampNeg))).toNatClampNeg y) 8 ((x * 80) + (I 6 (x.toNatClampNeg))).toNatClampNeg (I 1 3)) 9 ((x * 80) + (I 6 (x.toNatClampNeg))).toNatClampNeg z) 6 x.toNatClampNeg ((I 6 (x.toNatClampNeg)) + 1)) 4 x.toNatClampNeg y) 1 4 ((I 1 4) + 1)) J)))))) else (Q none (sM mo G I J))) := by
  rw [bk_97_0]
  simp (decide := true) only [bk_97_5, bk_97_9, bk_97_75, ct_Realm_isLand, up2_ne, up2_sn, up2_ss, ne_eq, tl_some, tl_none, zb_0, zb_1, zb_bi, true_and, bi_eq, bi_ne, oz_f, zz_t, if_true, if_false, not_true_eq_false, not_false_eq_true]
  all_goals grind (splits := 40) [bi]
theorem ct_Realm_tellWay (x : Int32) (y : Int32) (z : Int32) : sm_wp X 115 0 [some (.ref 1), some (.int x), some (.int y), some (.int z), none] [] (sM mo G I J) Q = (if ¬ (hLand I x) then (Q (some (.int (-2))) (sM mo G I J)) else (if y < 0 then (Q (some (.int (-2))) (sM mo G I J)) else (vp_in x 12 ∧ (if I 6 (x.toNatClampNeg) ≤ y then (Q (some (.int (-2))) (sM mo G I J)) else (if y < 80 then (if z = 0 then (vp_in ((x * 80) + y) 960 ∧ (Q (some (.int (I 7 (((x * 80) + y).toNatClampNeg)))) (sM mo G I J))) else (if z = 1 then (vp_in ((x * 80) + y) 960 ∧ (Q (some (.int (I 8 (((x * 80) + y).toNatClampNeg)))) (sM mo G I J))) else (if z = 2 then (vp_in ((x * 80) + y) 960 ∧ (Q (some (.int (I 9 (((x * 80) + y).toNatClampNeg)))) (sM mo G I J))) else (Q (some (.int (-2))) (sM mo G I J))))) else (Q (some (.int (-2))) (sM mo G I J))))))) := by
  rw [bk_115_0]
  simp (decide := true) only [bk_115_5, bk_115_28, bk_115_31, bk_115_68, bk_115_76, bk_115_84, bk_115_92, ct_Realm_isLand, up2_ne, up2_sn, up2_ss, ne_eq, tl_some, tl_none, zb_0, zb_1, zb_bi, true_and, bi_eq, bi_ne, oz_f, zz_t, if_true, if_false, not_true_eq_false, not_false_eq_true]
  all_goals grind (splits := 40) [bi]
abbrev vf_Pap_isLinked (I : Nat → Nat → Int32) (x : Int32) : Prop := (hPap I x) ∧ (¬ (I 40 (x.toNatClampNeg) = (-1)))
theorem ct_Pap_isLinked (x : Int32) : sm_wp X 77 0 [some (.ref 31), some (.int x)] [] (sM mo G I J) Q = (Q (some (.int (bi (vf_Pap_isLinked I x)))) (sM mo G I J)) := by
  rw [bk_77_0]
  simp (decide := true) only [bk_77_5, bk_77_22, bk_77_23, ct_Pap_isPaper, up2_ne, up2_sn, up2_ss, ne_eq, tl_some, tl_none, zb_0, zb_1, zb_bi, true_and, bi_eq, bi_ne, oz_f, zz_t, if_true, if_false, not_true_eq_false, not_false_eq_true]
  all_goals grind (splits := 40) [bi, vp_4, vp_6, vp_7, vp_8, vp_12, vp_15, vp_16, vp_20, vp_24, vp_48, vp_60, vp_64, vp_72, vp_80, vp_96, vp_144, vp_384, vp_400, vp_960]
abbrev vf_Pap_inOneChain (I : Nat → Nat → Int32) (x : Int32) (y : Int32) : Prop := (hPap I x) ∧ ((hPap I y) ∧ ((I 41 (x.toNatClampNeg) = I 41 (y.toNatClampNeg)) ∧ (¬ (I 41 (x.toNatClampNeg) = (-1)))))
theorem ct_Pap_inOneChain (x : Int32) (y : Int32) : sm_wp X 81 0 [some (.ref 31), some (.int x), some (.int y)] [] (sM mo G I J) Q = (Q (some (.int (bi (vf_Pap_inOneChain I x y)))) (sM mo G I J)) := by
  rw [bk_81_0]
  simp (decide := true) only [bk_81_5, bk_81_13, bk_81_45, bk_81_46, ct_Pap_isPaper, up2_ne, up2_sn, up2_ss, ne_eq, tl_some, tl_none, zb_0, zb_1, zb_bi, true_and, bi_eq, bi_ne, oz_f, zz_t, if_true, if_false, not_true_eq_false, not_false_eq_true]
  all_goals grind (splits := 40) [bi, vp_4, vp_6, vp_7, vp_8, vp_12, vp_15, vp_16, vp_20, vp_24, vp_48, vp_60, vp_64, vp_72, vp_80, vp_96, vp_144, vp_384, vp_400, vp_960]
abbrev vf_Pap_isUnended (I : Nat → Nat → Int32) (x : Int32) : Prop := (aPap I 42 (-1) x = 0) ∨ ((aPap I 42 (-1) x = 1) ∨ (aPap I 42 (-1) x = 2))
theorem ct_Pap_isUnended (x : Int32) : sm_wp X 82 0 [some (.ref 31), some (.int x), none] [] (sM mo G I J) Q = (Q (some (.int (bi (vf_Pap_isUnended I x)))) (sM mo G I J)) := by
  rw [bk_82_0]
  simp (decide := true) only [bk_82_5, bk_82_20, bk_82_24, bk_82_25, ct_Pap_standingOf, up2_ne, up2_sn, up2_ss, ne_eq, tl_some, tl_none, zb_0, zb_1, zb_bi, true_and, bi_eq, bi_ne, oz_f, zz_t, if_true, if_false, not_true_eq_false, not_false_eq_true]
  all_goals grind (splits := 40) [bi, vp_4, vp_6, vp_7, vp_8, vp_12, vp_15, vp_16, vp_20, vp_24, vp_48, vp_60, vp_64, vp_72, vp_80, vp_96, vp_144, vp_384, vp_400, vp_960]
def vf_Pap_knownDay (I : Nat → Nat → Int32) (x : Int32) (y : Int32) : Int32 := if (hPap I x) then (if I 32 (x.toNatClampNeg) = y then (I 34 (x.toNatClampNeg)) else (if ¬ I 33 (x.toNatClampNeg) = y then (if ¬ (hBit (I 36 (x.toNatClampNeg)) y) then (-1) else ((I 34 (x.toNatClampNeg)) + 1)) else (I 34 (x.toNatClampNeg)))) else (-1)
theorem ct_Pap_knownDay (x : Int32) (y : Int32) : sm_wp X 84 0 [some (.ref 31), some (.int x), some (.int y)] [] (sM mo G I J) Q = (Q (some (.int (vf_Pap_knownDay I x y))) (sM mo G I J)) := by
  rw [bk_84_0]
  simp (decide := true) only [bk_84_5, bk_84_10, bk_84_30, bk_84_37, bk_84_47, bk_84_61, bk_84_62, ct_Pap_isPaper, ct_House_hasBit, up2_ne, up2_sn, up2_ss, ne_eq, tl_some, tl_none, zb_0, zb_1, zb_bi, true_and, bi_eq, bi_ne, oz_f, zz_t, if_true, if_false, not_true_eq_false, not_false_eq_true]
  all_goals grind (splits := 40) [bi, vf_Pap_knownDay, vp_4, vp_6, vp_7, vp_8, vp_12, vp_15, vp_16, vp_20, vp_24, vp_48, vp_60, vp_64, vp_72, vp_80, vp_96, vp_144, vp_384, vp_400, vp_960]
theorem ct_Pap_addPaper (x : Int32) (y : Int32) (z : Int32) : sm_wp X 67 0 [some (.ref 31), some (.int x), some (.int y), some (.int z)] [] (sM mo G I J) Q = (if ¬ (60 ≤ I 31 0) then (vp_in (I 31 0) 60 ∧ (Q (some (.int (((I 31 0) + 1) - 1))) (sM mo G (up2 (up2 (up2 (up2 (up2 (up2 (up2 (up2 (up2 I 32 (I 31 0).toNatClampNeg x) 33 (I 31 0).toNatClampNeg y) 34 (I 31 0).toNatClampNeg z) 40 (I 31 0).toNatClampNeg (-1)) 41 (I 31 0).toNatClampNeg (-1)) 42 (I 31 0).toNatClampNeg (-1)) 43 (I 31 0).toNatClampNeg (-1)) 44 (I 31 0).toNatClampNeg (-1)) 31 0 ((I 31 0) + 1)) J))) else (Q (some (.int (-1))) (sM mo G I J))) := by
  rw [bk_67_0]
  simp (decide := true) only [bk_67_4, bk_67_9, ct_Pap_isFull, up2_ne, up2_sn, up2_ss, ne_eq, tl_some, tl_none, zb_0, zb_1, zb_bi, true_and, bi_eq, bi_ne, oz_f, zz_t, if_true, if_false, not_true_eq_false, not_false_eq_true]
  all_goals grind (splits := 40) [bi]
theorem ct_Pap_makeNote (x : Int32) (y : Int32) (z : Int32) : sm_wp X 69 0 [some (.ref 31), some (.int x), some (.int y), some (.int z)] [] (sM mo G I J) Q = (if ¬ (hPap I x) then (Q none (sM mo G I J)) else (vp_in x 60 ∧ (Q none (sM mo G (up2 (up2 I 35 x.toNatClampNeg y) 36 x.toNatClampNeg z) J)))) := by
  rw [bk_69_0]
  simp (decide := true) only [bk_69_5, bk_69_22, ct_Pap_isPaper, up2_ne, up2_sn, up2_ss, ne_eq, tl_some, tl_none, zb_0, zb_1, zb_bi, true_and, bi_eq, bi_ne, oz_f, zz_t, if_true, if_false, not_true_eq_false, not_false_eq_true]
  all_goals grind (splits := 40) [bi]
theorem ct_Pap_makeOffer (x : Int32) (y : Int32) (z : Int32) (u : Int32) (v : Int32) : sm_wp X 68 0 [some (.ref 31), some (.int x), some (.int y), some (.int z), some (.int u), some (.int v)] [] (sM mo G I J) Q = (if ¬ (hPap I x) then (Q none (sM mo G I J)) else (vp_in x 60 ∧ (if ¬ (hPap (up2 (up2 (up2 (up2 I 37 x.toNatClampNeg y) 38 x.toNatClampNeg z) 39 x.toNatClampNeg u) 40 x.toNatClampNeg v) v) then (Q none (sM mo G (up2 (up2 (up2 (up2 (up2 (up2 I 37 x.toNatClampNeg y) 38 x.toNatClampNeg z) 39 x.toNatClampNeg u) 40 x.toNatClampNeg v) 41 x.toNatClampNeg x) 42 x.toNatClampNeg 0) J)) else (vp_in v 60 ∧ (Q none (sM mo G (up2 (up2 (up2 (up2 (up2 (up2 I 37 x.toNatClampNeg y) 38 x.toNatClampNeg z) 39 x.toNatClampNeg u) 40 x.toNatClampNeg v) 41 x.toNatClampNeg (I 41 (v.toNatClampNeg))) 42 x.toNatClampNeg 0) J)))))) := by
  rw [bk_68_0]
  simp (decide := true) only [bk_68_5, bk_68_49, bk_68_62, bk_68_63, bk_68_71, ct_Pap_isPaper, up2_ne, up2_sn, up2_ss, ne_eq, tl_some, tl_none, zb_0, zb_1, zb_bi, true_and, bi_eq, bi_ne, oz_f, zz_t, if_true, if_false, not_true_eq_false, not_false_eq_true]
  all_goals grind (splits := 40) [bi]
theorem ct_Pap_setStanding (x : Int32) (y : Int32) : sm_wp X 74 0 [some (.ref 31), some (.int x), some (.int y)] [] (sM mo G I J) Q = (if ¬ (hPap I x) then (Q none (sM mo G I J)) else (vp_in x 60 ∧ (Q none (sM mo G (up2 I 42 x.toNatClampNeg y) J)))) := by
  rw [bk_74_0]
  simp (decide := true) only [bk_74_5, bk_74_15, ct_Pap_isPaper, up2_ne, up2_sn, up2_ss, ne_eq, tl_some, tl_none, zb_0, zb_1, zb_bi, true_and, bi_eq, bi_ne, oz_f, zz_t, if_true, if_false, not_true_eq_false, not_false_eq_true]
  all_goals grind (splits := 40) [bi]
theorem ct_Pap_setLine (x : Int32) (y : Int32) : sm_wp X 78 0 [some (.ref 31), some (.int x), some (.int y)] [] (sM mo G I J) Q = (if ¬ (hPap I x) then (Q none (sM mo G I J)) else (vp_in x 60 ∧ (Q none (sM mo G (up2 I 43 x.toNatClampNeg y) J)))) := by
  rw [bk_78_0]
  simp (decide := true) only [bk_78_5, bk_78_15, ct_Pap_isPaper, up2_ne, up2_sn, up2_ss, ne_eq, tl_some, tl_none, zb_0, zb_1, zb_bi, true_and, bi_eq, bi_ne, oz_f, zz_t, if_true, if_false, not_true_eq_false, not_false_eq_true]
  all_goals grind (splits := 40) [bi]
theorem ct_Pap_setAnswerDay (x : Int32) (y : Int32) : sm_wp X 79 0 [some (.ref 31), some (.int x), some (.int y)] [] (sM mo G I J) Q = (if ¬ (hPap I x) then (Q none (sM mo G I J)) else (vp_in x 60 ∧ (Q none (sM mo G (up2 I 44 x.toNatClampNeg y) J)))) := by
  rw [bk_79_0]
  simp (decide := true) only [bk_79_5, bk_79_15, ct_Pap_isPaper, up2_ne, up2_sn, up2_ss, ne_eq, tl_some, tl_none, zb_0, zb_1, zb_bi, true_and, bi_eq, bi_ne, oz_f, zz_t, if_true, if_false, not_true_eq_false, not_false_eq_true]
  all_goals grind (splits := 40) [bi]
theorem ct_Pap_tell (x : Int32) (y : Int32) : sm_wp X 83 0 [some (.ref 31), some (.int x), some (.int y)] [] (sM mo G I J) Q = (if (hPap I x) then (if y = 0 then (if ¬ (hPap I x ∧ ¬ I 42 (x.toNatClampNeg) = -1) then (Q (some (.int 1)) (sM mo G I J)) else (Q (some (.int 0)) (sM mo G I J))) else (if y = 1 then (vp_in x 60 ∧ (Q (some (.int (I 34 (x.toNatClampNeg)))) (sM mo G I J))) else (if y = 2 then (vp_in x 60 ∧ (Q (some (.int (I 42 (x.toNatClampNeg)))) (sM mo G I J))) else (if y = 3 then (vp_in x 60 ∧ (Q (some (.int (I 43 (x.toNatClampNeg)))) (sM mo G I J))) else (if y = 4 then (vp_in x 60 ∧ (Q (some (.int (I 32 (x.toNatClampNeg)))) (sM mo G I J))) else (if y = 5 then (vp_in x 60 ∧ (Q (some (.int (I 33 (x.toNatClampNeg)))) (sM mo G I J))) else (if y = 6 then (vp_in x 60 ∧ (Q (some (.int (I 44 (x.toNatClampNeg)))) (sM mo G I J))) else (Q (some (.int (-2))) (sM mo G I J))))))))) else (Q (some (.int (-2))) (sM mo G I J))) := by
  rw [bk_83_0]
  simp (decide := true) only [bk_83_5, bk_83_11, bk_83_56, bk_83_61, bk_83_68, bk_83_69, bk_83_70, bk_83_77, bk_83_84, bk_83_91, bk_83_98, bk_83_105, bk_83_112, ct_Pap_isPaper, ct_Pap_isOffer, up2_ne, up2_sn, up2_ss, ne_eq, tl_some, tl_none, zb_0, zb_1, zb_bi, true_and, bi_eq, bi_ne, oz_f, zz_t, if_true, if_false, not_true_eq_false, not_false_eq_true]
  all_goals grind (splits := 40) [bi]
theorem ct_Spy_addSpy (x : Int32) (y : Int32) (z : Int32) (u : Int32) : sm_wp X 152 0 [some (.ref 26), some (.int x), some (.int y), some (.int z), some (.int u)] [] (sM mo G I J) Q = (if I 26 0 < 20 then (vp_in (I 26 0) 20 ∧ (Q (some (.int 1)) (sM mo G (up2 (up2 (up2 (up2 (up2 I 27 (I 26 0).toNatClampNeg x) 28 (I 26 0).toNatClampNeg y) 29 (I 26 0).toNatClampNeg z) 30 (I 26 0).toNatClampNeg u) 26 0 ((I 26 0) + 1)) J))) else (Q (some (.int 0)) (sM mo G I J))) := by
  rw [bk_152_0]
  simp (decide := true) only [bk_152_11, up2_ne, up2_sn, up2_ss, ne_eq, tl_some, tl_none, zb_0, zb_1, zb_bi, true_and, bi_eq, bi_ne, oz_f, zz_t, if_true, if_false, not_true_eq_false, not_false_eq_true]
  all_goals grind (splits := 40) [bi]
def vf_Book_linesOf (I : Nat → Nat → Int32) (x : Int32) : Int32 := if x < 0 then 0 else (if 6 ≤ x then 0 else (I 22 (x.toNatClampNeg)))
theorem ct_Book_linesOf (x : Int32) : sm_wp X 41 0 [some (.ref 21), some (.int x)] [] (sM mo G I J) Q = (Q (some (.int (vf_Book_linesOf I x))) (sM mo G I J)) := by
  rw [bk_41_0]
  simp (decide := true) only [bk_41_19, bk_41_20, up2_ne, up2_sn, up2_ss, ne_eq, tl_some, tl_none, zb_0, zb_1, zb_bi, true_and, bi_eq, bi_ne, oz_f, zz_t, if_true, if_false, not_true_eq_false, not_false_eq_true]
  all_goals grind (splits := 40) [bi, vf_Book_linesOf, vp_4, vp_6, vp_7, vp_8, vp_12, vp_15, vp_16, vp_20, vp_24, vp_48, vp_60, vp_64, vp_72, vp_80, vp_96, vp_144, vp_384, vp_400, vp_960]
abbrev vf_Book_isLine (I : Nat → Nat → Int32) (x : Int32) (y : Int32) : Prop := (¬ (y < 0)) ∧ ((¬ (16 ≤ y)) ∧ (¬ (vf_Book_linesOf I x ≤ y)))
theorem ct_Book_isLine (x : Int32) (y : Int32) : sm_wp X 43 0 [some (.ref 21), some (.int x), some (.int y)] [] (sM mo G I J) Q = (Q (some (.int (bi (vf_Book_isLine I x y)))) (sM mo G I J)) := by
  rw [bk_43_0]
  simp (decide := true) only [bk_43_16, bk_43_23, bk_43_24, ct_Book_linesOf, up2_ne, up2_sn, up2_ss, ne_eq, tl_some, tl_none, zb_0, zb_1, zb_bi, true_and, bi_eq, bi_ne, oz_f, zz_t, if_true, if_false, not_true_eq_false, not_false_eq_true]
  all_goals grind (splits := 40) [bi, vp_4, vp_6, vp_7, vp_8, vp_12, vp_15, vp_16, vp_20, vp_24, vp_48, vp_60, vp_64, vp_72, vp_80, vp_96, vp_144, vp_384, vp_400, vp_960]
def vf_Book_verbOf (I : Nat → Nat → Int32) (x : Int32) (y : Int32) : Int32 := if ¬ (vf_Book_isLine I x y) then (-1) else (I 24 (((x * 16) + y).toNatClampNeg))
theorem ct_Book_verbOf (x : Int32) (y : Int32) : sm_wp X 42 0 [some (.ref 21), some (.int x), some (.int y)] [] (sM mo G I J) Q = (Q (some (.int (vf_Book_verbOf I x y))) (sM mo G I J)) := by
  rw [bk_42_0]
  simp (decide := true) only [bk_42_6, bk_42_23, bk_42_24, ct_Book_isLine, up2_ne, up2_sn, up2_ss, ne_eq, tl_some, tl_none, zb_0, zb_1, zb_bi, true_and, bi_eq, bi_ne, oz_f, zz_t, if_true, if_false, not_true_eq_false, not_false_eq_true]
  all_goals grind (splits := 40) [bi, vf_Book_verbOf, vp_4, vp_6, vp_7, vp_8, vp_12, vp_15, vp_16, vp_20, vp_24, vp_48, vp_60, vp_64, vp_72, vp_80, vp_96, vp_144, vp_384, vp_400, vp_960, vf_Book_linesOf]
def vf_Book_endOf (I : Nat → Nat → Int32) (x : Int32) (y : Int32) : Int32 := if ¬ (vf_Book_isLine I x y) then 0 else (I 25 (((x * 16) + y).toNatClampNeg))
theorem ct_Book_endOf (x : Int32) (y : Int32) : sm_wp X 44 0 [some (.ref 21), some (.int x), some (.int y)] [] (sM mo G I J) Q = (Q (some (.int (vf_Book_endOf I x y))) (sM mo G I J)) := by
  rw [bk_44_0]
  simp (decide := true) only [bk_44_6, bk_44_23, bk_44_24, ct_Book_isLine, up2_ne, up2_sn, up2_ss, ne_eq, tl_some, tl_none, zb_0, zb_1, zb_bi, true_and, bi_eq, bi_ne, oz_f, zz_t, if_true, if_false, not_true_eq_false, not_false_eq_true]
  all_goals grind (splits := 40) [bi, vf_Book_endOf, vp_4, vp_6, vp_7, vp_8, vp_12, vp_15, vp_16, vp_20, vp_24, vp_48, vp_60, vp_64, vp_72, vp_80, vp_96, vp_144, vp_384, vp_400, vp_960, vf_Book_linesOf]
def vf_Book_codeAt (I : Nat → Nat → Int32) (x : Int32) (y : Int32) : Int32 := if x < 0 then 100 else (if 6 ≤ x then 100 else (if y < 0 then 100 else (if y < 64 then (I 23 (((x * 64) + y).toNatClampNeg)) else 100)))
theorem ct_Book_codeAt (x : Int32) (y : Int32) : sm_wp X 45 0 [some (.ref 21), some (.int x), some (.int y)] [] (sM mo G I J) Q = (Q (some (.int (vf_Book_codeAt I x y))) (sM mo G I J)) := by
  rw [bk_45_0]
  simp (decide := true) only [bk_45_20, bk_45_23, up2_ne, up2_sn, up2_ss, ne_eq, tl_some, tl_none, zb_0, zb_1, zb_bi, true_and, bi_eq, bi_ne, oz_f, zz_t, if_true, if_false, not_true_eq_false, not_false_eq_true]
  all_goals grind (splits := 40) [bi, vf_Book_codeAt, vp_4, vp_6, vp_7, vp_8, vp_12, vp_15, vp_16, vp_20, vp_24, vp_48, vp_60, vp_64, vp_72, vp_80, vp_96, vp_144, vp_384, vp_400, vp_960]
def vf_Art_draftLength (I : Nat → Nat → Int32) (x : Int32) (y : Int32) : Int32 := if ¬ (hArt I x) then 0 else (if (hState I y) then (I 72 (((x * 6) + y).toNatClampNeg)) else 0)
theorem ct_Art_draftLength (x : Int32) (y : Int32) : sm_wp X 7 0 [some (.ref 71), some (.int x), some (.int y)] [] (sM mo G I J) Q = (Q (some (.int (vf_Art_draftLength I x y))) (sM mo G I J)) := by
  rw [bk_7_0]
  simp (decide := true) only [bk_7_5, bk_7_16, bk_7_19, bk_7_21, ct_Art_isArticle, ct_Realm_isState, up2_ne, up2_sn, up2_ss, ne_eq, tl_some, tl_none, zb_0, zb_1, zb_bi, true_and, bi_eq, bi_ne, oz_f, zz_t, if_true, if_false, not_true_eq_false, not_false_eq_true]
  all_goals grind (splits := 40) [bi, vf_Art_draftLength, vp_4, vp_6, vp_7, vp_8, vp_12, vp_15, vp_16, vp_20, vp_24, vp_48, vp_60, vp_64, vp_72, vp_80, vp_96, vp_144, vp_384, vp_400, vp_960]
def vf_Art_wordAt (I : Nat → Nat → Int32) (x : Int32) (y : Int32) (z : Int32) : Int32 := if x < 0 then 0 else (if 8 ≤ x then 0 else (if y < 0 then 0 else (if y < 6 then (if z < 0 then 0 else (if z < 8 then (I 73 (((((x * 6) + y) * 8) + z).toNatClampNeg)) else 0)) else 0)))
theorem ct_Art_wordAt (x : Int32) (y : Int32) (z : Int32) : sm_wp X 9 0 [some (.ref 71), some (.int x), some (.int y), some (.int z)] [] (sM mo G I J) Q = (Q (some (.int (vf_Art_wordAt I x y z))) (sM mo G I J)) := by
  rw [bk_9_0]
  simp (decide := true) only [bk_9_20, bk_9_22, bk_9_32, bk_9_34, up2_ne, up2_sn, up2_ss, ne_eq, tl_some, tl_none, zb_0, zb_1, zb_bi, true_and, bi_eq, bi_ne, oz_f, zz_t, if_true, if_false, not_true_eq_false, not_false_eq_true]
  all_goals grind (splits := 40) [bi, vf_Art_wordAt, vp_4, vp_6, vp_7, vp_8, vp_12, vp_15, vp_16, vp_20, vp_24, vp_48, vp_60, vp_64, vp_72, vp_80, vp_96, vp_144, vp_384, vp_400, vp_960]
abbrev vf_Art_hasPresentDraft (I : Nat → Nat → Int32) (x : Int32) (y : Int32) : Prop := (hPres I y) ∧ (¬ (vf_Art_draftLength I x y ≤ 0))
theorem ct_Art_hasPresentDraft (x : Int32) (y : Int32) : sm_wp X 11 0 [some (.ref 71), some (.int x), some (.int y)] [] (sM mo G I J) Q = (Q (some (.int (bi (vf_Art_hasPresentDraft I x y)))) (sM mo G I J)) := by
  rw [bk_11_0]
  simp (decide := true) only [bk_11_8, bk_11_17, bk_11_24, bk_11_25, ct_Realm_isPresent, ct_Art_draftLength, up2_ne, up2_sn, up2_ss, ne_eq, tl_some, tl_none, zb_0, zb_1, zb_bi, true_and, bi_eq, bi_ne, oz_f, zz_t, if_true, if_false, not_true_eq_false, not_false_eq_true]
  all_goals grind (splits := 40) [bi, vp_4, vp_6, vp_7, vp_8, vp_12, vp_15, vp_16, vp_20, vp_24, vp_48, vp_60, vp_64, vp_72, vp_80, vp_96, vp_144, vp_384, vp_400, vp_960]
abbrev vf_Art_isBetterBase (I : Nat → Nat → Int32) (x : Int32) (y : Int32) : Prop := (x < 0) ∨ ((6 ≤ x) ∨ ((y < 0) ∨ ((¬ (y < 6)) ∨ (((I 79 (x.toNatClampNeg) = I 79 (y.toNatClampNeg)) ∧ (¬ (aState I 10 0 y ≤ aState I 10 0 x))) ∨ ((¬ (I 79 (x.toNatClampNeg) = I 79 (y.toNatClampNeg))) ∧ (¬ (I 79 (y.toNatClampNeg) ≤ I 79 (x.toNatClampNeg))))))))
theorem ct_Art_isBetterBase (x : Int32) (y : Int32) : sm_wp X 12 0 [some (.ref 71), some (.int x), some (.int y)] [] (sM mo G I J) Q = (Q (some (.int (bi (vf_Art_isBetterBase I x y)))) (sM mo G I J)) := by
  rw [bk_12_0]
  simp (decide := true) only [bk_12_20, bk_12_22, bk_12_56, bk_12_57, bk_12_58, bk_12_66, bk_12_74, bk_12_81, bk_12_82, ct_Realm_rankOf, up2_ne, up2_sn, up2_ss, ne_eq, tl_some, tl_none, zb_0, zb_1, zb_bi, true_and, bi_eq, bi_ne, oz_f, zz_t, if_true, if_false, not_true_eq_false, not_false_eq_true]
  all_goals grind (splits := 40) [bi, vp_4, vp_6, vp_7, vp_8, vp_12, vp_15, vp_16, vp_20, vp_24, vp_48, vp_60, vp_64, vp_72, vp_80, vp_96, vp_144, vp_384, vp_400, vp_960]
def vf_Art_agreement (x : Int32) (y : Int32) : Int32 := if ¬ x = y then (if y < (2 : Int32) * x then 1 else 0) else 2
theorem ct_Art_agreement (x : Int32) (y : Int32) : sm_wp X 18 0 [some (.int x), some (.int y)] [] (sM mo G I J) Q = (Q (some (.int (vf_Art_agreement x y))) (sM mo G I J)) := by
  rw [bk_18_0]
  simp (decide := true) only [bk_18_7, bk_18_18, bk_18_19, up2_ne, up2_sn, up2_ss, ne_eq, tl_some, tl_none, zb_0, zb_1, zb_bi, true_and, bi_eq, bi_ne, oz_f, zz_t, if_true, if_false, not_true_eq_false, not_false_eq_true]
  all_goals grind (splits := 40) [bi, vf_Art_agreement, vp_4, vp_6, vp_7, vp_8, vp_12, vp_15, vp_16, vp_20, vp_24, vp_48, vp_60, vp_64, vp_72, vp_80, vp_96, vp_144, vp_384, vp_400, vp_960]
abbrev vf_Ring_gains (I : Nat → Nat → Int32) (x : Int32) (y : Int32) (z : Int32) : Prop := ¬ (wof (I 13) x y ≤ wof (I 13) x z)
theorem ct_Ring_gains (x : Int32) (y : Int32) (z : Int32) : sm_wp X 125 0 [some (.ref 68), some (.int x), some (.int y), some (.int z)] [] (sM mo G I J) Q = (Q (some (.int (bi (vf_Ring_gains I x y z)))) (sM mo G I J)) := by
  rw [bk_125_0]
  simp (decide := true) only [bk_125_9, bk_125_18, bk_125_25, bk_125_26, ct_Realm_worthOf, up2_ne, up2_sn, up2_ss, ne_eq, tl_some, tl_none, zb_0, zb_1, zb_bi, true_and, bi_eq, bi_ne, oz_f, zz_t, if_true, if_false, not_true_eq_false, not_false_eq_true]
  all_goals grind (splits := 40) [bi, vp_4, vp_6, vp_7, vp_8, vp_12, vp_15, vp_16, vp_20, vp_24, vp_48, vp_60, vp_64, vp_72, vp_80, vp_96, vp_144, vp_384, vp_400, vp_960]
def vf_Del_compute (x : Int32) (y : Int64) (z : Int64) : Int64 := if x = 19 then (y + z) else (if x = 20 then (y - z) else (if x = 21 then (if lg_cmp y 0 = 0 then (y * z) else (if lg_cmp (if 0 < (z : Int64) then z else -z) (1000000000000 / (if 0 < (y : Int64) then y else -y)) ≤ 0 then (y * z) else (-9223372036854775808))) else (if x = 22 then (if ¬ lg_cmp z 0 = 0 then (y / z) else (-9223372036854775808)) else (if ¬ lg_cmp z 0 = 0 then (y - y / z * z) else (-9223372036854775808)))))
abbrev vc_Del_compute (x : Int32) (y : Int64) (z : Int64) : Prop := ((¬ (x = 19)) → ((¬ (x = 20)) → (((x = 21) → ((¬ (lg_cmp y 0 = 0)) → (¬ (if 0 < (y : Int64) then y else -y : Int64) = 0))) ∧ ((¬ (x = 21)) → (((x = 22) → ((¬ lg_cmp z 0 = 0) → (¬ (z : Int64) = 0))) ∧ ((¬ (x = 22)) → ((¬ lg_cmp z 0 = 0) → (¬ (z : Int64) = 0))))))))
theorem ct_Del_compute (x : Int32) (y : Int64) (z : Int64) : sm_wp X 29 0 [some (.int x), some (.long y), none, some (.long z), none] [] (sM mo G I J) Q = (vc_Del_compute x y z ∧ (Q (some (.long (vf_Del_compute x y z))) (sM mo G I J))) := by
  rw [bk_29_0]
  simp (decide := true) only [bk_29_32, bk_29_36, bk_29_40, bk_29_68, bk_29_71, bk_29_72, bk_29_84, bk_29_87, bk_29_88, bk_29_100, bk_29_103, up2_ne, up2_sn, up2_ss, ne_eq, tl_some, tl_none, zb_0, zb_1, zb_bi, true_and, bi_eq, bi_ne, oz_f, zz_t, if_true, if_false, not_true_eq_false, not_false_eq_true]
  all_goals grind (splits := 40) [bi, vf_Del_compute, vp_4, vp_6, vp_7, vp_8, vp_12, vp_15, vp_16, vp_20, vp_24, vp_48, vp_60, vp_64, vp_72, vp_80, vp_96, vp_144, vp_384, vp_400, vp_960]
abbrev vf_Del_compares (x : Int32) (y : Int64) (z : Int64) : Prop := ((x = 5) ∧ ((¬ (lg_cmp y 0 = 0)) ∧ (¬ (lg_cmp z 0 = 0)))) ∨ ((¬ (x = 5)) ∧ (((x = 6) ∧ ((¬ lg_cmp y 0 = 0) ∨ (¬ (lg_cmp z 0 = 0)))) ∨ ((¬ (x = 6)) ∧ (((x = 24) ∧ (¬ (0 ≤ lg_cmp y z))) ∨ ((¬ (x = 24)) ∧ (((x = 25) ∧ (¬ (0 < lg_cmp y z))) ∨ ((¬ (x = 25)) ∧ (((x = 26) ∧ (lg_cmp y z = 0)) ∨ ((¬ (x = 26)) ∧ (((x = 27) ∧ (¬ (lg_cmp y z = 0))) ∨ ((¬ (x = 27)) ∧ (((x = 28) ∧ (¬ (lg_cmp y z < 0))) ∨ ((¬ (x = 28)) ∧ (¬ (lg_cmp y z ≤ 0)))))))))))))))
theorem ct_Del_compares (x : Int32) (y : Int64) (z : Int64) : sm_wp X 30 0 [some (.int x), some (.long y), none, some (.long z), none] [] (sM mo G I J) Q = (Q (some (.int (bi (vf_Del_compares x y z)))) (sM mo G I J)) := by
  rw [bk_30_0]
  simp (decide := true) only [bk_30_112, bk_30_128, bk_30_129, bk_30_130, bk_30_142, bk_30_146, bk_30_147, bk_30_148, bk_30_158, bk_30_159, bk_30_160, bk_30_170, bk_30_171, bk_30_172, bk_30_182, bk_30_183, bk_30_184, bk_30_194, bk_30_195, bk_30_196, bk_30_206, bk_30_207, bk_30_208, bk_30_218, bk_30_219, up2_ne, up2_sn, up2_ss, ne_eq, tl_some, tl_none, zb_0, zb_1, zb_bi, true_and, bi_eq, bi_ne, oz_f, zz_t, if_true, if_false, not_true_eq_false, not_false_eq_true]
  all_goals grind (splits := 40) [bi, vp_4, vp_6, vp_7, vp_8, vp_12, vp_15, vp_16, vp_20, vp_24, vp_48, vp_60, vp_64, vp_72, vp_80, vp_96, vp_144, vp_384, vp_400, vp_960]
def vf_Tape_byteAt (I : Nat → Nat → Int32) (x : Int32) : Int32 := if x < 0 then 0 else (if I 14 4 ≤ x then 0 else (if 400 ≤ x then 0 else (I 15 (x.toNatClampNeg))))
theorem ct_Tape_byteAt (x : Int32) : sm_wp X 157 0 [some (.ref 14), some (.int x)] [] (sM mo G I J) Q = (Q (some (.int (vf_Tape_byteAt I x))) (sM mo G I J)) := by
  rw [bk_157_0]
  simp (decide := true) only [bk_157_28, bk_157_29, up2_ne, up2_sn, up2_ss, ne_eq, tl_some, tl_none, zb_0, zb_1, zb_bi, true_and, bi_eq, bi_ne, oz_f, zz_t, if_true, if_false, not_true_eq_false, not_false_eq_true]
  all_goals grind (splits := 40) [bi, vf_Tape_byteAt, vp_4, vp_6, vp_7, vp_8, vp_12, vp_15, vp_16, vp_20, vp_24, vp_48, vp_60, vp_64, vp_72, vp_80, vp_96, vp_144, vp_384, vp_400, vp_960]
abbrev vf_Tape_isBlank (x : Int32) : Prop := (x = 10) ∨ (x = 32)
theorem ct_Tape_isBlank (x : Int32) : sm_wp X 158 0 [some (.int x)] [] (sM mo G I J) Q = (Q (some (.int (bi (vf_Tape_isBlank x)))) (sM mo G I J)) := by
  rw [bk_158_0]
  simp (decide := true) only [bk_158_12, bk_158_16, bk_158_17, up2_ne, up2_sn, up2_ss, ne_eq, tl_some, tl_none, zb_0, zb_1, zb_bi, true_and, bi_eq, bi_ne, oz_f, zz_t, if_true, if_false, not_true_eq_false, not_false_eq_true]
  all_goals grind (splits := 40) [bi, vp_4, vp_6, vp_7, vp_8, vp_12, vp_15, vp_16, vp_20, vp_24, vp_48, vp_60, vp_64, vp_72, vp_80, vp_96, vp_144, vp_384, vp_400, vp_960]
abbrev vf_Tape_isLetter (x : Int32) : Prop := (¬ (x < 97)) ∧ (¬ (122 < x))
theorem ct_Tape_isLetter (x : Int32) : sm_wp X 159 0 [some (.int x)] [] (sM mo G I J) Q = (Q (some (.int (bi (vf_Tape_isLetter x)))) (sM mo G I J)) := by
  rw [bk_159_0]
  simp (decide := true) only [bk_159_16, bk_159_17, up2_ne, up2_sn, up2_ss, ne_eq, tl_some, tl_none, zb_0, zb_1, zb_bi, true_and, bi_eq, bi_ne, oz_f, zz_t, if_true, if_false, not_true_eq_false, not_false_eq_true]
  all_goals grind (splits := 40) [bi, vp_4, vp_6, vp_7, vp_8, vp_12, vp_15, vp_16, vp_20, vp_24, vp_48, vp_60, vp_64, vp_72, vp_80, vp_96, vp_144, vp_384, vp_400, vp_960]
abbrev vf_Tape_isDigit (x : Int32) : Prop := (¬ (x < 48)) ∧ (¬ (57 < x))
theorem ct_Tape_isDigit (x : Int32) : sm_wp X 161 0 [some (.int x)] [] (sM mo G I J) Q = (Q (some (.int (bi (vf_Tape_isDigit x)))) (sM mo G I J)) := by
  rw [bk_161_0]
  simp (decide := true) only [bk_161_16, bk_161_17, up2_ne, up2_sn, up2_ss, ne_eq, tl_some, tl_none, zb_0, zb_1, zb_bi, true_and, bi_eq, bi_ne, oz_f, zz_t, if_true, if_false, not_true_eq_false, not_false_eq_true]
  all_goals grind (splits := 40) [bi, vp_4, vp_6, vp_7, vp_8, vp_12, vp_15, vp_16, vp_20, vp_24, vp_48, vp_60, vp_64, vp_72, vp_80, vp_96, vp_144, vp_384, vp_400, vp_960]
def vf_Read_strength (x : Int32) : Int32 := if x = 4 then 3 else (if x = 5 then 2 else (if x = 6 then 1 else (if x = 19 then 5 else (if x = 20 then 5 else (if x = 21 then 6 else (if x = 22 then 6 else (if x = 23 then 6 else (if x = 30 then 0 else (if x = 33 then 7 else 4)))))))))
theorem ct_Read_strength (x : Int32) : sm_wp X 54 0 [some (.int x)] [] (sM mo G I J) Q = (Q (some (.int (vf_Read_strength x))) (sM mo G I J)) := by
  rw [bk_54_0]
  simp (decide := true) only [bk_54_136, bk_54_138, bk_54_140, bk_54_142, bk_54_144, bk_54_146, bk_54_149, bk_54_152, up2_ne, up2_sn, up2_ss, ne_eq, tl_some, tl_none, zb_0, zb_1, zb_bi, true_and, bi_eq, bi_ne, oz_f, zz_t, if_true, if_false, not_true_eq_false, not_false_eq_true]
  all_goals grind (splits := 40) [bi, vf_Read_strength, vp_4, vp_6, vp_7, vp_8, vp_12, vp_15, vp_16, vp_20, vp_24, vp_48, vp_60, vp_64, vp_72, vp_80, vp_96, vp_144, vp_384, vp_400, vp_960]
abbrev vf_Model_isIn (x : Int32) (y : Int32) (z : Int32) : Prop := (¬ (x < y)) ∧ (¬ (z < x))
theorem ct_Model_isIn (x : Int32) (y : Int32) (z : Int32) : sm_wp X 210 0 [some (.int x), some (.int y), some (.int z)] [] (sM mo G I J) Q = (Q (some (.int (bi (vf_Model_isIn x y z)))) (sM mo G I J)) := by
  rw [bk_210_0]
  simp (decide := true) only [bk_210_14, bk_210_15, up2_ne, up2_sn, up2_ss, ne_eq, tl_some, tl_none, zb_0, zb_1, zb_bi, true_and, bi_eq, bi_ne, oz_f, zz_t, if_true, if_false, not_true_eq_false, not_false_eq_true]
  all_goals grind (splits := 40) [bi, vp_4, vp_6, vp_7, vp_8, vp_12, vp_15, vp_16, vp_20, vp_24, vp_48, vp_60, vp_64, vp_72, vp_80, vp_96, vp_144, vp_384, vp_400, vp_960]
abbrev vf_Model_isLand (I : Nat → Nat → Int32) (x : Int32) : Prop := (¬ (x < 0)) ∧ (¬ (I 81 3 ≤ x))
theorem ct_Model_isLand (x : Int32) : sm_wp X 212 0 [some (.ref 81), some (.int x)] [] (sM mo G I J) Q = (Q (some (.int (bi (vf_Model_isLand I x)))) (sM mo G I J)) := by
  rw [bk_212_0]
  simp (decide := true) only [bk_212_16, bk_212_17, up2_ne, up2_sn, up2_ss, ne_eq, tl_some, tl_none, zb_0, zb_1, zb_bi, true_and, bi_eq, bi_ne, oz_f, zz_t, if_true, if_false, not_true_eq_false, not_false_eq_true]
  all_goals grind (splits := 40) [bi, vp_4, vp_6, vp_7, vp_8, vp_12, vp_15, vp_16, vp_20, vp_24, vp_48, vp_60, vp_64, vp_72, vp_80, vp_96, vp_144, vp_384, vp_400, vp_960]
abbrev vf_Model_isState (I : Nat → Nat → Int32) (x : Int32) : Prop := (¬ (x < 0)) ∧ (¬ (I 81 10 ≤ x))
theorem ct_Model_isState (x : Int32) : sm_wp X 216 0 [some (.ref 81), some (.int x)] [] (sM mo G I J) Q = (Q (some (.int (bi (vf_Model_isState I x)))) (sM mo G I J)) := by
  rw [bk_216_0]
  simp (decide := true) only [bk_216_16, bk_216_17, up2_ne, up2_sn, up2_ss, ne_eq, tl_some, tl_none, zb_0, zb_1, zb_bi, true_and, bi_eq, bi_ne, oz_f, zz_t, if_true, if_false, not_true_eq_false, not_false_eq_true]
  all_goals grind (splits := 40) [bi, vp_4, vp_6, vp_7, vp_8, vp_12, vp_15, vp_16, vp_20, vp_24, vp_48, vp_60, vp_64, vp_72, vp_80, vp_96, vp_144, vp_384, vp_400, vp_960]
abbrev vf_Model_isPresent (I : Nat → Nat → Int32) (x : Int32) : Prop := (vf_Model_isState I x) ∧ (((I 81 15) >>> (x &&& 31)) &&& 1 = 1)
theorem ct_Model_isPresent (x : Int32) : sm_wp X 215 0 [some (.ref 81), some (.int x)] [] (sM mo G I J) Q = (Q (some (.int (bi (vf_Model_isPresent I x)))) (sM mo G I J)) := by
  rw [bk_215_0]
  simp (decide := true) only [bk_215_5, bk_215_24, bk_215_25, ct_Model_isState, up2_ne, up2_sn, up2_ss, ne_eq, tl_some, tl_none, zb_0, zb_1, zb_bi, true_and, bi_eq, bi_ne, oz_f, zz_t, if_true, if_false, not_true_eq_false, not_false_eq_true]
  all_goals grind (splits := 40) [bi, vp_4, vp_6, vp_7, vp_8, vp_12, vp_15, vp_16, vp_20, vp_24, vp_48, vp_60, vp_64, vp_72, vp_80, vp_96, vp_144, vp_384, vp_400, vp_960]
abbrev vf_Model_isSmall (I : Nat → Nat → Int32) (x : Int32) : Prop := (¬ (I 81 20 ≤ x)) ∧ ((¬ (I 82 (x.toNatClampNeg) < 97)) ∧ (¬ (122 < I 82 (x.toNatClampNeg))))
abbrev vc_Model_isSmall (I : Nat → Nat → Int32) (x : Int32) : Prop := ((¬ (I 81 20 ≤ x)) → ((vp_in x 400) ∧ ((¬ (I 82 (x.toNatClampNeg) < 97)) → (vp_in x 400))))
theorem ct_Model_isSmall (x : Int32) : sm_wp X 227 0 [some (.ref 81), some (.int x)] [] (sM mo G I J) Q = (vc_Model_isSmall I x ∧ (Q (some (.int (bi (vf_Model_isSmall I x)))) (sM mo G I J))) := by
  rw [bk_227_0]
  simp (decide := true) only [bk_227_34, bk_227_35, up2_ne, up2_sn, up2_ss, ne_eq, tl_some, tl_none, zb_0, zb_1, zb_bi, true_and, bi_eq, bi_ne, oz_f, zz_t, if_true, if_false, not_true_eq_false, not_false_eq_true]
  all_goals grind (splits := 40) [bi, vp_4, vp_6, vp_7, vp_8, vp_12, vp_15, vp_16, vp_20, vp_24, vp_48, vp_60, vp_64, vp_72, vp_80, vp_96, vp_144, vp_384, vp_400, vp_960]
abbrev vf_Model_isDigit (I : Nat → Nat → Int32) (x : Int32) : Prop := (¬ (I 81 20 ≤ x)) ∧ ((¬ (I 82 (x.toNatClampNeg) < 48)) ∧ (¬ (57 < I 82 (x.toNatClampNeg))))
abbrev vc_Model_isDigit (I : Nat → Nat → Int32) (x : Int32) : Prop := ((¬ (I 81 20 ≤ x)) → ((vp_in x 400) ∧ ((¬ (I 82 (x.toNatClampNeg) < 48)) → (vp_in x 400))))
theorem ct_Model_isDigit (x : Int32) : sm_wp X 229 0 [some (.ref 81), some (.int x)] [] (sM mo G I J) Q = (vc_Model_isDigit I x ∧ (Q (some (.int (bi (vf_Model_isDigit I x)))) (sM mo G I J))) := by
  rw [bk_229_0]
  simp (decide := true) only [bk_229_34, bk_229_35, up2_ne, up2_sn, up2_ss, ne_eq, tl_some, tl_none, zb_0, zb_1, zb_bi, true_and, bi_eq, bi_ne, oz_f, zz_t, if_true, if_false, not_true_eq_false, not_false_eq_true]
  all_goals grind (splits := 40) [bi, vp_4, vp_6, vp_7, vp_8, vp_12, vp_15, vp_16, vp_20, vp_24, vp_48, vp_60, vp_64, vp_72, vp_80, vp_96, vp_144, vp_384, vp_400, vp_960]
abbrev vf_Model_isAt (I : Nat → Nat → Int32) (x : Int32) (y : Int32) : Prop := (¬ (I 81 20 ≤ x)) ∧ (I 82 (x.toNatClampNeg) = y)
abbrev vc_Model_isAt (I : Nat → Nat → Int32) (x : Int32) (y : Int32) : Prop := ((¬ (I 81 20 ≤ x)) → (vp_in x 400))
theorem ct_Model_isAt (x : Int32) (y : Int32) : sm_wp X 231 0 [some (.ref 81), some (.int x), some (.int y)] [] (sM mo G I J) Q = (vc_Model_isAt I x y ∧ (Q (some (.int (bi (vf_Model_isAt I x y)))) (sM mo G I J))) := by
  rw [bk_231_0]
  simp (decide := true) only [bk_231_22, bk_231_23, up2_ne, up2_sn, up2_ss, ne_eq, tl_some, tl_none, zb_0, zb_1, zb_bi, true_and, bi_eq, bi_ne, oz_f, zz_t, if_true, if_false, not_true_eq_false, not_false_eq_true]
  all_goals grind (splits := 40) [bi, vp_4, vp_6, vp_7, vp_8, vp_12, vp_15, vp_16, vp_20, vp_24, vp_48, vp_60, vp_64, vp_72, vp_80, vp_96, vp_144, vp_384, vp_400, vp_960]
abbrev vf_Model_isSign (I : Nat → Nat → Int32) (x : Int32) : Prop := (I 81 22 = 3) ∧ (I 81 23 = x)
theorem ct_Model_isSign (x : Int32) : sm_wp X 236 0 [some (.ref 81), some (.int x)] [] (sM mo G I J) Q = (Q (some (.int (bi (vf_Model_isSign I x)))) (sM mo G I J)) := by
  rw [bk_236_0]
  simp (decide := true) only [bk_236_20, bk_236_21, up2_ne, up2_sn, up2_ss, ne_eq, tl_some, tl_none, zb_0, zb_1, zb_bi, true_and, bi_eq, bi_ne, oz_f, zz_t, if_true, if_false, not_true_eq_false, not_false_eq_true]
  all_goals grind (splits := 40) [bi, vp_4, vp_6, vp_7, vp_8, vp_12, vp_15, vp_16, vp_20, vp_24, vp_48, vp_60, vp_64, vp_72, vp_80, vp_96, vp_144, vp_384, vp_400, vp_960]
def vf_Model_signOf (I : Nat → Nat → Int32) (x : Int32) : Int32 := if ¬ x = 60 then (if ¬ x = 62 then (if ¬ x = 61 then (if ¬ x = 43 then (if ¬ x = 45 then (if ¬ x = 42 then (if ¬ x = 47 then (if ¬ x = 37 then (if x = 59 then x else (if x = 40 then x else (if ¬ x = 41 then (-1) else x))) else 11) else 10) else 9) else 8) else 7) else 3) else (if ¬ (vf_Model_isAt I (I 81 21) 61) then 6 else 5)) else (if ¬ (vf_Model_isAt I (I 81 21) 61) then (if ¬ (vf_Model_isAt I (I 81 21) 62) then 1 else 4) else 2)
abbrev vc_Model_signOf (I : Nat → Nat → Int32) (x : Int32) : Prop := ((¬ x = 60) → ((x = 62) → (vc_Model_isAt I (I 81 21) 61))) ∧ ((x = 60) → ((vc_Model_isAt I (I 81 21) 61) ∧ ((¬ (vf_Model_isAt I (I 81 21) 61)) → (vc_Model_isAt I (I 81 21) 62))))
theorem ct_Model_signOf (x : Int32) : sm_wp X 230 0 [some (.ref 81), some (.int x)] [] (sM mo G I J) Q = (vc_Model_signOf I x ∧ (Q (some (.int (vf_Model_signOf I x))) (sM mo G I J))) := by
  rw [bk_230_0]
  simp (decide := true) only [bk_230_16, bk_230_23, bk_230_33, bk_230_40, bk_230_41, bk_230_42, bk_230_58, bk_230_65, bk_230_67, bk_230_68, bk_230_78, bk_230_89, bk_230_100, bk_230_111, bk_230_122, bk_230_133, bk_230_151, bk_230_155, bk_230_156, ct_Model_isAt, up2_ne, up2_sn, up2_ss, ne_eq, tl_some, tl_none, zb_0, zb_1, zb_bi, true_and, bi_eq, bi_ne, oz_f, zz_t, if_true, if_false, not_true_eq_false, not_false_eq_true]
  all_goals grind (splits := 40) [bi, vf_Model_signOf, vp_4, vp_6, vp_7, vp_8, vp_12, vp_15, vp_16, vp_20, vp_24, vp_48, vp_60, vp_64, vp_72, vp_80, vp_96, vp_144, vp_384, vp_400, vp_960]
def vf_Model_weight (x : Int32) : Int32 := if ¬ x = 100 then (if ¬ x = 15 then (if ¬ x = 14 then (if ¬ x = 13 then (if 7 ≤ x then (if 9 ≤ x then (if 12 ≤ x then 7 else 6) else 5) else 4) else 3) else 2) else 1) else 0
theorem ct_Model_weight (x : Int32) : sm_wp X 243 0 [some (.int x)] [] (sM mo G I J) Q = (Q (some (.int (vf_Model_weight x))) (sM mo G I J)) := by
  rw [bk_243_0]
  simp (decide := true) only [bk_243_10, bk_243_20, bk_243_30, bk_243_40, bk_243_50, bk_243_60, bk_243_71, bk_243_73, up2_ne, up2_sn, up2_ss, ne_eq, tl_some, tl_none, zb_0, zb_1, zb_bi, true_and, bi_eq, bi_ne, oz_f, zz_t, if_true, if_false, not_true_eq_false, not_false_eq_true]
  all_goals grind (splits := 40) [bi, vf_Model_weight, vp_4, vp_6, vp_7, vp_8, vp_12, vp_15, vp_16, vp_20, vp_24, vp_48, vp_60, vp_64, vp_72, vp_80, vp_96, vp_144, vp_384, vp_400, vp_960]
def vf_Model_signNow (I : Nat → Nat → Int32)  : Int32 := if ¬ I 81 22 = 1 then (if ¬ I 81 22 = 3 then (-1) else (if 12 ≤ I 81 23 then (-1) else (I 81 23))) else (if ¬ I 81 23 = 5 then (if ¬ I 81 23 = 4 then (-1) else 15) else 14)
theorem ct_Model_signNow  : sm_wp X 241 0 [some (.ref 81)] [] (sM mo G I J) Q = (Q (some (.int (vf_Model_signNow I))) (sM mo G I J)) := by
  rw [bk_241_0]
  simp (decide := true) only [bk_241_21, bk_241_34, bk_241_35, bk_241_36, bk_241_60, bk_241_61, up2_ne, up2_sn, up2_ss, ne_eq, tl_some, tl_none, zb_0, zb_1, zb_bi, true_and, bi_eq, bi_ne, oz_f, zz_t, if_true, if_false, not_true_eq_false, not_false_eq_true]
  all_goals grind (splits := 40) [bi, vf_Model_signNow, vp_4, vp_6, vp_7, vp_8, vp_12, vp_15, vp_16, vp_20, vp_24, vp_48, vp_60, vp_64, vp_72, vp_80, vp_96, vp_144, vp_384, vp_400, vp_960]
abbrev vf_Model_isOffer (I : Nat → Nat → Int32) (x : Int32) : Prop := (¬ (x < 0)) ∧ ((¬ (I 81 46 ≤ x)) ∧ (I 107 (x.toNatClampNeg) = 0))
abbrev vc_Model_isOffer (I : Nat → Nat → Int32) (x : Int32) : Prop := ((¬ (x < 0)) → ((¬ (I 81 46 ≤ x)) → (vp_in x 60)))
theorem ct_Model_isOffer (x : Int32) : sm_wp X 248 0 [some (.ref 81), some (.int x)] [] (sM mo G I J) Q = (vc_Model_isOffer I x ∧ (Q (some (.int (bi (vf_Model_isOffer I x)))) (sM mo G I J))) := by
  rw [bk_248_0]
  simp (decide := true) only [bk_248_25, bk_248_26, up2_ne, up2_sn, up2_ss, ne_eq, tl_some, tl_none, zb_0, zb_1, zb_bi, true_and, bi_eq, bi_ne, oz_f, zz_t, if_true, if_false, not_true_eq_false, not_false_eq_true]
  all_goals grind (splits := 40) [bi, vp_4, vp_6, vp_7, vp_8, vp_12, vp_15, vp_16, vp_20, vp_24, vp_48, vp_60, vp_64, vp_72, vp_80, vp_96, vp_144, vp_384, vp_400, vp_960]
def vf_Model_truth (x : Int32) : Int64 := if x = 0 then 0 else 1
theorem ct_Model_truth (x : Int32) : sm_wp X 260 0 [some (.int x)] [] (sM mo G I J) Q = (Q (some (.long (vf_Model_truth x))) (sM mo G I J)) := by
  rw [bk_260_0]
  simp (decide := true) only [bk_260_8, bk_260_9, up2_ne, up2_sn, up2_ss, ne_eq, tl_some, tl_none, zb_0, zb_1, zb_bi, true_and, bi_eq, bi_ne, oz_f, zz_t, if_true, if_false, not_true_eq_false, not_false_eq_true]
  all_goals grind (splits := 40) [bi, vf_Model_truth, vp_4, vp_6, vp_7, vp_8, vp_12, vp_15, vp_16, vp_20, vp_24, vp_48, vp_60, vp_64, vp_72, vp_80, vp_96, vp_144, vp_384, vp_400, vp_960]
def vf_Model_big (x : Int64) : Int64 := if 0 ≤ lg_cmp x 0 then x else (-x)
theorem ct_Model_big (x : Int64) : sm_wp X 263 0 [some (.long x), none] [] (sM mo G I J) Q = (Q (some (.long (vf_Model_big x))) (sM mo G I J)) := by
  rw [bk_263_0]
  simp (decide := true) only [bk_263_11, bk_263_12, up2_ne, up2_sn, up2_ss, ne_eq, tl_some, tl_none, zb_0, zb_1, zb_bi, true_and, bi_eq, bi_ne, oz_f, zz_t, if_true, if_false, not_true_eq_false, not_false_eq_true]
  all_goals grind (splits := 40) [bi, vf_Model_big, vp_4, vp_6, vp_7, vp_8, vp_12, vp_15, vp_16, vp_20, vp_24, vp_48, vp_60, vp_64, vp_72, vp_80, vp_96, vp_144, vp_384, vp_400, vp_960]
abbrev vf_Model_isSpent (I : Nat → Nat → Int32)  : Prop := ¬ (I 81 65 ≤ 8)
theorem ct_Model_isSpent  : sm_wp X 276 0 [some (.ref 81)] [] (sM mo G I J) Q = (Q (some (.int (bi (vf_Model_isSpent I)))) (sM mo G I J)) := by
  rw [bk_276_0]
  simp (decide := true) only [bk_276_13, bk_276_14, up2_ne, up2_sn, up2_ss, ne_eq, tl_some, tl_none, zb_0, zb_1, zb_bi, true_and, bi_eq, bi_ne, oz_f, zz_t, if_true, if_false, not_true_eq_false, not_false_eq_true]
  all_goals grind (splits := 40) [bi, vp_4, vp_6, vp_7, vp_8, vp_12, vp_15, vp_16, vp_20, vp_24, vp_48, vp_60, vp_64, vp_72, vp_80, vp_96, vp_144, vp_384, vp_400, vp_960]
abbrev vf_Model_isArticle (I : Nat → Nat → Int32) (x : Int32) : Prop := (¬ (x < 0)) ∧ (¬ (I 81 81 ≤ x))
theorem ct_Model_isArticle (x : Int32) : sm_wp X 293 0 [some (.ref 81), some (.int x)] [] (sM mo G I J) Q = (Q (some (.int (bi (vf_Model_isArticle I x)))) (sM mo G I J)) := by
  rw [bk_293_0]
  simp (decide := true) only [bk_293_16, bk_293_17, up2_ne, up2_sn, up2_ss, ne_eq, tl_some, tl_none, zb_0, zb_1, zb_bi, true_and, bi_eq, bi_ne, oz_f, zz_t, if_true, if_false, not_true_eq_false, not_false_eq_true]
  all_goals grind (splits := 40) [bi, vp_4, vp_6, vp_7, vp_8, vp_12, vp_15, vp_16, vp_20, vp_24, vp_48, vp_60, vp_64, vp_72, vp_80, vp_96, vp_144, vp_384, vp_400, vp_960]
abbrev vf_Model_hasDraft (I : Nat → Nat → Int32) (x : Int32) (y : Int32) : Prop := (vf_Model_isPresent I y) ∧ (¬ (I 135 ((((6 : Int32) * x) + y).toNatClampNeg) ≤ 0))
abbrev vc_Model_hasDraft (I : Nat → Nat → Int32) (x : Int32) (y : Int32) : Prop := ((vf_Model_isPresent I y) → (vp_in (((6 : Int32) * x) + y) 48))
theorem ct_Model_hasDraft (x : Int32) (y : Int32) : sm_wp X 300 0 [some (.ref 81), some (.int x), some (.int y)] [] (sM mo G I J) Q = (vc_Model_hasDraft I x y ∧ (Q (some (.int (bi (vf_Model_hasDraft I x y)))) (sM mo G I J))) := by
  rw [bk_300_0]
  simp (decide := true) only [bk_300_5, bk_300_26, bk_300_27, ct_Model_isPresent, up2_ne, up2_sn, up2_ss, ne_eq, tl_some, tl_none, zb_0, zb_1, zb_bi, true_and, bi_eq, bi_ne, oz_f, zz_t, if_true, if_false, not_true_eq_false, not_false_eq_true]
  all_goals grind (splits := 40) [bi, vp_4, vp_6, vp_7, vp_8, vp_12, vp_15, vp_16, vp_20, vp_24, vp_48, vp_60, vp_64, vp_72, vp_80, vp_96, vp_144, vp_384, vp_400, vp_960]
def vf_Model_gradeOf (I : Nat → Nat → Int32) (x : Int32) : Int32 := if ¬ I 140 (x.toNatClampNeg) = I 81 88 then (if I 81 88 < (2 : Int32) * (I 140 (x.toNatClampNeg)) then 1 else 0) else 2
abbrev vc_Model_gradeOf (I : Nat → Nat → Int32) (x : Int32) : Prop := (vp_in x 8) ∧ ((¬ I 140 (x.toNatClampNeg) = I 81 88) → (vp_in x 8))
theorem ct_Model_gradeOf (x : Int32) : sm_wp X 304 0 [some (.ref 81), some (.int x)] [] (sM mo G I J) Q = (vc_Model_gradeOf I x ∧ (Q (some (.int (vf_Model_gradeOf I x))) (sM mo G I J))) := by
  rw [bk_304_0]
  simp (decide := true) only [bk_304_17, bk_304_36, bk_304_37, up2_ne, up2_sn, up2_ss, ne_eq, tl_some, tl_none, zb_0, zb_1, zb_bi, true_and, bi_eq, bi_ne, oz_f, zz_t, if_true, if_false, not_true_eq_false, not_false_eq_true]
  all_goals grind (splits := 40) [bi, vf_Model_gradeOf, vp_4, vp_6, vp_7, vp_8, vp_12, vp_15, vp_16, vp_20, vp_24, vp_48, vp_60, vp_64, vp_72, vp_80, vp_96, vp_144, vp_384, vp_400, vp_960]
abbrev vf_Model_isOpenOne (I : Nat → Nat → Int32) (x : Int32) : Prop := (I 107 (x.toNatClampNeg) = 0) ∧ (¬ (2 ≤ I 117 (x.toNatClampNeg)))
abbrev vc_Model_isOpenOne (I : Nat → Nat → Int32) (x : Int32) : Prop := (vp_in x 60) ∧ ((I 107 (x.toNatClampNeg) = 0) → (vp_in x 60))
theorem ct_Model_isOpenOne (x : Int32) : sm_wp X 252 0 [some (.ref 81), some (.int x)] [] (sM mo G I J) Q = (vc_Model_isOpenOne I x ∧ (Q (some (.int (bi (vf_Model_isOpenOne I x)))) (sM mo G I J))) := by
  rw [bk_252_0]
  simp (decide := true) only [bk_252_23, bk_252_24, up2_ne, up2_sn, up2_ss, ne_eq, tl_some, tl_none, zb_0, zb_1, zb_bi, true_and, bi_eq, bi_ne, oz_f, zz_t, if_true, if_false, not_true_eq_false, not_false_eq_true]
  all_goals grind (splits := 40) [bi, vp_4, vp_6, vp_7, vp_8, vp_12, vp_15, vp_16, vp_20, vp_24, vp_48, vp_60, vp_64, vp_72, vp_80, vp_96, vp_144, vp_384, vp_400, vp_960]
def vf_Model_knownFrom (I : Nat → Nat → Int32) (x : Int32) (y : Int32) : Int32 := if I 108 (x.toNatClampNeg) = y then (I 110 (x.toNatClampNeg)) else (if ¬ I 109 (x.toNatClampNeg) = y then (if I 107 (x.toNatClampNeg) = 0 then (-1) else (if ¬ ((I 116 (x.toNatClampNeg)) >>> (y &&& 31)) &&& 1 = 1 then (-1) else ((I 110 (x.toNatClampNeg)) + 1))) else (I 110 (x.toNatClampNeg)))
abbrev vc_Model_knownFrom (I : Nat → Nat → Int32) (x : Int32) (y : Int32) : Prop := (vp_in x 60) ∧ (((I 108 (x.toNatClampNeg) = y) → (vp_in x 60)) ∧ ((¬ (I 108 (x.toNatClampNeg) = y)) → ((vp_in x 60) ∧ (((¬ I 109 (x.toNatClampNeg) = y) → ((vp_in x 60) ∧ ((¬ (I 107 (x.toNatClampNeg) = 0)) → ((vp_in x 60) ∧ ((((I 116 (x.toNatClampNeg)) >>> (y &&& 31)) &&& 1 = 1) → (vp_in x 60)))))) ∧ ((I 109 (x.toNatClampNeg) = y) → (vp_in x 60))))))
theorem ct_Model_knownFrom (x : Int32) (y : Int32) : sm_wp X 272 0 [some (.ref 81), some (.int x), some (.int y)] [] (sM mo G I J) Q = (vc_Model_knownFrom I x y ∧ (Q (some (.int (vf_Model_knownFrom I x y))) (sM mo G I J))) := by
  rw [bk_272_0]
  simp (decide := true) only [bk_272_20, bk_272_27, bk_272_61, bk_272_62, up2_ne, up2_sn, up2_ss, ne_eq, tl_some, tl_none, zb_0, zb_1, zb_bi, true_and, bi_eq, bi_ne, oz_f, zz_t, if_true, if_false, not_true_eq_false, not_false_eq_true]
  all_goals grind (splits := 40) [bi, vf_Model_knownFrom, vp_4, vp_6, vp_7, vp_8, vp_12, vp_15, vp_16, vp_20, vp_24, vp_48, vp_60, vp_64, vp_72, vp_80, vp_96, vp_144, vp_384, vp_400, vp_960]
end R1
