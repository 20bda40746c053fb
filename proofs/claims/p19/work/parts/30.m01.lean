section
/-! Words for the mathematics: answers as numbers, reads over writes. -/
def bi (p : Prop) [Decidable p] : Int32 := if p then 1 else 0
theorem zb_0 : sm_zb 0 = True := eq_true (Or.inl rfl)
theorem zb_1 : sm_zb 1 = True := eq_true (Or.inr rfl)
theorem zb_bi (p : Prop) [Decidable p] : sm_zb (bi p) = True := by
  unfold bi
  split
  · exact zb_1
  · exact zb_0
theorem bi_t {p : Prop} [Decidable p] (h : p) : bi p = 1 := if_pos h
theorem bi_f {p : Prop} [Decidable p] (h : ¬ p) : bi p = 0 := if_neg h
theorem bi_ne {p : Prop} [Decidable p] : (¬ bi p = 0) = p := by
  unfold bi
  split
  · rename_i h; simp [h]
  · rename_i h; simp [h]
theorem bi_eq {p : Prop} [Decidable p] : (bi p = 0) = ¬ p := by
  unfold bi
  split
  · rename_i h; simp [h]
  · rename_i h; simp [h]
theorem up2_ap {α : Type} (I : Nat → Nat → α) (a k : Nat) (v : α) (c j : Nat) : up2 I a k v c j = if c = a then (if j = k then v else I c j) else I c j := by
  unfold up2 va_up
  by_cases h : c = a
  · subst h; simp
  · simp [h]
theorem tl_some {α : Type} (v : α) (l : List α) : (some v).toList ++ l = v :: l := rfl
theorem tl_none {α : Type} (l : List α) : (none : Option α).toList ++ l = l := rfl
def isLd (I : Nat → Nat → Int32) (x : Int32) : Prop := ¬ x < 0 ∧ ¬ I 1 0 ≤ x ∧ ¬ 12 ≤ x
theorem rl_isLand (X : (Nat → Int32) × Nat) (mo : Bool) (G : Nat × Nat) (I : Nat → Nat → Int32) (J : Nat → Nat → Int64) (Q : Option Value → sm_M → Prop) (x : Int32) :
    sm_wp X 90 0 [some (.ref 1), some (.int x)] [] (sM mo G I J) Q = Q (some (.int (bi (¬ x < 0 ∧ ¬ I 1 0 ≤ x ∧ ¬ 12 ≤ x)))) (sM mo G I J) := by
  rw [bk_90_0]
  simp only [bk_90_22, bk_90_23, zb_0, zb_1, true_and]
  by_cases h1 : x < 0
  · simp [h1, bi]
  · by_cases h2 : I 1 0 ≤ x
    · simp [h1, h2, bi]
    · by_cases h3 : 12 ≤ x <;> simp [h1, h2, h3, bi]
end
section
/-! Closed forms of the loop-free methods of Realm, Papers, Spies, Book; values have names. -/
theorem up2_sn {α : Type} {I : Nat → Nat → α} {a k : Nat} {v : α} {j : Nat} (h : j ≠ k) : up2 I a k v a j = I a j := by rw [up2_ap, if_pos rfl, if_neg h]
theorem up2_ss {α : Type} {I : Nat → Nat → α} {a k : Nat} {v : α} : up2 I a k v a k = v := by rw [up2_ap, if_pos rfl, if_pos rfl]
theorem oz_f : ((1 : Int32) = 0) = False := eq_false (by decide)
theorem zz_t : ((0 : Int32) = 0) = True := eq_self 0
theorem vp_of32 {x m : Int32} {n : Nat} (hm : m.toInt = n) (h : ¬ x < 0) (h2 : ¬ m ≤ x) : vp_in x n := by
  rw [vp_in_iff]
  rw [Int32.lt_iff_toInt_lt] at h
  rw [Int32.le_iff_toInt_le] at h2
  have e : (0 : Int32).toInt = 0 := by decide
  omega
theorem vp_4 {x : Int32} (h : ¬ x < 0) (h2 : ¬ (4 : Int32) ≤ x) : vp_in x 4 := vp_of32 (by decide) h h2
theorem vp_6 {x : Int32} (h : ¬ x < 0) (h2 : ¬ (6 : Int32) ≤ x) : vp_in x 6 := vp_of32 (by decide) h h2
theorem vp_7 {x : Int32} (h : ¬ x < 0) (h2 : ¬ (7 : Int32) ≤ x) : vp_in x 7 := vp_of32 (by decide) h h2
theorem vp_8 {x : Int32} (h : ¬ x < 0) (h2 : ¬ (8 : Int32) ≤ x) : vp_in x 8 := vp_of32 (by decide) h h2
theorem vp_12 {x : Int32} (h : ¬ x < 0) (h2 : ¬ (12 : Int32) ≤ x) : vp_in x 12 := vp_of32 (by decide) h h2
theorem vp_15 {x : Int32} (h : ¬ x < 0) (h2 : ¬ (15 : Int32) ≤ x) : vp_in x 15 := vp_of32 (by decide) h h2
theorem vp_16 {x : Int32} (h : ¬ x < 0) (h2 : ¬ (16 : Int32) ≤ x) : vp_in x 16 := vp_of32 (by decide) h h2
theorem vp_20 {x : Int32} (h : ¬ x < 0) (h2 : ¬ (20 : Int32) ≤ x) : vp_in x 20 := vp_of32 (by decide) h h2
theorem vp_24 {x : Int32} (h : ¬ x < 0) (h2 : ¬ (24 : Int32) ≤ x) : vp_in x 24 := vp_of32 (by decide) h h2
theorem vp_48 {x : Int32} (h : ¬ x < 0) (h2 : ¬ (48 : Int32) ≤ x) : vp_in x 48 := vp_of32 (by decide) h h2
theorem vp_60 {x : Int32} (h : ¬ x < 0) (h2 : ¬ (60 : Int32) ≤ x) : vp_in x 60 := vp_of32 (by decide) h h2
theorem vp_64 {x : Int32} (h : ¬ x < 0) (h2 : ¬ (64 : Int32) ≤ x) : vp_in x 64 := vp_of32 (by decide) h h2
theorem vp_72 {x : Int32} (h : ¬ x < 0) (h2 : ¬ (72 : Int32) ≤ x) : vp_in x 72 := vp_of32 (by decide) h h2
theorem vp_80 {x : Int32} (h : ¬ x < 0) (h2 : ¬ (80 : Int32) ≤ x) : vp_in x 80 := vp_of32 (by decide) h h2
theorem vp_96 {x : Int32} (h : ¬ x < 0) (h2 : ¬ (96 : Int32) ≤ x) : vp_in x 96 := vp_of32 (by decide) h h2
theorem vp_144 {x : Int32} (h : ¬ x < 0) (h2 : ¬ (144 : Int32) ≤ x) : vp_in x 144 := vp_of32 (by decide) h h2
theorem vp_384 {x : Int32} (h : ¬ x < 0) (h2 : ¬ (384 : Int32) ≤ x) : vp_in x 384 := vp_of32 (by decide) h h2
theorem vp_400 {x : Int32} (h : ¬ x < 0) (h2 : ¬ (400 : Int32) ≤ x) : vp_in x 400 := vp_of32 (by decide) h h2
theorem vp_960 {x : Int32} (h : ¬ x < 0) (h2 : ¬ (960 : Int32) ≤ x) : vp_in x 960 := vp_of32 (by decide) h h2
abbrev hBit (b k : Int32) : Prop := ¬ k < 0 ∧ ¬ 31 ≤ k ∧ ¬ (b >>> (k &&& 31)) &&& 1 = 0
abbrev hLand (I : Nat → Nat → Int32) (x : Int32) : Prop := ¬ x < 0 ∧ ¬ I 1 0 ≤ x ∧ ¬ 12 ≤ x
abbrev hState (I : Nat → Nat → Int32) (x : Int32) : Prop := ¬ x < 0 ∧ ¬ I 1 1 ≤ x ∧ ¬ 6 ≤ x
abbrev hPres (I : Nat → Nat → Int32) (x : Int32) : Prop := hState I x ∧ hBit (I 1 2) x
abbrev hPap (I : Nat → Nat → Int32) (x : Int32) : Prop := ¬ x < 0 ∧ ¬ I 31 0 ≤ x ∧ ¬ 60 ≤ x
abbrev hArt (I : Nat → Nat → Int32) (x : Int32) : Prop := ¬ x < 0 ∧ ¬ I 71 0 ≤ x ∧ ¬ 8 ≤ x
def aLand (I : Nat → Nat → Int32) (c : Nat) (d x : Int32) : Int32 := if hLand I x then I c x.toNatClampNeg else d
def aState (I : Nat → Nat → Int32) (c : Nat) (d x : Int32) : Int32 := if hState I x then I c x.toNatClampNeg else d
def aPap (I : Nat → Nat → Int32) (c : Nat) (d x : Int32) : Int32 := if hPap I x then I c x.toNatClampNeg else d
def wof (W : Nat → Int32) (s l : Int32) : Int32 := if s < 0 ∨ 6 ≤ s ∨ l < 0 ∨ 12 ≤ l then 0 else W ((s * 12 + l).toNatClampNeg)
section R1
variable (X : (Nat → Int32) × Nat) (mo : Bool) (G : Nat × Nat) (I : Nat → Nat → Int32) (J : Nat → Nat → Int64) (Q : Option Value → sm_M → Prop)
theorem ct_House_hasBit (x : Int32) (y : Int32) : sm_wp X 169 0 [some (.int x), some (.int y)] [] (sM mo G I J) Q = (Q (some (.int (bi (hBit x y)))) (sM mo G I J)) := by
  rw [bk_169_0]
  simp (decide := true) only [bk_169_22, bk_169_23, up2_ne, up2_sn, up2_ss, ne_eq, tl_some, tl_none, zb_0, zb_1, zb_bi, true_and, bi_eq, bi_ne, oz_f, zz_t, if_true, if_false, not_true_eq_false, not_false_eq_true]
  all_goals grind (splits := 40) [bi]
theorem ct_House_isWord (x : Int32) : sm_wp X 180 0 [some (.int x)] [] (sM mo G I J) Q = (Q (some (.int (bi (¬ x < 1 ∧ ¬ 99 < x)))) (sM mo G I J)) := by
  rw [bk_180_0]
  simp (decide := true) only [bk_180_15, bk_180_16, up2_ne, up2_sn, up2_ss, ne_eq, tl_some, tl_none, zb_0, zb_1, zb_bi, true_and, bi_eq, bi_ne, oz_f, zz_t, if_true, if_false, not_true_eq_false, not_false_eq_true]
  all_goals grind (splits := 40) [bi]
theorem ct_Realm_isLand (x : Int32) : sm_wp X 90 0 [some (.ref 1), some (.int x)] [] (sM mo G I J) Q = (Q (some (.int (bi (hLand I x)))) (sM mo G I J)) := by
  rw [bk_90_0]
  simp (decide := true) only [bk_90_22, bk_90_23, up2_ne, up2_sn, up2_ss, ne_eq, tl_some, tl_none, zb_0, zb_1, zb_bi, true_and, bi_eq, bi_ne, oz_f, zz_t, if_true, if_false, not_true_eq_false, not_false_eq_true]
  all_goals grind (splits := 40) [bi]
theorem ct_Realm_isState (x : Int32) : sm_wp X 88 0 [some (.ref 1), some (.int x)] [] (sM mo G I J) Q = (Q (some (.int (bi (hState I x)))) (sM mo G I J)) := by
  rw [bk_88_0]
  simp (decide := true) only [bk_88_22, bk_88_23, up2_ne, up2_sn, up2_ss, ne_eq, tl_some, tl_none, zb_0, zb_1, zb_bi, true_and, bi_eq, bi_ne, oz_f, zz_t, if_true, if_false, not_true_eq_false, not_false_eq_true]
  all_goals grind (splits := 40) [bi]
theorem ct_Realm_isPresent (x : Int32) : sm_wp X 94 0 [some (.ref 1), some (.int x)] [] (sM mo G I J) Q = (Q (some (.int (bi (hPres I x)))) (sM mo G I J)) := by
  rw [bk_94_0]
  simp (decide := true) only [bk_94_5, bk_94_16, bk_94_23, bk_94_24, ct_Realm_isState, ct_House_hasBit, up2_ne, up2_sn, up2_ss, ne_eq, tl_some, tl_none, zb_0, zb_1, zb_bi, true_and, bi_eq, bi_ne, oz_f, zz_t, if_true, if_false, not_true_eq_false, not_false_eq_true]
  all_goals grind (splits := 40) [bi]
theorem ct_Realm_allLands  : sm_wp X 102 0 [some (.ref 1)] [] (sM mo G I J) Q = (Q (some (.int (((1 : Int32) <<< ((I 1 0) &&& 31)) - 1))) (sM mo G I J)) := by
  rw [bk_102_0]
  simp (decide := true) only [up2_ne, up2_sn, up2_ss, ne_eq, tl_some, tl_none, zb_0, zb_1, zb_bi, true_and, bi_eq, bi_ne, oz_f, zz_t, if_true, if_false, not_true_eq_false, not_false_eq_true]
  all_goals grind (splits := 40) [bi]
theorem ct_Realm_soulsOf (x : Int32) : sm_wp X 117 0 [some (.ref 1), some (.int x)] [] (sM mo G I J) Q = (Q (some (.int (aLand I 2 0 x))) (sM mo G I J)) := by
  rw [bk_117_0]
  simp (decide := true) only [bk_117_5, bk_117_17, bk_117_18, ct_Realm_isLand, up2_ne, up2_sn, up2_ss, ne_eq, tl_some, tl_none, zb_0, zb_1, zb_bi, true_and, bi_eq, bi_ne, oz_f, zz_t, if_true, if_false, not_true_eq_false, not_false_eq_true]
  all_goals grind (splits := 40) [bi, vp_12, aLand]
theorem ct_Realm_holderOf (x : Int32) : sm_wp X 95 0 [some (.ref 1), some (.int x)] [] (sM mo G I J) Q = (Q (some (.int (aLand I 4 (-1) x))) (sM mo G I J)) := by
  rw [bk_95_0]
  simp (decide := true) only [bk_95_5, bk_95_17, bk_95_18, ct_Realm_isLand, up2_ne, up2_sn, up2_ss, ne_eq, tl_some, tl_none, zb_0, zb_1, zb_bi, true_and, bi_eq, bi_ne, oz_f, zz_t, if_true, if_false, not_true_eq_false, not_false_eq_true]
  all_goals grind (splits := 40) [bi, vp_12, aLand]
theorem ct_Realm_claimsOf (x : Int32) : sm_wp X 98 0 [some (.ref 1), some (.int x)] [] (sM mo G I J) Q = (Q (some (.int (aLand I 5 0 x))) (sM mo G I J)) := by
  rw [bk_98_0]
  simp (decide := true) only [bk_98_5, bk_98_17, bk_98_18, ct_Realm_isLand, up2_ne, up2_sn, up2_ss, ne_eq, tl_some, tl_none, zb_0, zb_1, zb_bi, true_and, bi_eq, bi_ne, oz_f, zz_t, if_true, if_false, not_true_eq_false, not_false_eq_true]
  all_goals grind (splits := 40) [bi, vp_12, aLand]
theorem ct_Realm_wayLengthOf (x : Int32) : sm_wp X 96 0 [some (.ref 1), some (.int x)] [] (sM mo G I J) Q = (Q (some (.int (aLand I 6 0 x))) (sM mo G I J)) := by
  rw [bk_96_0]
  simp (decide := true) only [bk_96_5, bk_96_17, bk_96_18, ct_Realm_isLand, up2_ne, up2_sn, up2_ss, ne_eq, tl_some, tl_none, zb_0, zb_1, zb_bi, true_and, bi_eq, bi_ne, oz_f, zz_t, if_true, if_false, not_true_eq_false, not_false_eq_true]
  all_goals grind (splits := 40) [bi, vp_12, aLand]
theorem ct_Realm_rankOf (x : Int32) : sm_wp X 109 0 [some (.ref 1), some (.int x)] [] (sM mo G I J) Q = (Q (some (.int (aState I 10 0 x))) (sM mo G I J)) := by
  rw [bk_109_0]
  simp (decide := true) only [bk_109_5, bk_109_17, bk_109_18, ct_Realm_isState, up2_ne, up2_sn, up2_ss, ne_eq, tl_some, tl_none, zb_0, zb_1, zb_bi, true_and, bi_eq, bi_ne, oz_f, zz_t, if_true, if_false, not_true_eq_false, not_false_eq_true]
  all_goals grind (splits := 40) [bi, vp_6, aState]
theorem ct_Realm_homeOf (x : Int32) : sm_wp X 110 0 [some (.ref 1), some (.int x)] [] (sM mo G I J) Q = (Q (some (.int (aState I 11 0 x))) (sM mo G I J)) := by
  rw [bk_110_0]
  simp (decide := true) only [bk_110_5, bk_110_17, bk_110_18, ct_Realm_isState, up2_ne, up2_sn, up2_ss, ne_eq, tl_some, tl_none, zb_0, zb_1, zb_bi, true_and, bi_eq, bi_ne, oz_f, zz_t, if_true, if_false, not_true_eq_false, not_false_eq_true]
  all_goals grind (splits := 40) [bi, vp_6, aState]
theorem ct_Realm_boundOf (x : Int32) : sm_wp X 108 0 [some (.ref 1), some (.int x)] [] (sM mo G I J) Q = (Q (some (.int (aState I 12 0 x))) (sM mo G I J)) := by
  rw [bk_108_0]
  simp (decide := true) only [bk_108_5, bk_108_17, bk_108_18, ct_Realm_isState, up2_ne, up2_sn, up2_ss, ne_eq, tl_some, tl_none, zb_0, zb_1, zb_bi, true_and, bi_eq, bi_ne, oz_f, zz_t, if_true, if_false, not_true_eq_false, not_false_eq_true]
  all_goals grind (splits := 40) [bi, vp_6, aState]
theorem ct_Realm_worthOf (x : Int32) (y : Int32) : sm_wp X 104 0 [some (.ref 1), some (.int x), some (.int y)] [] (sM mo G I J) Q = (Q (some (.int (wof (I 13) x y))) (sM mo G I J)) := by
  rw [bk_104_0]
  simp (decide := true) only [bk_104_20, bk_104_22, up2_ne, up2_sn, up2_ss, ne_eq, tl_some, tl_none, zb_0, zb_1, zb_bi, true_and, bi_eq, bi_ne, oz_f, zz_t, if_true, if_false, not_true_eq_false, not_false_eq_true]
  all_goals grind (splits := 40) [bi, wof, vp_72]
theorem ct_Pap_isFull  : sm_wp X 64 0 [some (.ref 31)] [] (sM mo G I J) Q = (Q (some (.int (bi (60 ≤ I 31 0)))) (sM mo G I J)) := by
  rw [bk_64_0]
  simp (decide := true) only [bk_64_13, bk_64_14, up2_ne, up2_sn, up2_ss, ne_eq, tl_some, tl_none, zb_0, zb_1, zb_bi, true_and, bi_eq, bi_ne, oz_f, zz_t, if_true, if_false, not_true_eq_false, not_false_eq_true]
  all_goals grind (splits := 40) [bi]
theorem ct_Pap_isPaper (x : Int32) : sm_wp X 66 0 [some (.ref 31), some (.int x)] [] (sM mo G I J) Q = (Q (some (.int (bi (hPap I x)))) (sM mo G I J)) := by
  rw [bk_66_0]
  simp (decide := true) only [bk_66_22, bk_66_23, up2_ne, up2_sn, up2_ss, ne_eq, tl_some, tl_none, zb_0, zb_1, zb_bi, true_and, bi_eq, bi_ne, oz_f, zz_t, if_true, if_false, not_true_eq_false, not_false_eq_true]
  all_goals grind (splits := 40) [bi]
theorem ct_Pap_isOffer (x : Int32) : sm_wp X 65 0 [some (.ref 31), some (.int x)] [] (sM mo G I J) Q = (Q (some (.int (bi (hPap I x ∧ ¬ I 42 (x.toNatClampNeg) = -1)))) (sM mo G I J)) := by
  rw [bk_65_0]
  simp (decide := true) only [bk_65_5, bk_65_22, bk_65_23, ct_Pap_isPaper, up2_ne, up2_sn, up2_ss, ne_eq, tl_some, tl_none, zb_0, zb_1, zb_bi, true_and, bi_eq, bi_ne, oz_f, zz_t, if_true, if_false, not_true_eq_false, not_false_eq_true]
  all_goals grind (splits := 40) [bi, vp_60]
theorem ct_Pap_sender (x : Int32) : sm_wp X 72 0 [some (.ref 31), some (.int x)] [] (sM mo G I J) Q = (Q (some (.int (aPap I 32 (-1) x))) (sM mo G I J)) := by
  rw [bk_72_0]
  simp (decide := true) only [bk_72_5, bk_72_17, bk_72_18, ct_Pap_isPaper, up2_ne, up2_sn, up2_ss, ne_eq, tl_some, tl_none, zb_0, zb_1, zb_bi, true_and, bi_eq, bi_ne, oz_f, zz_t, if_true, if_false, not_true_eq_false, not_false_eq_true]
  all_goals grind (splits := 40) [bi, vp_60, aPap]
theorem ct_Pap_receiver (x : Int32) : sm_wp X 73 0 [some (.ref 31), some (.int x)] [] (sM mo G I J) Q = (Q (some (.int (aPap I 33 (-1) x))) (sM mo G I J)) := by
  rw [bk_73_0]
  simp (decide := true) only [bk_73_5, bk_73_17, bk_73_18, ct_Pap_isPaper, up2_ne, up2_sn, up2_ss, ne_eq, tl_some, tl_none, zb_0, zb_1, zb_bi, true_and, bi_eq, bi_ne, oz_f, zz_t, if_true, if_false, not_true_eq_false, not_false_eq_true]
  all_goals grind (splits := 40) [bi, vp_60, aPap]
theorem ct_Pap_givenBySender (x : Int32) : sm_wp X 75 0 [some (.ref 31), some (.int x)] [] (sM mo G I J) Q = (Q (some (.int (aPap I 37 0 x))) (sM mo G I J)) := by
  rw [bk_75_0]
  simp (decide := true) only [bk_75_5, bk_75_17, bk_75_18, ct_Pap_isPaper, up2_ne, up2_sn, up2_ss, ne_eq, tl_some, tl_none, zb_0, zb_1, zb_bi, true_and, bi_eq, bi_ne, oz_f, zz_t, if_true, if_false, not_true_eq_false, not_false_eq_true]
  all_goals grind (splits := 40) [bi, vp_60, aPap]
theorem ct_Pap_givenByReceiver (x : Int32) : sm_wp X 76 0 [some (.ref 31), some (.int x)] [] (sM mo G I J) Q = (Q (some (.int (aPap I 38 0 x))) (sM mo G I J)) := by
  rw [bk_76_0]
  simp (decide := true) only [bk_76_5, bk_76_17, bk_76_18, ct_Pap_isPaper, up2_ne, up2_sn, up2_ss, ne_eq, tl_some, tl_none, zb_0, zb_1, zb_bi, true_and, bi_eq, bi_ne, oz_f, zz_t, if_true, if_false, not_true_eq_false, not_false_eq_true]
  all_goals grind (splits := 40) [bi, vp_60, aPap]
theorem ct_Pap_lastDayOf (x : Int32) : sm_wp X 71 0 [some (.ref 31), some (.int x)] [] (sM mo G I J) Q = (Q (some (.int (aPap I 39 (-1) x))) (sM mo G I J)) := by
  rw [bk_71_0]
  simp (decide := true) only [bk_71_5, bk_71_17, bk_71_18, ct_Pap_isPaper, up2_ne, up2_sn, up2_ss, ne_eq, tl_some, tl_none, zb_0, zb_1, zb_bi, true_and, bi_eq, bi_ne, oz_f, zz_t, if_true, if_false, not_true_eq_false, not_false_eq_true]
  all_goals grind (splits := 40) [bi, vp_60, aPap]
theorem ct_Pap_answerDay (x : Int32) : sm_wp X 80 0 [some (.ref 31), some (.int x)] [] (sM mo G I J) Q = (Q (some (.int (aPap I 44 (-1) x))) (sM mo G I J)) := by
  rw [bk_80_0]
  simp (decide := true) only [bk_80_5, bk_80_17, bk_80_18, ct_Pap_isPaper, up2_ne, up2_sn, up2_ss, ne_eq, tl_some, tl_none, zb_0, zb_1, zb_bi, true_and, bi_eq, bi_ne, oz_f, zz_t, if_true, if_false, not_true_eq_false, not_false_eq_true]
  all_goals grind (splits := 40) [bi, vp_60, aPap]
theorem ct_Pap_standingOf (x : Int32) : sm_wp X 70 0 [some (.ref 31), some (.int x)] [] (sM mo G I J) Q = (Q (some (.int (aPap I 42 (-1) x))) (sM mo G I J)) := by
  rw [bk_70_0]
  simp (decide := true) only [bk_70_5, bk_70_17, bk_70_18, ct_Pap_isPaper, up2_ne, up2_sn, up2_ss, ne_eq, tl_some, tl_none, zb_0, zb_1, zb_bi, true_and, bi_eq, bi_ne, oz_f, zz_t, if_true, if_false, not_true_eq_false, not_false_eq_true]
  all_goals grind (splits := 40) [bi, vp_60, aPap]
theorem ct_Art_isArticle (x : Int32) : sm_wp X 2 0 [some (.ref 71), some (.int x)] [] (sM mo G I J) Q = (Q (some (.int (bi (hArt I x)))) (sM mo G I J)) := by
  rw [bk_2_0]
  simp (decide := true) only [bk_2_22, bk_2_23, up2_ne, up2_sn, up2_ss, ne_eq, tl_some, tl_none, zb_0, zb_1, zb_bi, true_and, bi_eq, bi_ne, oz_f, zz_t, if_true, if_false, not_true_eq_false, not_false_eq_true]
  all_goals grind (splits := 40) [bi]
def vf_Integer_bitCount (x : Int32) : Int32 := (((((((x - (((x.toUInt32 >>> ((1 : Int32).toUInt32 &&& Int32.toUInt32 31)).toInt32) &&& 1431655765)) &&& 858993459) + ((((x - (((x.toUInt32 >>> ((1 : Int32).toUInt32 &&& Int32.toUInt32 31)).toInt32) &&& 1431655765)).toUInt32 >>> ((2 : Int32).toUInt32 &&& Int32.toUInt32 31)).toInt32) &&& 858993459)) + (((((x - (((x.toUInt32 >>> ((1 : Int32).toUInt32 &&& Int32.toUInt32 31)).toInt32) &&& 1431655765)) &&& 858993459) + ((((x - (((x.toUInt32 >>> ((1 : Int32).toUInt32 &&& Int32.toUInt32 31)).toInt32) &&& 1431655765)).toUInt32 >>> ((2 : Int32).toUInt32 &&& Int32.toUInt32 31)).toInt32) &&& 858993459)).toUInt32 >>> ((4 : Int32).toUInt32 &&& Int32.toUInt32 31)).toInt32)) &&& 252645135) + (((((((x - (((x.toUInt32 >>> ((1 : Int32).toUInt32 &&& Int32.toUInt32 31)).toInt32) &&& 1431655765)) &&& 858993459) + ((((x - (((x.toUInt32 >>> ((1 : Int32).toUInt32 &&& Int32.toUInt32 31)).toInt32) &&& 1431655765)).toUInt32 >>> ((2 : Int32).toUInt32 &&& Int32.toUInt32 31)).toInt32) &&& 858993459)) + (((((x - (((x.toUInt32 >>> ((1 : Int32).toUInt32 &&& Int32.toUInt32 31)).toInt32) &&& 1431655765)) &&& 858993459) + ((((x - (((x.toUInt32 >>> ((1 : Int32).toUInt32 &&& Int32.toUInt32 31)).toInt32) &&& 1431655765)).toUInt32 >>> ((2 : Int32).toUInt32 &&& Int32.toUInt32 31)).toInt32) &&& 858993459)).toUInt32 >>> ((4 : Int32).toUInt32 &&& Int32.toUInt32 31)).toInt32)) &&& 252645135).toUInt32 >>> ((8 : Int32).toUInt32 &&& Int32.toUInt32 31)).toInt32)) + ((((((((x - (((x.toUInt32 >>> ((1 : Int32).toUInt32 &&& Int32.toUInt32 31)).toInt32) &&& 1431655765)) &&& 858993459) + ((((x - (((x.toUInt32 >>> ((1 : Int32).toUInt32 &&& Int32.toUInt32 31)).toInt32) &&& 1431655765)).toUInt32 >>> ((2 : Int32).toUInt32 &&& Int32.toUInt32 31)).toInt32) &&& 858993459)) + (((((x - (((x.toUInt32 >>> ((1 : Int32).toUInt32 &&& Int32.toUInt32 31)).toInt32) &&& 1431655765)) &&& 858993459) + ((((x - (((x.toUInt32 >>> ((1 : Int32).toUInt32 &&& Int32.toUInt32 31)).toInt32) &&& 1431655765)).toUInt32 >>> ((2 : Int32).toUInt32 &&& Int32.toUInt32 31)).toInt32) &&& 858993459)).toUInt32 >>> ((4 : Int32).toUInt32 &&& Int32.toUInt32 31)).toInt32)) &&& 252645135) + (((((((x - (((x.toUInt32 >>> ((1 : Int32).toUInt32 &&& Int32.toUInt32 31)).toInt32) &&& 1431655765)) &&& 858993459) + ((((x - (((x.toUInt32 >>> ((1 : Int32).toUInt32 &&& Int32.toUInt32 31)).toInt32) &&& 1431655765)).toUInt32 >>> ((2 : Int32).toUInt32 &&& Int32.toUInt32 31)).toInt32) &&& 858993459)) + (((((x - (((x.toUInt32 >>> ((1 : Int32).toUInt32 &&& Int32.toUInt32 31)).toInt32) &&& 1431655765)) &&& 858993459) + ((((x - (((x.toUInt32 >>> ((1 : Int32).toUInt32 &&& Int32.toUInt32 31)).toInt32) &&& 1431655765)).toUInt32 >>> ((2 : Int32).toUInt32 &&& Int32.toUInt32 31)).toInt32) &&& 858993459)).toUInt32 >>> ((4 : Int32).toUInt32 &&& Int32.toUInt32 31)).toInt32)) &&& 252645135).toUInt32 >>> ((8 : Int32).toUInt32 &&& Int32.toUInt32 31)).toInt32)).toUInt32 >>> ((16 : Int32).toUInt32 &&& Int32.toUInt32 31)).toInt32)) &&& 63
theorem ct_Integer_bitCount (x : Int32) : sm_wp X 314 0 [some (.int x)] [] (sM mo G I J) Q = (Q (some (.int (vf_Integer_bitCount x))) (sM mo G I J)) := by
  rw [bk_314_0]
  simp (decide := true) only [up2_ne, up2_sn, up2_ss, ne_eq, tl_some, tl_none, zb_0, zb_1, zb_bi, true_and, bi_eq, bi_ne, oz_f, zz_t, if_true, if_false, not_true_eq_false, not_false_eq_true]
  all_goals grind (splits := 40) [bi, vf_Integer_bitCount, vp_4, vp_6, vp_7, vp_8, vp_12, vp_15, vp_16, vp_20, vp_24, vp_48, vp_60, vp_64, vp_72, vp_80, vp_96, vp_144, vp_384, vp_400, vp_960]
abbrev vf_Realm_areNear (I : Nat → Nat → Int32) (x : Int32) (y : Int32) : Prop := (hLand I x) ∧ (hBit (I 3 (x.toNatClampNeg)) y)
theorem ct_Realm_areNear (x : Int32) (y : Int32) : sm_wp X 91 0 [some (.ref 1), some (.int x), some (.int y)] [] (sM mo G I J) Q = (Q (some (.int (bi (vf_Realm_areNear I x y)))) (sM mo G I J)) := by
  rw [bk_91_0]
  simp (decide := true) only [bk_91_5, bk_91_18, bk_91_25, bk_91_26, ct_Realm_isLand, ct_House_hasBit, up2_ne, up2_sn, up2_ss, ne_eq, tl_some, tl_none, zb_0, zb_1, zb_bi, true_and, bi_eq, bi_ne, oz_f, zz_t, if_true, if_false, not_true_eq_false, not_false_eq_true]
  all_goals grind (splits := 40) [bi, vp_4, vp_6, vp_7, vp_8, vp_12, vp_15, vp_16, vp_20, vp_24, vp_48, vp_60, vp_64, vp_72, vp_80, vp_96, vp_144, vp_384, vp_400, vp_960]
abbrev vf_Realm_isDisputed (I : Nat → Nat → Int32) (x : Int32) (y : Int32) : Prop := ¬ (vf_Integer_bitCount ((aLand I 5 0 x) &&& y) < 2)
theorem ct_Realm_isDisputed (x : Int32) (y : Int32) : sm_wp X 113 0 [some (.ref 1), some (.int x), some (.int y)] [] (sM mo G I J) Q = (Q (some (.int (bi (vf_Realm_isDisputed I x y)))) (sM mo G I J)) := by
  rw [bk_113_0]
  simp (decide := true) only [bk_113_5, bk_113_10, bk_113_18, bk_113_19, ct_Realm_claimsOf, ct_Integer_bitCount, up2_ne, up2_sn, up2_ss, ne_eq, tl_some, tl_none, zb_0, zb_1, zb_bi, true_and, bi_eq, bi_ne, oz_f, zz_t, if_true, if_false, not_true_eq_false, not_false_eq_true]
  all_goals grind (splits := 40) [bi, vp_4, vp_6, vp_7, vp_8, vp_12, vp_15, vp_16, vp_20, vp_24, vp_48, vp_60, vp_64, vp_72, vp_80, vp_96, vp_144, vp_384, vp_400, vp_960]
theorem ct_Realm_setClaims (x : Int32) (y : Int32) : sm_wp X 99 0 [some (.ref 1), some (.int x), some (.int y)] [] (sM mo G I J) Q = (if ¬ (hLand I x) then (Q none (sM mo G I J)) else (vp_in x 12 ∧ (Q none (sM mo G (up2 (up2 I 5 x.toNatClampNeg y) 1 4 ((I 1 4) + 1)) J)))) := by
  rw [bk_99_0]
  simp (decide := true) only [bk_99_5, bk_99_25, ct_Realm_isLand, up2_ne, up2_sn, up2_ss, ne_eq, tl_some, tl_none, zb_0, zb_1, zb_bi, true_and, bi_eq, bi_ne, oz_f, zz_t, if_true, if_false, not_true_eq_false, not_false_eq_true]
  all_goals grind (splits := 40) [bi]
theorem ct_Realm_setBound (x : Int32) (y : Int32) : sm_wp X 101 0 [some (.ref 1), some (.int x), some (.int y)] [] (sM mo G I J) Q = (if ¬ (hState I x) then (Q none (sM mo G I J)) else (vp_in x 6 ∧ (Q none (sM mo G (up2 (up2 I 12 x.toNatClampNeg y) 1 4 ((I 1 4) + 1)) J)))) := by
  rw [bk_101_0]
  simp (decide := true) only [bk_101_5, bk_101_25, ct_Realm_isState, up2_ne, up2_sn, up2_ss, ne_eq, tl_some, tl_none, zb_0, zb_1, zb_bi, true_and, bi_eq, bi_ne, oz_f, zz_t, if_true, if_false, not_true_eq_false, not_false_eq_true]
  all_goals grind (splits := 40) [bi]
theorem ct_Realm_setWorth (x : Int32) (y : Int32) (z : Int32) : sm_wp X 100 0 [some (.ref 1), some (.int x), some (.int y), some (.int z)] [] (sM mo G I J) Q = (if ¬ (hState I x) then (Q none (sM mo G I J)) else (if ¬ (hLand I y) then (Q none (sM mo G I J)) else (vp_in ((x * 12) + y) 72 ∧ (Q none (sM mo G (up2 (up2 I 13 ((x * 12) + y).toNatClampNeg z) 1 4 ((I 1 4) + 1)) J))))) := by
  rw [bk_100_0]
  simp (decide := true) only [bk_100_5, bk_100_13, bk_100_38, ct_Realm_isState, ct_Realm_isLand, up2_ne, up2_sn, up2_ss, ne_eq, tl_some, tl_none, zb_0, zb_1, zb_bi, true_and, bi_eq, bi_ne, oz_f, zz_t, if_true, if_false, not_true_eq_false, not_false_eq_true]
  all_goals grind (splits := 40) [bi]
theorem ct_Realm_addLand (x : Int32) : sm_wp X 89 0 [some (.ref 1), some (.int x)] [] (sM mo G I J) Q = (if I 1 0 < 12 then (vp_in (I 1 0) 12 ∧ (Q (some (.int (((I 1 0) + 1) - 1))) (sM mo G (up2 (up2 (up2 (up2 I 2 (I 1 0).toNatClampNeg x) 4 (I 1 0).toNatClampNeg (-1)) 1 0 ((I 1 0) + 1)) 1 4 ((I 1 4) + 1)) J))) else (Q (some (.int (-1))) (sM mo G I J))) := by
  rw [bk_89_0]
  simp (decide := true) only [bk_89_11, up2_ne, up2_sn, up2_ss, ne_eq, tl_some, tl_none, zb_0, zb_1, zb_bi, true_and, bi_eq, bi_ne, oz_f, zz_t, if_true, if_false, not_true_eq_false, not_false_eq_true]
  all_goals grind (splits := 40) [bi]
theorem ct_Realm_addState (x : Int32) (y : Int32) : sm_wp X 93 0 [some (.ref 1), some (.int x), some (.int y)] [] (sM mo G I J) Q = (if I 1 1 < 6 then (vp_in (I 1 1) 6 ∧ (Q (some (.int (((I 1 1) + 1) - 1))) (sM mo G (up2 (up2 (up2 (up2 (up2 I 10 (I 1 1).toNatClampNeg x) 11 (I 1 1).toNatClampNeg y) 1 2 ((I 1 2) ||| ((1 : Int32) <<< ((I 1 1) &&& 31)))) 1 1 ((I 1 1) + 1)) 1 4 ((I 1 4) + 1)) J))) else (Q (some (.int (-1))) (sM mo G I J))) := by
  rw [bk_93_0]
  simp (decide := true) only [bk_93_11, up2_ne, up2_sn, up2_ss, ne_eq, tl_some, tl_none, zb_0, zb_1, zb_bi, true_and, bi_eq, bi_ne, oz_f, zz_t, if_true, if_false, not_true_eq_false, not_false_eq_true]
  all_goals grind (splits := 40) [bi]
theorem ct_Realm_removeState (x : Int32) : sm_wp X 114 0 [some (.ref 1), some (.int x)] [] (sM mo G I J) Q = (if ¬ (hState I x) then (Q none (sM mo G I J)) else (Q none (sM mo G (up2 (up2 I 1 2 ((I 1 2) &&& (((1 : Int32) <<< (x &&& 31)) ^^^ (-1)))) 1 4 ((I 1 4) + 1)) J))) := by
  rw [bk_114_0]
  simp (decide := true) only [bk_114_5, bk_114_32, ct_Realm_isState, up2_ne, up2_sn, up2_ss, ne_eq, tl_some, tl_none, zb_0, zb_1, zb_bi, true_and, bi_eq, bi_ne, oz_f, zz_t, if_true, if_false, not_true_eq_false, not_false_eq_true]
  all_goals grind (splits := 40) [bi]
theorem ct_Realm_makeNear (x : Int32) (y : Int32) : sm_wp X 92 0 [some (.ref 1), some (.int x), some (.int y)] [] (sM mo G I J) Q = (if ¬ (hLand I x) then (Q none (sM mo G I J)) else (if ¬ (hLand I y) then (Q none (sM mo G I J)) else (vp_in x 12 ∧ (vp_in y 12 ∧ (Q none (sM mo G (up2 (up2 I 3 x.toNatClampNeg ((I 3 (x.toNatClampNeg)) ||| ((1 : Int32) <<< (y &&& 31)))) 3 y.toNatClampNeg (((up2 I 3 x.toNatClampNeg ((I 3 (x.toNatClampNeg)) ||| ((1 : Int32) <<< (y &&& 31)))) 3 (y.toNatClampNeg)) ||| ((1 : Int32) <<< (x &&& 31)))) J)))))) := by
  rw [bk_92_0]
  simp (decide := true) only [bk_92_5, bk_92_13, bk_92_40, ct_Realm_isLand, up2_ne, up2_sn, up2_ss, ne_eq, tl_some, tl_none, zb_0, zb_1, zb_bi, true_and, bi_eq, bi_ne, oz_f, zz_t, if_true, if_false, not_true_eq_false, not_false_eq_true]
  all_goals grind (splits := 40) [bi]
theorem ct_Realm_giveLand (x : Int32) (y : Int32) (z : Int32) : sm_wp X 97 0 [some (.ref 1), some (.int x), some (.int y), some (.int z), none, none] [] (sM mo G I J) Q = (if (hLand I x) then (vp_in x 12 ∧ (if I 6 (x.toNatClampNeg) < 0 then (Q none (sM mo G (up2 (up2 I 4 x.toNatClampNeg y) 1 4 ((I 1 4) + 1)) J)) else (if 80 ≤ I 6 (x.toNatClampNeg) then (Q none (sM mo G (up2 (up2 I 4 x.toNatClampNeg y) 1 4 ((I 1 4) + 1)) J)) else (vp_in ((x * 80) + (I 6 (x.toNatClampNeg))) 960 ∧ (Q none (sM mo G (up2 (up2 (up2 (up2 (up2 (up2 I 7 ((x * 80) + (I 6 (x.toNatClampNeg))).toNatClampNeg y) 8 ((x * 80) + (I 6 (x.toNatClampNeg))).toNatClampNeg (I 1 3)) 9 ((x * 80) + (I 6 (x.toNatClampNeg))).toNatClampNeg z) 6 x.toNatClampNeg ((I 6 (x.toNatClampNeg)) + 1)) 4 x.toNatClampNeg y) 1 4 ((I 1 4) + 1)) J)))))) else (Q none (sM mo G I J))) := by
  rw [bk_97_0]
  simp (decide := true) only [bk_97_5, bk_97_9, bk_97_75, ct_Realm_isLand, up2_ne, up2_sn, up2_ss, ne_eq, tl_some, tl_none, zb_0, zb_1, zb_bi, true_and, bi_eq, bi_ne, oz_f, zz_t, if_true, if_false, not_true_eq_false, not_false_eq_true]
  all_goals grind (splits := 40) [bi]
theorem ct_Realm_tellWay (x : Int32) (y : Int32) (z : Int32) : sm_wp X 115 0 [some (.ref 1), some (.int x), some (.int y), some (.int z), none] [] (sM mo G I J) Q = (if ¬ (hLand I x) then (Q (some (.int (-2))) (sM mo G I J)) else (if y < 0 then (Q (some (.int (-2))) (sM mo G I J)) else (vp_in x 12 ∧ (if I 6 (x.toNatClampNeg) ≤ y then (Q (some (.int (-2))) (sM mo G I J)) else (if y < 80 then (if z = 0 then (vp_in ((x * 80) + y) 960 ∧ (Q (some (.int (I 7 (((x * 80) + y).toNatClampNeg)))) (sM mo G I J))) else (if z = 1 then (vp_in ((x * 80) + y) 960 ∧ (Q (some (.int (I 8 (((x * 80) + y).toNatClampNeg)))) (sM mo G I J))) else (if z = 2 then (vp_in ((x * 80) + y) 960 ∧ (Q (some (.int (I 9 (((x * 80) + y).toNatClampNeg)))) (sM mo G I J))) else (Q (some (.int (-2))) (sM mo G I J))))) else (Q (some (.int (-2))) (sM mo G I J))))))) := by
  rw [bk_115_0]
  simp (decide := true) only [bk_115_5, bk_115_28, bk_115_31, bk_115_68, bk_115_76, bk_115_84, bk_115_92, ct_Realm_isLand, up2_ne, up2_sn, up2_ss, ne_eq, tl_some, tl_none, zb_0, zb_1, zb_bi, true_and, bi_eq, bi_ne, oz_f, zz_t, if_true, if_false, not_true_eq_false, not_false_eq_true]
  all_goals grind (splits := 40) [bi]
abbrev vf_Pap_isLinked (I : Nat → Nat → Int32) (x : Int32) : Prop := (hPap I x) ∧ (¬ (I 40 (x.toNatClampNeg) = (-1)))
theorem ct_Pap_isLinked (x : Int32) : sm_wp X 77 0 [some (.ref 31), some (.int x)] [] (sM mo G I J) Q = (Q (some (.int (bi (vf_Pap_isLinked I x)))) (sM mo G I J)) := by
  rw [bk_77_0]
  simp (decide := true) only [bk_77_5, bk_77_22, bk_77_23, ct_Pap_isPaper, up2_ne, up2_sn, up2_ss, ne_eq, tl_some, tl_none, zb_0, zb_1, zb_bi, true_and, bi_eq, bi_ne, oz_f, zz_t, if_true, if_false, not_true_eq_false, not_false_eq_true]
  all_goals grind (splits := 40) [bi, vp_4, vp_6, vp_7, vp_8, vp_12, vp_15, vp_16, vp_20, vp_24, vp_48, vp_60, vp_64, vp_72, vp_80, vp_96, vp_144, vp_384, vp_400, vp_960]
abbrev vf_Pap_inOneChain (I : Nat → Nat → Int32) (x : Int32) (y : Int32) : Prop := (hPap I x) ∧ ((hPap I y) ∧ ((I 41 (x.toNatClampNeg) = I 41 (y.toNatClampNeg)) ∧ (¬ (I 41 (x.toNatClampNeg) = (-1)))))
theorem ct_Pap_inOneChain (x : Int32) (y : Int32) : sm_wp X 81 0 [some (.ref 31), some (.int x), some (.int y)] [] (sM mo G I J) Q = (Q (some (.int (bi (vf_Pap_inOneChain I x y)))) (sM mo G I J)) := by
  rw [bk_81_0]
  simp (decide := true) only [bk_81_5, bk_81_13, bk_81_45, bk_81_46, ct_Pap_isPaper, up2_ne, up2_sn, up2_ss, ne_eq, tl_some, tl_none, zb_0, zb_1, zb_bi, true_and, bi_eq, bi_ne, oz_f, zz_t, if_true, if_false, not_true_eq_false, not_false_eq_true]
  all_goals grind (splits := 40) [bi, vp_4, vp_6, vp_7, vp_8, vp_12, vp_15, vp_16, vp_20, vp_24, vp_48, vp_60, vp_64, vp_72, vp_80, vp_96, vp_144, vp_384, vp_400, vp_960]
abbrev vf_Pap_isUnended (I : Nat → Nat → Int32) (x : Int32) : Prop := (aPap I 42 (-1) x = 0) ∨ ((aPap I 42 (-1) x = 1) ∨ (aPap I 42 (-1) x = 2))
theorem ct_Pap_isUnended (x : Int32) : sm_wp X 82 0 [some (.ref 31), some (.int x), none] [] (sM mo G I J) Q = (Q (some (.int (bi (vf_Pap_isUnended I x)))) (sM mo G I J)) := by
  rw [bk_82_0]
  simp (decide := true) only [bk_82_5, bk_82_20, bk_82_24, bk_82_25, ct_Pap_standingOf, up2_ne, up2_sn, up2_ss, ne_eq, tl_some, tl_none, zb_0, zb_1, zb_bi, true_and, bi_eq, bi_ne, oz_f, zz_t, if_true, if_false, not_true_eq_false, not_false_eq_true]
  all_goals grind (splits := 40) [bi, vp_4, vp_6, vp_7, vp_8, vp_12, vp_15, vp_16, vp_20, vp_24, vp_48, vp_60, vp_64, vp_72, vp_80, vp_96, vp_144, vp_384, vp_400, vp_960]
def vf_Pap_knownDay (I : Nat → Nat → Int32) (x : Int32) (y : Int32) : Int32 := if (hPap I x) then (if I 32 (x.toNatClampNeg) = y then (I 34 (x.toNatClampNeg)) else (if ¬ I 33 (x.toNatClampNeg) = y then (if ¬ (hBit (I 36 (x.toNatClampNeg)) y) then (-1) else ((I 34 (x.toNatClampNeg)) + 1)) else (I 34 (x.toNatClampNeg)))) else (-1)
theorem ct_Pap_knownDay (x : Int32) (y : Int32) : sm_wp X 84 0 [some (.ref 31), some (.int x), some (.int y)] [] (sM mo G I J) Q = (Q (some (.int (vf_Pap_knownDay I x y))) (sM mo G I J)) := by
  rw [bk_84_0]
  simp (decide := true) only [bk_84_5, bk_84_10, bk_84_30, bk_84_37, bk_84_47, bk_84_61, bk_84_62, ct_Pap_isPaper, ct_House_hasBit, up2_ne, up2_sn, up2_ss, ne_eq, tl_some, tl_none, zb_0, zb_1, zb_bi, true_and, bi_eq, bi_ne, oz_f, zz_t, if_true, if_false, not_true_eq_false, not_false_eq_true]
  all_goals grind (splits := 40) [bi, vf_Pap_knownDay, vp_4, vp_6, vp_7, vp_8, vp_12, vp_15, vp_16, vp_20, vp_24, vp_48, vp_60, vp_64, vp_72, vp_80, vp_96, vp_144, vp_384, vp_400, vp_960]
theorem ct_Pap_addPaper (x : Int32) (y : Int32) (z : Int32) : sm_wp X 67 0 [some (.ref 31), some (.int x), some (.int y), some (.int z)] [] (sM mo G I J) Q = (if ¬ (60 ≤ I 31 0) then (vp_in (I 31 0) 60 ∧ (Q (some (.int (((I 31 0) + 1) - 1))) (sM mo G (up2 (up2 (up2 (up2 (up2 (up2 (up2 (up2 (up2 I 32 (I 31 0).toNatClampNeg x) 33 (I 31 0).toNatClampNeg y) 34 (I 31 0).toNatClampNeg z) 40 (I 31 0).toNatClampNeg (-1)) 41 (I 31 0).toNatClampNeg (-1)) 42 (I 31 0).toNatClampNeg (-1)) 43 (I 31 0).toNatClampNeg (-1)) 44 (I 31 0).toNatClampNeg (-1)) 31 0 ((I 31 0) + 1)) J))) else (Q (some (.int (-1))) (sM mo G I J))) := by
  rw [bk_67_0]
  simp (decide := true) only [bk_67_4, bk_67_9, ct_Pap_isFull, up2_ne, up2_sn, up2_ss, ne_eq, tl_some, tl_none, zb_0, zb_1, zb_bi, true_and, bi_eq, bi_ne, oz_f, zz_t, if_true, if_false, not_true_eq_false, not_false_eq_true]
  all_goals grind (splits := 40) [bi]
theorem ct_Pap_makeNote (x : Int32) (y : Int32) (z : Int32) : sm_wp X 69 0 [some (.ref 31), some (.int x), some (.int y), some (.int z)] [] (sM mo G I J) Q = (if ¬ (hPap I x) then (Q none (sM mo G I J)) else (vp_in x 60 ∧ (Q none (sM mo G (up2 (up2 I 35 x.toNatClampNeg y) 36 x.toNatClampNeg z) J)))) := by
  rw [bk_69_0]
  simp (decide := true) only [bk_69_5, bk_69_22, ct_Pap_isPaper, up2_ne, up2_sn, up2_ss, ne_eq, tl_some, tl_none, zb_0, zb_1, zb_bi, true_and, bi_eq, bi_ne, oz_f, zz_t, if_true, if_false, not_true_eq_false, not_false_eq_true]
  all_goals grind (splits := 40) [bi]
theorem ct_Pap_makeOffer (x : Int32) (y : Int32) (z : Int32) (u : Int32) (v : Int32) : sm_wp X 68 0 [some (.ref 31), some (.int x), some (.int y), some (.int z), some (.int u), some (.int v)] [] (sM mo G I J) Q = (if ¬ (hPap I x) then (Q none (sM mo G I J)) else (vp_in x 60 ∧ (if ¬ (hPap (up2 (up2 (up2 (up2 I 37 x.toNatClampNeg y) 38 x.toNatClampNeg z) 39 x.toNatClampNeg u) 40 x.toNatClampNeg v) v) then (Q none (sM mo G (up2 (up2 (up2 (up2 (up2 (up2 I 37 x.toNatClampNeg y) 38 x.toNatClampNeg z) 39 x.toNatClampNeg u) 40 x.toNatClampNeg v) 41 x.toNatClampNeg x) 42 x.toNatClampNeg 0) J)) else (vp_in v 60 ∧ (Q none (sM mo G (up2 (up2 (up2 (up2 (up2 (up2 I 37 x.toNatClampNeg y) 38 x.toNatClampNeg z) 39 x.toNatClampNeg u) 40 x.toNatClampNeg v) 41 x.toNatClampNeg (I 41 (v.toNatClampNeg))) 42 x.toNatClampNeg 0) J)))))) := by
  rw [bk_68_0]
  simp (decide := true) only [bk_68_5, bk_68_49, bk_68_62, bk_68_63, bk_68_71, ct_Pap_isPaper, up2_ne, up2_sn, up2_ss, ne_eq, tl_some, tl_none, zb_0, zb_1, zb_bi, true_and, bi_eq, bi_ne, oz_f, zz_t, if_true, if_false, not_true_eq_false, not_false_eq_true]
  all_goals grind (splits := 40) [bi]
theorem ct_Pap_setStanding (x : Int32) (y : Int32) : sm_wp X 74 0 [some (.ref 31), some (.int x), some (.int y)] [] (sM mo G I J) Q = (if ¬ (hPap I x) then (Q none (sM mo G I J)) else (vp_in x 60 ∧ (Q none (sM mo G (up2 I 42 x.toNatClampNeg y) J)))) := by
  rw [bk_74_0]
  simp (decide := true) only [bk_74_5, bk_74_15, ct_Pap_isPaper, up2_ne, up2_sn, up2_ss, ne_eq, tl_some, tl_none, zb_0, zb_1, zb_bi, true_and, bi_eq, bi_ne, oz_f, zz_t, if_true, if_false, not_true_eq_false, not_false_eq_true]
  all_goals grind (splits := 40) [bi]
theorem ct_Pap_setLine (x : Int32) (y : Int32) : sm_wp X 78 0 [some (.ref 31), some (.int x), some (.int y)] [] (sM mo G I J) Q = (if ¬ (hPap I x) then (Q none (sM mo G I J)) else (vp_in x 60 ∧ (Q none (sM mo G (up2 I 43 x.toNatClampNeg y) J)))) := by
  rw [bk_78_0]
  simp (decide := true) only [bk_78_5, bk_78_15, ct_Pap_isPaper, up2_ne, up2_sn, up2_ss, ne_eq, tl_some, tl_none, zb_0, zb_1, zb_bi, true_and, bi_eq, bi_ne, oz_f, zz_t, if_true, if_false, not_true_eq_false, not_false_eq_true]
  all_goals grind (splits := 40) [bi]
theorem ct_Pap_setAnswerDay (x : Int32) (y : Int32) : sm_wp X 79 0 [some (.ref 31), some (.int x), some (.int y)] [] (sM mo G I J) Q = (if ¬ (hPap I x) then (Q none (sM mo G I J)) else (vp_in x 60 ∧ (Q none (sM mo G (up2 I 44 x.toNatClampNeg y) J)))) := by
  rw [bk_79_0]
  simp (decide := true) only [bk_79_5, bk_79_15, ct_Pap_isPaper, up2_ne, up2_sn, up2_ss, ne_eq, tl_some, tl_none, zb_0, zb_1, zb_bi, true_and, bi_eq, bi_ne, oz_f, zz_t, if_true, if_false, not_true_eq_false, not_false_eq_true]
  all_goals grind (splits := 40) [bi]
theorem ct_Pap_tell (x : Int32) (y : Int32) : sm_wp X 83 0 [some (.ref 31), some (.int x), some (.int y)] [] (sM mo G I J) Q = (if (hPap I x) then (if y = 0 then (if ¬ (hPap I x ∧ ¬ I 42 (x.toNatClampNeg) = -1) then (Q (some (.int 1)) (sM mo G I J)) else (Q (some (.int 0)) (sM mo G I J))) else (if y = 1 then (vp_in x 60 ∧ (Q (some (.int (I 34 (x.toNatClampNeg)))) (sM mo G I J))) else (if y = 2 then (vp_in x 60 ∧ (Q (some (.int (I 42 (x.toNatClampNeg)))) (sM mo G I J))) else (if y = 3 then (vp_in x 60 ∧ (Q (some (.int (I 43 (x.toNatClampNeg)))) (sM mo G I J))) else (if y = 4 then (vp_in x 60 ∧ (Q (some (.int (I 32 (x.toNatClampNeg)))) (sM mo G I J))) else (if y = 5 then (vp_in x 60 ∧ (Q (some (.int (I 33 (x.toNatClampNeg)))) (sM mo G I J))) else (if y = 6 then (vp_in x 60 ∧ (Q (some (.int (I 44 (x.toNatClampNeg)))) (sM mo G I J))) else (Q (some (.int (-2))) (sM mo G I J))))))))) else (Q (some (.int (-2))) (sM mo G I J))) := by
  rw [bk_83_0]
  simp (decide := true) only [bk_83_5, bk_83_11, bk_83_56, bk_83_61, bk_83_68, bk_83_69, bk_83_70, bk_83_77, bk_83_84, bk_83_91, bk_83_98, bk_83_105, bk_83_112, ct_Pap_isPaper, ct_Pap_isOffer, up2_ne, up2_sn, up2_ss, ne_eq, tl_some, tl_none, zb_0, zb_1, zb_bi, true_and, bi_eq, bi_ne, oz_f, zz_t, if_true, if_false, not_true_eq_false, not_false_eq_true]
  all_goals grind (splits := 40) [bi]
theorem ct_Spy_addSpy (x : Int32) (y : Int32) (z : Int32) (u : Int32) : sm_wp X 152 0 [some (.ref 26), some (.int x), some (.int y), some (.int z), some (.int u)] [] (sM mo G I J) Q = (if I 26 0 < 20 then (vp_in (I 26 0) 20 ∧ (Q (some (.int 1)) (sM mo G (up2 (up2 (up2 (up2 (up2 I 27 (I 26 0).toNatClampNeg x) 28 (I 26 0).toNatClampNeg y) 29 (I 26 0).toNatClampNeg z) 30 (I 26 0).toNatClampNeg u) 26 0 ((I 26 0) + 1)) J))) else (Q (some (.int 0)) (sM mo G I J))) := by
  rw [bk_152_0]
  simp (decide := true) only [bk_152_11, up2_ne, up2_sn, up2_ss, ne_eq, tl_some, tl_none, zb_0, zb_1, zb_bi, true_and, bi_eq, bi_ne, oz_f, zz_t, if_true, if_false, not_true_eq_false, not_false_eq_true]
  all_goals grind (splits := 40) [bi]
def vf_Book_linesOf (I : Nat → Nat → Int32) (x : Int32) : Int32 := if x < 0 then 0 else (if 6 ≤ x then 0 else (I 22 (x.toNatClampNeg)))
theorem ct_Book_linesOf (x : Int32) : sm_wp X 41 0 [some (.ref 21), some (.int x)] [] (sM mo G I J) Q = (Q (some (.int (vf_Book_linesOf I x))) (sM mo G I J)) := by
  rw [bk_41_0]
  simp (decide := true) only [bk_41_19, bk_41_20, up2_ne, up2_sn, up2_ss, ne_eq, tl_some, tl_none, zb_0, zb_1, zb_bi, true_and, bi_eq, bi_ne, oz_f, zz_t, if_true, if_false, not_true_eq_false, not_false_eq_true]
  all_goals grind (splits := 40) [bi, vf_Book_linesOf, vp_4, vp_6, vp_7, vp_8, vp_12, vp_15, vp_16, vp_20, vp_24, vp_48, vp_60, vp_64, vp_72, vp_80, vp_96, vp_144, vp_384, vp_400, vp_960]
abbrev vf_Book_isLine (I : Nat → Nat → Int32) (x : Int32) (y : Int32) : Prop := (¬ (y < 0)) ∧ ((¬ (16 ≤ y)) ∧ (¬ (vf_Book_linesOf I x ≤ y)))
theorem ct_Book_isLine (x : Int32) (y : Int32) : sm_wp X 43 0 [some (.ref 21), some (.int x), some (.int y)] [] (sM mo G I J) Q = (Q (some (.int (bi (vf_Book_isLine I x y)))) (sM mo G I J)) := by
  rw [bk_43_0]
  simp (decide := true) only [bk_43_16, bk_43_23, bk_43_24, ct_Book_linesOf, up2_ne, up2_sn, up2_ss, ne_eq, tl_some, tl_none, zb_0, zb_1, zb_bi, true_and, bi_eq, bi_ne, oz_f, zz_t, if_true, if_false, not_true_eq_false, not_false_eq_true]
  all_goals grind (splits := 40) [bi, vp_4, vp_6, vp_7, vp_8, vp_12, vp_15, vp_16, vp_20, vp_24, vp_48, vp_60, vp_64, vp_72, vp_80, vp_96, vp_144, vp_384, vp_400, vp_960]
def vf_Book_verbOf (I : Nat → Nat → Int32) (x : Int32) (y : Int32) : Int32 := if ¬ (vf_Book_isLine I x y) then (-1) else (I 24 (((x * 16) + y).toNatClampNeg))
theorem ct_Book_verbOf (x : Int32) (y : Int32) : sm_wp X 42 0 [some (.ref 21), some (.int x), some (.int y)] [] (sM mo G I J) Q = (Q (some (.int (vf_Book_verbOf I x y))) (sM mo G I J)) := by
  rw [bk_42_0]
  simp (decide := true) only [bk_42_6, bk_42_23, bk_42_24, ct_Book_isLine, up2_ne, up2_sn, up2_ss, ne_eq, tl_some, tl_none, zb_0, zb_1, zb_bi, true_and, bi_eq, bi_ne, oz_f, zz_t, if_true, if_false, not_true_eq_false, not_false_eq_true]
  all_goals grind (splits := 40) [bi, vf_Book_verbOf, vp_4, vp_6, vp_7, vp_8, vp_12, vp_15, vp_16, vp_20, vp_24, vp_48, vp_60, vp_64, vp_72, vp_80, vp_96, vp_144, vp_384, vp_400, vp_960, vf_Book_linesOf]
def vf_Book_endOf (I : Nat → Nat → Int32) (x : Int32) (y : Int32) : Int32 := if ¬ (vf_Book_isLine I x y) then 0 else (I 25 (((x * 16) + y).toNatClampNeg))
theorem ct_Book_endOf (x : Int32) (y : Int32) : sm_wp X 44 0 [some (.ref 21), some (.int x), some (.int y)] [] (sM mo G I J) Q = (Q (some (.int (vf_Book_endOf I x y))) (sM mo G I J)) := by
  rw [bk_44_0]
  simp (decide := true) only [bk_44_6, bk_44_23, bk_44_24, ct_Book_isLine, up2_ne, up2_sn, up2_ss, ne_eq, tl_some, tl_none, zb_0, zb_1, zb_bi, true_and, bi_eq, bi_ne, oz_f, zz_t, if_true, if_false, not_true_eq_false, not_false_eq_true]
  all_goals grind (splits := 40) [bi, vf_Book_endOf, vp_4, vp_6, vp_7, vp_8, vp_12, vp_15, vp_16, vp_20, vp_24, vp_48, vp_60, vp_64, vp_72, vp_80, vp_96, vp_144, vp_384, vp_400, vp_960, vf_Book_linesOf]
def vf_Book_codeAt (I : Nat → Nat → Int32) (x : Int32) (y : Int32) : Int32 := if x < 0 then 100 else (if 6 ≤ x then 100 else (if y < 0 then 100 else (if y < 64 then (I 23 (((x * 64) + y).toNatClampNeg)) else 100)))
theorem ct_Book_codeAt (x : Int32) (y : Int32) : sm_wp X 45 0 [some (.ref 21), some (.int x), some (.int y)] [] (sM mo G I J) Q = (Q (some (.int (vf_Book_codeAt I x y))) (sM mo G I J)) := by
  rw [bk_45_0]
  simp (decide := true) only [bk_45_20, bk_45_23, up2_ne, up2_sn, up2_ss, ne_eq, tl_some, tl_none, zb_0, zb_1, zb_bi, true_and, bi_eq, bi_ne, oz_f, zz_t, if_true, if_false, not_true_eq_false, not_false_eq_true]
  all_goals grind (splits := 40) [bi, vf_Book_codeAt, vp_4, vp_6, vp_7, vp_8, vp_12, vp_15, vp_16, vp_20, vp_24, vp_48, vp_60, vp_64, vp_72, vp_80, vp_96, vp_144, vp_384, vp_400, vp_960]
def vf_Art_draftLength (I : Nat → Nat → Int32) (x : Int32) (y : Int32) : Int32 := if ¬ (hArt I x) then 0 else (if (hState I y) then (I 72 (((x * 6) + y).toNatClampNeg)) else 0)
theorem ct_Art_draftLength (x : Int32) (y : Int32) : sm_wp X 7 0 [some (.ref 71), some (.int x), some (.int y)] [] (sM mo G I J) Q = (Q (some (.int (vf_Art_draftLength I x y))) (sM mo G I J)) := by
  rw [bk_7_0]
  simp (decide := true) only [bk_7_5, bk_7_16, bk_7_19, bk_7_21, ct_Art_isArticle, ct_Realm_isState, up2_ne, up2_sn, up2_ss, ne_eq, tl_some, tl_none, zb_0, zb_1, zb_bi, true_and, bi_eq, bi_ne, oz_f, zz_t, if_true, if_false, not_true_eq_false, not_false_eq_true]
  all_goals grind (splits := 40) [bi, vf_Art_draftLength, vp_4, vp_6, vp_7, vp_8, vp_12, vp_15, vp_16, vp_20, vp_24, vp_48, vp_60, vp_64, vp_72, vp_80, vp_96, vp_144, vp_384, vp_400, vp_960]
def vf_Art_wordAt (I : Nat → Nat → Int32) (x : Int32) (y : Int32) (z : Int32) : Int32 := if x < 0 then 0 else (if 8 ≤ x then 0 else (if y < 0 then 0 else (if y < 6 then (if z < 0 then 0 else (if z < 8 then (I 73 (((((x * 6) + y) * 8) + z).toNatClampNeg)) else 0)) else 0)))
theorem ct_Art_wordAt (x : Int32) (y : Int32) (z : Int32) : sm_wp X 9 0 [some (.ref 71), some (.int x), some (.int y), some (.int z)] [] (sM mo G I J) Q = (Q (some (.int (vf_Art_wordAt I x y z))) (sM mo G I J)) := by
  rw [bk_9_0]
  simp (decide := true) only [bk_9_20, bk_9_22, bk_9_32, bk_9_34, up2_ne, up2_sn, up2_ss, ne_eq, tl_some, tl_none, zb_0, zb_1, zb_bi, true_and, bi_eq, bi_ne, oz_f, zz_t, if_true, if_false, not_true_eq_false, not_false_eq_true]
  all_goals grind (splits := 40) [bi, vf_Art_wordAt, vp_4, vp_6, vp_7, vp_8, vp_12, vp_15, vp_16, vp_20, vp_24, vp_48, vp_60, vp_64, vp_72, vp_80, vp_96, vp_144, vp_384, vp_400, vp_960]
abbrev vf_Art_hasPresentDraft (I : Nat → Nat → Int32) (x : Int32) (y : Int32) : Prop := (hPres I y) ∧ (¬ (vf_Art_draftLength I x y ≤ 0))
theorem ct_Art_hasPresentDraft (x : Int32) (y : Int32) : sm_wp X 11 0 [some (.ref 71), some (.int x), some (.int y)] [] (sM mo G I J) Q = (Q (some (.int (bi (vf_Art_hasPresentDraft I x y)))) (sM mo G I J)) := by
  rw [bk_11_0]
  simp (decide := true) only [bk_11_8, bk_11_17, bk_11_24, bk_11_25, ct_Realm_isPresent, ct_Art_draftLength, up2_ne, up2_sn, up2_ss, ne_eq, tl_some, tl_none, zb_0, zb_1, zb_bi, true_and, bi_eq, bi_ne, oz_f, zz_t, if_true, if_false, not_true_eq_false, not_false_eq_true]
  all_goals grind (splits := 40) [bi, vp_4, vp_6, vp_7, vp_8, vp_12, vp_15, vp_16, vp_20, vp_24, vp_48, vp_60, vp_64, vp_72, vp_80, vp_96, vp_144, vp_384, vp_400, vp_960]
abbrev vf_Art_isBetterBase (I : Nat → Nat → Int32) (x : Int32) (y : Int32) : Prop := (x < 0) ∨ ((6 ≤ x) ∨ ((y < 0) ∨ ((¬ (y < 6)) ∨ (((I 79 (x.toNatClampNeg) = I 79 (y.toNatClampNeg)) ∧ (¬ (aState I 10 0 y ≤ aState I 10 0 x))) ∨ ((¬ (I 79 (x.toNatClampNeg) = I 79 (y.toNatClampNeg))) ∧ (¬ (I 79 (y.toNatClampNeg) ≤ I 79 (x.toNatClampNeg))))))))
theorem ct_Art_isBetterBase (x : Int32) (y : Int32) : sm_wp X 12 0 [some (.ref 71), some (.int x), some (.int y)] [] (sM mo G I J) Q = (Q (some (.int (bi (vf_Art_isBetterBase I x y)))) (sM mo G I J)) := by
  rw [bk_12_0]
  simp (decide := true) only [bk_12_20, bk_12_22, bk_12_56, bk_12_57, bk_12_58, bk_12_66, bk_12_74, bk_12_81, bk_12_82, ct_Realm_rankOf, up2_ne, up2_sn, up2_ss, ne_eq, tl_some, tl_none, zb_0, zb_1, zb_bi, true_and, bi_eq, bi_ne, oz_f, zz_t, if_true, if_false, not_true_eq_false, not_false_eq_true]
  all_goals grind (splits := 40) [bi, vp_4, vp_6, vp_7, vp_8, vp_12, vp_15, vp_16, vp_20, vp_24, vp_48, vp_60, vp_64, vp_72, vp_80, vp_96, vp_144, vp_384, vp_400, vp_960]
def vf_Art_agreement (x : Int32) (y : Int32) : Int32 := if ¬ x = y then (if y < (2 : Int32) * x then 1 else 0) else 2
theorem ct_Art_agreement (x : Int32) (y : Int32) : sm_wp X 18 0 [some (.int x), some (.int y)] [] (sM mo G I J) Q = (Q (some (.int (vf_Art_agreement x y))) (sM mo G I J)) := by
  rw [bk_18_0]
  simp (decide := true) only [bk_18_7, bk_18_18, bk_18_19, up2_ne, up2_sn, up2_ss, ne_eq, tl_some, tl_none, zb_0, zb_1, zb_bi, true_and, bi_eq, bi_ne, oz_f, zz_t, if_true, if_false, not_true_eq_false, not_false_eq_true]
  all_goals grind (splits := 40) [bi, vf_Art_agreement, vp_4, vp_6, vp_7, vp_8, vp_12, vp_15, vp_16, vp_20, vp_24, vp_48, vp_60, vp_64, vp_72, vp_80, vp_96, vp_144, vp_384, vp_400, vp_960]
abbrev vf_Ring_gains (I : Nat → Nat → Int32) (x : Int32) (y : Int32) (z : Int32) : Prop := ¬ (wof (I 13) x y ≤ wof (I 13) x z)
theorem ct_Ring_gains (x : Int32) (y : Int32) (z : Int32) : sm_wp X 125 0 [some (.ref 68), some (.int x), some (.int y), some (.int z)] [] (sM mo G I J) Q = (Q (some (.int (bi (vf_Ring_gains I x y z)))) (sM mo G I J)) := by
  rw [bk_125_0]
  simp (decide := true) only [bk_125_9, bk_125_18, bk_125_25, bk_125_26, ct_Realm_worthOf, up2_ne, up2_sn, up2_ss, ne_eq, tl_some, tl_none, zb_0, zb_1, zb_bi, true_and, bi_eq, bi_ne, oz_f, zz_t, if_true, if_false, not_true_eq_false, not_false_eq_true]
  all_goals grind (splits := 40) [bi, vp_4, vp_6, vp_7, vp_8, vp_12, vp_15, vp_16, vp_20, vp_24, vp_48, vp_60, vp_64, vp_72, vp_80, vp_96, vp_144, vp_384, vp_400, vp_960]
def vf_Del_compute (x : Int32) (y : Int64) (z : Int64) : Int64 := if x = 19 then (y + z) else (if x = 20 then (y - z) else (if x = 21 then (if lg_cmp y 0 = 0 then (y * z) else (if lg_cmp (if 0 < (z : Int64) then z else -z) (1000000000000 / (if 0 < (y : Int64) then y else -y)) ≤ 0 then (y * z) else (-9223372036854775808))) else (if x = 22 then (if ¬ lg_cmp z 0 = 0 then (y / z) else (-9223372036854775808)) else (if ¬ lg_cmp z 0 = 0 then (y - y / z * z) else (-9223372036854775808)))))
abbrev vc_Del_compute (x : Int32) (y : Int64) (z : Int64) : Prop := ((¬ (x = 19)) → ((¬ (x = 20)) → (((x = 21) → ((¬ (lg_cmp y 0 = 0)) → (¬ (if 0 < (y : Int64) then y else -y : Int64) = 0))) ∧ ((¬ (x = 21)) → (((x = 22) → ((¬ lg_cmp z 0 = 0) → (¬ (z : Int64) = 0))) ∧ ((¬ (x = 22)) → ((¬ lg_cmp z 0 = 0) → (¬ (z : Int64) = 0))))))))
theorem ct_Del_compute (x : Int32) (y : Int64) (z : Int64) : sm_wp X 29 0 [some (.int x), some (.long y), none, some (.long z), none] [] (sM mo G I J) Q = (vc_Del_compute x y z ∧ (Q (some (.long (vf_Del_compute x y z))) (sM mo G I J))) := by
  rw [bk_29_0]
  simp (decide := true) only [bk_29_32, bk_29_36, bk_29_40, bk_29_68, bk_29_71, bk_29_72, bk_29_84, bk_29_87, bk_29_88, bk_29_100, bk_29_103, up2_ne, up2_sn, up2_ss, ne_eq, tl_some, tl_none, zb_0, zb_1, zb_bi, true_and, bi_eq, bi_ne, oz_f, zz_t, if_true, if_false, not_true_eq_false, not_false_eq_true]
  all_goals grind (splits := 40) [bi, vf_Del_compute, vp_4, vp_6, vp_7, vp_8, vp_12, vp_15, vp_16, vp_20, vp_24, vp_48, vp_60, vp_64, vp_72, vp_80, vp_96, vp_144, vp_384, vp_400, vp_960]
abbrev vf_Del_compares (x : Int32) (y : Int64) (z : Int64) : Prop := ((x = 5) ∧ ((¬ (lg_cmp y 0 = 0)) ∧ (¬ (lg_cmp z 0 = 0)))) ∨ ((¬ (x = 5)) ∧ (((x = 6) ∧ ((¬ lg_cmp y 0 = 0) ∨ (¬ (lg_cmp z 0 = 0)))) ∨ ((¬ (x = 6)) ∧ (((x = 24) ∧ (¬ (0 ≤ lg_cmp y z))) ∨ ((¬ (x = 24)) ∧ (((x = 25) ∧ (¬ (0 < lg_cmp y z))) ∨ ((¬ (x = 25)) ∧ (((x = 26) ∧ (lg_cmp y z = 0)) ∨ ((¬ (x = 26)) ∧ (((x = 27) ∧ (¬ (lg_cmp y z = 0))) ∨ ((¬ (x = 27)) ∧ (((x = 28) ∧ (¬ (lg_cmp y z < 0))) ∨ ((¬ (x = 28)) ∧ (¬ (lg_cmp y z ≤ 0)))))))))))))))
theorem ct_Del_compares (x : Int32) (y : Int64) (z : Int64) : sm_wp X 30 0 [some (.int x), some (.long y), none, some (.long z), none] [] (sM mo G I J) Q = (Q (some (.int (bi (vf_Del_compares x y z)))) (sM mo G I J)) := by
  rw [bk_30_0]
  simp (decide := true) only [bk_30_112, bk_30_128, bk_30_129, bk_30_130, bk_30_142, bk_30_146, bk_30_147, bk_30_148, bk_30_158, bk_30_159, bk_30_160, bk_30_170, bk_30_171, bk_30_172, bk_30_182, bk_30_183, bk_30_184, bk_30_194, bk_30_195, bk_30_196, bk_30_206, bk_30_207, bk_30_208, bk_30_218, bk_30_219, up2_ne, up2_sn, up2_ss, ne_eq, tl_some, tl_none, zb_0, zb_1, zb_bi, true_and, bi_eq, bi_ne, oz_f, zz_t, if_true, if_false, not_true_eq_false, not_false_eq_true]
  all_goals grind (splits := 40) [bi, vp_4, vp_6, vp_7, vp_8, vp_12, vp_15, vp_16, vp_20, vp_24, vp_48, vp_60, vp_64, vp_72, vp_80, vp_96, vp_144, vp_384, vp_400, vp_960]
def vf_Tape_byteAt (I : Nat → Nat → Int32) (x : Int32) : Int32 := if x < 0 then 0 else (if I 14 4 ≤ x then 0 else (if 400 ≤ x then 0 else (I 15 (x.toNatClampNeg))))
theorem ct_Tape_byteAt (x : Int32) : sm_wp X 157 0 [some (.ref 14), some (.int x)] [] (sM mo G I J) Q = (Q (some (.int (vf_Tape_byteAt I x))) (sM mo G I J)) := by
  rw [bk_157_0]
  simp (decide := true) only [bk_157_28, bk_157_29, up2_ne, up2_sn, up2_ss, ne_eq, tl_some, tl_none, zb_0, zb_1, zb_bi, true_and, bi_eq, bi_ne, oz_f, zz_t, if_true, if_false, not_true_eq_false, not_false_eq_true]
  all_goals grind (splits := 40) [bi, vf_Tape_byteAt, vp_4, vp_6, vp_7, vp_8, vp_12, vp_15, vp_16, vp_20, vp_24, vp_48, vp_60, vp_64, vp_72, vp_80, vp_96, vp_144, vp_384, vp_400, vp_960]
abbrev vf_Tape_isBlank (x : Int32) : Prop := (x = 10) ∨ (x = 32)
theorem ct_Tape_isBlank (x : Int32) : sm_wp X 158 0 [some (.int x)] [] (sM mo G I J) Q = (Q (some (.int (bi (vf_Tape_isBlank x)))) (sM mo G I J)) := by
  rw [bk_158_0]
  simp (decide := true) only [bk_158_12, bk_158_16, bk_158_17, up2_ne, up2_sn, up2_ss, ne_eq, tl_some, tl_none, zb_0, zb_1, zb_bi, true_and, bi_eq, bi_ne, oz_f, zz_t, if_true, if_false, not_true_eq_false, not_false_eq_true]
  all_goals grind (splits := 40) [bi, vp_4, vp_6, vp_7, vp_8, vp_12, vp_15, vp_16, vp_20, vp_24, vp_48, vp_60, vp_64, vp_72, vp_80, vp_96, vp_144, vp_384, vp_400, vp_960]
abbrev vf_Tape_isLetter (x : Int32) : Prop := (¬ (x < 97)) ∧ (¬ (122 < x))
theorem ct_Tape_isLetter (x : Int32) : sm_wp X 159 0 [some (.int x)] [] (sM mo G I J) Q = (Q (some (.int (bi (vf_Tape_isLetter x)))) (sM mo G I J)) := by
  rw [bk_159_0]
  simp (decide := true) only [bk_159_16, bk_159_17, up2_ne, up2_sn, up2_ss, ne_eq, tl_some, tl_none, zb_0, zb_1, zb_bi, true_and, bi_eq, bi_ne, oz_f, zz_t, if_true, if_false, not_true_eq_false, not_false_eq_true]
  all_goals grind (splits := 40) [bi, vp_4, vp_6, vp_7, vp_8, vp_12, vp_15, vp_16, vp_20, vp_24, vp_48, vp_60, vp_64, vp_72, vp_80, vp_96, vp_144, vp_384, vp_400, vp_960]
abbrev vf_Tape_isDigit (x : Int32) : Prop := (¬ (x < 48)) ∧ (¬ (57 < x))
theorem ct_Tape_isDigit (x : Int32) : sm_wp X 161 0 [some (.int x)] [] (sM mo G I J) Q = (Q (some (.int (bi (vf_Tape_isDigit x)))) (sM mo G I J)) := by
  rw [bk_161_0]
  simp (decide := true) only [bk_161_16, bk_161_17, up2_ne, up2_sn, up2_ss, ne_eq, tl_some, tl_none, zb_0, zb_1, zb_bi, true_and, bi_eq, bi_ne, oz_f, zz_t, if_true, if_false, not_true_eq_false, not_false_eq_true]
  all_goals grind (splits := 40) [bi, vp_4, vp_6, vp_7, vp_8, vp_12, vp_15, vp_16, vp_20, vp_24, vp_48, vp_60, vp_64, vp_72, vp_80, vp_96, vp_144, vp_384, vp_400, vp_960]
def vf_Read_strength (x : Int32) : Int32 := if x = 4 then 3 else (if x = 5 then 2 else (if x = 6 then 1 else (if x = 19 then 5 else (if x = 20 then 5 else (if x = 21 then 6 else (if x = 22 then 6 else (if x = 23 then 6 else (if x = 30 then 0 else (if x = 33 then 7 else 4)))))))))
theorem ct_Read_strength (x : Int32) : sm_wp X 54 0 [some (.int x)] [] (sM mo G I J) Q = (Q (some (.int (vf_Read_strength x))) (sM mo G I J)) := by
  rw [bk_54_0]
  simp (decide := true) only [bk_54_136, bk_54_138, bk_54_140, bk_54_142, bk_54_144, bk_54_146, bk_54_149, bk_54_152, up2_ne, up2_sn, up2_ss, ne_eq, tl_some, tl_none, zb_0, zb_1, zb_bi, true_and, bi_eq, bi_ne, oz_f, zz_t, if_true, if_false, not_true_eq_false, not_false_eq_true]
  all_goals grind (splits := 40) [bi, vf_Read_strength, vp_4, vp_6, vp_7, vp_8, vp_12, vp_15, vp_16, vp_20, vp_24, vp_48, vp_60, vp_64, vp_72, vp_80, vp_96, vp_144, vp_384, vp_400, vp_960]
abbrev vf_Model_isIn (x : Int32) (y : Int32) (z : Int32) : Prop := (¬ (x < y)) ∧ (¬ (z < x))
theorem ct_Model_isIn (x : Int32) (y : Int32) (z : Int32) : sm_wp X 210 0 [some (.int x), some (.int y), some (.int z)] [] (sM mo G I J) Q = (Q (some (.int (bi (vf_Model_isIn x y z)))) (sM mo G I J)) := by
  rw [bk_210_0]
  simp (decide := true) only [bk_210_14, bk_210_15, up2_ne, up2_sn, up2_ss, ne_eq, tl_some, tl_none, zb_0, zb_1, zb_bi, true_and, bi_eq, bi_ne, oz_f, zz_t, if_true, if_false, not_true_eq_false, not_false_eq_true]
  all_goals grind (splits := 40) [bi, vp_4, vp_6, vp_7, vp_8, vp_12, vp_15, vp_16, vp_20, vp_24, vp_48, vp_60, vp_64, vp_72, vp_80, vp_96, vp_144, vp_384, vp_400, vp_960]
abbrev vf_Model_isLand (I : Nat → Nat → Int32) (x : Int32) : Prop := (¬ (x < 0)) ∧ (¬ (I 81 3 ≤ x))
theorem ct_Model_isLand (x : Int32) : sm_wp X 212 0 [some (.ref 81), some (.int x)] [] (sM mo G I J) Q = (Q (some (.int (bi (vf_Model_isLand I x)))) (sM mo G I J)) := by
  rw [bk_212_0]
  simp (decide := true) only [bk_212_16, bk_212_17, up2_ne, up2_sn, up2_ss, ne_eq, tl_some, tl_none, zb_0, zb_1, zb_bi, true_and, bi_eq, bi_ne, oz_f, zz_t, if_true, if_false, not_true_eq_false, not_false_eq_true]
  all_goals grind (splits := 40) [bi, vp_4, vp_6, vp_7, vp_8, vp_12, vp_15, vp_16, vp_20, vp_24, vp_48, vp_60, vp_64, vp_72, vp_80, vp_96, vp_144, vp_384, vp_400, vp_960]
abbrev vf_Model_isState (I : Nat → Nat → Int32) (x : Int32) : Prop := (¬ (x < 0)) ∧ (¬ (I 81 10 ≤ x))
theorem ct_Model_isState (x : Int32) : sm_wp X 216 0 [some (.ref 81), some (.int x)] [] (sM mo G I J) Q = (Q (some (.int (bi (vf_Model_isState I x)))) (sM mo G I J)) := by
  rw [bk_216_0]
  simp (decide := true) only [bk_216_16, bk_216_17, up2_ne, up2_sn, up2_ss, ne_eq, tl_some, tl_none, zb_0, zb_1, zb_bi, true_and, bi_eq, bi_ne, oz_f, zz_t, if_true, if_false, not_true_eq_false, not_false_eq_true]
  all_goals grind (splits := 40) [bi, vp_4, vp_6, vp_7, vp_8, vp_12, vp_15, vp_16, vp_20, vp_24, vp_48, vp_60, vp_64, vp_72, vp_80, vp_96, vp_144, vp_384, vp_400, vp_960]
abbrev vf_Model_isPresent (I : Nat → Nat → Int32) (x : Int32) : Prop := (vf_Model_isState I x) ∧ (((I 81 15) >>> (x &&& 31)) &&& 1 = 1)
theorem ct_Model_isPresent (x : Int32) : sm_wp X 215 0 [some (.ref 81), some (.int x)] [] (sM mo G I J) Q = (Q (some (.int (bi (vf_Model_isPresent I x)))) (sM mo G I J)) := by
  rw [bk_215_0]
  simp (decide := true) only [bk_215_5, bk_215_24, bk_215_25, ct_Model_isState, up2_ne, up2_sn, up2_ss, ne_eq, tl_some, tl_none, zb_0, zb_1, zb_bi, true_and, bi_eq, bi_ne, oz_f, zz_t, if_true, if_false, not_true_eq_false, not_false_eq_true]
  all_goals grind (splits := 40) [bi, vp_4, vp_6, vp_7, vp_8, vp_12, vp_15, vp_16, vp_20, vp_24, vp_48, vp_60, vp_64, vp_72, vp_80, vp_96, vp_144, vp_384, vp_400, vp_960]
abbrev vf_Model_isSmall (I : Nat → Nat → Int32) (x : Int32) : Prop := (¬ (I 81 20 ≤ x)) ∧ ((¬ (I 82 (x.toNatClampNeg) < 97)) ∧ (¬ (122 < I 82 (x.toNatClampNeg))))
abbrev vc_Model_isSmall (I : Nat → Nat → Int32) (x : Int32) : Prop := ((¬ (I 81 20 ≤ x)) → ((vp_in x 400) ∧ ((¬ (I 82 (x.toNatClampNeg) < 97)) → (vp_in x 400))))
theorem ct_Model_isSmall (x : Int32) : sm_wp X 227 0 [some (.ref 81), some (.int x)] [] (sM mo G I J) Q = (vc_Model_isSmall I x ∧ (Q (some (.int (bi (vf_Model_isSmall I x)))) (sM mo G I J))) := by
  rw [bk_227_0]
  simp (decide := true) only [bk_227_34, bk_227_35, up2_ne, up2_sn, up2_ss, ne_eq, tl_some, tl_none, zb_0, zb_1, zb_bi, true_and, bi_eq, bi_ne, oz_f, zz_t, if_true, if_false, not_true_eq_false, not_false_eq_true]
  all_goals grind (splits := 40) [bi, vp_4, vp_6, vp_7, vp_8, vp_12, vp_15, vp_16, vp_20, vp_24, vp_48, vp_60, vp_64, vp_72, vp_80, vp_96, vp_144, vp_384, vp_400, vp_960]
abbrev vf_Model_isDigit (I : Nat → Nat → Int32) (x : Int32) : Prop := (¬ (I 81 20 ≤ x)) ∧ ((¬ (I 82 (x.toNatClampNeg) < 48)) ∧ (¬ (57 < I 82 (x.toNatClampNeg))))
abbrev vc_Model_isDigit (I : Nat → Nat → Int32) (x : Int32) : Prop := ((¬ (I 81 20 ≤ x)) → ((vp_in x 400) ∧ ((¬ (I 82 (x.toNatClampNeg) < 48)) → (vp_in x 400))))
theorem ct_Model_isDigit (x : Int32) : sm_wp X 229 0 [some (.ref 81), some (.int x)] [] (sM mo G I J) Q = (vc_Model_isDigit I x ∧ (Q (some (.int (bi (vf_Model_isDigit I x)))) (sM mo G I J))) := by
  rw [bk_229_0]
  simp (decide := true) only [bk_229_34, bk_229_35, up2_ne, up2_sn, up2_ss, ne_eq, tl_some, tl_none, zb_0, zb_1, zb_bi, true_and, bi_eq, bi_ne, oz_f, zz_t, if_true, if_false, not_true_eq_false, not_false_eq_true]
  all_goals grind (splits := 40) [bi, vp_4, vp_6, vp_7, vp_8, vp_12, vp_15, vp_16, vp_20, vp_24, vp_48, vp_60, vp_64, vp_72, vp_80, vp_96, vp_144, vp_384, vp_400, vp_960]
abbrev vf_Model_isAt (I : Nat → Nat → Int32) (x : Int32) (y : Int32) : Prop := (¬ (I 81 20 ≤ x)) ∧ (I 82 (x.toNatClampNeg) = y)
abbrev vc_Model_isAt (I : Nat → Nat → Int32) (x : Int32) (y : Int32) : Prop := ((¬ (I 81 20 ≤ x)) → (vp_in x 400))
theorem ct_Model_isAt (x : Int32) (y : Int32) : sm_wp X 231 0 [some (.ref 81), some (.int x), some (.int y)] [] (sM mo G I J) Q = (vc_Model_isAt I x y ∧ (Q (some (.int (bi (vf_Model_isAt I x y)))) (sM mo G I J))) := by
  rw [bk_231_0]
  simp (decide := true) only [bk_231_22, bk_231_23, up2_ne, up2_sn, up2_ss, ne_eq, tl_some, tl_none, zb_0, zb_1, zb_bi, true_and, bi_eq, bi_ne, oz_f, zz_t, if_true, if_false, not_true_eq_false, not_false_eq_true]
  all_goals grind (splits := 40) [bi, vp_4, vp_6, vp_7, vp_8, vp_12, vp_15, vp_16, vp_20, vp_24, vp_48, vp_60, vp_64, vp_72, vp_80, vp_96, vp_144, vp_384, vp_400, vp_960]
abbrev vf_Model_isSign (I : Nat → Nat → Int32) (x : Int32) : Prop := (I 81 22 = 3) ∧ (I 81 23 = x)
theorem ct_Model_isSign (x : Int32) : sm_wp X 236 0 [some (.ref 81), some (.int x)] [] (sM mo G I J) Q = (Q (some (.int (bi (vf_Model_isSign I x)))) (sM mo G I J)) := by
  rw [bk_236_0]
  simp (decide := true) only [bk_236_20, bk_236_21, up2_ne, up2_sn, up2_ss, ne_eq, tl_some, tl_none, zb_0, zb_1, zb_bi, true_and, bi_eq, bi_ne, oz_f, zz_t, if_true, if_false, not_true_eq_false, not_false_eq_true]
  all_goals grind (splits := 40) [bi, vp_4, vp_6, vp_7, vp_8, vp_12, vp_15, vp_16, vp_20, vp_24, vp_48, vp_60, vp_64, vp_72, vp_80, vp_96, vp_144, vp_384, vp_400, vp_960]
def vf_Model_signOf (I : Nat → Nat → Int32) (x : Int32) : Int32 := if ¬ x = 60 then (if ¬ x = 62 then (if ¬ x = 61 then (if ¬ x = 43 then (if ¬ x = 45 then (if ¬ x = 42 then (if ¬ x = 47 then (if ¬ x = 37 then (if x = 59 then x else (if x = 40 then x else (if ¬ x = 41 then (-1) else x))) else 11) else 10) else 9) else 8) else 7) else 3) else (if ¬ (vf_Model_isAt I (I 81 21) 61) then 6 else 5)) else (if ¬ (vf_Model_isAt I (I 81 21) 61) then (if ¬ (vf_Model_isAt I (I 81 21) 62) then 1 else 4) else 2)
abbrev vc_Model_signOf (I : Nat → Nat → Int32) (x : Int32) : Prop := ((¬ x = 60) → ((x = 62) → (vc_Model_isAt I (I 81 21) 61))) ∧ ((x = 60) → ((vc_Model_isAt I (I 81 21) 61) ∧ ((¬ (vf_Model_isAt I (I 81 21) 61)) → (vc_Model_isAt I (I 81 21) 62))))
theorem ct_Model_signOf (x : Int32) : sm_wp X 230 0 [some (.ref 81), some (.int x)] [] (sM mo G I J) Q = (vc_Model_signOf I x ∧ (Q (some (.int (vf_Model_signOf I x))) (sM mo G I J))) := by
  rw [bk_230_0]
  simp (decide := true) only [bk_230_16, bk_230_23, bk_230_33, bk_230_40, bk_230_41, bk_230_42, bk_230_58, bk_230_65, bk_230_67, bk_230_68, bk_230_78, bk_230_89, bk_230_100, bk_230_111, bk_230_122, bk_230_133, bk_230_151, bk_230_155, bk_230_156, ct_Model_isAt, up2_ne, up2_sn, up2_ss, ne_eq, tl_some, tl_none, zb_0, zb_1, zb_bi, true_and, bi_eq, bi_ne, oz_f, zz_t, if_true, if_false, not_true_eq_false, not_false_eq_true]
  all_goals grind (splits := 40) [bi, vf_Model_signOf, vp_4, vp_6, vp_7, vp_8, vp_12, vp_15, vp_16, vp_20, vp_24, vp_48, vp_60, vp_64, vp_72, vp_80, vp_96, vp_144, vp_384, vp_400, vp_960]
def vf_Model_weight (x : Int32) : Int32 := if ¬ x = 100 then (if ¬ x = 15 then (if ¬ x = 14 then (if ¬ x = 13 then (if 7 ≤ x then (if 9 ≤ x then (if 12 ≤ x then 7 else 6) else 5) else 4) else 3) else 2) else 1) else 0
theorem ct_Model_weight (x : Int32) : sm_wp X 243 0 [some (.int x)] [] (sM mo G I J) Q = (Q (some (.int (vf_Model_weight x))) (sM mo G I J)) := by
  rw [bk_243_0]
  simp (decide := true) only [bk_243_10, bk_243_20, bk_243_30, bk_243_40, bk_243_50, bk_243_60, bk_243_71, bk_243_73, up2_ne, up2_sn, up2_ss, ne_eq, tl_some, tl_none, zb_0, zb_1, zb_bi, true_and, bi_eq, bi_ne, oz_f, zz_t, if_true, if_false, not_true_eq_false, not_false_eq_true]
  all_goals grind (splits := 40) [bi, vf_Model_weight, vp_4, vp_6, vp_7, vp_8, vp_12, vp_15, vp_16, vp_20, vp_24, vp_48, vp_60, vp_64, vp_72, vp_80, vp_96, vp_144, vp_384, vp_400, vp_960]
def vf_Model_signNow (I : Nat → Nat → Int32)  : Int32 := if ¬ I 81 22 = 1 then (if ¬ I 81 22 = 3 then (-1) else (if 12 ≤ I 81 23 then (-1) else (I 81 23))) else (if ¬ I 81 23 = 5 then (if ¬ I 81 23 = 4 then (-1) else 15) else 14)
theorem ct_Model_signNow  : sm_wp X 241 0 [some (.ref 81)] [] (sM mo G I J) Q = (Q (some (.int (vf_Model_signNow I))) (sM mo G I J)) := by
  rw [bk_241_0]
  simp (decide := true) only [bk_241_21, bk_241_34, bk_241_35, bk_241_36, bk_241_60, bk_241_61, up2_ne, up2_sn, up2_ss, ne_eq, tl_some, tl_none, zb_0, zb_1, zb_bi, true_and, bi_eq, bi_ne, oz_f, zz_t, if_true, if_false, not_true_eq_false, not_false_eq_true]
  all_goals grind (splits := 40) [bi, vf_Model_signNow, vp_4, vp_6, vp_7, vp_8, vp_12, vp_15, vp_16, vp_20, vp_24, vp_48, vp_60, vp_64, vp_72, vp_80, vp_96, vp_144, vp_384, vp_400, vp_960]
abbrev vf_Model_isOffer (I : Nat → Nat → Int32) (x : Int32) : Prop := (¬ (x < 0)) ∧ ((¬ (I 81 46 ≤ x)) ∧ (I 107 (x.toNatClampNeg) = 0))
abbrev vc_Model_isOffer (I : Nat → Nat → Int32) (x : Int32) : Prop := ((¬ (x < 0)) → ((¬ (I 81 46 ≤ x)) → (vp_in x 60)))
theorem ct_Model_isOffer (x : Int32) : sm_wp X 248 0 [some (.ref 81), some (.int x)] [] (sM mo G I J) Q = (vc_Model_isOffer I x ∧ (Q (some (.int (bi (vf_Model_isOffer I x)))) (sM mo G I J))) := by
  rw [bk_248_0]
  simp (decide := true) only [bk_248_25, bk_248_26, up2_ne, up2_sn, up2_ss, ne_eq, tl_some, tl_none, zb_0, zb_1, zb_bi, true_and, bi_eq, bi_ne, oz_f, zz_t, if_true, if_false, not_true_eq_false, not_false_eq_true]
  all_goals grind (splits := 40) [bi, vp_4, vp_6, vp_7, vp_8, vp_12, vp_15, vp_16, vp_20, vp_24, vp_48, vp_60, vp_64, vp_72, vp_80, vp_96, vp_144, vp_384, vp_400, vp_960]
def vf_Model_truth (x : Int32) : Int64 := if x = 0 then 0 else 1
theorem ct_Model_truth (x : Int32) : sm_wp X 260 0 [some (.int x)] [] (sM mo G I J) Q = (Q (some (.long (vf_Model_truth x))) (sM mo G I J)) := by
  rw [bk_260_0]
  simp (decide := true) only [bk_260_8, bk_260_9, up2_ne, up2_sn, up2_ss, ne_eq, tl_some, tl_none, zb_0, zb_1, zb_bi, true_and, bi_eq, bi_ne, oz_f, zz_t, if_true, if_false, not_true_eq_false, not_false_eq_true]
  all_goals grind (splits := 40) [bi, vf_Model_truth, vp_4, vp_6, vp_7, vp_8, vp_12, vp_15, vp_16, vp_20, vp_24, vp_48, vp_60, vp_64, vp_72, vp_80, vp_96, vp_144, vp_384, vp_400, vp_960]
def vf_Model_big (x : Int64) : Int64 := if 0 ≤ lg_cmp x 0 then x else (-x)
theorem ct_Model_big (x : Int64) : sm_wp X 263 0 [some (.long x), none] [] (sM mo G I J) Q = (Q (some (.long (vf_Model_big x))) (sM mo G I J)) := by
  rw [bk_263_0]
  simp (decide := true) only [bk_263_11, bk_263_12, up2_ne, up2_sn, up2_ss, ne_eq, tl_some, tl_none, zb_0, zb_1, zb_bi, true_and, bi_eq, bi_ne, oz_f, zz_t, if_true, if_false, not_true_eq_false, not_false_eq_true]
  all_goals grind (splits := 40) [bi, vf_Model_big, vp_4, vp_6, vp_7, vp_8, vp_12, vp_15, vp_16, vp_20, vp_24, vp_48, vp_60, vp_64, vp_72, vp_80, vp_96, vp_144, vp_384, vp_400, vp_960]
abbrev vf_Model_isSpent (I : Nat → Nat → Int32)  : Prop := ¬ (I 81 65 ≤ 8)
theorem ct_Model_isSpent  : sm_wp X 276 0 [some (.ref 81)] [] (sM mo G I J) Q = (Q (some (.int (bi (vf_Model_isSpent I)))) (sM mo G I J)) := by
  rw [bk_276_0]
  simp (decide := true) only [bk_276_13, bk_276_14, up2_ne, up2_sn, up2_ss, ne_eq, tl_some, tl_none, zb_0, zb_1, zb_bi, true_and, bi_eq, bi_ne, oz_f, zz_t, if_true, if_false, not_true_eq_false, not_false_eq_true]
  all_goals grind (splits := 40) [bi, vp_4, vp_6, vp_7, vp_8, vp_12, vp_15, vp_16, vp_20, vp_24, vp_48, vp_60, vp_64, vp_72, vp_80, vp_96, vp_144, vp_384, vp_400, vp_960]
abbrev vf_Model_isArticle (I : Nat → Nat → Int32) (x : Int32) : Prop := (¬ (x < 0)) ∧ (¬ (I 81 81 ≤ x))
theorem ct_Model_isArticle (x : Int32) : sm_wp X 293 0 [some (.ref 81), some (.int x)] [] (sM mo G I J) Q = (Q (some (.int (bi (vf_Model_isArticle I x)))) (sM mo G I J)) := by
  rw [bk_293_0]
  simp (decide := true) only [bk_293_16, bk_293_17, up2_ne, up2_sn, up2_ss, ne_eq, tl_some, tl_none, zb_0, zb_1, zb_bi, true_and, bi_eq, bi_ne, oz_f, zz_t, if_true, if_false, not_true_eq_false, not_false_eq_true]
  all_goals grind (splits := 40) [bi, vp_4, vp_6, vp_7, vp_8, vp_12, vp_15, vp_16, vp_20, vp_24, vp_48, vp_60, vp_64, vp_72, vp_80, vp_96, vp_144, vp_384, vp_400, vp_960]
abbrev vf_Model_hasDraft (I : Nat → Nat → Int32) (x : Int32) (y : Int32) : Prop := (vf_Model_isPresent I y) ∧ (¬ (I 135 ((((6 : Int32) * x) + y).toNatClampNeg) ≤ 0))
abbrev vc_Model_hasDraft (I : Nat → Nat → Int32) (x : Int32) (y : Int32) : Prop := ((vf_Model_isPresent I y) → (vp_in (((6 : Int32) * x) + y) 48))
theorem ct_Model_hasDraft (x : Int32) (y : Int32) : sm_wp X 300 0 [some (.ref 81), some (.int x), some (.int y)] [] (sM mo G I J) Q = (vc_Model_hasDraft I x y ∧ (Q (some (.int (bi (vf_Model_hasDraft I x y)))) (sM mo G I J))) := by
  rw [bk_300_0]
  simp (decide := true) only [bk_300_5, bk_300_26, bk_300_27, ct_Model_isPresent, up2_ne, up2_sn, up2_ss, ne_eq, tl_some, tl_none, zb_0, zb_1, zb_bi, true_and, bi_eq, bi_ne, oz_f, zz_t, if_true, if_false, not_true_eq_false, not_false_eq_true]
  all_goals grind (splits := 40) [bi, vp_4, vp_6, vp_7, vp_8, vp_12, vp_15, vp_16, vp_20, vp_24, vp_48, vp_60, vp_64, vp_72, vp_80, vp_96, vp_144, vp_384, vp_400, vp_960]
def vf_Model_gradeOf (I : Nat → Nat → Int32) (x : Int32) : Int32 := if ¬ I 140 (x.toNatClampNeg) = I 81 88 then (if I 81 88 < (2 : Int32) * (I 140 (x.toNatClampNeg)) then 1 else 0) else 2
abbrev vc_Model_gradeOf (I : Nat → Nat → Int32) (x : Int32) : Prop := (vp_in x 8) ∧ ((¬ I 140 (x.toNatClampNeg) = I 81 88) → (vp_in x 8))
theorem ct_Model_gradeOf (x : Int32) : sm_wp X 304 0 [some (.ref 81), some (.int x)] [] (sM mo G I J) Q = (vc_Model_gradeOf I x ∧ (Q (some (.int (vf_Model_gradeOf I x))) (sM mo G I J))) := by
  rw [bk_304_0]
  simp (decide := true) only [bk_304_17, bk_304_36, bk_304_37, up2_ne, up2_sn, up2_ss, ne_eq, tl_some, tl_none, zb_0, zb_1, zb_bi, true_and, bi_eq, bi_ne, oz_f, zz_t, if_true, if_false, not_true_eq_false, not_false_eq_true]
  all_goals grind (splits := 40) [bi, vf_Model_gradeOf, vp_4, vp_6, vp_7, vp_8, vp_12, vp_15, vp_16, vp_20, vp_24, vp_48, vp_60, vp_64, vp_72, vp_80, vp_96, vp_144, vp_384, vp_400, vp_960]
abbrev vf_Model_isOpenOne (I : Nat → Nat → Int32) (x : Int32) : Prop := (I 107 (x.toNatClampNeg) = 0) ∧ (¬ (2 ≤ I 117 (x.toNatClampNeg)))
abbrev vc_Model_isOpenOne (I : Nat → Nat → Int32) (x : Int32) : Prop := (vp_in x 60) ∧ ((I 107 (x.toNatClampNeg) = 0) → (vp_in x 60))
theorem ct_Model_isOpenOne (x : Int32) : sm_wp X 252 0 [some (.ref 81), some (.int x)] [] (sM mo G I J) Q = (vc_Model_isOpenOne I x ∧ (Q (some (.int (bi (vf_Model_isOpenOne I x)))) (sM mo G I J))) := by
  rw [bk_252_0]
  simp (decide := true) only [bk_252_23, bk_252_24, up2_ne, up2_sn, up2_ss, ne_eq, tl_some, tl_none, zb_0, zb_1, zb_bi, true_and, bi_eq, bi_ne, oz_f, zz_t, if_true, if_false, not_true_eq_false, not_false_eq_true]
  all_goals grind (splits := 40) [bi, vp_4, vp_6, vp_7, vp_8, vp_12, vp_15, vp_16, vp_20, vp_24, vp_48, vp_60, vp_64, vp_72, vp_80, vp_96, vp_144, vp_384, vp_400, vp_960]
def vf_Model_knownFrom (I : Nat → Nat → Int32) (x : Int32) (y : Int32) : Int32 := if I 108 (x.toNatClampNeg) = y then (I 110 (x.toNatClampNeg)) else (if ¬ I 109 (x.toNatClampNeg) = y then (if I 107 (x.toNatClampNeg) = 0 then (-1) else (if ¬ ((I 116 (x.toNatClampNeg)) >>> (y &&& 31)) &&& 1 = 1 then (-1) else ((I 110 (x.toNatClampNeg)) + 1))) else (I 110 (x.toNatClampNeg)))
abbrev vc_Model_knownFrom (I : Nat → Nat → Int32) (x : Int32) (y : Int32) : Prop := (vp_in x 60) ∧ (((I 108 (x.toNatClampNeg) = y) → (vp_in x 60)) ∧ ((¬ (I 108 (x.toNatClampNeg) = y)) → ((vp_in x 60) ∧ (((¬ I 109 (x.toNatClampNeg) = y) → ((vp_in x 60) ∧ ((¬ (I 107 (x.toNatClampNeg) = 0)) → ((vp_in x 60) ∧ ((((I 116 (x.toNatClampNeg)) >>> (y &&& 31)) &&& 1 = 1) → (vp_in x 60)))))) ∧ ((I 109 (x.toNatClampNeg) = y) → (vp_in x 60))))))
theorem ct_Model_knownFrom (x : Int32) (y : Int32) : sm_wp X 272 0 [some (.ref 81), some (.int x), some (.int y)] [] (sM mo G I J) Q = (vc_Model_knownFrom I x y ∧ (Q (some (.int (vf_Model_knownFrom I x y))) (sM mo G I J))) := by
  rw [bk_272_0]
  simp (decide := true) only [bk_272_20, bk_272_27, bk_272_61, bk_272_62, up2_ne, up2_sn, up2_ss, ne_eq, tl_some, tl_none, zb_0, zb_1, zb_bi, true_and, bi_eq, bi_ne, oz_f, zz_t, if_true, if_false, not_true_eq_false, not_false_eq_true]
  all_goals grind (splits := 40) [bi, vf_Model_knownFrom, vp_4, vp_6, vp_7, vp_8, vp_12, vp_15, vp_16, vp_20, vp_24, vp_48, vp_60, vp_64, vp_72, vp_80, vp_96, vp_144, vp_384, vp_400, vp_960]
end R1
end
section
/-! Closed forms of loop-free methods, by program. -/
section R2
variable (X : (Nat → Int32) × Nat) (mo : Bool) (G : Nat × Nat) (I : Nat → Nat → Int32) (J : Nat → Nat → Int64) (Q : Option Value → sm_M → Prop)
theorem ct_Art_addArticle  : sm_wp X 1 0 [some (.ref 71)] [] (sM mo G I J) Q = (if I 71 0 < 8 then (Q (some (.int (((I 71 0) + 1) - 1))) (sM mo G (up2 I 71 0 ((I 71 0) + 1)) J)) else (Q (some (.int (-1))) (sM mo G I J))) := by
  rw [bk_1_0]
  simp (decide := true) only [bk_1_11, up2_ne, up2_sn, up2_ss, ne_eq, tl_some, tl_none, zb_0, zb_1, zb_bi, true_and, bi_eq, bi_ne, oz_f, zz_t, if_true, if_false, not_true_eq_false, not_false_eq_true]
  all_goals grind (splits := 40) [bi]
theorem ct_Art_dropDraft (x : Int32) (y : Int32) : sm_wp X 3 0 [some (.ref 71), some (.int x), some (.int y)] [] (sM mo G I J) Q = (if ¬ (hArt I x) then (Q (some (.int 0)) (sM mo G I J)) else (if ¬ (hState I y) then (Q (some (.int 0)) (sM mo G I J)) else (vp_in ((x * 6) + y) 48 ∧ (Q (some (.int 0)) (sM mo G (up2 I 72 ((x * 6) + y).toNatClampNeg 0) J))))) := by
  rw [bk_3_0]
  simp (decide := true) only [bk_3_5, bk_3_16, bk_3_31, ct_Art_isArticle, ct_Realm_isState, up2_ne, up2_sn, up2_ss, ne_eq, tl_some, tl_none, zb_0, zb_1, zb_bi, true_and, bi_eq, bi_ne, oz_f, zz_t, if_true, if_false, not_true_eq_false, not_false_eq_true]
  all_goals grind (splits := 40) [bi]
theorem ct_Art_addWord (x : Int32) (y : Int32) (z : Int32) : sm_wp X 4 0 [some (.ref 71), some (.int x), some (.int y), some (.int z), none, none] [] (sM mo G I J) Q = (if ¬ (hArt I x) then (Q (some (.int (-1))) (sM mo G I J)) else (if (hState I y) then (vp_in ((x * 6) + y) 48 ∧ (if I 72 (((x * 6) + y).toNatClampNeg) < 0 then (Q (some (.int (-1))) (sM mo G I J)) else (if I 72 (((x * 6) + y).toNatClampNeg) < 8 then (vp_in ((((x * 6) + y) * 8) + (I 72 (((x * 6) + y).toNatClampNeg))) 384 ∧ (Q (some (.int ((I 72 (((x * 6) + y).toNatClampNeg)) + 1))) (sM mo G (up2 (up2 I 73 ((((x * 6) + y) * 8) + (I 72 (((x * 6) + y).toNatClampNeg))).toNatClampNeg z) 72 ((x * 6) + y).toNatClampNeg ((I 72 (((x * 6) + y).toNatClampNeg)) + 1)) J))) else (Q (some (.int (-1))) (sM mo G I J))))) else (Q (some (.int (-1))) (sM mo G I J)))) := by
  rw [bk_4_0]
  simp (decide := true) only [bk_4_5, bk_4_16, bk_4_19, bk_4_21, bk_4_50, bk_4_52, ct_Art_isArticle, ct_Realm_isState, up2_ne, up2_sn, up2_ss, ne_eq, tl_some, tl_none, zb_0, zb_1, zb_bi, true_and, bi_eq, bi_ne, oz_f, zz_t, if_true, if_false, not_true_eq_false, not_false_eq_true]
  all_goals grind (splits := 40) [bi]
theorem ct_Art_setHanging (x : Int32) (y : Int32) (z : Int32) : sm_wp X 5 0 [some (.ref 71), some (.int x), some (.int y), some (.int z)] [] (sM mo G I J) Q = (if ¬ (hArt I x) then (Q (some (.int 0)) (sM mo G I J)) else (vp_in x 8 ∧ (if ¬ bi (hBit (I 74 (x.toNatClampNeg)) y) = z then (Q (some (.int 1)) (sM mo G (up2 I 74 x.toNatClampNeg ((I 74 (x.toNatClampNeg)) ^^^ ((1 : Int32) <<< (y &&& 31)))) J)) else (Q (some (.int 0)) (sM mo G I J))))) := by
  rw [bk_5_0]
  simp (decide := true) only [bk_5_5, bk_5_18, bk_5_22, bk_5_24, ct_Art_isArticle, ct_House_hasBit, up2_ne, up2_sn, up2_ss, ne_eq, tl_some, tl_none, zb_0, zb_1, zb_bi, true_and, bi_eq, bi_ne, oz_f, zz_t, if_true, if_false, not_true_eq_false, not_false_eq_true]
  all_goals grind (splits := 40) [bi]
theorem ct_Art_setReserve (x : Int32) (y : Int32) (z : Int32) : sm_wp X 6 0 [some (.ref 71), some (.int x), some (.int y), some (.int z)] [] (sM mo G I J) Q = (if ¬ (hArt I x) then (Q (some (.int 0)) (sM mo G I J)) else (vp_in x 8 ∧ (if ¬ bi (hBit (I 75 (x.toNatClampNeg)) y) = z then (Q (some (.int 1)) (sM mo G (up2 I 75 x.toNatClampNeg ((I 75 (x.toNatClampNeg)) ^^^ ((1 : Int32) <<< (y &&& 31)))) J)) else (Q (some (.int 0)) (sM mo G I J))))) := by
  rw [bk_6_0]
  simp (decide := true) only [bk_6_5, bk_6_18, bk_6_22, bk_6_24, ct_Art_isArticle, ct_House_hasBit, up2_ne, up2_sn, up2_ss, ne_eq, tl_some, tl_none, zb_0, zb_1, zb_bi, true_and, bi_eq, bi_ne, oz_f, zz_t, if_true, if_false, not_true_eq_false, not_false_eq_true]
  all_goals grind (splits := 40) [bi]
theorem ct_Art_signersOf (x : Int32) : sm_wp X 19 0 [some (.ref 71), some (.int x), none] [] (sM mo G I J) Q = (if (hArt I x) then (vp_in x 8 ∧ (if vf_Integer_bitCount ((I 1 2) &&& ((I 75 (x.toNatClampNeg)) ^^^ (-1))) < 2 then (Q (some (.int 0)) (sM mo G I J)) else (Q (some (.int (vf_Integer_bitCount ((I 1 2) &&& ((I 75 (x.toNatClampNeg)) ^^^ (-1)))))) (sM mo G I J)))) else (Q (some (.int 0)) (sM mo G I J))) := by
  rw [bk_19_0]
  simp (decide := true) only [bk_19_5, bk_19_10, bk_19_29, bk_19_39, bk_19_40, ct_Art_isArticle, ct_Integer_bitCount, up2_ne, up2_sn, up2_ss, ne_eq, tl_some, tl_none, zb_0, zb_1, zb_bi, true_and, bi_eq, bi_ne, oz_f, zz_t, if_true, if_false, not_true_eq_false, not_false_eq_true]
  all_goals grind (splits := 40) [bi]
theorem ct_Del_pop  : sm_wp X 28 0 [some (.ref 45)] [] (sM mo G I J) Q = (if I 45 5 < 1 then (Q (some (.long 0)) (sM mo G I J)) else (if I 45 5 ≤ 64 then (vp_in ((I 45 5) - 1) 64 ∧ (Q (some (.long (J 47 (((I 45 5) - 1).toNatClampNeg)))) (sM mo G (up2 I 45 5 ((I 45 5) - 1)) J))) else (Q (some (.long 0)) (sM mo G I J)))) := by
  rw [bk_28_0]
  simp (decide := true) only [bk_28_17, bk_28_19, up2_ne, up2_sn, up2_ss, ne_eq, tl_some, tl_none, zb_0, zb_1, zb_bi, true_and, bi_eq, bi_ne, oz_f, zz_t, if_true, if_false, not_true_eq_false, not_false_eq_true]
  all_goals grind (splits := 40) [bi]
theorem ct_Del_push (x : Int64) : sm_wp X 31 0 [some (.ref 45), some (.long x), none] [] (sM mo G I J) Q = (if I 45 5 < 0 then (Q none (sM mo G I J)) else (if 64 ≤ I 45 5 then (Q none (sM mo G I J)) else (vp_in (I 45 5) 64 ∧ (Q none (sM mo G (up2 I 45 5 ((I 45 5) + 1)) (up2 J 47 (I 45 5).toNatClampNeg x)))))) := by
  rw [bk_31_0]
  simp (decide := true) only [bk_31_36, up2_ne, up2_sn, up2_ss, ne_eq, tl_some, tl_none, zb_0, zb_1, zb_bi, true_and, bi_eq, bi_ne, oz_f, zz_t, if_true, if_false, not_true_eq_false, not_false_eq_true]
  all_goals grind (splits := 40) [bi]
theorem ct_Del_followLine (x : Int32) (y : Int32) : sm_wp X 32 0 [some (.ref 45), some (.int x), some (.int y), none, none] [] (sM mo G I J) Q = (if (vf_Book_isLine I (aPap I 33 (-1) x) y) then (if ¬ (hPap I x) then (if ¬ vf_Book_verbOf I (aPap I 33 (-1) x) y = 0 then (if ¬ vf_Book_verbOf I (aPap I 33 (-1) x) y = 1 then (if ¬ vf_Book_verbOf I (aPap I 33 (-1) x) y = 2 then (Q none (sM mo G I J)) else (Q none (sM mo G I J))) else (Q none (sM mo G I J))) else (Q none (sM mo G I J))) else (vp_in x 60 ∧ (if ¬ vf_Book_verbOf (up2 I 43 x.toNatClampNeg y) (aPap I 33 (-1) x) y = 0 then (if ¬ vf_Book_verbOf (up2 I 43 x.toNatClampNeg y) (aPap I 33 (-1) x) y = 1 then (if ¬ vf_Book_verbOf (up2 I 43 x.toNatClampNeg y) (aPap I 33 (-1) x) y = 2 then (Q none (sM mo G (up2 I 43 x.toNatClampNeg y) J)) else (if ¬ (hPap (up2 I 43 x.toNatClampNeg y) x) then (Q none (sM mo G (up2 I 43 x.toNatClampNeg y) J)) else (if ¬ (hPap (up2 (up2 I 43 x.toNatClampNeg y) 42 x.toNatClampNeg 1) x) then (Q none (sM mo G (up2 (up2 I 43 x.toNatClampNeg y) 42 x.toNatClampNeg 1) J)) else (Q none (sM mo G (up2 (up2 (up2 I 43 x.toNatClampNeg y) 42 x.toNatClampNeg 1) 44 x.toNatClampNeg ((I 1 3) + ((2 : Int32) * (aState (up2 (up2 I 43 x.toNatClampNeg y) 42 x.toNatClampNeg 1) 11 0 (aPap I 33 (-1) x))))) J))))) else (if ¬ (hPap (up2 I 43 x.toNatClampNeg y) x) then (Q none (sM mo G (up2 I 43 x.toNatClampNeg y) J)) else (Q none (sM mo G (up2 (up2 I 43 x.toNatClampNeg y) 42 x.toNatClampNeg 3) J)))) else (if ¬ (hPap (up2 I 43 x.toNatClampNeg y) x) then (Q none (sM mo G (up2 I 43 x.toNatClampNeg y) J)) else (Q none (sM mo G (up2 (up2 I 43 x.toNatClampNeg y) 42 x.toNatClampNeg 2) J)))))) else (Q none (sM mo G I J))) := by
  rw [bk_32_0]
  simp (decide := true) only [bk_32_8, bk_32_18, bk_32_22, bk_32_31, bk_32_40, bk_32_56, bk_32_59, bk_32_74, bk_32_77, bk_32_92, bk_32_113, bk_32_118, ct_Pap_receiver, ct_Book_isLine, ct_Pap_setLine, ct_Book_verbOf, ct_Pap_setStanding, ct_Realm_homeOf, ct_Pap_setAnswerDay, up2_ne, up2_sn, up2_ss, ne_eq, tl_some, tl_none, zb_0, zb_1, zb_bi, true_and, bi_eq, bi_ne, oz_f, zz_t, if_true, if_false, not_true_eq_false, not_false_eq_true]
  all_goals grind (splits := 40) [bi]
theorem ct_Del_followCourt (x : Int32) (y : Int32) : sm_wp X 33 0 [some (.ref 45), some (.int x), some (.int y)] [] (sM mo G I J) Q = (if ¬ y = (-1) then (if ¬ (hPap I x) then (Q none (sM mo G I J)) else (vp_in x 60 ∧ (if ¬ (hPap (up2 I 42 x.toNatClampNeg 2) x) then (Q none (sM mo G (up2 I 42 x.toNatClampNeg 2) J)) else (Q none (sM mo G (up2 (up2 I 42 x.toNatClampNeg 2) 43 x.toNatClampNeg y) J))))) else (if ¬ (hPap I x) then (Q none (sM mo G I J)) else (vp_in x 60 ∧ (Q none (sM mo G (up2 I 42 x.toNatClampNeg 3) J))))) := by
  rw [bk_33_0]
  simp (decide := true) only [bk_33_14, bk_33_17, bk_33_26, bk_33_35, ct_Pap_setStanding, ct_Pap_setLine, up2_ne, up2_sn, up2_ss, ne_eq, tl_some, tl_none, zb_0, zb_1, zb_bi, true_and, bi_eq, bi_ne, oz_f, zz_t, if_true, if_false, not_true_eq_false, not_false_eq_true]
  all_goals grind (splits := 40) [bi]
theorem ct_Read_markFault (x : Int32) : sm_wp X 50 0 [some (.ref 16), some (.int x)] [] (sM mo G I J) Q = (Q none (sM mo G (up2 (up2 I 16 0 x) 16 1 (I 14 1)) J)) := by
  rw [bk_50_0]
  simp (decide := true) only [up2_ne, up2_sn, up2_ss, ne_eq, tl_some, tl_none, zb_0, zb_1, zb_bi, true_and, bi_eq, bi_ne, oz_f, zz_t, if_true, if_false, not_true_eq_false, not_false_eq_true]
  all_goals grind (splits := 40) [bi]
theorem ct_Read_countKnot  : sm_wp X 53 0 [some (.ref 16)] [] (sM mo G I J) Q = (if I 16 11 < 64 then (Q (some (.int 1)) (sM mo G (up2 I 16 11 ((I 16 11) + 1)) J)) else (Q (some (.int 0)) (sM mo G (up2 (up2 I 16 0 2) 16 1 (I 14 1)) J))) := by
  rw [bk_53_0]
  simp (decide := true) only [bk_53_14, bk_53_16, ct_Read_markFault, up2_ne, up2_sn, up2_ss, ne_eq, tl_some, tl_none, zb_0, zb_1, zb_bi, true_and, bi_eq, bi_ne, oz_f, zz_t, if_true, if_false, not_true_eq_false, not_false_eq_true]
  all_goals grind (splits := 40) [bi]
theorem ct_Read_putCode (x : Int32) : sm_wp X 56 0 [some (.ref 16), some (.int x)] [] (sM mo G I J) Q = (if I 16 3 < 0 then (Q none (sM mo G I J)) else (if 64 ≤ I 16 3 then (Q none (sM mo G I J)) else (vp_in (I 16 3) 64 ∧ (Q none (sM mo G (up2 (up2 I 17 (I 16 3).toNatClampNeg x) 16 3 ((I 16 3) + 1)) J))))) := by
  rw [bk_56_0]
  simp (decide := true) only [bk_56_36, up2_ne, up2_sn, up2_ss, ne_eq, tl_some, tl_none, zb_0, zb_1, zb_bi, true_and, bi_eq, bi_ne, oz_f, zz_t, if_true, if_false, not_true_eq_false, not_false_eq_true]
  all_goals grind (splits := 40) [bi]
theorem ct_Read_putWaiting (x : Int32) : sm_wp X 57 0 [some (.ref 16), some (.int x)] [] (sM mo G I J) Q = (if I 16 9 < 0 then (Q none (sM mo G I J)) else (if 72 ≤ I 16 9 then (Q none (sM mo G I J)) else (vp_in (I 16 9) 72 ∧ (Q none (sM mo G (up2 (up2 I 20 (I 16 9).toNatClampNeg x) 16 9 ((I 16 9) + 1)) J))))) := by
  rw [bk_57_0]
  simp (decide := true) only [bk_57_36, up2_ne, up2_sn, up2_ss, ne_eq, tl_some, tl_none, zb_0, zb_1, zb_bi, true_and, bi_eq, bi_ne, oz_f, zz_t, if_true, if_false, not_true_eq_false, not_false_eq_true]
  all_goals grind (splits := 40) [bi]
theorem ct_Read_acceptNumber  : sm_wp X 60 0 [some (.ref 16)] [] (sM mo G I J) Q = (if I 14 2 ≤ 99999 then (if I 16 11 < 64 then (if I 16 3 < 0 then (Q none (sM mo G (up2 (up2 I 16 11 ((I 16 11) + 1)) 16 10 3) J)) else (if 64 ≤ I 16 3 then (Q none (sM mo G (up2 (up2 I 16 11 ((I 16 11) + 1)) 16 10 3) J)) else (vp_in (I 16 3) 64 ∧ (Q none (sM mo G (up2 (up2 (up2 (up2 I 16 11 ((I 16 11) + 1)) 17 (I 16 3).toNatClampNeg ((100 : Int32) + (I 14 2))) 16 3 ((I 16 3) + 1)) 16 10 3) J))))) else (Q none (sM mo G (up2 (up2 I 16 0 2) 16 1 (I 14 1)) J))) else (Q none (sM mo G (up2 (up2 I 16 0 2) 16 1 (I 14 1)) J))) := by
  rw [bk_60_0]
  simp (decide := true) only [bk_60_17, bk_60_20, bk_60_24, bk_60_41, bk_60_46, ct_Read_countKnot, ct_Read_putCode, ct_Read_markFault, up2_ne, up2_sn, up2_ss, ne_eq, tl_some, tl_none, zb_0, zb_1, zb_bi, true_and, bi_eq, bi_ne, oz_f, zz_t, if_true, if_false, not_true_eq_false, not_false_eq_true]
  all_goals grind (splits := 40) [bi]
theorem ct_Read_openParenthesis  : sm_wp X 61 0 [some (.ref 16)] [] (sM mo G I J) Q = (if I 16 12 < 8 then (if I 16 9 < 0 then (Q none (sM mo G (up2 (up2 (up2 I 16 12 ((I 16 12) + 1)) 16 13 ((I 16 13) &&& (((1 : Int32) <<< (((I 16 12) + 1) &&& 31)) ^^^ (-1)))) 16 10 1) J)) else (if 72 ≤ I 16 9 then (Q none (sM mo G (up2 (up2 (up2 I 16 12 ((I 16 12) + 1)) 16 13 ((I 16 13) &&& (((1 : Int32) <<< (((I 16 12) + 1) &&& 31)) ^^^ (-1)))) 16 10 1) J)) else (vp_in (I 16 9) 72 ∧ (Q none (sM mo G (up2 (up2 (up2 (up2 (up2 I 16 12 ((I 16 12) + 1)) 16 13 ((I 16 13) &&& (((1 : Int32) <<< (((I 16 12) + 1) &&& 31)) ^^^ (-1)))) 20 (I 16 9).toNatClampNeg 30) 16 9 ((I 16 9) + 1)) 16 10 1) J))))) else (Q none (sM mo G (up2 (up2 I 16 0 2) 16 1 (I 14 1)) J))) := by
  rw [bk_61_0]
  simp (decide := true) only [bk_61_14, bk_61_15, bk_61_48, ct_Read_putWaiting, ct_Read_markFault, up2_ne, up2_sn, up2_ss, ne_eq, tl_some, tl_none, zb_0, zb_1, zb_bi, true_and, bi_eq, bi_ne, oz_f, zz_t, if_true, if_false, not_true_eq_false, not_false_eq_true]
  all_goals grind (splits := 40) [bi]
theorem ct_Read_acceptPrefix (x : Int32) (y : Int32) : sm_wp X 62 0 [some (.ref 16), some (.int x), some (.int y)] [] (sM mo G I J) Q = (if I 16 11 < 64 then (if I 16 9 < 0 then (Q none (sM mo G (up2 (up2 I 16 11 ((I 16 11) + 1)) 16 10 y) J)) else (if 72 ≤ I 16 9 then (Q none (sM mo G (up2 (up2 I 16 11 ((I 16 11) + 1)) 16 10 y) J)) else (vp_in (I 16 9) 72 ∧ (Q none (sM mo G (up2 (up2 (up2 (up2 I 16 11 ((I 16 11) + 1)) 20 (I 16 9).toNatClampNeg x) 16 9 ((I 16 9) + 1)) 16 10 y) J))))) else (Q none (sM mo G (up2 (up2 I 16 0 2) 16 1 (I 14 1)) J))) := by
  rw [bk_62_0]
  simp (decide := true) only [bk_62_4, bk_62_12, bk_62_17, ct_Read_countKnot, ct_Read_putWaiting, up2_ne, up2_sn, up2_ss, ne_eq, tl_some, tl_none, zb_0, zb_1, zb_bi, true_and, bi_eq, bi_ne, oz_f, zz_t, if_true, if_false, not_true_eq_false, not_false_eq_true]
  all_goals grind (splits := 40) [bi]
theorem ct_Ring_tell (x : Int32) : sm_wp X 126 0 [some (.ref 68), some (.int x), none] [] (sM mo G I J) Q = (if ¬ x = 0 then (if x < 1 then (if (x - 1) - 4 < 0 then (Q (some (.int (-1))) (sM mo G I J)) else (if 4 ≤ (x - 1) - 4 then (Q (some (.int (-1))) (sM mo G I J)) else (if I 68 3 ≤ (x - 1) - 4 then (Q (some (.int (-1))) (sM mo G I J)) else (vp_in ((x - 1) - 4) 4 ∧ (Q (some (.int (I 70 (((x - 1) - 4).toNatClampNeg)))) (sM mo G I J)))))) else (if 4 < x then (if (x - 1) - 4 < 0 then (Q (some (.int (-1))) (sM mo G I J)) else (if 4 ≤ (x - 1) - 4 then (Q (some (.int (-1))) (sM mo G I J)) else (if I 68 3 ≤ (x - 1) - 4 then (Q (some (.int (-1))) (sM mo G I J)) else (vp_in ((x - 1) - 4) 4 ∧ (Q (some (.int (I 70 (((x - 1) - 4).toNatClampNeg)))) (sM mo G I J)))))) else (if I 68 3 < x then (Q (some (.int (-1))) (sM mo G I J)) else (vp_in (x - 1) 4 ∧ (Q (some (.int (I 69 ((x - 1).toNatClampNeg)))) (sM mo G I J)))))) else (Q (some (.int (I 68 3))) (sM mo G I J))) := by
  rw [bk_126_0]
  simp (decide := true) only [bk_126_9, bk_126_38, bk_126_39, bk_126_40, bk_126_72, bk_126_73, up2_ne, up2_sn, up2_ss, ne_eq, tl_some, tl_none, zb_0, zb_1, zb_bi, true_and, bi_eq, bi_ne, oz_f, zz_t, if_true, if_false, not_true_eq_false, not_false_eq_true]
  all_goals grind (splits := 40) [bi]
theorem ct_Tape_beginText (x : Int32) : sm_wp X 155 0 [some (.ref 14), some (.int x)] [] (sM mo G I J) Q = (Q none (sM mo G (up2 (up2 (up2 I 14 4 (if (0 : Int32) < if (I 14 0 : Int32) < x then I 14 0 else x then if (I 14 0 : Int32) < x then I 14 0 else x else 0)) 14 5 0) 14 0 0) J)) := by
  rw [bk_155_0]
  simp (decide := true) only [up2_ne, up2_sn, up2_ss, ne_eq, tl_some, tl_none, zb_0, zb_1, zb_bi, true_and, bi_eq, bi_ne, oz_f, zz_t, if_true, if_false, not_true_eq_false, not_false_eq_true]
  all_goals grind (splits := 40) [bi]
theorem ct_Tape_skipSign (x : Int32) : sm_wp X 165 0 [some (.ref 14), some (.int x)] [] (sM mo G I J) Q = (if I 14 4 ≤ I 14 5 then (Q (some (.int 0)) (sM mo G I J)) else (if vf_Tape_byteAt I (I 14 5) = x then (Q (some (.int 1)) (sM mo G (up2 I 14 5 ((I 14 5) + 1)) J)) else (Q (some (.int 0)) (sM mo G I J)))) := by
  rw [bk_165_0]
  simp (decide := true) only [bk_165_19, bk_165_23, bk_165_25, ct_Tape_byteAt, up2_ne, up2_sn, up2_ss, ne_eq, tl_some, tl_none, zb_0, zb_1, zb_bi, true_and, bi_eq, bi_ne, oz_f, zz_t, if_true, if_false, not_true_eq_false, not_false_eq_true]
  all_goals grind (splits := 40) [bi]
theorem ct_House_fault (x : Int32) : sm_wp X 170 0 [some (.ref 0), some (.int x)] [] (sM mo G I J) Q = (if ¬ x = 0 then (if ¬ x = 1 then (Q (some (.int (-1))) (sM mo G I J)) else (Q (some (.int (I 16 1))) (sM mo G I J))) else (Q (some (.int (I 16 0))) (sM mo G I J))) := by
  rw [bk_170_0]
  simp (decide := true) only [bk_170_12, bk_170_27, bk_170_28, up2_ne, up2_sn, up2_ss, ne_eq, tl_some, tl_none, zb_0, zb_1, zb_bi, true_and, bi_eq, bi_ne, oz_f, zz_t, if_true, if_false, not_true_eq_false, not_false_eq_true]
  all_goals grind (splits := 40) [bi]
theorem ct_House_land (x : Int32) : sm_wp X 171 0 [some (.ref 0), some (.int x)] [] (sM mo G I J) Q = (if x < 1 then (Q (some (.int (-1))) (sM mo G I J)) else (if x ≤ 9999 then (if I 1 0 < 12 then (vp_in (I 1 0) 12 ∧ (Q (some (.int (((I 1 0) + 1) - 1))) (sM mo G (up2 (up2 (up2 (up2 I 2 (I 1 0).toNatClampNeg x) 4 (I 1 0).toNatClampNeg (-1)) 1 0 ((I 1 0) + 1)) 1 4 ((I 1 4) + 1)) J))) else (Q (some (.int (-1))) (sM mo G I J))) else (Q (some (.int (-1))) (sM mo G I J)))) := by
  rw [bk_171_0]
  simp (decide := true) only [bk_171_12, bk_171_14, bk_171_22, ct_Realm_addLand, up2_ne, up2_sn, up2_ss, ne_eq, tl_some, tl_none, zb_0, zb_1, zb_bi, true_and, bi_eq, bi_ne, oz_f, zz_t, if_true, if_false, not_true_eq_false, not_false_eq_true]
  all_goals grind (splits := 40) [bi]
theorem ct_House_near (x : Int32) (y : Int32) : sm_wp X 172 0 [some (.ref 0), some (.int x), some (.int y)] [] (sM mo G I J) Q = (if ¬ (hLand I x) then (Q (some (.int 0)) (sM mo G I J)) else (if ¬ (hLand I y) then (Q (some (.int 0)) (sM mo G I J)) else (if x = y then (Q (some (.int 0)) (sM mo G I J)) else (if ¬ (vf_Realm_areNear I x y) then (vp_in x 12 ∧ (vp_in y 12 ∧ (Q (some (.int 1)) (sM mo G (up2 (up2 I 3 x.toNatClampNeg ((I 3 (x.toNatClampNeg)) ||| ((1 : Int32) <<< (y &&& 31)))) 3 y.toNatClampNeg (((up2 I 3 x.toNatClampNeg ((I 3 (x.toNatClampNeg)) ||| ((1 : Int32) <<< (y &&& 31)))) 3 (y.toNatClampNeg)) ||| ((1 : Int32) <<< (x &&& 31)))) J)))) else (Q (some (.int 0)) (sM mo G I J)))))) := by
  rw [bk_172_0]
  simp (decide := true) only [bk_172_8, bk_172_19, bk_172_36, bk_172_39, bk_172_41, bk_172_50, ct_Realm_isLand, ct_Realm_areNear, ct_Realm_makeNear, up2_ne, up2_sn, up2_ss, ne_eq, tl_some, tl_none, zb_0, zb_1, zb_bi, true_and, bi_eq, bi_ne, oz_f, zz_t, if_true, if_false, not_true_eq_false, not_false_eq_true]
  all_goals grind (splits := 40) [bi]
theorem ct_House_state (x : Int32) (y : Int32) : sm_wp X 173 0 [some (.ref 0), some (.int x), some (.int y)] [] (sM mo G I J) Q = (if x < 0 then (Q (some (.int (-1))) (sM mo G I J)) else (if 99 < x then (Q (some (.int (-1))) (sM mo G I J)) else (if y < 0 then (Q (some (.int (-1))) (sM mo G I J)) else (if y ≤ 9 then (if I 1 1 < 6 then (vp_in (I 1 1) 6 ∧ (Q (some (.int (((I 1 1) + 1) - 1))) (sM mo G (up2 (up2 (up2 (up2 (up2 I 10 (I 1 1).toNatClampNeg x) 11 (I 1 1).toNatClampNeg y) 1 2 ((I 1 2) ||| ((1 : Int32) <<< ((I 1 1) &&& 31)))) 1 1 ((I 1 1) + 1)) 1 4 ((I 1 4) + 1)) J))) else (Q (some (.int (-1))) (sM mo G I J))) else (Q (some (.int (-1))) (sM mo G I J)))))) := by
  rw [bk_173_0]
  simp (decide := true) only [bk_173_20, bk_173_22, bk_173_31, ct_Realm_addState, up2_ne, up2_sn, up2_ss, ne_eq, tl_some, tl_none, zb_0, zb_1, zb_bi, true_and, bi_eq, bi_ne, oz_f, zz_t, if_true, if_false, not_true_eq_false, not_false_eq_true]
  all_goals grind (splits := 40) [bi]
theorem ct_House_hold (x : Int32) (y : Int32) : sm_wp X 174 0 [some (.ref 0), some (.int x), some (.int y)] [] (sM mo G I J) Q = (if ¬ (hLand I x) then (Q (some (.int 0)) (sM mo G I J)) else (if y = (-1) then (if aLand I 4 (-1) x = y then (Q (some (.int 0)) (sM mo G I J)) else (if aLand I 6 0 x < 20 then (vp_in x 12 ∧ (if I 6 (x.toNatClampNeg) < 0 then (Q (some (.int 1)) (sM mo G (up2 (up2 I 4 x.toNatClampNeg y) 1 4 ((I 1 4) + 1)) J)) else (if 80 ≤ I 6 (x.toNatClampNeg) then (Q (some (.int 1)) (sM mo G (up2 (up2 I 4 x.toNatClampNeg y) 1 4 ((I 1 4) + 1)) J)) else (vp_in ((x * 80) + (I 6 (x.toNatClampNeg))) 960 ∧ (Q (some (.int 1)) (sM mo G (up2 (up2 (up2 (up2 (up2 (up2 I 7 ((x * 80) + (I 6 (x.toNatClampNeg))).toNatClampNeg y) 8 ((x * 80) + (I 6 (x.toNatClampNeg))).toNatClampNeg (I 1 3)) 9 ((x * 80) + (I 6 (x.toNatClampNeg))).toNatClampNeg (-1)) 6 x.toNatClampNeg ((I 6 (x.toNatClampNeg)) + 1)) 4 x.toNatClampNeg y) 1 4 ((I 1 4) + 1)) J)))))) else (Q (some (.int 0)) (sM mo G I J)))) else (if (hPres I y) then (if aLand I 4 (-1) x = y then (Q (some (.int 0)) (sM mo G I J)) else (if aLand I 6 0 x < 20 then (vp_in x 12 ∧ (if I 6 (x.toNatClampNeg) < 0 then (Q (some (.int 1)) (sM mo G (up2 (up2 I 4 x.toNatClampNeg y) 1 4 ((I 1 4) + 1)) J)) else (if 80 ≤ I 6 (x.toNatClampNeg) then (Q (some (.int 1)) (sM mo G (up2 (up2 I 4 x.toNatClampNeg y) 1 4 ((I 1 4) + 1)) J)) else (vp_in ((x * 80) + (I 6 (x.toNatClampNeg))) 960 ∧ (Q (some (.int 1)) (sM mo G (up2 (up2 (up2 (up2 (up2 (up2 I 7 ((x * 80) + (I 6 (x.toNatClampNeg))).toNatClampNeg y) 8 ((x * 80) + (I 6 (x.toNatClampNeg))).toNatClampNeg (I 1 3)) 9 ((x * 80) + (I 6 (x.toNatClampNeg))).toNatClampNeg (-1)) 6 x.toNatClampNeg ((I 6 (x.toNatClampNeg)) + 1)) 4 x.toNatClampNeg y) 1 4 ((I 1 4) + 1)) J)))))) else (Q (some (.int 0)) (sM mo G I J)))) else (Q (some (.int 0)) (sM mo G I J))))) := by
  rw [bk_174_0]
  simp (decide := true) only [bk_174_8, bk_174_24, bk_174_27, bk_174_29, bk_174_37, bk_174_49, bk_174_54, bk_174_56, bk_174_66, ct_Realm_isLand, ct_Realm_holderOf, ct_Realm_wayLengthOf, ct_Realm_giveLand, ct_Realm_isPresent, up2_ne, up2_sn, up2_ss, ne_eq, tl_some, tl_none, zb_0, zb_1, zb_bi, true_and, bi_eq, bi_ne, oz_f, zz_t, if_true, if_false, not_true_eq_false, not_false_eq_true]
  all_goals grind (splits := 40) [bi]
theorem ct_House_claim (x : Int32) (y : Int32) (z : Int32) : sm_wp X 175 0 [some (.ref 0), some (.int x), some (.int y), some (.int z), none] [] (sM mo G I J) Q = (if ¬ (hLand I x) then (Q (some (.int 0)) (sM mo G I J)) else (if (hState I y) then (if bi (hBit (aLand I 5 0 x) y) = z then (Q (some (.int 0)) (sM mo G I J)) else (if z = 0 then (vp_in x 12 ∧ (Q (some (.int 1)) (sM mo G (up2 (up2 I 5 x.toNatClampNeg ((aLand I 5 0 x) ^^^ ((1 : Int32) <<< (y &&& 31)))) 1 4 ((I 1 4) + 1)) J))) else (if vf_Integer_bitCount (aLand I 5 0 x) < 3 then (vp_in x 12 ∧ (Q (some (.int 1)) (sM mo G (up2 (up2 I 5 x.toNatClampNeg ((aLand I 5 0 x) ^^^ ((1 : Int32) <<< (y &&& 31)))) 1 4 ((I 1 4) + 1)) J))) else (Q (some (.int 0)) (sM mo G I J))))) else (Q (some (.int 0)) (sM mo G I J)))) := by
  rw [bk_175_0]
  simp (decide := true) only [bk_175_8, bk_175_19, bk_175_22, bk_175_24, bk_175_32, bk_175_40, bk_175_53, bk_175_57, bk_175_59, bk_175_73, ct_Realm_isLand, ct_Realm_isState, ct_Realm_claimsOf, ct_House_hasBit, ct_Realm_setClaims, ct_Integer_bitCount, up2_ne, up2_sn, up2_ss, ne_eq, tl_some, tl_none, zb_0, zb_1, zb_bi, true_and, bi_eq, bi_ne, oz_f, zz_t, if_true, if_false, not_true_eq_false, not_false_eq_true]
  all_goals grind (splits := 40) [bi]
theorem ct_House_worth (x : Int32) (y : Int32) (z : Int32) : sm_wp X 176 0 [some (.ref 0), some (.int x), some (.int y), some (.int z)] [] (sM mo G I J) Q = (if ¬ (hState I x) then (Q (some (.int 0)) (sM mo G I J)) else (if ¬ (hLand I y) then (Q (some (.int 0)) (sM mo G I J)) else (if z < 0 then (Q (some (.int 0)) (sM mo G I J)) else (if z ≤ 99 then (vp_in ((x * 12) + y) 72 ∧ (Q (some (.int 1)) (sM mo G (up2 (up2 I 13 ((x * 12) + y).toNatClampNeg z) 1 4 ((I 1 4) + 1)) J))) else (Q (some (.int 0)) (sM mo G I J)))))) := by
  rw [bk_176_0]
  simp (decide := true) only [bk_176_8, bk_176_19, bk_176_32, bk_176_34, bk_176_44, ct_Realm_isState, ct_Realm_isLand, ct_Realm_setWorth, up2_ne, up2_sn, up2_ss, ne_eq, tl_some, tl_none, zb_0, zb_1, zb_bi, true_and, bi_eq, bi_ne, oz_f, zz_t, if_true, if_false, not_true_eq_false, not_false_eq_true]
  all_goals grind (splits := 40) [bi]
theorem ct_House_bound (x : Int32) (y : Int32) : sm_wp X 177 0 [some (.ref 0), some (.int x), some (.int y)] [] (sM mo G I J) Q = (if ¬ (hState I x) then (Q (some (.int 0)) (sM mo G I J)) else (if y < 0 then (Q (some (.int 0)) (sM mo G I J)) else (if y ≤ 999 then (vp_in x 6 ∧ (Q (some (.int 1)) (sM mo G (up2 (up2 I 12 x.toNatClampNeg y) 1 4 ((I 1 4) + 1)) J))) else (Q (some (.int 0)) (sM mo G I J))))) := by
  rw [bk_177_0]
  simp (decide := true) only [bk_177_8, bk_177_22, bk_177_24, bk_177_33, ct_Realm_isState, ct_Realm_setBound, up2_ne, up2_sn, up2_ss, ne_eq, tl_some, tl_none, zb_0, zb_1, zb_bi, true_and, bi_eq, bi_ne, oz_f, zz_t, if_true, if_false, not_true_eq_false, not_false_eq_true]
  all_goals grind (splits := 40) [bi]
theorem ct_House_spy (x : Int32) (y : Int32) (z : Int32) (u : Int32) : sm_wp X 181 0 [some (.ref 0), some (.int x), some (.int y), some (.int z), some (.int u)] [] (sM mo G I J) Q = (if ¬ (hState I x) then (Q (some (.int 0)) (sM mo G I J)) else (if ¬ (hState I y) then (Q (some (.int 0)) (sM mo G I J)) else (if ¬ x = y then (if z < I 1 3 then (Q (some (.int 0)) (sM mo G I J)) else (if u < z then (Q (some (.int 0)) (sM mo G I J)) else (if u ≤ 300 then (if I 26 0 < 20 then (vp_in (I 26 0) 20 ∧ (Q (some (.int 1)) (sM mo G (up2 (up2 (up2 (up2 (up2 I 27 (I 26 0).toNatClampNeg x) 28 (I 26 0).toNatClampNeg y) 29 (I 26 0).toNatClampNeg z) 30 (I 26 0).toNatClampNeg u) 26 0 ((I 26 0) + 1)) J))) else (Q (some (.int 0)) (sM mo G I J))) else (Q (some (.int 0)) (sM mo G I J))))) else (Q (some (.int 0)) (sM mo G I J))))) := by
  rw [bk_181_0]
  simp (decide := true) only [bk_181_8, bk_181_19, bk_181_27, bk_181_29, bk_181_54, bk_181_56, bk_181_68, ct_Realm_isState, ct_Spy_addSpy, up2_ne, up2_sn, up2_ss, ne_eq, tl_some, tl_none, zb_0, zb_1, zb_bi, true_and, bi_eq, bi_ne, oz_f, zz_t, if_true, if_false, not_true_eq_false, not_false_eq_true]
  all_goals grind (splits := 40) [bi]
theorem ct_House_paper (x : Int32) (y : Int32) : sm_wp X 183 0 [some (.ref 0), some (.int x), some (.int y)] [] (sM mo G I J) Q = (if (hPap I x) then (if y = 0 then (if ¬ (hPap I x ∧ ¬ I 42 (x.toNatClampNeg) = -1) then (Q (some (.int 1)) (sM mo G I J)) else (Q (some (.int 0)) (sM mo G I J))) else (if y = 1 then (vp_in x 60 ∧ (Q (some (.int (I 34 (x.toNatClampNeg)))) (sM mo G I J))) else (if y = 2 then (vp_in x 60 ∧ (Q (some (.int (I 42 (x.toNatClampNeg)))) (sM mo G I J))) else (if y = 3 then (vp_in x 60 ∧ (Q (some (.int (I 43 (x.toNatClampNeg)))) (sM mo G I J))) else (if y = 4 then (vp_in x 60 ∧ (Q (some (.int (I 32 (x.toNatClampNeg)))) (sM mo G I J))) else (if y = 5 then (vp_in x 60 ∧ (Q (some (.int (I 33 (x.toNatClampNeg)))) (sM mo G I J))) else (if y = 6 then (vp_in x 60 ∧ (Q (some (.int (I 44 (x.toNatClampNeg)))) (sM mo G I J))) else (Q (some (.int (-2))) (sM mo G I J))))))))) else (Q (some (.int (-2))) (sM mo G I J))) := by
  rw [bk_183_0]
  simp (decide := true) only [bk_183_9, ct_Pap_tell, up2_ne, up2_sn, up2_ss, ne_eq, tl_some, tl_none, zb_0, zb_1, zb_bi, true_and, bi_eq, bi_ne, oz_f, zz_t, if_true, if_false, not_true_eq_false, not_false_eq_true]
  all_goals grind (splits := 40) [bi]
theorem ct_House_known (x : Int32) (y : Int32) : sm_wp X 186 0 [some (.ref 0), some (.int x), some (.int y), none] [] (sM mo G I J) Q = (if ¬ (hPap I x) then (Q (some (.int (-1))) (sM mo G I J)) else (if (hState I y) then (if I 1 3 < vf_Pap_knownDay I x y then (Q (some (.int (-1))) (sM mo G I J)) else (Q (some (.int (vf_Pap_knownDay I x y))) (sM mo G I J))) else (Q (some (.int (-1))) (sM mo G I J)))) := by
  rw [bk_186_0]
  simp (decide := true) only [bk_186_8, bk_186_19, bk_186_22, bk_186_24, bk_186_33, bk_186_49, bk_186_50, ct_Pap_isPaper, ct_Realm_isState, ct_Pap_knownDay, up2_ne, up2_sn, up2_ss, ne_eq, tl_some, tl_none, zb_0, zb_1, zb_bi, true_and, bi_eq, bi_ne, oz_f, zz_t, if_true, if_false, not_true_eq_false, not_false_eq_true]
  all_goals grind (splits := 40) [bi]
theorem ct_House_article  : sm_wp X 195 0 [some (.ref 0)] [] (sM mo G I J) Q = (if I 71 0 < 8 then (Q (some (.int (((I 71 0) + 1) - 1))) (sM mo G (up2 I 71 0 ((I 71 0) + 1)) J)) else (Q (some (.int (-1))) (sM mo G I J))) := by
  rw [bk_195_0]
  simp (decide := true) only [bk_195_7, ct_Art_addArticle, up2_ne, up2_sn, up2_ss, ne_eq, tl_some, tl_none, zb_0, zb_1, zb_bi, true_and, bi_eq, bi_ne, oz_f, zz_t, if_true, if_false, not_true_eq_false, not_false_eq_true]
  all_goals grind (splits := 40) [bi]
theorem ct_House_draft (x : Int32) (y : Int32) (z : Int32) : sm_wp X 196 0 [some (.ref 0), some (.int x), some (.int y), some (.int z)] [] (sM mo G I J) Q = (if ¬ (hArt I x) then (Q (some (.int (-1))) (sM mo G I J)) else (if (hPres I y) then (if ¬ z = 0 then (if ¬ (¬ z < 1 ∧ ¬ 99 < z) then (Q (some (.int (-1))) (sM mo G I J)) else (if (hState I y) then (vp_in ((x * 6) + y) 48 ∧ (if I 72 (((x * 6) + y).toNatClampNeg) < 0 then (Q (some (.int (-1))) (sM mo G I J)) else (if I 72 (((x * 6) + y).toNatClampNeg) < 8 then (vp_in ((((x * 6) + y) * 8) + (I 72 (((x * 6) + y).toNatClampNeg))) 384 ∧ (Q (some (.int ((I 72 (((x * 6) + y).toNatClampNeg)) + 1))) (sM mo G (up2 (up2 I 73 ((((x * 6) + y) * 8) + (I 72 (((x * 6) + y).toNatClampNeg))).toNatClampNeg z) 72 ((x * 6) + y).toNatClampNeg ((I 72 (((x * 6) + y).toNatClampNeg)) + 1)) J))) else (Q (some (.int (-1))) (sM mo G I J))))) else (Q (some (.int (-1))) (sM mo G I J)))) else (if ¬ (hState I y) then (Q (some (.int 0)) (sM mo G I J)) else (vp_in ((x * 6) + y) 48 ∧ (Q (some (.int 0)) (sM mo G (up2 I 72 ((x * 6) + y).toNatClampNeg 0) J))))) else (Q (some (.int (-1))) (sM mo G I J)))) := by
  rw [bk_196_0]
  simp (decide := true) only [bk_196_8, bk_196_19, bk_196_22, bk_196_24, bk_196_37, bk_196_38, bk_196_42, bk_196_55, bk_196_58, bk_196_59, ct_Art_isArticle, ct_Realm_isPresent, ct_House_isWord, ct_Art_addWord, ct_Art_dropDraft, up2_ne, up2_sn, up2_ss, ne_eq, tl_some, tl_none, zb_0, zb_1, zb_bi, true_and, bi_eq, bi_ne, oz_f, zz_t, if_true, if_false, not_true_eq_false, not_false_eq_true]
  all_goals grind (splits := 40) [bi]
theorem ct_House_hang (x : Int32) (y : Int32) (z : Int32) : sm_wp X 197 0 [some (.ref 0), some (.int x), some (.int y), some (.int z)] [] (sM mo G I J) Q = (if ¬ (hArt I x) then (Q (some (.int 0)) (sM mo G I J)) else (if ¬ (hArt I y) then (Q (some (.int 0)) (sM mo G I J)) else (if ¬ x = y then (vp_in x 8 ∧ (if ¬ bi (hBit (I 74 (x.toNatClampNeg)) y) = z then (Q (some (.int 1)) (sM mo G (up2 I 74 x.toNatClampNeg ((I 74 (x.toNatClampNeg)) ^^^ ((1 : Int32) <<< (y &&& 31)))) J)) else (Q (some (.int 0)) (sM mo G I J)))) else (Q (some (.int 0)) (sM mo G I J))))) := by
  rw [bk_197_0]
  simp (decide := true) only [bk_197_8, bk_197_19, bk_197_27, bk_197_29, bk_197_39, ct_Art_isArticle, ct_Art_setHanging, up2_ne, up2_sn, up2_ss, ne_eq, tl_some, tl_none, zb_0, zb_1, zb_bi, true_and, bi_eq, bi_ne, oz_f, zz_t, if_true, if_false, not_true_eq_false, not_false_eq_true]
  all_goals grind (splits := 40) [bi]
theorem ct_House_reserve (x : Int32) (y : Int32) (z : Int32) : sm_wp X 198 0 [some (.ref 0), some (.int x), some (.int y), some (.int z)] [] (sM mo G I J) Q = (if ¬ (hArt I x) then (Q (some (.int 0)) (sM mo G I J)) else (if (hPres I y) then (vp_in x 8 ∧ (if ¬ bi (hBit (I 75 (x.toNatClampNeg)) y) = z then (Q (some (.int 1)) (sM mo G (up2 I 75 x.toNatClampNeg ((I 75 (x.toNatClampNeg)) ^^^ ((1 : Int32) <<< (y &&& 31)))) J)) else (Q (some (.int 0)) (sM mo G I J)))) else (Q (some (.int 0)) (sM mo G I J)))) := by
  rw [bk_198_0]
  simp (decide := true) only [bk_198_8, bk_198_19, bk_198_22, bk_198_24, bk_198_34, ct_Art_isArticle, ct_Realm_isPresent, ct_Art_setReserve, up2_ne, up2_sn, up2_ss, ne_eq, tl_some, tl_none, zb_0, zb_1, zb_bi, true_and, bi_eq, bi_ne, oz_f, zz_t, if_true, if_false, not_true_eq_false, not_false_eq_true]
  all_goals grind (splits := 40) [bi]
theorem ct_House_way (x : Int32) (y : Int32) (z : Int32) : sm_wp X 203 0 [some (.ref 0), some (.int x), some (.int y), some (.int z)] [] (sM mo G I J) Q = (if ¬ (hLand I x) then (Q (some (.int (-2))) (sM mo G I J)) else (if y < 0 then (Q (some (.int (-2))) (sM mo G I J)) else (vp_in x 12 ∧ (if I 6 (x.toNatClampNeg) ≤ y then (Q (some (.int (-2))) (sM mo G I J)) else (if y < 80 then (if z = 0 then (vp_in ((x * 80) + y) 960 ∧ (Q (some (.int (I 7 (((x * 80) + y).toNatClampNeg)))) (sM mo G I J))) else (if z = 1 then (vp_in ((x * 80) + y) 960 ∧ (Q (some (.int (I 8 (((x * 80) + y).toNatClampNeg)))) (sM mo G I J))) else (if z = 2 then (vp_in ((x * 80) + y) 960 ∧ (Q (some (.int (I 9 (((x * 80) + y).toNatClampNeg)))) (sM mo G I J))) else (Q (some (.int (-2))) (sM mo G I J))))) else (Q (some (.int (-2))) (sM mo G I J))))))) := by
  rw [bk_203_0]
  simp (decide := true) only [bk_203_10, ct_Realm_tellWay, up2_ne, up2_sn, up2_ss, ne_eq, tl_some, tl_none, zb_0, zb_1, zb_bi, true_and, bi_eq, bi_ne, oz_f, zz_t, if_true, if_false, not_true_eq_false, not_false_eq_true]
  all_goals grind (splits := 40) [bi]
theorem ct_Model_land (x : Int32) : sm_wp X 209 0 [some (.ref 81), some (.int x)] [] (sM mo G I J) Q = (if I 81 3 = 12 then (Q (some (.int (-1))) (sM mo G (up2 I 81 2 0) J)) else (if (vf_Model_isIn x 1 9999) then (vp_in (I 81 3) 12 ∧ (Q (some (.int (((I 81 3) + 1) - 1))) (sM mo G (up2 (up2 (up2 (up2 (up2 (up2 I 81 2 0) 83 (I 81 3).toNatClampNeg x) 85 (I 81 3).toNatClampNeg (-1)) 86 (I 81 3).toNatClampNeg 0) 87 (I 81 3).toNatClampNeg 0) 81 3 ((I 81 3) + 1)) J))) else (Q (some (.int (-1))) (sM mo G (up2 I 81 2 0) J)))) := by
  rw [bk_209_0]
  simp (decide := true) only [bk_209_22, bk_209_25, bk_209_27, ct_Model_isIn, up2_ne, up2_sn, up2_ss, ne_eq, tl_some, tl_none, zb_0, zb_1, zb_bi, true_and, bi_eq, bi_ne, oz_f, zz_t, if_true, if_false, not_true_eq_false, not_false_eq_true]
  all_goals grind (splits := 40) [bi]
theorem ct_Model_near (x : Int32) (y : Int32) : sm_wp X 211 0 [some (.ref 81), some (.int x), some (.int y)] [] (sM mo G I J) Q = (if ¬ (vf_Model_isLand (up2 I 81 2 0) x) then (Q (some (.int 0)) (sM mo G (up2 I 81 2 0) J)) else (if ¬ (vf_Model_isLand (up2 I 81 2 0) y) then (Q (some (.int 0)) (sM mo G (up2 I 81 2 0) J)) else (if x = y then (Q (some (.int 0)) (sM mo G (up2 I 81 2 0) J)) else (vp_in (((12 : Int32) * x) + y) 144 ∧ (if I 84 ((((12 : Int32) * x) + y).toNatClampNeg) = 0 then (vp_in (((12 : Int32) * y) + x) 144 ∧ (Q (some (.int 1)) (sM mo G (up2 (up2 (up2 I 81 2 0) 84 (((12 : Int32) * x) + y).toNatClampNeg (vp_nar .boolean 1)) 84 (((12 : Int32) * y) + x).toNatClampNeg (vp_nar .boolean 1)) J))) else (Q (some (.int 0)) (sM mo G (up2 I 81 2 0) J))))))) := by
  rw [bk_211_0]
  simp (decide := true) only [bk_211_10, bk_211_18, bk_211_40, bk_211_42, ct_Model_isLand, up2_ne, up2_sn, up2_ss, ne_eq, tl_some, tl_none, zb_0, zb_1, zb_bi, true_and, bi_eq, bi_ne, oz_f, zz_t, if_true, if_false, not_true_eq_false, not_false_eq_true]
  all_goals grind (splits := 40) [bi]
theorem ct_Model_state (x : Int32) (y : Int32) : sm_wp X 213 0 [some (.ref 81), some (.int x), some (.int y)] [] (sM mo G I J) Q = (if I 81 10 = 6 then (Q (some (.int (-1))) (sM mo G (up2 I 81 2 0) J)) else (if ¬ (vf_Model_isIn x 0 99) then (Q (some (.int (-1))) (sM mo G (up2 I 81 2 0) J)) else (if (vf_Model_isIn y 0 9) then (vp_in (I 81 10) 6 ∧ (Q (some (.int (((I 81 10) + 1) - 1))) (sM mo G (up2 (up2 (up2 (up2 (up2 I 81 2 0) 89 (I 81 10).toNatClampNeg x) 90 (I 81 10).toNatClampNeg y) 81 15 ((I 81 15) ||| ((1 : Int32) <<< ((I 81 10) &&& 31)))) 81 10 ((I 81 10) + 1)) J))) else (Q (some (.int (-1))) (sM mo G (up2 I 81 2 0) J))))) := by
  rw [bk_213_0]
  simp (decide := true) only [bk_213_21, bk_213_31, bk_213_34, bk_213_36, ct_Model_isIn, up2_ne, up2_sn, up2_ss, ne_eq, tl_some, tl_none, zb_0, zb_1, zb_bi, true_and, bi_eq, bi_ne, oz_f, zz_t, if_true, if_false, not_true_eq_false, not_false_eq_true]
  all_goals grind (splits := 40) [bi]
theorem ct_Model_comesTo (x : Int32) (y : Int32) (z : Int32) : sm_wp X 217 0 [some (.ref 81), some (.int x), some (.int y), some (.int z), none] [] (sM mo G I J) Q = (vp_in x 12 ∧ (vp_in (((300 : Int32) * x) + ((3 : Int32) * (I 87 (x.toNatClampNeg)))) 3600 ∧ (vp_in ((((300 : Int32) * x) + ((3 : Int32) * (I 87 (x.toNatClampNeg)))) + 1) 3600 ∧ (vp_in ((((300 : Int32) * x) + ((3 : Int32) * (I 87 (x.toNatClampNeg)))) + 2) 3600 ∧ (Q none (sM mo G (up2 (up2 (up2 (up2 (up2 I 85 x.toNatClampNeg y) 88 (((300 : Int32) * x) + ((3 : Int32) * (I 87 (x.toNatClampNeg)))).toNatClampNeg y) 88 ((((300 : Int32) * x) + ((3 : Int32) * (I 87 (x.toNatClampNeg)))) + 1).toNatClampNeg (I 81 16)) 88 ((((300 : Int32) * x) + ((3 : Int32) * (I 87 (x.toNatClampNeg)))) + 2).toNatClampNeg z) 87 x.toNatClampNeg ((I 87 (x.toNatClampNeg)) + 1)) J)))))) := by
  rw [bk_217_0]
  simp (decide := true) only [up2_ne, up2_sn, up2_ss, ne_eq, tl_some, tl_none, zb_0, zb_1, zb_bi, true_and, bi_eq, bi_ne, oz_f, zz_t, if_true, if_false, not_true_eq_false, not_false_eq_true]
  all_goals grind (splits := 40) [bi]
theorem ct_Model_worth (x : Int32) (y : Int32) (z : Int32) : sm_wp X 220 0 [some (.ref 81), some (.int x), some (.int y), some (.int z)] [] (sM mo G I J) Q = (if ¬ (vf_Model_isState (up2 I 81 2 0) x) then (Q (some (.int 0)) (sM mo G (up2 I 81 2 0) J)) else (if ¬ (vf_Model_isLand (up2 I 81 2 0) y) then (Q (some (.int 0)) (sM mo G (up2 I 81 2 0) J)) else (if (vf_Model_isIn z 0 99) then (vp_in (((12 : Int32) * x) + y) 72 ∧ (Q (some (.int 1)) (sM mo G (up2 (up2 I 81 2 0) 91 (((12 : Int32) * x) + y).toNatClampNeg z) J))) else (Q (some (.int 0)) (sM mo G (up2 I 81 2 0) J))))) := by
  rw [bk_220_0]
  simp (decide := true) only [bk_220_10, bk_220_18, bk_220_28, bk_220_31, bk_220_33, ct_Model_isState, ct_Model_isLand, ct_Model_isIn, up2_ne, up2_sn, up2_ss, ne_eq, tl_some, tl_none, zb_0, zb_1, zb_bi, true_and, bi_eq, bi_ne, oz_f, zz_t, if_true, if_false, not_true_eq_false, not_false_eq_true]
  all_goals grind (splits := 40) [bi]
theorem ct_Model_bound (x : Int32) (y : Int32) : sm_wp X 221 0 [some (.ref 81), some (.int x), some (.int y)] [] (sM mo G I J) Q = (if ¬ (vf_Model_isState (up2 I 81 2 0) x) then (Q (some (.int 0)) (sM mo G (up2 I 81 2 0) J)) else (if (vf_Model_isIn y 0 999) then (vp_in x 6 ∧ (Q (some (.int 1)) (sM mo G (up2 (up2 I 81 2 0) 92 x.toNatClampNeg y) J))) else (Q (some (.int 0)) (sM mo G (up2 I 81 2 0) J)))) := by
  rw [bk_221_0]
  simp (decide := true) only [bk_221_10, bk_221_21, bk_221_24, bk_221_26, ct_Model_isState, ct_Model_isIn, up2_ne, up2_sn, up2_ss, ne_eq, tl_some, tl_none, zb_0, zb_1, zb_bi, true_and, bi_eq, bi_ne, oz_f, zz_t, if_true, if_false, not_true_eq_false, not_false_eq_true]
  all_goals grind (splits := 40) [bi]
theorem ct_Model_wrong (x : Int32) : sm_wp X 233 0 [some (.ref 81), some (.int x)] [] (sM mo G I J) Q = (Q (some (.int 0)) (sM mo G (up2 (up2 I 81 18 x) 81 19 (I 81 24)) J)) := by
  rw [bk_233_0]
  simp (decide := true) only [up2_ne, up2_sn, up2_ss, ne_eq, tl_some, tl_none, zb_0, zb_1, zb_bi, true_and, bi_eq, bi_ne, oz_f, zz_t, if_true, if_false, not_true_eq_false, not_false_eq_true]
  all_goals grind (splits := 40) [bi]
theorem ct_Model_waitFor (x : Int32) (y : Int32) : sm_wp X 237 0 [some (.ref 81), some (.int x), some (.int y)] [] (sM mo G I J) Q = (vp_in (I 81 38) 120 ∧ (Q none (sM mo G (up2 (up2 (up2 I 103 (I 81 38).toNatClampNeg x) 104 (I 81 38).toNatClampNeg y) 81 38 ((I 81 38) + 1)) J))) := by
  rw [bk_237_0]
  simp (decide := true) only [up2_ne, up2_sn, up2_ss, ne_eq, tl_some, tl_none, zb_0, zb_1, zb_bi, true_and, bi_eq, bi_ne, oz_f, zz_t, if_true, if_false, not_true_eq_false, not_false_eq_true]
  all_goals grind (splits := 40) [bi]
theorem ct_Model_grown (x : Int32) (y : Int32) : sm_wp X 239 0 [some (.ref 81), some (.int x), some (.int y), none] [] (sM mo G I J) Q = (if ¬ I 81 34 = 64 then (vp_in ((384 : Int32) + (I 81 34)) 448 ∧ (Q (some (.int ((384 : Int32) + (I 81 34)))) (sM mo G (up2 (up2 (up2 (up2 (up2 I 81 34 ((I 81 34) + 1)) 94 ((384 : Int32) + (I 81 34)).toNatClampNeg x) 95 ((384 : Int32) + (I 81 34)).toNatClampNeg (-1)) 96 ((384 : Int32) + (I 81 34)).toNatClampNeg (-1)) 97 ((384 : Int32) + (I 81 34)).toNatClampNeg y) J))) else (Q (some (.int (-1))) (sM mo G (up2 (up2 I 81 18 2) 81 19 (I 81 24)) J))) := by
  rw [bk_239_0]
  simp (decide := true) only [bk_239_14, bk_239_17, ct_Model_wrong, up2_ne, up2_sn, up2_ss, ne_eq, tl_some, tl_none, zb_0, zb_1, zb_bi, true_and, bi_eq, bi_ne, oz_f, zz_t, if_true, if_false, not_true_eq_false, not_false_eq_true]
  all_goals grind (splits := 40) [bi]
theorem ct_Model_done (x : Int32) : sm_wp X 240 0 [some (.ref 81), some (.int x)] [] (sM mo G I J) Q = (vp_in ((384 : Int32) + (I 81 35)) 448 ∧ (vp_in (I 81 40) 120 ∧ (Q none (sM mo G (up2 (up2 (up2 (up2 I 98 ((384 : Int32) + (I 81 35)).toNatClampNeg x) 81 35 ((I 81 35) + 1)) 105 (I 81 40).toNatClampNeg x) 81 40 ((I 81 40) + 1)) J)))) := by
  rw [bk_240_0]
  simp (decide := true) only [up2_ne, up2_sn, up2_ss, ne_eq, tl_some, tl_none, zb_0, zb_1, zb_bi, true_and, bi_eq, bi_ne, oz_f, zz_t, if_true, if_false, not_true_eq_false, not_false_eq_true]
  all_goals grind (splits := 40) [bi]
theorem ct_Model_drop  : sm_wp X 245 0 [some (.ref 81)] [] (sM mo G I J) Q = (vp_in ((I 81 40) - 1) 120 ∧ (Q (some (.int (I 105 (((I 81 40) - 1).toNatClampNeg)))) (sM mo G (up2 I 81 40 ((I 81 40) - 1)) J))) := by
  rw [bk_245_0]
  simp (decide := true) only [up2_ne, up2_sn, up2_ss, ne_eq, tl_some, tl_none, zb_0, zb_1, zb_bi, true_and, bi_eq, bi_ne, oz_f, zz_t, if_true, if_false, not_true_eq_false, not_false_eq_true]
  all_goals grind (splits := 40) [bi]
theorem ct_Model_fault (x : Int32) : sm_wp X 246 0 [some (.ref 81), some (.int x)] [] (sM mo G I J) Q = (if ¬ x = 0 then (if ¬ x = 1 then (Q (some (.int (-1))) (sM mo G (up2 I 81 2 0) J)) else (Q (some (.int (I 81 19))) (sM mo G (up2 I 81 2 0) J))) else (Q (some (.int (I 81 18))) (sM mo G (up2 I 81 2 0) J))) := by
  rw [bk_246_0]
  simp (decide := true) only [bk_246_16, bk_246_28, bk_246_29, up2_ne, up2_sn, up2_ss, ne_eq, tl_some, tl_none, zb_0, zb_1, zb_bi, true_and, bi_eq, bi_ne, oz_f, zz_t, if_true, if_false, not_true_eq_false, not_false_eq_true]
  all_goals grind (splits := 40) [bi]
theorem ct_Model_spy (x : Int32) (y : Int32) (z : Int32) (u : Int32) : sm_wp X 250 0 [some (.ref 81), some (.int x), some (.int y), some (.int z), some (.int u)] [] (sM mo G I J) Q = (if I 81 60 = 20 then (Q (some (.int 0)) (sM mo G (up2 I 81 2 0) J)) else (if ¬ (vf_Model_isState (up2 I 81 2 0) x) then (Q (some (.int 0)) (sM mo G (up2 I 81 2 0) J)) else (if ¬ (vf_Model_isState (up2 I 81 2 0) y) then (Q (some (.int 0)) (sM mo G (up2 I 81 2 0) J)) else (if x = y then (Q (some (.int 0)) (sM mo G (up2 I 81 2 0) J)) else (if ¬ (vf_Model_isIn z (I 81 16) 300) then (Q (some (.int 0)) (sM mo G (up2 I 81 2 0) J)) else (if (vf_Model_isIn u z 300) then (vp_in ((4 : Int32) * (I 81 60)) 80 ∧ (vp_in (((4 : Int32) * (I 81 60)) + 1) 80 ∧ (vp_in (((4 : Int32) * (I 81 60)) + 2) 80 ∧ (vp_in (((4 : Int32) * (I 81 60)) + 3) 80 ∧ (Q (some (.int 1)) (sM mo G (up2 (up2 (up2 (up2 (up2 (up2 I 81 2 0) 120 ((4 : Int32) * (I 81 60)).toNatClampNeg x) 120 (((4 : Int32) * (I 81 60)) + 1).toNatClampNeg y) 120 (((4 : Int32) * (I 81 60)) + 2).toNatClampNeg z) 120 (((4 : Int32) * (I 81 60)) + 3).toNatClampNeg u) 81 60 ((I 81 60) + 1)) J)))))) else (Q (some (.int 0)) (sM mo G (up2 I 81 2 0) J)))))))) := by
  rw [bk_250_0]
  simp (decide := true) only [bk_250_19, bk_250_27, bk_250_46, bk_250_58, bk_250_61, bk_250_63, ct_Model_isState, ct_Model_isIn, up2_ne, up2_sn, up2_ss, ne_eq, tl_some, tl_none, zb_0, zb_1, zb_bi, true_and, bi_eq, bi_ne, oz_f, zz_t, if_true, if_false, not_true_eq_false, not_false_eq_true]
  all_goals grind (splits := 40) [bi]
theorem ct_Model_bounded (x : Int64) : sm_wp X 262 0 [some (.ref 81), some (.long x), none] [] (sM mo G I J) Q = (if ¬ I 81 63 = 0 then (Q (some (.long 0)) (sM mo G (up2 I 81 63 1) J)) else (if lg_cmp (vf_Model_big x) 1000000000000 ≤ 0 then (Q (some (.long x)) (sM mo G (up2 I 81 63 0) J)) else (Q (some (.long 0)) (sM mo G (up2 I 81 63 1) J)))) := by
  rw [bk_262_0]
  simp (decide := true) only [bk_262_12, bk_262_19, bk_262_23, bk_262_24, bk_262_38, bk_262_39, ct_Model_big, up2_ne, up2_sn, up2_ss, ne_eq, tl_some, tl_none, zb_0, zb_1, zb_bi, true_and, bi_eq, bi_ne, oz_f, zz_t, if_true, if_false, not_true_eq_false, not_false_eq_true]
  all_goals grind (splits := 40) [bi]
theorem ct_Model_paper (x : Int32) (y : Int32) : sm_wp X 268 0 [some (.ref 81), some (.int x), some (.int y)] [] (sM mo G I J) Q = (if x < 0 then (Q (some (.int (-2))) (sM mo G (up2 I 81 2 0) J)) else (if I 81 46 ≤ x then (Q (some (.int (-2))) (sM mo G (up2 I 81 2 0) J)) else (if (vf_Model_isIn y 0 6) then (if y = 0 then (vp_in x 60 ∧ (if I 107 (x.toNatClampNeg) = 0 then (Q (some (.int 0)) (sM mo G (up2 I 81 2 0) J)) else (Q (some (.int 1)) (sM mo G (up2 I 81 2 0) J)))) else (if y = 1 then (vp_in x 60 ∧ (Q (some (.int (I 110 (x.toNatClampNeg)))) (sM mo G (up2 I 81 2 0) J))) else (if y = 2 then (vp_in x 60 ∧ (Q (some (.int (I 117 (x.toNatClampNeg)))) (sM mo G (up2 I 81 2 0) J))) else (if y = 3 then (vp_in x 60 ∧ (Q (some (.int (I 118 (x.toNatClampNeg)))) (sM mo G (up2 I 81 2 0) J))) else (if y = 4 then (vp_in x 60 ∧ (Q (some (.int (I 108 (x.toNatClampNeg)))) (sM mo G (up2 I 81 2 0) J))) else (if y = 5 then (vp_in x 60 ∧ (Q (some (.int (I 109 (x.toNatClampNeg)))) (sM mo G (up2 I 81 2 0) J))) else (vp_in x 60 ∧ (Q (some (.int (I 119 (x.toNatClampNeg)))) (sM mo G (up2 I 81 2 0) J))))))))) else (Q (some (.int (-2))) (sM mo G (up2 I 81 2 0) J))))) := by
  rw [bk_268_0]
  simp (decide := true) only [bk_268_24, bk_268_27, bk_268_30, bk_268_68, bk_268_81, bk_268_82, bk_268_83, bk_268_90, bk_268_97, bk_268_104, bk_268_111, bk_268_118, ct_Model_isIn, up2_ne, up2_sn, up2_ss, ne_eq, tl_some, tl_none, zb_0, zb_1, zb_bi, true_and, bi_eq, bi_ne, oz_f, zz_t, if_true, if_false, not_true_eq_false, not_false_eq_true]
  all_goals grind (splits := 40) [bi]
theorem ct_Model_known (x : Int32) (y : Int32) : sm_wp X 271 0 [some (.ref 81), some (.int x), some (.int y), none] [] (sM mo G I J) Q = (if x < 0 then (Q (some (.int (-1))) (sM mo G (up2 I 81 2 0) J)) else (if I 81 46 ≤ x then (Q (some (.int (-1))) (sM mo G (up2 I 81 2 0) J)) else (if (vf_Model_isState (up2 I 81 2 0) y) then (vc_Model_knownFrom (up2 I 81 2 0) x y ∧ (if vf_Model_knownFrom (up2 I 81 2 0) x y ≤ I 81 16 then (Q (some (.int (vf_Model_knownFrom (up2 I 81 2 0) x y))) (sM mo G (up2 I 81 2 0) J)) else (Q (some (.int (-1))) (sM mo G (up2 I 81 2 0) J)))) else (Q (some (.int (-1))) (sM mo G (up2 I 81 2 0) J))))) := by
  rw [bk_271_0]
  simp (decide := true) only [bk_271_22, bk_271_25, bk_271_27, bk_271_33, bk_271_46, bk_271_47, ct_Model_isState, ct_Model_knownFrom, up2_ne, up2_sn, up2_ss, ne_eq, tl_some, tl_none, zb_0, zb_1, zb_bi, true_and, bi_eq, bi_ne, oz_f, zz_t, if_true, if_false, not_true_eq_false, not_false_eq_true]
  all_goals grind (splits := 40) [bi]
theorem ct_Model_article  : sm_wp X 291 0 [some (.ref 81)] [] (sM mo G I J) Q = (if ¬ I 81 81 = 8 then (Q (some (.int (((I 81 81) + 1) - 1))) (sM mo G (up2 (up2 I 81 2 0) 81 81 ((I 81 81) + 1)) J)) else (Q (some (.int (-1))) (sM mo G (up2 I 81 2 0) J))) := by
  rw [bk_291_0]
  simp (decide := true) only [bk_291_16, up2_ne, up2_sn, up2_ss, ne_eq, tl_some, tl_none, zb_0, zb_1, zb_bi, true_and, bi_eq, bi_ne, oz_f, zz_t, if_true, if_false, not_true_eq_false, not_false_eq_true]
  all_goals grind (splits := 40) [bi]
theorem ct_Model_draft (x : Int32) (y : Int32) (z : Int32) : sm_wp X 292 0 [some (.ref 81), some (.int x), some (.int y), some (.int z), none] [] (sM mo G I J) Q = (if ¬ (vf_Model_isArticle (up2 I 81 2 0) x) then (Q (some (.int (-1))) (sM mo G (up2 I 81 2 0) J)) else (if ¬ (vf_Model_isPresent (up2 I 81 2 0) y) then (Q (some (.int (-1))) (sM mo G (up2 I 81 2 0) J)) else (if (vf_Model_isIn z 0 99) then (if ¬ z = 0 then (vp_in (((6 : Int32) * x) + y) 48 ∧ (if ¬ I 135 ((((6 : Int32) * x) + y).toNatClampNeg) = 8 then (vp_in (((8 : Int32) * (((6 : Int32) * x) + y)) + (I 135 ((((6 : Int32) * x) + y).toNatClampNeg))) 384 ∧ (Q (some (.int ((up2 (up2 (up2 I 81 2 0) 136 (((8 : Int32) * (((6 : Int32) * x) + y)) + (I 135 ((((6 : Int32) * x) + y).toNatClampNeg))).toNatClampNeg z) 135 (((6 : Int32) * x) + y).toNatClampNeg ((I 135 ((((6 : Int32) * x) + y).toNatClampNeg)) + 1)) 135 ((((6 : Int32) * x) + y).toNatClampNeg)))) (sM mo G (up2 (up2 (up2 I 81 2 0) 136 (((8 : Int32) * (((6 : Int32) * x) + y)) + (I 135 ((((6 : Int32) * x) + y).toNatClampNeg))).toNatClampNeg z) 135 (((6 : Int32) * x) + y).toNatClampNeg ((I 135 ((((6 : Int32) * x) + y).toNatClampNeg)) + 1)) J))) else (Q (some (.int (-1))) (sM mo G (up2 I 81 2 0) J)))) else (vp_in (((6 : Int32) * x) + y) 48 ∧ (Q (some (.int 0)) (sM mo G (up2 (up2 I 81 2 0) 135 (((6 : Int32) * x) + y).toNatClampNeg 0) J)))) else (Q (some (.int (-1))) (sM mo G (up2 I 81 2 0) J))))) := by
  rw [bk_292_0]
  simp (decide := true) only [bk_292_10, bk_292_18, bk_292_28, bk_292_31, bk_292_33, bk_292_55, bk_292_69, ct_Model_isArticle, ct_Model_isPresent, ct_Model_isIn, up2_ne, up2_sn, up2_ss, ne_eq, tl_some, tl_none, zb_0, zb_1, zb_bi, true_and, bi_eq, bi_ne, oz_f, zz_t, if_true, if_false, not_true_eq_false, not_false_eq_true]
  all_goals grind (splits := 40) [bi]
theorem ct_Model_hang (x : Int32) (y : Int32) (z : Int32) : sm_wp X 294 0 [some (.ref 81), some (.int x), some (.int y), some (.int z)] [] (sM mo G I J) Q = (if ¬ (vf_Model_isArticle (up2 I 81 2 0) x) then (Q (some (.int 0)) (sM mo G (up2 I 81 2 0) J)) else (if ¬ (vf_Model_isArticle (up2 I 81 2 0) y) then (Q (some (.int 0)) (sM mo G (up2 I 81 2 0) J)) else (if x = y then (Q (some (.int 0)) (sM mo G (up2 I 81 2 0) J)) else (vp_in (((8 : Int32) * x) + y) 64 ∧ (if ¬ I 137 ((((8 : Int32) * x) + y).toNatClampNeg) = z then (Q (some (.int 1)) (sM mo G (up2 (up2 I 81 2 0) 137 (((8 : Int32) * x) + y).toNatClampNeg (vp_nar .boolean z)) J)) else (Q (some (.int 0)) (sM mo G (up2 I 81 2 0) J))))))) := by
  rw [bk_294_0]
  simp (decide := true) only [bk_294_10, bk_294_18, bk_294_41, bk_294_43, ct_Model_isArticle, up2_ne, up2_sn, up2_ss, ne_eq, tl_some, tl_none, zb_0, zb_1, zb_bi, true_and, bi_eq, bi_ne, oz_f, zz_t, if_true, if_false, not_true_eq_false, not_false_eq_true]
  all_goals grind (splits := 40) [bi]
theorem ct_Model_reserve (x : Int32) (y : Int32) (z : Int32) : sm_wp X 295 0 [some (.ref 81), some (.int x), some (.int y), some (.int z)] [] (sM mo G I J) Q = (if ¬ (vf_Model_isArticle (up2 I 81 2 0) x) then (Q (some (.int 0)) (sM mo G (up2 I 81 2 0) J)) else (if ¬ (vf_Model_isPresent (up2 I 81 2 0) y) then (Q (some (.int 0)) (sM mo G (up2 I 81 2 0) J)) else (vp_in x 8 ∧ (if ¬ ((I 138 (x.toNatClampNeg)) >>> (y &&& 31)) &&& 1 = 1 then (if ¬ (0 : Int32) = z then (Q (some (.int 1)) (sM mo G (up2 (up2 I 81 2 0) 138 x.toNatClampNeg ((I 138 (x.toNatClampNeg)) ^^^ ((1 : Int32) <<< (y &&& 31)))) J)) else (Q (some (.int 0)) (sM mo G (up2 I 81 2 0) J))) else (if ¬ (1 : Int32) = z then (Q (some (.int 1)) (sM mo G (up2 (up2 I 81 2 0) 138 x.toNatClampNeg ((I 138 (x.toNatClampNeg)) ^^^ ((1 : Int32) <<< (y &&& 31)))) J)) else (Q (some (.int 0)) (sM mo G (up2 I 81 2 0) J))))))) := by
  rw [bk_295_0]
  simp (decide := true) only [bk_295_10, bk_295_18, bk_295_39, bk_295_40, bk_295_44, bk_295_46, ct_Model_isArticle, ct_Model_isPresent, up2_ne, up2_sn, up2_ss, ne_eq, tl_some, tl_none, zb_0, zb_1, zb_bi, true_and, bi_eq, bi_ne, oz_f, zz_t, if_true, if_false, not_true_eq_false, not_false_eq_true]
  all_goals grind (splits := 40) [bi]
theorem ct_Model_way (x : Int32) (y : Int32) (z : Int32) : sm_wp X 307 0 [some (.ref 81), some (.int x), some (.int y), some (.int z)] [] (sM mo G I J) Q = (if ¬ (vf_Model_isLand (up2 I 81 2 0) x) then (Q (some (.int (-2))) (sM mo G (up2 I 81 2 0) J)) else (if y < 0 then (Q (some (.int (-2))) (sM mo G (up2 I 81 2 0) J)) else (vp_in x 12 ∧ (if I 87 (x.toNatClampNeg) ≤ y then (Q (some (.int (-2))) (sM mo G (up2 I 81 2 0) J)) else (if (vf_Model_isIn z 0 2) then (vp_in ((((300 : Int32) * x) + ((3 : Int32) * y)) + z) 3600 ∧ (Q (some (.int (I 88 (((((300 : Int32) * x) + ((3 : Int32) * y)) + z).toNatClampNeg)))) (sM mo G (up2 I 81 2 0) J))) else (Q (some (.int (-2))) (sM mo G (up2 I 81 2 0) J))))))) := by
  rw [bk_307_0]
  simp (decide := true) only [bk_307_10, bk_307_33, bk_307_36, bk_307_39, ct_Model_isLand, ct_Model_isIn, up2_ne, up2_sn, up2_ss, ne_eq, tl_some, tl_none, zb_0, zb_1, zb_bi, true_and, bi_eq, bi_ne, oz_f, zz_t, if_true, if_false, not_true_eq_false, not_false_eq_true]
  all_goals grind (splits := 40) [bi]
theorem ct_Model_fails (x : Int32) : sm_wp X 309 0 [some (.ref 81), some (.int x)] [] (sM mo G I J) Q = (Q (some (.int 0)) (sM mo G (up2 I 81 2 x) J)) := by
  rw [bk_309_0]
  simp (decide := true) only [up2_ne, up2_sn, up2_ss, ne_eq, tl_some, tl_none, zb_0, zb_1, zb_bi, true_and, bi_eq, bi_ne, oz_f, zz_t, if_true, if_false, not_true_eq_false, not_false_eq_true]
  all_goals grind (splits := 40) [bi]
theorem ct_Read_acceptVerb (x : Int32) : sm_wp X 49 0 [some (.ref 16), some (.int x)] [] (sM mo G I J) Q = (if ¬ x = 34 then (if x < 0 then (Q none (sM mo G (up2 (up2 I 16 0 1) 16 1 (I 14 1)) J)) else (if x ≤ 3 then (if I 16 2 < 0 then (Q none (sM mo G (up2 (up2 I 16 0 2) 16 1 (I 14 1)) J)) else (if I 16 2 < 16 then (vp_in (I 16 2) 16 ∧ (Q none (sM mo G (up2 (up2 (up2 (up2 I 18 (I 16 2).toNatClampNeg x) 16 2 ((I 16 2) + 1)) 16 13 0) 16 10 1) J))) else (Q none (sM mo G (up2 (up2 I 16 0 2) 16 1 (I 14 1)) J)))) else (Q none (sM mo G (up2 (up2 I 16 0 1) 16 1 (I 14 1)) J)))) else (Q none (sM mo G (up2 I 16 10 4) J))) := by
  rw [bk_49_0]
  simp (decide := true) only [bk_49_14, bk_49_23, bk_49_28, bk_49_31, bk_49_47, bk_49_52, bk_49_55, bk_49_85, ct_Read_markFault, up2_ne, up2_sn, up2_ss, ne_eq, tl_some, tl_none, zb_0, zb_1, zb_bi, true_and, bi_eq, bi_ne, oz_f, zz_t, if_true, if_false, not_true_eq_false, not_false_eq_true]
  all_goals grind (splits := 40) [bi]
theorem ct_Read_acceptOperand (x : Int32) : sm_wp X 59 0 [some (.ref 16), some (.int x)] [] (sM mo G I J) Q = (if ¬ x = 36 then (if x < 7 then (if ¬ x = 30 then (if ¬ x = 20 then (if ¬ x = 4 then (Q none (sM mo G (up2 (up2 I 16 0 1) 16 1 (I 14 1)) J)) else (if ¬ I 16 10 = 1 then (Q none (sM mo G (up2 (up2 I 16 0 1) 16 1 (I 14 1)) J)) else (if I 16 11 < 64 then (if I 16 9 < 0 then (Q none (sM mo G (up2 (up2 I 16 11 ((I 16 11) + 1)) 16 10 1) J)) else (if 72 ≤ I 16 9 then (Q none (sM mo G (up2 (up2 I 16 11 ((I 16 11) + 1)) 16 10 1) J)) else (vp_in (I 16 9) 72 ∧ (Q none (sM mo G (up2 (up2 (up2 (up2 I 16 11 ((I 16 11) + 1)) 20 (I 16 9).toNatClampNeg 4) 16 9 ((I 16 9) + 1)) 16 10 1) J))))) else (Q none (sM mo G (up2 (up2 I 16 0 2) 16 1 (I 14 1)) J))))) else (if I 16 11 < 64 then (if I 16 9 < 0 then (Q none (sM mo G (up2 (up2 I 16 11 ((I 16 11) + 1)) 16 10 2) J)) else (if 72 ≤ I 16 9 then (Q none (sM mo G (up2 (up2 I 16 11 ((I 16 11) + 1)) 16 10 2) J)) else (vp_in (I 16 9) 72 ∧ (Q none (sM mo G (up2 (up2 (up2 (up2 I 16 11 ((I 16 11) + 1)) 20 (I 16 9).toNatClampNeg 33) 16 9 ((I 16 9) + 1)) 16 10 2) J))))) else (Q none (sM mo G (up2 (up2 I 16 0 2) 16 1 (I 14 1)) J)))) else (if I 16 12 < 8 then (if I 16 9 < 0 then (Q none (sM mo G (up2 (up2 (up2 I 16 12 ((I 16 12) + 1)) 16 13 ((I 16 13) &&& (((1 : Int32) <<< (((I 16 12) + 1) &&& 31)) ^^^ (-1)))) 16 10 1) J)) else (if 72 ≤ I 16 9 then (Q none (sM mo G (up2 (up2 (up2 I 16 12 ((I 16 12) + 1)) 16 13 ((I 16 13) &&& (((1 : Int32) <<< (((I 16 12) + 1) &&& 31)) ^^^ (-1)))) 16 10 1) J)) else (vp_in (I 16 9) 72 ∧ (Q none (sM mo G (up2 (up2 (up2 (up2 (up2 I 16 12 ((I 16 12) + 1)) 16 13 ((I 16 13) &&& (((1 : Int32) <<< (((I 16 12) + 1) &&& 31)) ^^^ (-1)))) 20 (I 16 9).toNatClampNeg 30) 16 9 ((I 16 9) + 1)) 16 10 1) J))))) else (Q none (sM mo G (up2 (up2 I 16 0 2) 16 1 (I 14 1)) J)))) else (if 19 ≤ x then (if ¬ x = 30 then (if ¬ x = 20 then (if ¬ x = 4 then (Q none (sM mo G (up2 (up2 I 16 0 1) 16 1 (I 14 1)) J)) else (if ¬ I 16 10 = 1 then (Q none (sM mo G (up2 (up2 I 16 0 1) 16 1 (I 14 1)) J)) else (if I 16 11 < 64 then (if I 16 9 < 0 then (Q none (sM mo G (up2 (up2 I 16 11 ((I 16 11) + 1)) 16 10 1) J)) else (if 72 ≤ I 16 9 then (Q none (sM mo G (up2 (up2 I 16 11 ((I 16 11) + 1)) 16 10 1) J)) else (vp_in (I 16 9) 72 ∧ (Q none (sM mo G (up2 (up2 (up2 (up2 I 16 11 ((I 16 11) + 1)) 20 (I 16 9).toNatClampNeg 4) 16 9 ((I 16 9) + 1)) 16 10 1) J))))) else (Q none (sM mo G (up2 (up2 I 16 0 2) 16 1 (I 14 1)) J))))) else (if I 16 11 < 64 then (if I 16 9 < 0 then (Q none (sM mo G (up2 (up2 I 16 11 ((I 16 11) + 1)) 16 10 2) J)) else (if 72 ≤ I 16 9 then (Q none (sM mo G (up2 (up2 I 16 11 ((I 16 11) + 1)) 16 10 2) J)) else (vp_in (I 16 9) 72 ∧ (Q none (sM mo G (up2 (up2 (up2 (up2 I 16 11 ((I 16 11) + 1)) 20 (I 16 9).toNatClampNeg 33) 16 9 ((I 16 9) + 1)) 16 10 2) J))))) else (Q none (sM mo G (up2 (up2 I 16 0 2) 16 1 (I 14 1)) J)))) else (if I 16 12 < 8 then (if I 16 9 < 0 then (Q none (sM mo G (up2 (up2 (up2 I 16 12 ((I 16 12) + 1)) 16 13 ((I 16 13) &&& (((1 : Int32) <<< (((I 16 12) + 1) &&& 31)) ^^^ (-1)))) 16 10 1) J)) else (if 72 ≤ I 16 9 then (Q none (sM mo G (up2 (up2 (up2 I 16 12 ((I 16 12) + 1)) 16 13 ((I 16 13) &&& (((1 : Int32) <<< (((I 16 12) + 1) &&& 31)) ^^^ (-1)))) 16 10 1) J)) else (vp_in (I 16 9) 72 ∧ (Q none (sM mo G (up2 (up2 (up2 (up2 (up2 I 16 12 ((I 16 12) + 1)) 16 13 ((I 16 13) &&& (((1 : Int32) <<< (((I 16 12) + 1) &&& 31)) ^^^ (-1)))) 20 (I 16 9).toNatClampNeg 30) 16 9 ((I 16 9) + 1)) 16 10 1) J))))) else (Q none (sM mo G (up2 (up2 I 16 0 2) 16 1 (I 14 1)) J)))) else (if I 16 11 < 64 then (if I 16 3 < 0 then (Q none (sM mo G (up2 (up2 I 16 11 ((I 16 11) + 1)) 16 10 3) J)) else (if 64 ≤ I 16 3 then (Q none (sM mo G (up2 (up2 I 16 11 ((I 16 11) + 1)) 16 10 3) J)) else (vp_in (I 16 3) 64 ∧ (Q none (sM mo G (up2 (up2 (up2 (up2 I 16 11 ((I 16 11) + 1)) 17 (I 16 3).toNatClampNeg x) 16 3 ((I 16 3) + 1)) 16 10 3) J))))) else (Q none (sM mo G (up2 (up2 I 16 0 2) 16 1 (I 14 1)) J))))) else (if I 14 2 ≤ 99999 then (if I 16 11 < 64 then (if I 16 3 < 0 then (Q none (sM mo G (up2 (up2 I 16 11 ((I 16 11) + 1)) 16 10 3) J)) else (if 64 ≤ I 16 3 then (Q none (sM mo G (up2 (up2 I 16 11 ((I 16 11) + 1)) 16 10 3) J)) else (vp_in (I 16 3) 64 ∧ (Q none (sM mo G (up2 (up2 (up2 (up2 I 16 11 ((I 16 11) + 1)) 17 (I 16 3).toNatClampNeg ((100 : Int32) + (I 14 2))) 16 3 ((I 16 3) + 1)) 16 10 3) J))))) else (Q none (sM mo G (up2 (up2 I 16 0 2) 16 1 (I 14 1)) J))) else (Q none (sM mo G (up2 (up2 I 16 0 2) 16 1 (I 14 1)) J)))) := by
  rw [bk_59_0]
  simp (decide := true) only [bk_59_10, bk_59_13, bk_59_29, bk_59_37, bk_59_45, bk_59_55, bk_59_58, bk_59_71, bk_59_74, bk_59_93, bk_59_96, bk_59_101, ct_Read_markFault, ct_Read_acceptPrefix, ct_Read_openParenthesis, ct_Read_countKnot, ct_Read_putCode, ct_Read_acceptNumber, up2_ne, up2_sn, up2_ss, ne_eq, tl_some, tl_none, zb_0, zb_1, zb_bi, true_and, bi_eq, bi_ne, oz_f, zz_t, if_true, if_false, not_true_eq_false, not_false_eq_true]
  all_goals grind (splits := 40) [bi]
theorem ct_Tape_readBehindLess  : sm_wp X 164 0 [some (.ref 14)] [] (sM mo G I J) Q = (if I 14 4 ≤ I 14 5 then (Q (some (.int 24)) (sM mo G I J)) else (if vf_Tape_byteAt I (I 14 5) = 61 then (Q (some (.int 25)) (sM mo G (up2 I 14 5 ((I 14 5) + 1)) J)) else (if vf_Tape_byteAt I (I 14 5) = 62 then (Q (some (.int 27)) (sM mo G (up2 I 14 5 ((I 14 5) + 1)) J)) else (Q (some (.int 24)) (sM mo G I J))))) := by
  rw [bk_164_0]
  simp (decide := true) only [bk_164_6, bk_164_12, bk_164_18, bk_164_26, bk_164_28, ct_Tape_skipSign, up2_ne, up2_sn, up2_ss, ne_eq, tl_some, tl_none, zb_0, zb_1, zb_bi, true_and, bi_eq, bi_ne, oz_f, zz_t, if_true, if_false, not_true_eq_false, not_false_eq_true]
  all_goals grind (splits := 40) [bi]
theorem ct_Model_hold (x : Int32) (y : Int32) : sm_wp X 214 0 [some (.ref 81), some (.int x), some (.int y)] [] (sM mo G I J) Q = (if ¬ (vf_Model_isLand (up2 I 81 2 0) x) then (Q (some (.int 0)) (sM mo G (up2 I 81 2 0) J)) else (if y = (-1) then (vp_in x 12 ∧ (if I 85 (x.toNatClampNeg) = y then (Q (some (.int 0)) (sM mo G (up2 I 81 2 0) J)) else (if I 87 (x.toNatClampNeg) < 20 then (vp_in (((300 : Int32) * x) + ((3 : Int32) * (I 87 (x.toNatClampNeg)))) 3600 ∧ (vp_in ((((300 : Int32) * x) + ((3 : Int32) * (I 87 (x.toNatClampNeg)))) + 1) 3600 ∧ (vp_in ((((300 : Int32) * x) + ((3 : Int32) * (I 87 (x.toNatClampNeg)))) + 2) 3600 ∧ (Q (some (.int 1)) (sM mo G (up2 (up2 (up2 (up2 (up2 (up2 I 81 2 0) 85 x.toNatClampNeg y) 88 (((300 : Int32) * x) + ((3 : Int32) * (I 87 (x.toNatClampNeg)))).toNatClampNeg y) 88 ((((300 : Int32) * x) + ((3 : Int32) * (I 87 (x.toNatClampNeg)))) + 1).toNatClampNeg (I 81 16)) 88 ((((300 : Int32) * x) + ((3 : Int32) * (I 87 (x.toNatClampNeg)))) + 2).toNatClampNeg (-1)) 87 x.toNatClampNeg ((I 87 (x.toNatClampNeg)) + 1)) J))))) else (Q (some (.int 0)) (sM mo G (up2 I 81 2 0) J))))) else (if ¬ (vf_Model_isPresent (up2 I 81 2 0) y) then (Q (some (.int 0)) (sM mo G (up2 I 81 2 0) J)) else (vp_in x 12 ∧ (if I 85 (x.toNatClampNeg) = y then (Q (some (.int 0)) (sM mo G (up2 I 81 2 0) J)) else (if I 87 (x.toNatClampNeg) < 20 then (vp_in (((300 : Int32) * x) + ((3 : Int32) * (I 87 (x.toNatClampNeg)))) 3600 ∧ (vp_in ((((300 : Int32) * x) + ((3 : Int32) * (I 87 (x.toNatClampNeg)))) + 1) 3600 ∧ (vp_in ((((300 : Int32) * x) + ((3 : Int32) * (I 87 (x.toNatClampNeg)))) + 2) 3600 ∧ (Q (some (.int 1)) (sM mo G (up2 (up2 (up2 (up2 (up2 (up2 I 81 2 0) 85 x.toNatClampNeg y) 88 (((300 : Int32) * x) + ((3 : Int32) * (I 87 (x.toNatClampNeg)))).toNatClampNeg y) 88 ((((300 : Int32) * x) + ((3 : Int32) * (I 87 (x.toNatClampNeg)))) + 1).toNatClampNeg (I 81 16)) 88 ((((300 : Int32) * x) + ((3 : Int32) * (I 87 (x.toNatClampNeg)))) + 2).toNatClampNeg (-1)) 87 x.toNatClampNeg ((I 87 (x.toNatClampNeg)) + 1)) J))))) else (Q (some (.int 0)) (sM mo G (up2 I 81 2 0) J)))))))) := by
  rw [bk_214_0]
  simp (decide := true) only [bk_214_10, bk_214_23, bk_214_26, bk_214_47, bk_214_49, bk_214_56, ct_Model_isLand, ct_Model_comesTo, ct_Model_isPresent, up2_ne, up2_sn, up2_ss, ne_eq, tl_some, tl_none, zb_0, zb_1, zb_bi, true_and, bi_eq, bi_ne, oz_f, zz_t, if_true, if_false, not_true_eq_false, not_false_eq_true]
  all_goals grind (splits := 40) [bi]
theorem ct_Model_made (x : Int32) (y : Int64) (z : Int64) : sm_wp X 261 0 [some (.ref 81), some (.int x), some (.long y), none, some (.long z), none] [] (sM mo G I J) Q = (if x = 1 then (if 0 ≤ lg_cmp y z then (Q (some (.long (vf_Model_truth 0))) (sM mo G I J)) else (Q (some (.long (vf_Model_truth 1))) (sM mo G I J))) else (if x = 2 then (if 0 < lg_cmp y z then (Q (some (.long (vf_Model_truth 0))) (sM mo G I J)) else (Q (some (.long (vf_Model_truth 1))) (sM mo G I J))) else (if x = 3 then (if ¬ lg_cmp y z = 0 then (Q (some (.long (vf_Model_truth 0))) (sM mo G I J)) else (Q (some (.long (vf_Model_truth 1))) (sM mo G I J))) else (if x = 4 then (if lg_cmp y z = 0 then (Q (some (.long (vf_Model_truth 0))) (sM mo G I J)) else (Q (some (.long (vf_Model_truth 1))) (sM mo G I J))) else (if x = 5 then (if lg_cmp y z < 0 then (Q (some (.long (vf_Model_truth 0))) (sM mo G I J)) else (Q (some (.long (vf_Model_truth 1))) (sM mo G I J))) else (if x = 6 then (if lg_cmp y z ≤ 0 then (Q (some (.long (vf_Model_truth 0))) (sM mo G I J)) else (Q (some (.long (vf_Model_truth 1))) (sM mo G I J))) else (if x = 7 then (if ¬ I 81 63 = 0 then (Q (some (.long 0)) (sM mo G (up2 I 81 63 1) J)) else (if lg_cmp (vf_Model_big (y + z)) 1000000000000 ≤ 0 then (Q (some (.long (y + z))) (sM mo G (up2 I 81 63 0) J)) else (Q (some (.long 0)) (sM mo G (up2 I 81 63 1) J)))) else (if x = 8 then (if ¬ I 81 63 = 0 then (Q (some (.long 0)) (sM mo G (up2 I 81 63 1) J)) else (if lg_cmp (vf_Model_big (y - z)) 1000000000000 ≤ 0 then (Q (some (.long (y - z))) (sM mo G (up2 I 81 63 0) J)) else (Q (some (.long 0)) (sM mo G (up2 I 81 63 1) J)))) else (if x = 9 then (if ¬ I 81 63 = 0 then (Q (some (.long 0)) (sM mo G (up2 I 81 63 1) J)) else (if lg_cmp y 0 = 0 then (Q (some (.long (y * z))) (sM mo G (up2 I 81 63 0) J)) else ((¬ (vf_Model_big y : Int64) = 0) ∧ (if lg_cmp (vf_Model_big z) (1000000000000 / (vf_Model_big y)) ≤ 0 then (Q (some (.long (y * z))) (sM mo G (up2 I 81 63 0) J)) else (Q (some (.long 0)) (sM mo G (up2 I 81 63 1) J)))))) else (if x = 10 then (if ¬ I 81 63 = 0 then (Q (some (.long 0)) (sM mo G (up2 I 81 63 1) J)) else (if ¬ lg_cmp z 0 = 0 then ((¬ (z : Int64) = 0) ∧ (Q (some (.long (y / z))) (sM mo G (up2 I 81 63 0) J))) else (Q (some (.long 0)) (sM mo G (up2 I 81 63 1) J)))) else (if x = 11 then (if ¬ I 81 63 = 0 then (Q (some (.long 0)) (sM mo G (up2 I 81 63 1) J)) else (if ¬ lg_cmp z 0 = 0 then ((¬ (z : Int64) = 0) ∧ (Q (some (.long (y - y / z * z))) (sM mo G (up2 I 81 63 0) J))) else (Q (some (.long 0)) (sM mo G (up2 I 81 63 1) J)))) else (if x = 14 then (if lg_cmp y 0 = 0 then (Q (some (.long (vf_Model_truth 0))) (sM mo G I J)) else (if lg_cmp z 0 = 0 then (Q (some (.long (vf_Model_truth 0))) (sM mo G I J)) else (Q (some (.long (vf_Model_truth 1))) (sM mo G I J)))) else (if ¬ lg_cmp y 0 = 0 then (Q (some (.long (vf_Model_truth 1))) (sM mo G I J)) else (if lg_cmp z 0 = 0 then (Q (some (.long (vf_Model_truth 0))) (sM mo G I J)) else (Q (some (.long (vf_Model_truth 1))) (sM mo G I J)))))))))))))))) := by
  rw [bk_261_0]
  simp (decide := true) only [bk_261_72, bk_261_83, bk_261_84, bk_261_87, bk_261_88, bk_261_99, bk_261_100, bk_261_103, bk_261_104, bk_261_115, bk_261_116, bk_261_119, bk_261_120, bk_261_131, bk_261_132, bk_261_135, bk_261_136, bk_261_147, bk_261_148, bk_261_151, bk_261_152, bk_261_163, bk_261_164, bk_261_167, bk_261_168, bk_261_176, bk_261_177, bk_261_185, bk_261_186, bk_261_205, bk_261_212, bk_261_217, bk_261_221, bk_261_222, bk_261_236, bk_261_240, bk_261_241, bk_261_256, bk_261_260, bk_261_261, bk_261_275, bk_261_288, bk_261_292, bk_261_293, bk_261_310, bk_261_311, bk_261_314, bk_261_315, bk_261_328, bk_261_332, bk_261_333, bk_261_336, ct_Model_truth, ct_Model_bounded, ct_Model_big, up2_ne, up2_sn, up2_ss, ne_eq, tl_some, tl_none, zb_0, zb_1, zb_bi, true_and, bi_eq, bi_ne, oz_f, zz_t, if_true, if_false, not_true_eq_false, not_false_eq_true]
  all_goals grind (splits := 40) [bi]
theorem ct_Model_look (x : Int32) (y : Int32) : sm_wp X 308 0 [some (.ref 81), some (.int x), some (.int y)] [] (sM mo G I J) Q = (if (vf_Model_isLand (up2 I 81 2 0) x) then (if ¬ y = 0 then (if ¬ y = 1 then (if ¬ y = 2 then (Q (some (.int 0)) (sM mo G (up2 (up2 I 81 2 0) 81 2 2) J)) else (vp_in x 12 ∧ (Q (some (.int (I 86 (x.toNatClampNeg)))) (sM mo G (up2 I 81 2 0) J)))) else (vp_in x 12 ∧ (Q (some (.int (I 85 (x.toNatClampNeg)))) (sM mo G (up2 I 81 2 0) J)))) else (vp_in x 12 ∧ (Q (some (.int (I 83 (x.toNatClampNeg)))) (sM mo G (up2 I 81 2 0) J)))) else (Q (some (.int 0)) (sM mo G (up2 (up2 I 81 2 0) 81 2 1) J))) := by
  rw [bk_308_0]
  simp (decide := true) only [bk_308_10, bk_308_18, bk_308_19, bk_308_32, bk_308_46, bk_308_60, bk_308_65, ct_Model_isLand, ct_Model_fails, up2_ne, up2_sn, up2_ss, ne_eq, tl_some, tl_none, zb_0, zb_1, zb_bi, true_and, bi_eq, bi_ne, oz_f, zz_t, if_true, if_false, not_true_eq_false, not_false_eq_true]
  all_goals grind (splits := 40) [bi]
theorem ct_Tape_readSign (x : Int32) : sm_wp X 163 0 [some (.ref 14), some (.int x)] [] (sM mo G I J) Q = (if x = 37 then (Q (some (.int 23)) (sM mo G (up2 I 14 5 ((I 14 5) + 1)) J)) else (if x = 40 then (Q (some (.int 30)) (sM mo G (up2 I 14 5 ((I 14 5) + 1)) J)) else (if x = 41 then (Q (some (.int 31)) (sM mo G (up2 I 14 5 ((I 14 5) + 1)) J)) else (if x = 42 then (Q (some (.int 21)) (sM mo G (up2 I 14 5 ((I 14 5) + 1)) J)) else (if x = 43 then (Q (some (.int 19)) (sM mo G (up2 I 14 5 ((I 14 5) + 1)) J)) else (if x = 45 then (Q (some (.int 20)) (sM mo G (up2 I 14 5 ((I 14 5) + 1)) J)) else (if x = 47 then (Q (some (.int 22)) (sM mo G (up2 I 14 5 ((I 14 5) + 1)) J)) else (if x = 59 then (Q (some (.int 32)) (sM mo G (up2 I 14 5 ((I 14 5) + 1)) J)) else (if x = 60 then (if I 14 4 ≤ (I 14 5) + 1 then (Q (some (.int 24)) (sM mo G (up2 I 14 5 ((I 14 5) + 1)) J)) else (if vf_Tape_byteAt (up2 I 14 5 ((I 14 5) + 1)) ((I 14 5) + 1) = 61 then (Q (some (.int 25)) (sM mo G (up2 (up2 I 14 5 ((I 14 5) + 1)) 14 5 (((I 14 5) + 1) + 1)) J)) else (if vf_Tape_byteAt (up2 I 14 5 ((I 14 5) + 1)) ((I 14 5) + 1) = 62 then (Q (some (.int 27)) (sM mo G (up2 (up2 I 14 5 ((I 14 5) + 1)) 14 5 (((I 14 5) + 1) + 1)) J)) else (Q (some (.int 24)) (sM mo G (up2 I 14 5 ((I 14 5) + 1)) J))))) else (if x = 61 then (Q (some (.int 26)) (sM mo G (up2 I 14 5 ((I 14 5) + 1)) J)) else (if x = 62 then (if I 14 4 ≤ (I 14 5) + 1 then (Q (some (.int 29)) (sM mo G (up2 I 14 5 ((I 14 5) + 1)) J)) else (if vf_Tape_byteAt (up2 I 14 5 ((I 14 5) + 1)) ((I 14 5) + 1) = 61 then (Q (some (.int 28)) (sM mo G (up2 (up2 I 14 5 ((I 14 5) + 1)) 14 5 (((I 14 5) + 1) + 1)) J)) else (Q (some (.int 29)) (sM mo G (up2 I 14 5 ((I 14 5) + 1)) J)))) else (Q (some (.int 35)) (sM mo G (up2 I 14 5 ((I 14 5) + 1)) J))))))))))))) := by
  rw [bk_163_0]
  simp (decide := true) only [bk_163_128, bk_163_131, bk_163_134, bk_163_137, bk_163_140, bk_163_143, bk_163_146, bk_163_150, bk_163_151, bk_163_157, bk_163_165, bk_163_167, bk_163_168, bk_163_171, bk_163_174, bk_163_177, ct_Tape_readBehindLess, ct_Tape_skipSign, up2_ne, up2_sn, up2_ss, ne_eq, tl_some, tl_none, zb_0, zb_1, zb_bi, true_and, bi_eq, bi_ne, oz_f, zz_t, if_true, if_false, not_true_eq_false, not_false_eq_true]
  all_goals grind (splits := 40) [bi]
end R2
end
section
/-! Blocks of other shapes. -/
set_option maxRecDepth 100000 in
theorem bkx_8_205_0 (X : (Nat → Int32) × Nat) (mo : Bool) (G : Nat × Nat) (I : Nat → Nat → Int32) (J : Nat → Nat → Int64) (Q : Option Value → sm_M → Prop) (x4 : Int32) (x5 : Int32) (x6 : Int32) (x7 : Int32) (x8 : Int32) (x9 : Int32) (x10 : Int32) :
    sm_wp X 8 205 [some (.ref 71), none, none, none, some (.int x4), some (.int x5), some (.int x6), some (.int x7), some (.int x8), some (.int x9), some (.int x10)] [] (sM mo G I J) Q =
    (vp_in ((x6 * 9) + x7) 81 ∧ (sm_wp X 8 85 [some (.ref 71), none, none, none, some (.int x4), some (.int x5), some (.int x6), some (.int (x7 + (-1))), none, none, none] [] (sM mo G (up2 I 78 ((x6 * 9) + x7).toNatClampNeg x8) J) Q)) :=
  (sm_blk X 8 205 (tt_lin 8 (by decide)) rfl rfl _ _ _ _).trans rfl
set_option maxRecDepth 100000 in
theorem bkx_10_85_1 (X : (Nat → Int32) × Nat) (mo : Bool) (G : Nat × Nat) (I : Nat → Nat → Int32) (J : Nat → Nat → Int64) (Q : Option Value → sm_M → Prop) (x1 : Int32) (x2 : Int32) (x3 : Int32) (x4 : Int32) :
    sm_wp X 10 85 [some (.ref 71), some (.int x1), some (.int x2), some (.int x3), some (.int x4)] [] (sM mo G I J) Q =
    (sm_wp X 10 31 [some (.ref 71), some (.int x1), some (.int x2), some (.int (x3 + 1)), none] [] (sM mo G I J) Q) :=
  (sm_blk X 10 85 (tt_lin 10 (by decide)) rfl rfl _ _ _ _).trans rfl
set_option maxRecDepth 100000 in
theorem bkx_24_85_2 (X : (Nat → Int32) × Nat) (mo : Bool) (G : Nat × Nat) (I : Nat → Nat → Int32) (J : Nat → Nat → Int64) (Q : Option Value → sm_M → Prop) (x2 : Int32) (x3 : Int32) (x4 : Int32) (x5 : Int32) (x6 : Int64) :
    sm_wp X 24 85 [some (.ref 45), none, some (.int x2), some (.int x3), some (.int x4), some (.int x5), some (.long x6), none] [] (sM mo G I J) Q =
    (sm_wp X 24 27 [some (.ref 45), none, some (.int x2), some (.int x3), some (.int x4), some (.int (x5 + 1)), none, none] [] (sM mo G I J) Q) :=
  (sm_blk X 24 85 (tt_lin 24 (by decide)) rfl rfl _ _ _ _).trans rfl
set_option maxRecDepth 100000 in
theorem bkx_34_93_3 (X : (Nat → Int32) × Nat) (mo : Bool) (G : Nat × Nat) (I : Nat → Nat → Int32) (J : Nat → Nat → Int64) (Q : Option Value → sm_M → Prop) (x1 : Int32) (x2 : Int32) (x3 : Int32) (x4 : Int32) (x5 : Int32) :
    sm_wp X 34 93 [some (.ref 45), some (.int x1), some (.int x2), some (.int x3), some (.int x4), some (.int x5)] [] (sM mo G I J) Q =
    (sm_wp X 34 7 [some (.ref 45), some (.int x1), some (.int x2), some (.int x3), some (.int (x4 + 1)), none] [] (sM mo G I J) Q) :=
  (sm_blk X 34 93 (tt_lin 34 (by decide)) rfl rfl _ _ _ _).trans rfl
set_option maxRecDepth 100000 in
theorem bkx_37_125_4 (X : (Nat → Int32) × Nat) (mo : Bool) (G : Nat × Nat) (I : Nat → Nat → Int32) (J : Nat → Nat → Int64) (Q : Option Value → sm_M → Prop) (x1 : Int32) (x2 : Int32) (x3 : Int32) (x4 : Int32) (x5 : Int32) :
    sm_wp X 37 125 [some (.ref 45), some (.int x1), some (.int x2), some (.int x3), some (.int x4), some (.int x5)] [] (sM mo G I J) Q =
    (sm_wp X 37 4 [some (.ref 45), some (.int x1), some (.int x2), some (.int (x3 + 1)), none, none] [] (sM mo G I J) Q) :=
  (sm_blk X 37 125 (tt_lin 37 (by decide)) rfl rfl _ _ _ _).trans rfl
set_option maxRecDepth 100000 in
theorem bkx_226_314_5 (X : (Nat → Int32) × Nat) (mo : Bool) (G : Nat × Nat) (I : Nat → Nat → Int32) (J : Nat → Nat → Int64) (Q : Option Value → sm_M → Prop) (x1 : Int32) :
    sm_wp X 226 314 [some (.ref 81), some (.int x1)] [] (sM mo G I J) Q =
    (True ∧ Q none (sM mo G I J)) :=
  (sm_blk X 226 314 (tt_lin 226 (by decide)) rfl rfl _ _ _ _).trans rfl
set_option maxRecDepth 100000 in
theorem bkx_253_145_6 (X : (Nat → Int32) × Nat) (mo : Bool) (G : Nat × Nat) (I : Nat → Nat → Int32) (J : Nat → Nat → Int64) (Q : Option Value → sm_M → Prop) (x1 : Int32) (x2 : Int32) (x3 : Int32) :
    sm_wp X 253 145 [some (.ref 81), some (.int x1), some (.int x2), some (.int x3)] [] (sM mo G I J) Q =
    (vp_in x1 60 ∧ (if ¬ (I 117 (x1.toNatClampNeg) : Int32) = (1 : Int32) then sm_wp X 253 168 [some (.ref 81), some (.int x1), some (.int x2), some (.int x3)] [] (sM mo G I J) Q else (vp_in x1 60 ∧ (if (I 119 (x1.toNatClampNeg) : Int32) ≤ (I 81 16 : Int32) then sm_wp X 253 169 [some (.ref 81), some (.int x1), some (.int x2), some (.int x3)] [] (sM mo G I J) Q else (True ∧ Q none (sM mo G I J)))))) :=
  (sm_blk X 253 145 (tt_lin 253 (by decide)) rfl rfl _ _ _ _).trans rfl
set_option maxRecDepth 100000 in
theorem bkx_253_168_7 (X : (Nat → Int32) × Nat) (mo : Bool) (G : Nat × Nat) (I : Nat → Nat → Int32) (J : Nat → Nat → Int64) (Q : Option Value → sm_M → Prop) (x1 : Int32) (x2 : Int32) (x3 : Int32) :
    sm_wp X 253 168 [some (.ref 81), some (.int x1), some (.int x2), some (.int x3)] [] (sM mo G I J) Q =
    (True ∧ Q none (sM mo G I J)) :=
  (sm_blk X 253 168 (tt_lin 253 (by decide)) rfl rfl _ _ _ _).trans rfl
set_option maxRecDepth 100000 in
theorem bkx_253_169_8 (X : (Nat → Int32) × Nat) (mo : Bool) (G : Nat × Nat) (I : Nat → Nat → Int32) (J : Nat → Nat → Int64) (Q : Option Value → sm_M → Prop) (x1 : Int32) (x2 : Int32) (x3 : Int32) :
    sm_wp X 253 169 [some (.ref 81), some (.int x1), some (.int x2), some (.int x3)] [] (sM mo G I J) Q =
    (sm_wp X 254 0 [some (.ref 81), some (.int x1), some (.int 1), none, none] [] (sM mo G I J) (fun v M => sm_wp X 253 180 [some (.ref 81), some (.int x1), some (.int x2), some (.int x3)] (v.toList ++ [.int x1, .ref 118]) M Q)) :=
  (sm_blk X 253 169 (tt_lin 253 (by decide)) rfl rfl _ _ _ _).trans rfl
set_option maxRecDepth 100000 in
theorem bkx_264_255_9 (X : (Nat → Int32) × Nat) (mo : Bool) (G : Nat × Nat) (I : Nat → Nat → Int32) (J : Nat → Nat → Int64) (Q : Option Value → sm_M → Prop) (x4 : Int32) (x5 : Int32) :
    sm_wp X 264 255 [some (.ref 81), none, none, none, some (.int x4), some (.int x5)] [] (sM mo G I J) Q =
    (sm_wp X 264 142 [some (.ref 81), none, none, none, some (.int (x4 + 1)), none] [] (sM mo G I J) Q) :=
  (sm_blk X 264 255 (tt_lin 264 (by decide)) rfl rfl _ _ _ _).trans rfl
set_option maxRecDepth 100000 in
theorem bkx_267_106_10 (X : (Nat → Int32) × Nat) (mo : Bool) (G : Nat × Nat) (I : Nat → Nat → Int32) (J : Nat → Nat → Int64) (Q : Option Value → sm_M → Prop) (x1 : Int32) (x2 : Int32) (x3 : Int32) :
    sm_wp X 267 106 [some (.ref 81), some (.int x1), some (.int x2), some (.int x3)] [] (sM mo G I J) Q =
    (sm_wp X 267 4 [some (.ref 81), some (.int x1), some (.int (x2 + 1)), none] [] (sM mo G I J) Q) :=
  (sm_blk X 267 106 (tt_lin 267 (by decide)) rfl rfl _ _ _ _).trans rfl
set_option maxRecDepth 100000 in
theorem bkx_275_241_11 (X : (Nat → Int32) × Nat) (mo : Bool) (G : Nat × Nat) (I : Nat → Nat → Int32) (J : Nat → Nat → Int64) (Q : Option Value → sm_M → Prop) (x1 : Int32) (x2 : Int32) (x3 : Int32) :
    sm_wp X 275 241 [some (.ref 81), some (.int x1), some (.int x2), some (.int x3)] [] (sM mo G I J) Q =
    (sm_wp X 275 61 [some (.ref 81), some (.int (x1 + 1)), none, none] [] (sM mo G (up2 I 81 65 ((I 81 65) + 1)) J) Q) :=
  (sm_blk X 275 241 (tt_lin 275 (by decide)) rfl rfl _ _ _ _).trans rfl
set_option maxRecDepth 100000 in
theorem bkx_275_251_12 (X : (Nat → Int32) × Nat) (mo : Bool) (G : Nat × Nat) (I : Nat → Nat → Int32) (J : Nat → Nat → Int64) (Q : Option Value → sm_M → Prop) (x1 : Int32) (x2 : Int32) (x3 : Int32) :
    sm_wp X 275 251 [some (.ref 81), some (.int x1), some (.int x2), some (.int x3)] [] (sM mo G I J) Q =
    (sm_wp X 275 61 [some (.ref 81), some (.int (x1 + 1)), none, none] [] (sM mo G I J) Q) :=
  (sm_blk X 275 251 (tt_lin 275 (by decide)) rfl rfl _ _ _ _).trans rfl
set_option maxRecDepth 100000 in
theorem bkx_277_239_13 (X : (Nat → Int32) × Nat) (mo : Bool) (G : Nat × Nat) (I : Nat → Nat → Int32) (J : Nat → Nat → Int64) (Q : Option Value → sm_M → Prop) (x1 : Int32) (x2 : Int32) (x3 : Int32) (x4 : Int32) :
    sm_wp X 277 239 [some (.ref 81), some (.int x1), some (.int x2), some (.int x3), some (.int x4), none, none, none] [] (sM mo G I J) Q =
    (sm_wp X 277 12 [some (.ref 81), some (.int x1), some (.int (x2 + 1)), none, none, none, none, none] [] (sM mo G I J) Q) :=
  (sm_blk X 277 239 (tt_lin 277 (by decide)) rfl rfl _ _ _ _).trans rfl
set_option maxRecDepth 100000 in
theorem bkx_277_239_14 (X : (Nat → Int32) × Nat) (mo : Bool) (G : Nat × Nat) (I : Nat → Nat → Int32) (J : Nat → Nat → Int64) (Q : Option Value → sm_M → Prop) (x1 : Int32) (x2 : Int32) (x3 : Int32) (x5 : Int32) :
    sm_wp X 277 239 [some (.ref 81), some (.int x1), some (.int x2), some (.int x3), none, some (.int x5), none, none] [] (sM mo G I J) Q =
    (sm_wp X 277 12 [some (.ref 81), some (.int x1), some (.int (x2 + 1)), none, none, none, none, none] [] (sM mo G I J) Q) :=
  (sm_blk X 277 239 (tt_lin 277 (by decide)) rfl rfl _ _ _ _).trans rfl
set_option maxRecDepth 100000 in
theorem bkx_280_99_15 (X : (Nat → Int32) × Nat) (mo : Bool) (G : Nat × Nat) (I : Nat → Nat → Int32) (J : Nat → Nat → Int64) (Q : Option Value → sm_M → Prop) (x1 : Int32) (x2 : Int32) :
    sm_wp X 280 99 [some (.ref 81), some (.int x1), some (.int x2)] [] (sM mo G I J) Q =
    (sm_wp X 280 2 [some (.ref 81), some (.int (x1 + 1)), none] [] (sM mo G I J) Q) :=
  (sm_blk X 280 99 (tt_lin 280 (by decide)) rfl rfl _ _ _ _).trans rfl
set_option maxRecDepth 100000 in
theorem bkx_283_260_16 (X : (Nat → Int32) × Nat) (mo : Bool) (G : Nat × Nat) (I : Nat → Nat → Int32) (J : Nat → Nat → Int64) (Q : Option Value → sm_M → Prop) (x1 : Int32) (x2 : Int32) (x3 : Int32) (x4 : Int32) (x5 : Int32) :
    sm_wp X 283 260 [some (.ref 81), some (.int x1), some (.int x2), some (.int x3), some (.int x4), some (.int x5)] [] (sM mo G I J) Q =
    (sm_wp X 283 28 [some (.ref 81), some (.int x1), some (.int (x2 + 1)), none, none, none] [] (sM mo G I J) Q) :=
  (sm_blk X 283 260 (tt_lin 283 (by decide)) rfl rfl _ _ _ _).trans rfl
set_option maxRecDepth 100000 in
theorem bkx_283_260_17 (X : (Nat → Int32) × Nat) (mo : Bool) (G : Nat × Nat) (I : Nat → Nat → Int32) (J : Nat → Nat → Int64) (Q : Option Value → sm_M → Prop) (x1 : Int32) (x2 : Int32) (x5 : Int32) :
    sm_wp X 283 260 [some (.ref 81), some (.int x1), some (.int x2), none, none, some (.int x5)] [] (sM mo G I J) Q =
    (sm_wp X 283 28 [some (.ref 81), some (.int x1), some (.int (x2 + 1)), none, none, none] [] (sM mo G I J) Q) :=
  (sm_blk X 283 260 (tt_lin 283 (by decide)) rfl rfl _ _ _ _).trans rfl
set_option maxRecDepth 100000 in
theorem bkx_285_210_18 (X : (Nat → Int32) × Nat) (mo : Bool) (G : Nat × Nat) (I : Nat → Nat → Int32) (J : Nat → Nat → Int64) (Q : Option Value → sm_M → Prop) (x1 : Int32) (x2 : Int32) (x3 : Int32) (x4 : Int32) :
    sm_wp X 285 210 [some (.ref 81), some (.int x1), some (.int x2), some (.int x3), some (.int x4)] [] (sM mo G I J) Q =
    (sm_wp X 285 122 [some (.ref 81), some (.int x1), some (.int (x2 + 1)), none, none] [] (sM mo G I J) Q) :=
  (sm_blk X 285 210 (tt_lin 285 (by decide)) rfl rfl _ _ _ _).trans rfl
set_option maxRecDepth 100000 in
theorem bkx_288_158_19 (X : (Nat → Int32) × Nat) (mo : Bool) (G : Nat × Nat) (I : Nat → Nat → Int32) (J : Nat → Nat → Int64) (Q : Option Value → sm_M → Prop) (x1 : Int32) (x2 : Int32) (x3 : Int32) (x4 : Int32) (x5 : Int32) (x6 : Int32) :
    sm_wp X 288 158 [some (.ref 81), some (.int x1), some (.int x2), some (.int x3), some (.int x4), some (.int x5), some (.int x6), none, none] [] (sM mo G I J) Q =
    (sm_wp X 288 34 [some (.ref 81), some (.int x1), some (.int x2), some (.int x3), some (.int (x4 + 1)), none, none, none, none] [] (sM mo G I J) Q) :=
  (sm_blk X 288 158 (tt_lin 288 (by decide)) rfl rfl _ _ _ _).trans rfl
set_option maxRecDepth 100000 in
theorem bkx_299_128_20 (X : (Nat → Int32) × Nat) (mo : Bool) (G : Nat × Nat) (I : Nat → Nat → Int32) (J : Nat → Nat → Int64) (Q : Option Value → sm_M → Prop) (x1 : Int32) (x2 : Int32) (x3 : Int32) (x4 : Int32) (x5 : Int32) (x6 : Int32) :
    sm_wp X 299 128 [some (.ref 81), some (.int x1), some (.int x2), some (.int x3), some (.int x4), some (.int x5), some (.int x6)] [] (sM mo G I J) Q =
    (sm_wp X 299 7 [some (.ref 81), some (.int x1), some (.int x2), some (.int x3), some (.int (x4 + 1)), none, none] [] (sM mo G I J) Q) :=
  (sm_blk X 299 128 (tt_lin 299 (by decide)) rfl rfl _ _ _ _).trans rfl
set_option maxRecDepth 100000 in
theorem bkx_303_280_21 (X : (Nat → Int32) × Nat) (mo : Bool) (G : Nat × Nat) (I : Nat → Nat → Int32) (J : Nat → Nat → Int64) (Q : Option Value → sm_M → Prop) (x1 : Int32) (x3 : Int32) (x4 : Int32) (x5 : Int32) (x7 : Int32) (x8 : Int32) :
    sm_wp X 303 280 [some (.ref 81), some (.int x1), none, some (.int x3), some (.int x4), some (.int x5), none, some (.int x7), some (.int x8), none] [] (sM mo G I J) Q =
    (sm_wp X 303 36 [some (.ref 81), some (.int x1), none, some (.int x3), some (.int (x4 + 1)), none, none, none, none, none] [] (sM mo G I J) Q) :=
  (sm_blk X 303 280 (tt_lin 303 (by decide)) rfl rfl _ _ _ _).trans rfl
end
section
/-! One turn of each loop, and the stretches between calls, by program. -/
section R3
variable (X : (Nat → Int32) × Nat) (mo : Bool) (G : Nat × Nat) (I : Nat → Nat → Int32) (J : Nat → Nat → Int64) (Q : Option Value → sm_M → Prop)
theorem lp_8_0 (x1 : Int32) (x2 : Int32) (x3 : Int32) : sm_wp X 8 0 [some (.ref 71), some (.int x1), some (.int x2), some (.int x3), none, none, none, none, none, none, none] [] (sM mo G I J) Q = (sm_wp X 8 3 [some (.ref 71), some (.int x1), some (.int x2), some (.int x3), some (.int 0), none, none, none, none, none, none] [] (sM mo G I J) Q) := by
  rw [bk_8_0]
  all_goals (try simp (decide := true) only [bk_8_24, bk_8_39, bk_8_46, bk_8_52, bk_8_65, bk_8_138, bk_8_139, bk_8_205, bk_8_226, bk_8_232, up2_ne, up2_sn, up2_ss, ne_eq, tl_some, tl_none, zb_0, zb_1, zb_bi, true_and, bi_eq, bi_ne, oz_f, zz_t, if_true, if_false, not_true_eq_false, not_false_eq_true])
  all_goals grind (splits := 30) [bi]
theorem lp_8_3 (x1 : Int32) (x2 : Int32) (x3 : Int32) (x4 : Int32) : sm_wp X 8 3 [some (.ref 71), some (.int x1), some (.int x2), some (.int x3), some (.int x4), none, none, none, none, none, none] [] (sM mo G I J) Q = (if 8 ≤ x4 then (sm_wp X 8 76 [some (.ref 71), none, none, none, some (.int (if (8 : Int32) < vf_Art_draftLength I x1 x2 then 8 else vf_Art_draftLength I x1 x2)), some (.int (if (8 : Int32) < vf_Art_draftLength I x1 x3 then 8 else vf_Art_draftLength I x1 x3)), some (.int (if (8 : Int32) < vf_Art_draftLength I x1 x2 then 8 else vf_Art_draftLength I x1 x2)), none, none, none, none] [] (sM mo G I J) Q) else (vp_in x4 8 ∧ (sm_wp X 8 3 [some (.ref 71), some (.int x1), some (.int x2), some (.int x3), some (.int (x4 + 1)), none, none, none, none, none, none] [] (sM mo G (up2 (up2 I 76 x4.toNatClampNeg (vf_Art_wordAt I x1 x2 x4)) 77 x4.toNatClampNeg (vf_Art_wordAt (up2 I 76 x4.toNatClampNeg (vf_Art_wordAt I x1 x2 x4)) x1 x3 x4)) J) Q))) := by
  rw [bk_8_3]
  all_goals (try simp (decide := true) only [bk_8_0, bk_8_24, bk_8_39, bk_8_46, bk_8_52, bk_8_65, bk_8_138, bk_8_139, bk_8_205, bk_8_226, bk_8_232, ct_Art_draftLength, ct_Art_wordAt, up2_ne, up2_sn, up2_ss, ne_eq, tl_some, tl_none, zb_0, zb_1, zb_bi, true_and, bi_eq, bi_ne, oz_f, zz_t, if_true, if_false, not_true_eq_false, not_false_eq_true])
  all_goals grind (splits := 30) [bi]
theorem lp_8_76 (x4 : Int32) (x5 : Int32) (x6 : Int32) : sm_wp X 8 76 [some (.ref 71), none, none, none, some (.int x4), some (.int x5), some (.int x6), none, none, none, none] [] (sM mo G I J) Q = (if x6 < 0 then (vp_in 0 81 ∧ (Q (some (.int (I 78 ((0 : Int32).toNatClampNeg)))) (sM mo G I J))) else (sm_wp X 8 85 [some (.ref 71), none, none, none, some (.int x4), some (.int x5), some (.int x6), some (.int x5), none, none, none] [] (sM mo G I J) Q)) := by
  rw [bk_8_76]
  all_goals (try simp (decide := true) only [bk_8_0, bk_8_24, bk_8_39, bk_8_46, bk_8_52, bk_8_65, bk_8_138, bk_8_139, bk_8_205, bk_8_226, bk_8_232, up2_ne, up2_sn, up2_ss, ne_eq, tl_some, tl_none, zb_0, zb_1, zb_bi, true_and, bi_eq, bi_ne, oz_f, zz_t, if_true, if_false, not_true_eq_false, not_false_eq_true])
  all_goals grind (splits := 30) [bi]
theorem lp_8_85 (x4 : Int32) (x5 : Int32) (x6 : Int32) (x7 : Int32) : sm_wp X 8 85 [some (.ref 71), none, none, none, some (.int x4), some (.int x5), some (.int x6), some (.int x7), none, none, none] [] (sM mo G I J) Q = (if x7 < 0 then (sm_wp X 8 76 [some (.ref 71), none, none, none, some (.int x4), some (.int x5), some (.int (x6 + (-1))), none, none, none, none] [] (sM mo G I J) Q) else (if x4 ≤ x6 then (vp_in ((x6 * 9) + x7) 81 ∧ (sm_wp X 8 85 [some (.ref 71), none, none, none, some (.int x4), some (.int x5), some (.int x6), some (.int (x7 + (-1))), none, none, none] [] (sM mo G (up2 I 78 ((x6 * 9) + x7).toNatClampNeg (((x4 - x6) + x5) - x7)) J) Q)) else (if x5 ≤ x7 then (vp_in ((x6 * 9) + x7) 81 ∧ (sm_wp X 8 85 [some (.ref 71), none, none, none, some (.int x4), some (.int x5), some (.int x6), some (.int (x7 + (-1))), none, none, none] [] (sM mo G (up2 I 78 ((x6 * 9) + x7).toNatClampNeg (((x4 - x6) + x5) - x7)) J) Q)) else (vp_in x6 8 ∧ (vp_in x7 8 ∧ (if ¬ I 76 (x6.toNatClampNeg) = I 77 (x7.toNatClampNeg) then (vp_in ((((x6 + 1) * 9) + x7) + 1) 81 ∧ (vp_in (((x6 + 1) * 9) + x7) 81 ∧ (vp_in (((x6 * 9) + x7) + 1) 81 ∧ (vp_in ((x6 * 9) + x7) 81 ∧ (sm_wp X 8 85 [some (.ref 71), none, none, none, some (.int x4), some (.int x5), some (.int x6), some (.int (x7 + (-1))), none, none, none] [] (sM mo G (up2 I 78 ((x6 * 9) + x7).toNatClampNeg (if ((1 : Int32) + (if (I 78 ((((x6 * 9) + x7) + 1).toNatClampNeg) : Int32) < I 78 ((((x6 + 1) * 9) + x7).toNatClampNeg) then I 78 ((((x6 * 9) + x7) + 1).toNatClampNeg) else I 78 ((((x6 + 1) * 9) + x7).toNatClampNeg)) : Int32) < (1 : Int32) + (I 78 (((((x6 + 1) * 9) + x7) + 1).toNatClampNeg)) then (1 : Int32) + (if (I 78 ((((x6 * 9) + x7) + 1).toNatClampNeg) : Int32) < I 78 ((((x6 + 1) * 9) + x7).toNatClampNeg) then I 78 ((((x6 * 9) + x7) + 1).toNatClampNeg) else I 78 ((((x6 + 1) * 9) + x7).toNatClampNeg)) else (1 : Int32) + (I 78 (((((x6 + 1) * 9) + x7) + 1).toNatClampNeg)))) J) Q))))) else (vp_in ((((x6 + 1) * 9) + x7) + 1) 81 ∧ (vp_in (((x6 + 1) * 9) + x7) 81 ∧ (vp_in (((x6 * 9) + x7) + 1) 81 ∧ (vp_in ((x6 * 9) + x7) 81 ∧ (sm_wp X 8 85 [some (.ref 71), none, none, none, some (.int x4), some (.int x5), some (.int x6), some (.int (x7 + (-1))), none, none, none] [] (sM mo G (up2 I 78 ((x6 * 9) + x7).toNatClampNeg (if ((1 : Int32) + (if (I 78 ((((x6 * 9) + x7) + 1).toNatClampNeg) : Int32) < I 78 ((((x6 + 1) * 9) + x7).toNatClampNeg) then I 78 ((((x6 * 9) + x7) + 1).toNatClampNeg) else I 78 ((((x6 + 1) * 9) + x7).toNatClampNeg)) : Int32) < (0 : Int32) + (I 78 (((((x6 + 1) * 9) + x7) + 1).toNatClampNeg)) then (1 : Int32) + (if (I 78 ((((x6 * 9) + x7) + 1).toNatClampNeg) : Int32) < I 78 ((((x6 + 1) * 9) + x7).toNatClampNeg) then I 78 ((((x6 * 9) + x7) + 1).toNatClampNeg) else I 78 ((((x6 + 1) * 9) + x7).toNatClampNeg)) else (0 : Int32) + (I 78 (((((x6 + 1) * 9) + x7) + 1).toNatClampNeg)))) J) Q))))))))))) := by
  rw [bk_8_85]
  all_goals (try simp (decide := true) only [bkx_8_205_0, bk_8_0, bk_8_24, bk_8_39, bk_8_46, bk_8_52, bk_8_65, bk_8_138, bk_8_139, bk_8_205, bk_8_226, bk_8_232, up2_ne, up2_sn, up2_ss, ne_eq, tl_some, tl_none, zb_0, zb_1, zb_bi, true_and, bi_eq, bi_ne, oz_f, zz_t, if_true, if_false, not_true_eq_false, not_false_eq_true])
  all_goals grind (splits := 30) [bi]
theorem lp_10_0 (x1 : Int32) : sm_wp X 10 0 [some (.ref 71), some (.int x1), none, none, none] [] (sM mo G I J) Q = (sm_wp X 10 2 [some (.ref 71), some (.int x1), some (.int 0), none, none] [] (sM mo G I J) Q) := by
  rw [bk_10_0]
  all_goals (try simp (decide := true) only [bk_10_21, bk_10_42, bk_10_51, bk_10_61, bk_10_85, bk_10_91, bk_10_97, bk_10_113, bk_10_122, bk_10_127, bk_10_133, up2_ne, up2_sn, up2_ss, ne_eq, tl_some, tl_none, zb_0, zb_1, zb_bi, true_and, bi_eq, bi_ne, oz_f, zz_t, if_true, if_false, not_true_eq_false, not_false_eq_true])
  all_goals grind (splits := 30) [bi]
theorem lp_10_2 (x1 : Int32) (x2 : Int32) : sm_wp X 10 2 [some (.ref 71), some (.int x1), some (.int x2), none, none] [] (sM mo G I J) Q = (if 6 ≤ x2 then (sm_wp X 10 23 [some (.ref 71), some (.int x1), some (.int 1), none, none] [] (sM mo G I J) Q) else (vp_in x2 6 ∧ (sm_wp X 10 2 [some (.ref 71), some (.int x1), some (.int (x2 + 1)), none, none] [] (sM mo G (up2 I 79 x2.toNatClampNeg 0) J) Q))) := by
  rw [bk_10_2]
  all_goals (try simp (decide := true) only [bk_10_0, bk_10_21, bk_10_42, bk_10_51, bk_10_61, bk_10_85, bk_10_91, bk_10_97, bk_10_113, bk_10_122, bk_10_127, bk_10_133, up2_ne, up2_sn, up2_ss, ne_eq, tl_some, tl_none, zb_0, zb_1, zb_bi, true_and, bi_eq, bi_ne, oz_f, zz_t, if_true, if_false, not_true_eq_false, not_false_eq_true])
  all_goals grind (splits := 30) [bi]
theorem lp_10_23 (x1 : Int32) (x2 : Int32) : sm_wp X 10 23 [some (.ref 71), some (.int x1), some (.int x2), none, none] [] (sM mo G I J) Q = (if 6 ≤ x2 then (sm_wp X 10 101 [some (.ref 71), some (.int x1), some (.int (-1)), some (.int 0), none] [] (sM mo G I J) Q) else (sm_wp X 10 31 [some (.ref 71), some (.int x1), some (.int x2), some (.int 0), none] [] (sM mo G I J) Q)) := by
  rw [bk_10_23]
  all_goals (try simp (decide := true) only [bk_10_0, bk_10_21, bk_10_42, bk_10_51, bk_10_61, bk_10_85, bk_10_91, bk_10_97, bk_10_113, bk_10_122, bk_10_127, bk_10_133, up2_ne, up2_sn, up2_ss, ne_eq, tl_some, tl_none, zb_0, zb_1, zb_bi, true_and, bi_eq, bi_ne, oz_f, zz_t, if_true, if_false, not_true_eq_false, not_false_eq_true])
  all_goals grind (splits := 30) [bi]
theorem lp_10_31 (x1 : Int32) (x2 : Int32) (x3 : Int32) : sm_wp X 10 31 [some (.ref 71), some (.int x1), some (.int x2), some (.int x3), none] [] (sM mo G I J) Q = (if x2 ≤ x3 then (sm_wp X 10 23 [some (.ref 71), some (.int x1), some (.int (x2 + 1)), none, none] [] (sM mo G I J) Q) else (if ¬ (vf_Art_hasPresentDraft I x1 x3) then (sm_wp X 10 31 [some (.ref 71), some (.int x1), some (.int x2), some (.int (x3 + 1)), none] [] (sM mo G I J) Q) else (if ¬ (vf_Art_hasPresentDraft I x1 x2) then (sm_wp X 10 31 [some (.ref 71), some (.int x1), some (.int x2), some (.int (x3 + 1)), none] [] (sM mo G I J) Q) else (sm_wp X 8 0 [some (.ref 71), some (.int x1), some (.int x3), some (.int x2), none, none, none, none, none, none, none] [] (sM mo G I J) (fun v M => sm_wp X 10 61 [some (.ref 71), some (.int x1), some (.int x2), some (.int x3), none] (v.toList ++ []) M Q))))) := by
  rw [bk_10_31]
  all_goals (try simp (decide := true) only [bk_10_0, bk_10_21, bk_10_42, bk_10_51, bk_10_61, bk_10_85, bk_10_91, bk_10_97, bk_10_113, bk_10_122, bk_10_127, bk_10_133, ct_Art_hasPresentDraft, up2_ne, up2_sn, up2_ss, ne_eq, tl_some, tl_none, zb_0, zb_1, zb_bi, true_and, bi_eq, bi_ne, oz_f, zz_t, if_true, if_false, not_true_eq_false, not_false_eq_true])
  all_goals grind (splits := 30) [bi]
theorem lp_10_101 (x1 : Int32) (x2 : Int32) (x3 : Int32) : sm_wp X 10 101 [some (.ref 71), some (.int x1), some (.int x2), some (.int x3), none] [] (sM mo G I J) Q = (if 6 ≤ x3 then (Q (some (.int x2)) (sM mo G I J)) else (if ¬ (vf_Art_hasPresentDraft I x1 x3) then (sm_wp X 10 101 [some (.ref 71), some (.int x1), some (.int x2), some (.int (x3 + 1)), none] [] (sM mo G I J) Q) else (if ¬ (vf_Art_isBetterBase I x3 x2) then (sm_wp X 10 101 [some (.ref 71), some (.int x1), some (.int x2), some (.int (x3 + 1)), none] [] (sM mo G I J) Q) else (sm_wp X 10 101 [some (.ref 71), some (.int x1), some (.int x3), some (.int (x3 + 1)), none] [] (sM mo G I J) Q)))) := by
  rw [bk_10_101]
  all_goals (try simp (decide := true) only [bk_10_0, bk_10_21, bk_10_42, bk_10_51, bk_10_61, bk_10_85, bk_10_91, bk_10_97, bk_10_113, bk_10_122, bk_10_127, bk_10_133, ct_Art_hasPresentDraft, ct_Art_isBetterBase, up2_ne, up2_sn, up2_ss, ne_eq, tl_some, tl_none, zb_0, zb_1, zb_bi, true_and, bi_eq, bi_ne, oz_f, zz_t, if_true, if_false, not_true_eq_false, not_false_eq_true])
  all_goals grind (splits := 30) [bi]
theorem lp_10_61 (x1 : Int32) (x2 : Int32) (x3 : Int32) (s0 : Int32) : sm_wp X 10 61 [some (.ref 71), some (.int x1), some (.int x2), some (.int x3), none] [.int s0] (sM mo G I J) Q = (vp_in x3 6 ∧ (vp_in x2 6 ∧ (sm_wp X 10 31 [some (.ref 71), some (.int x1), some (.int x2), some (.int (x3 + 1)), none] [] (sM mo G (up2 (up2 I 79 x3.toNatClampNeg ((I 79 (x3.toNatClampNeg)) + s0)) 79 x2.toNatClampNeg (((up2 I 79 x3.toNatClampNeg ((I 79 (x3.toNatClampNeg)) + s0)) 79 (x2.toNatClampNeg)) + s0)) J) Q))) := by
  rw [bk_10_61]
  all_goals (try simp (decide := true) only [bkx_10_85_1, bk_10_0, bk_10_21, bk_10_42, bk_10_51, bk_10_85, bk_10_91, bk_10_97, bk_10_113, bk_10_122, bk_10_127, bk_10_133, up2_ne, up2_sn, up2_ss, ne_eq, tl_some, tl_none, zb_0, zb_1, zb_bi, true_and, bi_eq, bi_ne, oz_f, zz_t, if_true, if_false, not_true_eq_false, not_false_eq_true])
  all_goals grind (splits := 30) [bi]
theorem lp_13_0 (x1 : Int32) : sm_wp X 13 0 [some (.ref 71), some (.int x1), none, none, none] [] (sM mo G I J) Q = (sm_wp X 13 4 [some (.ref 71), some (.int x1), some (.int 0), some (.int 0), none] [] (sM mo G I J) Q) := by
  rw [bk_13_0]
  all_goals (try simp (decide := true) only [bk_13_17, bk_13_26, bk_13_32, bk_13_78, bk_13_84, bk_13_90, bk_13_95, up2_ne, up2_sn, up2_ss, ne_eq, tl_some, tl_none, zb_0, zb_1, zb_bi, true_and, bi_eq, bi_ne, oz_f, zz_t, if_true, if_false, not_true_eq_false, not_false_eq_true])
  all_goals grind (splits := 30) [bi]
theorem lp_13_4 (x1 : Int32) (x2 : Int32) (x3 : Int32) : sm_wp X 13 4 [some (.ref 71), some (.int x1), some (.int x2), some (.int x3), none] [] (sM mo G I J) Q = (if I 71 0 ≤ x3 then (sm_wp X 13 34 [some (.ref 71), some (.int x1), some (.int x2), some (.int 0), none] [] (sM mo G I J) Q) else (sm_wp X 14 0 [some (.ref 71), some (.int x3), none, none, none, none] [] (sM mo G I J) (fun v M => sm_wp X 13 17 [some (.ref 71), some (.int x1), some (.int x2), some (.int x3), none] (v.toList ++ []) M Q))) := by
  rw [bk_13_4]
  all_goals (try simp (decide := true) only [bk_13_0, bk_13_17, bk_13_26, bk_13_32, bk_13_78, bk_13_84, bk_13_90, bk_13_95, up2_ne, up2_sn, up2_ss, ne_eq, tl_some, tl_none, zb_0, zb_1, zb_bi, true_and, bi_eq, bi_ne, oz_f, zz_t, if_true, if_false, not_true_eq_false, not_false_eq_true])
  all_goals grind (splits := 30) [bi]
theorem lp_13_34 (x1 : Int32) (x2 : Int32) (x3 : Int32) : sm_wp X 13 34 [some (.ref 71), some (.int x1), some (.int x2), some (.int x3), none] [] (sM mo G I J) Q = (if 8 ≤ x3 then (Q (some (.int (bi (hBit x2 x1)))) (sM mo G I J)) else (sm_wp X 13 43 [some (.ref 71), some (.int x1), some (.int x2), some (.int x3), some (.int 0)] [] (sM mo G I J) Q)) := by
  rw [bk_13_34]
  all_goals (try simp (decide := true) only [bk_13_0, bk_13_17, bk_13_26, bk_13_32, bk_13_78, bk_13_84, bk_13_90, bk_13_95, ct_House_hasBit, up2_ne, up2_sn, up2_ss, ne_eq, tl_some, tl_none, zb_0, zb_1, zb_bi, true_and, bi_eq, bi_ne, oz_f, zz_t, if_true, if_false, not_true_eq_false, not_false_eq_true])
  all_goals grind (splits := 30) [bi]
theorem lp_13_43 (x1 : Int32) (x2 : Int32) (x3 : Int32) (x4 : Int32) : sm_wp X 13 43 [some (.ref 71), some (.int x1), some (.int x2), some (.int x3), some (.int x4)] [] (sM mo G I J) Q = (if I 71 0 ≤ x4 then (sm_wp X 13 34 [some (.ref 71), some (.int x1), some (.int x2), some (.int (x3 + 1)), none] [] (sM mo G I J) Q) else (if 8 ≤ x4 then (sm_wp X 13 34 [some (.ref 71), some (.int x1), some (.int x2), some (.int (x3 + 1)), none] [] (sM mo G I J) Q) else (vp_in x4 8 ∧ (if (I 74 (x4.toNatClampNeg)) &&& x2 = 0 then (sm_wp X 13 43 [some (.ref 71), some (.int x1), some (.int x2), some (.int x3), some (.int (x4 + 1))] [] (sM mo G I J) Q) else (sm_wp X 13 43 [some (.ref 71), some (.int x1), some (.int (x2 ||| ((1 : Int32) <<< (x4 &&& 31)))), some (.int x3), some (.int (x4 + 1))] [] (sM mo G I J) Q))))) := by
  rw [bk_13_43]
  all_goals (try simp (decide := true) only [bk_13_0, bk_13_17, bk_13_26, bk_13_32, bk_13_78, bk_13_84, bk_13_90, bk_13_95, up2_ne, up2_sn, up2_ss, ne_eq, tl_some, tl_none, zb_0, zb_1, zb_bi, true_and, bi_eq, bi_ne, oz_f, zz_t, if_true, if_false, not_true_eq_false, not_false_eq_true])
  all_goals grind (splits := 30) [bi]
theorem lp_13_17 (x1 : Int32) (x2 : Int32) (x3 : Int32) (s0 : Int32) : sm_wp X 13 17 [some (.ref 71), some (.int x1), some (.int x2), some (.int x3), none] [.int s0] (sM mo G I J) Q = (if s0 = 0 then (sm_wp X 13 4 [some (.ref 71), some (.int x1), some (.int x2), some (.int (x3 + 1)), none] [] (sM mo G I J) Q) else (sm_wp X 13 4 [some (.ref 71), some (.int x1), some (.int (x2 ||| ((1 : Int32) <<< (x3 &&& 31)))), some (.int (x3 + 1)), none] [] (sM mo G I J) Q)) := by
  rw [bk_13_17]
  all_goals (try simp (decide := true) only [bk_13_0, bk_13_26, bk_13_32, bk_13_78, bk_13_84, bk_13_90, bk_13_95, up2_ne, up2_sn, up2_ss, ne_eq, tl_some, tl_none, zb_0, zb_1, zb_bi, true_and, bi_eq, bi_ne, oz_f, zz_t, if_true, if_false, not_true_eq_false, not_false_eq_true])
  all_goals grind (splits := 30) [bi]
theorem lp_14_0 (x1 : Int32) : sm_wp X 14 0 [some (.ref 71), some (.int x1), none, none, none, none] [] (sM mo G I J) Q = (sm_wp X 10 0 [some (.ref 71), some (.int x1), none, none, none] [] (sM mo G I J) (fun v M => sm_wp X 14 5 [some (.ref 71), some (.int x1), none, none, none, none] (v.toList ++ []) M Q)) := by
  rw [bk_14_0]
  all_goals (try simp (decide := true) only [bk_14_5, bk_14_12, bk_14_17, bk_14_24, bk_14_54, bk_14_59, bk_14_65, bk_14_73, bk_14_74, up2_ne, up2_sn, up2_ss, ne_eq, tl_some, tl_none, zb_0, zb_1, zb_bi, true_and, bi_eq, bi_ne, oz_f, zz_t, if_true, if_false, not_true_eq_false, not_false_eq_true])
  all_goals grind (splits := 30) [bi]
theorem lp_14_29 (x3 : Int32) (x4 : Int32) (x5 : Int32) : sm_wp X 14 29 [some (.ref 71), none, none, some (.int x3), some (.int x4), some (.int x5)] [] (sM mo G I J) Q = (if x4 ≤ x5 then (if ¬ x3 = 0 then (Q (some (.int 0)) (sM mo G I J)) else (Q (some (.int 1)) (sM mo G I J))) else (if 8 ≤ x5 then (if ¬ x3 = 0 then (Q (some (.int 0)) (sM mo G I J)) else (Q (some (.int 1)) (sM mo G I J))) else (vp_in x5 8 ∧ (if ¬ vf_Art_agreement (I 80 (x5.toNatClampNeg)) x3 = 0 then (sm_wp X 14 29 [some (.ref 71), none, none, some (.int x3), some (.int x4), some (.int (x5 + 1))] [] (sM mo G I J) Q) else (Q (some (.int 1)) (sM mo G I J)))))) := by
  rw [bk_14_29]
  all_goals (try simp (decide := true) only [bk_14_0, bk_14_5, bk_14_12, bk_14_17, bk_14_24, bk_14_54, bk_14_59, bk_14_65, bk_14_73, bk_14_74, ct_Art_agreement, up2_ne, up2_sn, up2_ss, ne_eq, tl_some, tl_none, zb_0, zb_1, zb_bi, true_and, bi_eq, bi_ne, oz_f, zz_t, if_true, if_false, not_true_eq_false, not_false_eq_true])
  all_goals grind (splits := 30) [bi]
theorem lp_14_5 (x1 : Int32) (s0 : Int32) : sm_wp X 14 5 [some (.ref 71), some (.int x1), none, none, none, none] [.int s0] (sM mo G I J) Q = (sm_wp X 15 0 [some (.ref 71), some (.int x1), some (.int s0), none] [] (sM mo G I J) (fun v M => sm_wp X 14 12 [some (.ref 71), some (.int x1), some (.int s0), none, none, none] (v.toList ++ []) M Q)) := by
  rw [bk_14_5]
  all_goals (try simp (decide := true) only [bk_14_0, bk_14_12, bk_14_17, bk_14_24, bk_14_54, bk_14_59, bk_14_65, bk_14_73, bk_14_74, up2_ne, up2_sn, up2_ss, ne_eq, tl_some, tl_none, zb_0, zb_1, zb_bi, true_and, bi_eq, bi_ne, oz_f, zz_t, if_true, if_false, not_true_eq_false, not_false_eq_true])
  all_goals grind (splits := 30) [bi]
theorem lp_14_12 (x1 : Int32) (x2 : Int32) : sm_wp X 14 12 [some (.ref 71), some (.int x1), some (.int x2), none, none, none] [] (sM mo G I J) Q = (sm_wp X 17 0 [some (.ref 71), some (.int x1), none, none] [] (sM mo G I J) (fun v M => sm_wp X 14 17 [some (.ref 71), some (.int x1), some (.int x2), none, none, none] (v.toList ++ []) M Q)) := by
  rw [bk_14_12]
  all_goals (try simp (decide := true) only [bk_14_0, bk_14_5, bk_14_17, bk_14_24, bk_14_54, bk_14_59, bk_14_65, bk_14_73, bk_14_74, up2_ne, up2_sn, up2_ss, ne_eq, tl_some, tl_none, zb_0, zb_1, zb_bi, true_and, bi_eq, bi_ne, oz_f, zz_t, if_true, if_false, not_true_eq_false, not_false_eq_true])
  all_goals grind (splits := 30) [bi]
theorem lp_14_17 (x1 : Int32) (x2 : Int32) (s0 : Int32) : sm_wp X 14 17 [some (.ref 71), some (.int x1), some (.int x2), none, none, none] [.int s0] (sM mo G I J) Q = (sm_wp X 14 29 [some (.ref 71), none, none, some (.int s0), some (.int (vf_Art_draftLength I x1 x2)), some (.int 0)] [] (sM mo G I J) Q) := by
  rw [bk_14_17]
  all_goals (try simp (decide := true) only [bk_14_0, bk_14_5, bk_14_12, bk_14_24, bk_14_54, bk_14_59, bk_14_65, bk_14_73, bk_14_74, ct_Art_draftLength, up2_ne, up2_sn, up2_ss, ne_eq, tl_some, tl_none, zb_0, zb_1, zb_bi, true_and, bi_eq, bi_ne, oz_f, zz_t, if_true, if_false, not_true_eq_false, not_false_eq_true])
  all_goals grind (splits := 30) [bi]
theorem lp_15_0 (x1 : Int32) (x2 : Int32) : sm_wp X 15 0 [some (.ref 71), some (.int x1), some (.int x2), none] [] (sM mo G I J) Q = (sm_wp X 15 2 [some (.ref 71), some (.int x1), some (.int x2), some (.int 0)] [] (sM mo G I J) Q) := by
  rw [bk_15_0]
  all_goals (try simp (decide := true) only [bk_15_21, bk_15_35, bk_15_45, bk_15_53, bk_15_59, bk_15_62, bk_15_68, up2_ne, up2_sn, up2_ss, ne_eq, tl_some, tl_none, zb_0, zb_1, zb_bi, true_and, bi_eq, bi_ne, oz_f, zz_t, if_true, if_false, not_true_eq_false, not_false_eq_true])
  all_goals grind (splits := 30) [bi]
theorem lp_15_2 (x1 : Int32) (x2 : Int32) (x3 : Int32) : sm_wp X 15 2 [some (.ref 71), some (.int x1), some (.int x2), some (.int x3)] [] (sM mo G I J) Q = (if 8 ≤ x3 then (sm_wp X 15 23 [some (.ref 71), some (.int x1), some (.int x2), some (.int 0)] [] (sM mo G I J) Q) else (vp_in x3 8 ∧ (sm_wp X 15 2 [some (.ref 71), some (.int x1), some (.int x2), some (.int (x3 + 1))] [] (sM mo G (up2 I 80 x3.toNatClampNeg 0) J) Q))) := by
  rw [bk_15_2]
  all_goals (try simp (decide := true) only [bk_15_0, bk_15_21, bk_15_35, bk_15_45, bk_15_53, bk_15_59, bk_15_62, bk_15_68, up2_ne, up2_sn, up2_ss, ne_eq, tl_some, tl_none, zb_0, zb_1, zb_bi, true_and, bi_eq, bi_ne, oz_f, zz_t, if_true, if_false, not_true_eq_false, not_false_eq_true])
  all_goals grind (splits := 30) [bi]
theorem lp_15_23 (x1 : Int32) (x2 : Int32) (x3 : Int32) : sm_wp X 15 23 [some (.ref 71), some (.int x1), some (.int x2), some (.int x3)] [] (sM mo G I J) Q = (if 6 ≤ x3 then (Q none (sM mo G I J)) else (if ¬ (vf_Art_hasPresentDraft I x1 x3) then (sm_wp X 15 23 [some (.ref 71), some (.int x1), some (.int x2), some (.int (x3 + 1))] [] (sM mo G I J) Q) else (sm_wp X 8 0 [some (.ref 71), some (.int x1), some (.int x2), some (.int x3), none, none, none, none, none, none, none] [] (sM mo G I J) (fun v M => sm_wp X 15 45 [some (.ref 71), some (.int x1), some (.int x2), some (.int x3)] (v.toList ++ []) M Q)))) := by
  rw [bk_15_23]
  all_goals (try simp (decide := true) only [bk_15_0, bk_15_21, bk_15_35, bk_15_45, bk_15_53, bk_15_59, bk_15_62, bk_15_68, ct_Art_hasPresentDraft, up2_ne, up2_sn, up2_ss, ne_eq, tl_some, tl_none, zb_0, zb_1, zb_bi, true_and, bi_eq, bi_ne, oz_f, zz_t, if_true, if_false, not_true_eq_false, not_false_eq_true])
  all_goals grind (splits := 30) [bi]
theorem lp_15_45 (x1 : Int32) (x2 : Int32) (x3 : Int32) (s0 : Int32) : sm_wp X 15 45 [some (.ref 71), some (.int x1), some (.int x2), some (.int x3)] [.int s0] (sM mo G I J) Q = (sm_wp X 16 0 [some (.ref 71), some (.int (vf_Art_draftLength I x1 x2)), some (.int (vf_Art_draftLength I x1 x3)), none, none, none, none, none] [] (sM mo G I J) (fun v M => sm_wp X 15 62 [some (.ref 71), some (.int x1), some (.int x2), some (.int x3)] (v.toList ++ []) M Q)) := by
  rw [bk_15_45]
  all_goals (try simp (decide := true) only [bk_15_0, bk_15_21, bk_15_35, bk_15_53, bk_15_59, bk_15_62, bk_15_68, ct_Art_draftLength, up2_ne, up2_sn, up2_ss, ne_eq, tl_some, tl_none, zb_0, zb_1, zb_bi, true_and, bi_eq, bi_ne, oz_f, zz_t, if_true, if_false, not_true_eq_false, not_false_eq_true])
  all_goals grind (splits := 30) [bi]
theorem lp_15_62 (x1 : Int32) (x2 : Int32) (x3 : Int32) : sm_wp X 15 62 [some (.ref 71), some (.int x1), some (.int x2), some (.int x3)] [] (sM mo G I J) Q = (sm_wp X 15 23 [some (.ref 71), some (.int x1), some (.int x2), some (.int (x3 + 1))] [] (sM mo G I J) Q) := by
  rw [bk_15_62]
  all_goals (try simp (decide := true) only [bk_15_0, bk_15_21, bk_15_35, bk_15_45, bk_15_53, bk_15_59, bk_15_68, up2_ne, up2_sn, up2_ss, ne_eq, tl_some, tl_none, zb_0, zb_1, zb_bi, true_and, bi_eq, bi_ne, oz_f, zz_t, if_true, if_false, not_true_eq_false, not_false_eq_true])
  all_goals grind (splits := 30) [bi]
theorem lp_16_0 (x1 : Int32) (x2 : Int32) : sm_wp X 16 0 [some (.ref 71), some (.int x1), some (.int x2), none, none, none, none, none] [] (sM mo G I J) Q = (sm_wp X 16 8 [some (.ref 71), some (.int x1), some (.int x2), some (.int 0), some (.int 0), some (.int 0), none, none] [] (sM mo G I J) Q) := by
  rw [bk_16_0]
  all_goals (try simp (decide := true) only [bk_16_39, bk_16_40, bk_16_74, bk_16_75, bk_16_123, bk_16_150, bk_16_153, bk_16_159, up2_ne, up2_sn, up2_ss, ne_eq, tl_some, tl_none, zb_0, zb_1, zb_bi, true_and, bi_eq, bi_ne, oz_f, zz_t, if_true, if_false, not_true_eq_false, not_false_eq_true])
  all_goals grind (splits := 30) [bi]
theorem lp_16_8 (x1 : Int32) (x2 : Int32) (x3 : Int32) (x4 : Int32) (x5 : Int32) : sm_wp X 16 8 [some (.ref 71), some (.int x1), some (.int x2), some (.int x3), some (.int x4), some (.int x5), none, none] [] (sM mo G I J) Q = (if 16 ≤ x5 then (Q none (sM mo G I J)) else (if x1 ≤ x3 then (Q none (sM mo G I J)) else (if 8 ≤ x3 then (Q none (sM mo G I J)) else (if x2 ≤ x4 then (Q none (sM mo G I J)) else (if x4 < 8 then (vp_in ((x3 * 9) + x4) 81 ∧ (vp_in x3 8 ∧ (vp_in x4 8 ∧ (if ¬ I 76 (x3.toNatClampNeg) = I 77 (x4.toNatClampNeg) then (vp_in ((((x3 + 1) * 9) + x4) + 1) 81 ∧ (if ¬ I 78 (((x3 * 9) + x4).toNatClampNeg) = (1 : Int32) + (I 78 (((((x3 + 1) * 9) + x4) + 1).toNatClampNeg)) then (vp_in (((x3 + 1) * 9) + x4) 81 ∧ (if ¬ I 78 (((x3 * 9) + x4).toNatClampNeg) = (1 : Int32) + (I 78 ((((x3 + 1) * 9) + x4).toNatClampNeg)) then (sm_wp X 16 8 [some (.ref 71), some (.int x1), some (.int x2), some (.int x3), some (.int (x4 + 1)), some (.int (x5 + 1)), none, none] [] (sM mo G I J) Q) else (sm_wp X 16 8 [some (.ref 71), some (.int x1), some (.int x2), some (.int (x3 + 1)), some (.int x4), some (.int (x5 + 1)), none, none] [] (sM mo G I J) Q))) else (sm_wp X 16 8 [some (.ref 71), some (.int x1), some (.int x2), some (.int (x3 + 1)), some (.int (x4 + 1)), some (.int (x5 + 1)), none, none] [] (sM mo G (up2 I 80 x3.toNatClampNeg ((I 80 (x3.toNatClampNeg)) + ((1 : Int32) - 1))) J) Q))) else (vp_in ((((x3 + 1) * 9) + x4) + 1) 81 ∧ (if ¬ I 78 (((x3 * 9) + x4).toNatClampNeg) = (0 : Int32) + (I 78 (((((x3 + 1) * 9) + x4) + 1).toNatClampNeg)) then (vp_in (((x3 + 1) * 9) + x4) 81 ∧ (if ¬ I 78 (((x3 * 9) + x4).toNatClampNeg) = (1 : Int32) + (I 78 ((((x3 + 1) * 9) + x4).toNatClampNeg)) then (sm_wp X 16 8 [some (.ref 71), some (.int x1), some (.int x2), some (.int x3), some (.int (x4 + 1)), some (.int (x5 + 1)), none, none] [] (sM mo G I J) Q) else (sm_wp X 16 8 [some (.ref 71), some (.int x1), some (.int x2), some (.int (x3 + 1)), some (.int x4), some (.int (x5 + 1)), none, none] [] (sM mo G I J) Q))) else (sm_wp X 16 8 [some (.ref 71), some (.int x1), some (.int x2), some (.int (x3 + 1)), some (.int (x4 + 1)), some (.int (x5 + 1)), none, none] [] (sM mo G (up2 I 80 x3.toNatClampNeg ((I 80 (x3.toNatClampNeg)) + ((1 : Int32) - 0))) J) Q))))))) else (Q none (sM mo G I J))))))) := by
  rw [bk_16_8]
  all_goals (try simp (decide := true) only [bk_16_0, bk_16_39, bk_16_40, bk_16_74, bk_16_75, bk_16_123, bk_16_150, bk_16_153, bk_16_159, up2_ne, up2_sn, up2_ss, ne_eq, tl_some, tl_none, zb_0, zb_1, zb_bi, true_and, bi_eq, bi_ne, oz_f, zz_t, if_true, if_false, not_true_eq_false, not_false_eq_true])
  all_goals grind (splits := 30) [bi]
theorem lp_17_0 (x1 : Int32) : sm_wp X 17 0 [some (.ref 71), some (.int x1), none, none] [] (sM mo G I J) Q = (sm_wp X 17 4 [some (.ref 71), some (.int x1), some (.int 0), some (.int 0)] [] (sM mo G I J) Q) := by
  rw [bk_17_0]
  all_goals (try simp (decide := true) only [bk_17_16, bk_17_22, bk_17_28, up2_ne, up2_sn, up2_ss, ne_eq, tl_some, tl_none, zb_0, zb_1, zb_bi, true_and, bi_eq, bi_ne, oz_f, zz_t, if_true, if_false, not_true_eq_false, not_false_eq_true])
  all_goals grind (splits := 30) [bi]
theorem lp_17_4 (x1 : Int32) (x2 : Int32) (x3 : Int32) : sm_wp X 17 4 [some (.ref 71), some (.int x1), some (.int x2), some (.int x3)] [] (sM mo G I J) Q = (if 6 ≤ x3 then (Q (some (.int x2)) (sM mo G I J)) else (if ¬ (vf_Art_hasPresentDraft I x1 x3) then (sm_wp X 17 4 [some (.ref 71), some (.int x1), some (.int x2), some (.int (x3 + 1))] [] (sM mo G I J) Q) else (sm_wp X 17 4 [some (.ref 71), some (.int x1), some (.int (x2 + 1)), some (.int (x3 + 1))] [] (sM mo G I J) Q))) := by
  rw [bk_17_4]
  all_goals (try simp (decide := true) only [bk_17_0, bk_17_16, bk_17_22, bk_17_28, ct_Art_hasPresentDraft, up2_ne, up2_sn, up2_ss, ne_eq, tl_some, tl_none, zb_0, zb_1, zb_bi, true_and, bi_eq, bi_ne, oz_f, zz_t, if_true, if_false, not_true_eq_false, not_false_eq_true])
  all_goals grind (splits := 30) [bi]
theorem lp_20_0 (x1 : Int32) (x2 : Int32) (x3 : Int32) : sm_wp X 20 0 [some (.ref 71), some (.int x1), some (.int x2), some (.int x3), none] [] (sM mo G I J) Q = (sm_wp X 10 0 [some (.ref 71), some (.int x1), none, none, none] [] (sM mo G I J) (fun v M => sm_wp X 20 5 [some (.ref 71), some (.int x1), some (.int x2), some (.int x3), none] (v.toList ++ []) M Q)) := by
  rw [bk_20_0]
  all_goals (try simp (decide := true) only [bk_20_5, bk_20_25, bk_20_28, bk_20_30, bk_20_37, bk_20_64, bk_20_72, bk_20_73, bk_20_80, bk_20_91, bk_20_94, bk_20_95, up2_ne, up2_sn, up2_ss, ne_eq, tl_some, tl_none, zb_0, zb_1, zb_bi, true_and, bi_eq, bi_ne, oz_f, zz_t, if_true, if_false, not_true_eq_false, not_false_eq_true])
  all_goals grind (splits := 30) [bi]
theorem lp_20_5 (x1 : Int32) (x2 : Int32) (x3 : Int32) (s0 : Int32) : sm_wp X 20 5 [some (.ref 71), some (.int x1), some (.int x2), some (.int x3), none] [.int s0] (sM mo G I J) Q = (if x2 < 0 then (Q (some (.int (-1))) (sM mo G I J)) else (if 8 ≤ x2 then (Q (some (.int (-1))) (sM mo G I J)) else (if x2 < vf_Art_draftLength I x1 s0 then (sm_wp X 15 0 [some (.ref 71), some (.int x1), some (.int s0), none] [] (sM mo G I J) (fun v M => sm_wp X 20 37 [some (.ref 71), some (.int x1), some (.int x2), some (.int x3), some (.int s0)] (v.toList ++ []) M Q)) else (Q (some (.int (-1))) (sM mo G I J))))) := by
  rw [bk_20_5]
  all_goals (try simp (decide := true) only [bk_20_0, bk_20_25, bk_20_28, bk_20_30, bk_20_37, bk_20_64, bk_20_72, bk_20_73, bk_20_80, bk_20_91, bk_20_94, bk_20_95, ct_Art_draftLength, up2_ne, up2_sn, up2_ss, ne_eq, tl_some, tl_none, zb_0, zb_1, zb_bi, true_and, bi_eq, bi_ne, oz_f, zz_t, if_true, if_false, not_true_eq_false, not_false_eq_true])
  all_goals grind (splits := 30) [bi]
theorem lp_20_37 (x1 : Int32) (x2 : Int32) (x3 : Int32) (x4 : Int32) : sm_wp X 20 37 [some (.ref 71), some (.int x1), some (.int x2), some (.int x3), some (.int x4)] [] (sM mo G I J) Q = (if x3 = 0 then (Q (some (.int (vf_Art_wordAt I x1 x4 x2))) (sM mo G I J)) else (if x3 = 1 then (vp_in x2 8 ∧ (Q (some (.int (I 80 (x2.toNatClampNeg)))) (sM mo G I J))) else (if x3 = 2 then (vp_in x2 8 ∧ (sm_wp X 17 0 [some (.ref 71), some (.int x1), none, none] [] (sM mo G I J) (fun v M => sm_wp X 20 91 [some (.ref 71), some (.int x1), some (.int x2), some (.int x3), some (.int x4)] (v.toList ++ [.int (I 80 (x2.toNatClampNeg))]) M Q))) else (Q (some (.int (-1))) (sM mo G I J))))) := by
  rw [bk_20_37]
  all_goals (try simp (decide := true) only [bk_20_0, bk_20_5, bk_20_25, bk_20_28, bk_20_30, bk_20_64, bk_20_72, bk_20_73, bk_20_80, bk_20_91, bk_20_94, bk_20_95, ct_Art_wordAt, up2_ne, up2_sn, up2_ss, ne_eq, tl_some, tl_none, zb_0, zb_1, zb_bi, true_and, bi_eq, bi_ne, oz_f, zz_t, if_true, if_false, not_true_eq_false, not_false_eq_true])
  all_goals grind (splits := 30) [bi]
theorem lp_20_91 (x1 : Int32) (x2 : Int32) (x3 : Int32) (x4 : Int32) (s0 : Int32) (s1 : Int32) : sm_wp X 20 91 [some (.ref 71), some (.int x1), some (.int x2), some (.int x3), some (.int x4)] [.int s1, .int s0] (sM mo G I J) Q = (Q (some (.int (vf_Art_agreement s0 s1))) (sM mo G I J)) := by
  rw [bk_20_91]
  all_goals (try simp (decide := true) only [bk_20_0, bk_20_5, bk_20_25, bk_20_28, bk_20_30, bk_20_37, bk_20_64, bk_20_72, bk_20_73, bk_20_80, bk_20_94, bk_20_95, ct_Art_agreement, up2_ne, up2_sn, up2_ss, ne_eq, tl_some, tl_none, zb_0, zb_1, zb_bi, true_and, bi_eq, bi_ne, oz_f, zz_t, if_true, if_false, not_true_eq_false, not_false_eq_true])
  all_goals grind (splits := 30) [bi]
end R3
end
section
/-! One turn of each loop, and the stretches between calls, by program. -/
section R3
variable (X : (Nat → Int32) × Nat) (mo : Bool) (G : Nat × Nat) (I : Nat → Nat → Int32) (J : Nat → Nat → Int64) (Q : Option Value → sm_M → Prop)
theorem lp_40_0 (x2 : Int32) : sm_wp X 40 0 [some (.ref 21), some (.ref 16), some (.int x2), none] [] (sM mo G I J) Q = (if x2 < 0 then (Q none (sM mo G I J)) else (if x2 < 6 then (vp_in x2 6 ∧ (sm_wp X 40 28 [some (.ref 21), some (.ref 16), some (.int x2), some (.int 0)] [] (sM mo G (up2 I 22 x2.toNatClampNeg (if (16 : Int32) < I 16 2 then 16 else I 16 2)) J) Q)) else (Q none (sM mo G I J)))) := by
  rw [bk_40_0]
  all_goals (try simp (decide := true) only [bk_40_10, bk_40_11, bk_40_57, bk_40_105, up2_ne, up2_sn, up2_ss, ne_eq, tl_some, tl_none, zb_0, zb_1, zb_bi, true_and, bi_eq, bi_ne, oz_f, zz_t, if_true, if_false, not_true_eq_false, not_false_eq_true])
  all_goals grind (splits := 30) [bi]
theorem lp_40_28 (x2 : Int32) (x3 : Int32) : sm_wp X 40 28 [some (.ref 21), some (.ref 16), some (.int x2), some (.int x3)] [] (sM mo G I J) Q = (if 64 ≤ x3 then (sm_wp X 40 59 [some (.ref 21), some (.ref 16), some (.int x2), some (.int 0)] [] (sM mo G I J) Q) else (vp_in x3 64 ∧ (vp_in ((x2 * 64) + x3) 384 ∧ (sm_wp X 40 28 [some (.ref 21), some (.ref 16), some (.int x2), some (.int (x3 + 1))] [] (sM mo G (up2 I 23 ((x2 * 64) + x3).toNatClampNeg (I 17 (x3.toNatClampNeg))) J) Q)))) := by
  rw [bk_40_28]
  all_goals (try simp (decide := true) only [bk_40_0, bk_40_10, bk_40_11, bk_40_57, bk_40_105, up2_ne, up2_sn, up2_ss, ne_eq, tl_some, tl_none, zb_0, zb_1, zb_bi, true_and, bi_eq, bi_ne, oz_f, zz_t, if_true, if_false, not_true_eq_false, not_false_eq_true])
  all_goals grind (splits := 30) [bi]
theorem lp_40_59 (x2 : Int32) (x3 : Int32) : sm_wp X 40 59 [some (.ref 21), some (.ref 16), some (.int x2), some (.int x3)] [] (sM mo G I J) Q = (if 16 ≤ x3 then (Q none (sM mo G I J)) else (vp_in x3 16 ∧ (vp_in ((x2 * 16) + x3) 96 ∧ (sm_wp X 40 59 [some (.ref 21), some (.ref 16), some (.int x2), some (.int (x3 + 1))] [] (sM mo G (up2 (up2 I 24 ((x2 * 16) + x3).toNatClampNeg (I 18 (x3.toNatClampNeg))) 25 ((x2 * 16) + x3).toNatClampNeg (I 19 (x3.toNatClampNeg))) J) Q)))) := by
  rw [bk_40_59]
  all_goals (try simp (decide := true) only [bk_40_0, bk_40_10, bk_40_11, bk_40_57, bk_40_105, up2_ne, up2_sn, up2_ss, ne_eq, tl_some, tl_none, zb_0, zb_1, zb_bi, true_and, bi_eq, bi_ne, oz_f, zz_t, if_true, if_false, not_true_eq_false, not_false_eq_true])
  all_goals grind (splits := 30) [bi]
end R3
end
section
/-! One turn of each loop, and the stretches between calls, by program. -/
section R3
variable (X : (Nat → Int32) × Nat) (mo : Bool) (G : Nat × Nat) (I : Nat → Nat → Int32) (J : Nat → Nat → Int64) (Q : Option Value → sm_M → Prop)
theorem lp_22_0  : sm_wp X 22 0 [some (.ref 45), none, none] [] (sM mo G I J) Q = (sm_wp X 22 15 [some (.ref 45), some (.int 0), none] [] (sM mo G (up2 I 1 3 ((I 1 3) + 1)) J) Q) := by
  rw [bk_22_0]
  all_goals (try simp (decide := true) only [bk_22_34, bk_22_44, bk_22_49, bk_22_55, bk_22_76, bk_22_85, bk_22_91, up2_ne, up2_sn, up2_ss, ne_eq, tl_some, tl_none, zb_0, zb_1, zb_bi, true_and, bi_eq, bi_ne, oz_f, zz_t, if_true, if_false, not_true_eq_false, not_false_eq_true])
  all_goals grind (splits := 30) [bi]
theorem lp_22_15 (x1 : Int32) : sm_wp X 22 15 [some (.ref 45), some (.int x1), none] [] (sM mo G I J) Q = (if I 31 0 ≤ x1 then (sm_wp X 22 57 [some (.ref 45), some (.int 0), none] [] (sM mo G I J) Q) else (if aPap I 42 (-1) x1 = 0 then (sm_wp X 23 0 [some (.ref 45), some (.int x1)] [] (sM mo G I J) (fun v M => sm_wp X 22 49 [some (.ref 45), some (.int x1), some (.int (aPap I 42 (-1) x1))] (v.toList ++ []) M Q)) else (if ¬ aPap I 42 (-1) x1 = 1 then (sm_wp X 22 15 [some (.ref 45), some (.int (x1 + 1)), none] [] (sM mo G I J) Q) else (sm_wp X 23 0 [some (.ref 45), some (.int x1)] [] (sM mo G I J) (fun v M => sm_wp X 22 49 [some (.ref 45), some (.int x1), some (.int (aPap I 42 (-1) x1))] (v.toList ++ []) M Q))))) := by
  rw [bk_22_15]
  all_goals (try simp (decide := true) only [bk_22_0, bk_22_34, bk_22_44, bk_22_49, bk_22_55, bk_22_76, bk_22_85, bk_22_91, ct_Pap_standingOf, up2_ne, up2_sn, up2_ss, ne_eq, tl_some, tl_none, zb_0, zb_1, zb_bi, true_and, bi_eq, bi_ne, oz_f, zz_t, if_true, if_false, not_true_eq_false, not_false_eq_true])
  all_goals grind (splits := 30) [bi]
theorem lp_22_57 (x1 : Int32) : sm_wp X 22 57 [some (.ref 45), some (.int x1), none] [] (sM mo G I J) Q = (if I 31 0 ≤ x1 then (Q none (sM mo G I J)) else (if ¬ aPap I 42 (-1) x1 = 2 then (sm_wp X 22 57 [some (.ref 45), some (.int (x1 + 1)), none] [] (sM mo G I J) Q) else (sm_wp X 34 0 [some (.ref 45), some (.int x1), none, none, none, none] [] (sM mo G I J) (fun v M => sm_wp X 22 85 [some (.ref 45), some (.int x1), none] (v.toList ++ []) M Q)))) := by
  rw [bk_22_57]
  all_goals (try simp (decide := true) only [bk_22_0, bk_22_34, bk_22_44, bk_22_49, bk_22_55, bk_22_76, bk_22_85, bk_22_91, ct_Pap_standingOf, up2_ne, up2_sn, up2_ss, ne_eq, tl_some, tl_none, zb_0, zb_1, zb_bi, true_and, bi_eq, bi_ne, oz_f, zz_t, if_true, if_false, not_true_eq_false, not_false_eq_true])
  all_goals grind (splits := 30) [bi]
theorem lp_22_49 (x1 : Int32) (x2 : Int32) : sm_wp X 22 49 [some (.ref 45), some (.int x1), some (.int x2)] [] (sM mo G I J) Q = (sm_wp X 22 15 [some (.ref 45), some (.int (x1 + 1)), none] [] (sM mo G I J) Q) := by
  rw [bk_22_49]
  all_goals (try simp (decide := true) only [bk_22_0, bk_22_34, bk_22_44, bk_22_55, bk_22_76, bk_22_85, bk_22_91, up2_ne, up2_sn, up2_ss, ne_eq, tl_some, tl_none, zb_0, zb_1, zb_bi, true_and, bi_eq, bi_ne, oz_f, zz_t, if_true, if_false, not_true_eq_false, not_false_eq_true])
  all_goals grind (splits := 30) [bi]
theorem lp_22_85 (x1 : Int32) : sm_wp X 22 85 [some (.ref 45), some (.int x1), none] [] (sM mo G I J) Q = (sm_wp X 22 57 [some (.ref 45), some (.int (x1 + 1)), none] [] (sM mo G I J) Q) := by
  rw [bk_22_85]
  all_goals (try simp (decide := true) only [bk_22_0, bk_22_34, bk_22_44, bk_22_49, bk_22_55, bk_22_76, bk_22_91, up2_ne, up2_sn, up2_ss, ne_eq, tl_some, tl_none, zb_0, zb_1, zb_bi, true_and, bi_eq, bi_ne, oz_f, zz_t, if_true, if_false, not_true_eq_false, not_false_eq_true])
  all_goals grind (splits := 30) [bi]
theorem lp_23_0 (x1 : Int32) : sm_wp X 23 0 [some (.ref 45), some (.int x1)] [] (sM mo G I J) Q = (if aPap I 39 (-1) x1 < I 1 3 then (if ¬ (hPap I x1) then (Q none (sM mo G I J)) else (vp_in x1 60 ∧ (Q none (sM mo G (up2 I 42 x1.toNatClampNeg 4) J)))) else (if ¬ (hPres I (aPap I 32 (-1) x1)) then (if ¬ (hPap I x1) then (Q none (sM mo G I J)) else (vp_in x1 60 ∧ (Q none (sM mo G (up2 I 42 x1.toNatClampNeg 4) J)))) else (if (hPres I (aPap I 33 (-1) x1)) then (if ¬ aPap I 42 (-1) x1 = 0 then (if ¬ aPap I 42 (-1) x1 = 1 then (Q none (sM mo G I J)) else (if I 1 3 < aPap I 44 (-1) x1 then (Q none (sM mo G I J)) else (sm_wp X 24 0 [some (.ref 45), some (.int x1), some (.int 1), none, none, none, none, none] [] (sM mo G I J) (fun v M => sm_wp X 23 124 [some (.ref 45), some (.int x1)] (v.toList ++ [.int x1, .ref 45]) M Q)))) else (sm_wp X 24 0 [some (.ref 45), some (.int x1), some (.int 0), none, none, none, none, none] [] (sM mo G I J) (fun v M => sm_wp X 23 83 [some (.ref 45), some (.int x1)] (v.toList ++ [.int x1, .ref 45]) M Q))) else (if ¬ (hPap I x1) then (Q none (sM mo G I J)) else (vp_in x1 60 ∧ (Q none (sM mo G (up2 I 42 x1.toNatClampNeg 4) J))))))) := by
  rw [bk_23_0]
  all_goals (try simp (decide := true) only [bk_23_15, bk_23_30, bk_23_33, bk_23_48, bk_23_51, bk_23_54, bk_23_63, bk_23_64, bk_23_72, bk_23_83, bk_23_86, bk_23_94, bk_23_113, bk_23_124, bk_23_127, ct_Pap_lastDayOf, ct_Pap_setStanding, ct_Pap_sender, ct_Realm_isPresent, ct_Pap_receiver, ct_Pap_standingOf, ct_Pap_answerDay, up2_ne, up2_sn, up2_ss, ne_eq, tl_some, tl_none, zb_0, zb_1, zb_bi, true_and, bi_eq, bi_ne, oz_f, zz_t, if_true, if_false, not_true_eq_false, not_false_eq_true])
  all_goals grind (splits := 30) [bi]
theorem lp_23_83 (x1 : Int32) (s1 : Int32) (s2 : Int32) : sm_wp X 23 83 [some (.ref 45), some (.int x1)] [.int s2, .int s1, .ref 45] (sM mo G I J) Q = (if (vf_Book_isLine I (aPap I 33 (-1) s1) s2) then (if ¬ (hPap I s1) then (if ¬ vf_Book_verbOf I (aPap I 33 (-1) s1) s2 = 0 then (if ¬ vf_Book_verbOf I (aPap I 33 (-1) s1) s2 = 1 then (if ¬ vf_Book_verbOf I (aPap I 33 (-1) s1) s2 = 2 then (if ¬ aPap I 42 (-1) x1 = 1 then (Q none (sM mo G I J)) else (if I 1 3 < aPap I 44 (-1) x1 then (Q none (sM mo G I J)) else (sm_wp X 24 0 [some (.ref 45), some (.int x1), some (.int 1), none, none, none, none, none] [] (sM mo G I J) (fun v M => sm_wp X 23 124 [some (.ref 45), some (.int x1)] (v.toList ++ [.int x1, .ref 45]) M Q)))) else (if ¬ aPap I 42 (-1) x1 = 1 then (Q none (sM mo G I J)) else (if I 1 3 < aPap I 44 (-1) x1 then (Q none (sM mo G I J)) else (sm_wp X 24 0 [some (.ref 45), some (.int x1), some (.int 1), none, none, none, none, none] [] (sM mo G I J) (fun v M => sm_wp X 23 124 [some (.ref 45), some (.int x1)] (v.toList ++ [.int x1, .ref 45]) M Q))))) else (if ¬ aPap I 42 (-1) x1 = 1 then (Q none (sM mo G I J)) else (if I 1 3 < aPap I 44 (-1) x1 then (Q none (sM mo G I J)) else (sm_wp X 24 0 [some (.ref 45), some (.int x1), some (.int 1), none, none, none, none, none] [] (sM mo G I J) (fun v M => sm_wp X 23 124 [some (.ref 45), some (.int x1)] (v.toList ++ [.int x1, .ref 45]) M Q))))) else (if ¬ aPap I 42 (-1) x1 = 1 then (Q none (sM mo G I J)) else (if I 1 3 < aPap I 44 (-1) x1 then (Q none (sM mo G I J)) else (sm_wp X 24 0 [some (.ref 45), some (.int x1), some (.int 1), none, none, none, none, none] [] (sM mo G I J) (fun v M => sm_wp X 23 124 [some (.ref 45), some (.int x1)] (v.toList ++ [.int x1, .ref 45]) M Q))))) else (vp_in s1 60 ∧ (if ¬ vf_Book_verbOf (up2 I 43 s1.toNatClampNeg s2) (aPap I 33 (-1) s1) s2 = 0 then (if ¬ vf_Book_verbOf (up2 I 43 s1.toNatClampNeg s2) (aPap I 33 (-1) s1) s2 = 1 then (if ¬ vf_Book_verbOf (up2 I 43 s1.toNatClampNeg s2) (aPap I 33 (-1) s1) s2 = 2 then (if ¬ aPap (up2 I 43 s1.toNatClampNeg s2) 42 (-1) x1 = 1 then (Q none (sM mo G (up2 I 43 s1.toNatClampNeg s2) J)) else (if I 1 3 < aPap (up2 I 43 s1.toNatClampNeg s2) 44 (-1) x1 then (Q none (sM mo G (up2 I 43 s1.toNatClampNeg s2) J)) else (sm_wp X 24 0 [some (.ref 45), some (.int x1), some (.int 1), none, none, none, none, none] [] (sM mo G (up2 I 43 s1.toNatClampNeg s2) J) (fun v M => sm_wp X 23 124 [some (.ref 45), some (.int x1)] (v.toList ++ [.int x1, .ref 45]) M Q)))) else (if ¬ (hPap (up2 I 43 s1.toNatClampNeg s2) s1) then (if ¬ aPap (up2 I 43 s1.toNatClampNeg s2) 42 (-1) x1 = 1 then (Q none (sM mo G (up2 I 43 s1.toNatClampNeg s2) J)) else (if I 1 3 < aPap (up2 I 43 s1.toNatClampNeg s2) 44 (-1) x1 then (Q none (sM mo G (up2 I 43 s1.toNatClampNeg s2) J)) else (sm_wp X 24 0 [some (.ref 45), some (.int x1), some (.int 1), none, none, none, none, none] [] (sM mo G (up2 I 43 s1.toNatClampNeg s2) J) (fun v M => sm_wp X 23 124 [some (.ref 45), some (.int x1)] (v.toList ++ [.int x1, .ref 45]) M Q)))) else (if ¬ (hPap (up2 (up2 I 43 s1.toNatClampNeg s2) 42 s1.toNatClampNeg 1) s1) then (if ¬ aPap (up2 (up2 I 43 s1.toNatClampNeg s2) 42 s1.toNatClampNeg 1) 42 (-1) x1 = 1 then (Q none (sM mo G (up2 (up2 I 43 s1.toNatClampNeg s2) 42 s1.toNatClampNeg 1) J)) else (if I 1 3 < aPap (up2 (up2 I 43 s1.toNatClampNeg s2) 42 s1.toNatClampNeg 1) 44 (-1) x1 then (Q none (sM mo G (up2 (up2 I 43 s1.toNatClampNeg s2) 42 s1.toNatClampNeg 1) J)) else (sm_wp X 24 0 [some (.ref 45), some (.int x1), some (.int 1), none, none, none, none, none] [] (sM mo G (up2 (up2 I 43 s1.toNatClampNeg s2) 42 s1.toNatClampNeg 1) J) (fun v M => sm_wp X 23 124 [some (.ref 45), some (.int x1)] (v.toList ++ [.int x1, .ref 45]) M Q)))) else (if ¬ aPap (up2 (up2 (up2 I 43 s1.toNatClampNeg s2) 42 s1.toNatClampNeg 1) 44 s1.toNatClampNeg ((I 1 3) + ((2 : Int32) * (aState (up2 (up2 I 43 s1.toNatClampNeg s2) 42 s1.toNatClampNeg 1) 11 0 (aPap I 33 (-1) s1))))) 42 (-1) x1 = 1 then (Q none (sM mo G (up2 (up2 (up2 I 43 s1.toNatClampNeg s2) 42 s1.toNatClampNeg 1) 44 s1.toNatClampNeg ((I 1 3) + ((2 : Int32) * (aState (up2 (up2 I 43 s1.toNatClampNeg s2) 42 s1.toNatClampNeg 1) 11 0 (aPap I 33 (-1) s1))))) J)) else (if I 1 3 < aPap (up2 (up2 (up2 I 43 s1.toNatClampNeg s2) 42 s1.toNatClampNeg 1) 44 s1.toNatClampNeg ((I 1 3) + ((2 : Int32) * (aState (up2 (up2 I 43 s1.toNatClampNeg s2) 42 s1.toNatClampNeg 1) 11 0 (aPap I 33 (-1) s1))))) 44 (-1) x1 then (Q none (sM mo G (up2 (up2 (up2 I 43 s1.toNatClampNeg s2) 42 s1.toNatClampNeg 1) 44 s1.toNatClampNeg ((I 1 3) + ((2 : Int32) * (aState (up2 (up2 I 43 s1.toNatClampNeg s2) 42 s1.toNatClampNeg 1) 11 0 (aPap I 33 (-1) s1))))) J)) else (sm_wp X 24 0 [some (.ref 45), some (.int x1), some (.int 1), none, none, none, none, none] [] (sM mo G (up2 (up2 (up2 I 43 s1.toNatClampNeg s2) 42 s1.toNatClampNeg 1) 44 s1.toNatClampNeg ((I 1 3) + ((2 : Int32) * (aState (up2 (up2 I 43 s1.toNatClampNeg s2) 42 s1.toNatClampNeg 1) 11 0 (aPap I 33 (-1) s1))))) J) (fun v M => sm_wp X 23 124 [some (.ref 45), some (.int x1)] (v.toList ++ [.int x1, .ref 45]) M Q))))))) else (if ¬ (hPap (up2 I 43 s1.toNatClampNeg s2) s1) then (if ¬ aPap (up2 I 43 s1.toNatClampNeg s2) 42 (-1) x1 = 1 then (Q none (sM mo G (up2 I 43 s1.toNatClampNeg s2) J)) else (if I 1 3 < aPap (up2 I 43 s1.toNatClampNeg s2) 44 (-1) x1 then (Q none (sM mo G (up2 I 43 s1.toNatClampNeg s2) J)) else (sm_wp X 24 0 [some (.ref 45), some (.int x1), some (.int 1), none, none, none, none, none] [] (sM mo G (up2 I 43 s1.toNatClampNeg s2) J) (fun v M => sm_wp X 23 124 [some (.ref 45), some (.int x1)] (v.toList ++ [.int x1, .ref 45]) M Q)))) else (if ¬ aPap (up2 (up2 I 43 s1.toNatClampNeg s2) 42 s1.toNatClampNeg 3) 42 (-1) x1 = 1 then (Q none (sM mo G (up2 (up2 I 43 s1.toNatClampNeg s2) 42 s1.toNatClampNeg 3) J)) else (if I 1 3 < aPap (up2 (up2 I 43 s1.toNatClampNeg s2) 42 s1.toNatClampNeg 3) 44 (-1) x1 then (Q none (sM mo G (up2 (up2 I 43 s1.toNatClampNeg s2) 42 s1.toNatClampNeg 3) J)) else (sm_wp X 24 0 [some (.ref 45), some (.int x1), some (.int 1), none, none, none, none, none] [] (sM mo G (up2 (up2 I 43 s1.toNatClampNeg s2) 42 s1.toNatClampNeg 3) J) (fun v M => sm_wp X 23 124 [some (.ref 45), some (.int x1)] (v.toList ++ [.int x1, .ref 45]) M Q)))))) else (if ¬ (hPap (up2 I 43 s1.toNatClampNeg s2) s1) then (if ¬ aPap (up2 I 43 s1.toNatClampNeg s2) 42 (-1) x1 = 1 then (Q none (sM mo G (up2 I 43 s1.toNatClampNeg s2) J)) else (if I 1 3 < aPap (up2 I 43 s1.toNatClampNeg s2) 44 (-1) x1 then (Q none (sM mo G (up2 I 43 s1.toNatClampNeg s2) J)) else (sm_wp X 24 0 [some (.ref 45), some (.int x1), some (.int 1), none, none, none, none, none] [] (sM mo G (up2 I 43 s1.toNatClampNeg s2) J) (fun v M => sm_wp X 23 124 [some (.ref 45), some (.int x1)] (v.toList ++ [.int x1, .ref 45]) M Q)))) else (if ¬ aPap (up2 (up2 I 43 s1.toNatClampNeg s2) 42 s1.toNatClampNeg 2) 42 (-1) x1 = 1 then (Q none (sM mo G (up2 (up2 I 43 s1.toNatClampNeg s2) 42 s1.toNatClampNeg 2) J)) else (if I 1 3 < aPap (up2 (up2 I 43 s1.toNatClampNeg s2) 42 s1.toNatClampNeg 2) 44 (-1) x1 then (Q none (sM mo G (up2 (up2 I 43 s1.toNatClampNeg s2) 42 s1.toNatClampNeg 2) J)) else (sm_wp X 24 0 [some (.ref 45), some (.int x1), some (.int 1), none, none, none, none, none] [] (sM mo G (up2 (up2 I 43 s1.toNatClampNeg s2) 42 s1.toNatClampNeg 2) J) (fun v M => sm_wp X 23 124 [some (.ref 45), some (.int x1)] (v.toList ++ [.int x1, .ref 45]) M Q)))))))) else (if ¬ aPap I 42 (-1) x1 = 1 then (Q none (sM mo G I J)) else (if I 1 3 < aPap I 44 (-1) x1 then (Q none (sM mo G I J)) else (sm_wp X 24 0 [some (.ref 45), some (.int x1), some (.int 1), none, none, none, none, none] [] (sM mo G I J) (fun v M => sm_wp X 23 124 [some (.ref 45), some (.int x1)] (v.toList ++ [.int x1, .ref 45]) M Q))))) := by
  rw [bk_23_83]
  all_goals (try simp (decide := true) only [bk_23_0, bk_23_15, bk_23_30, bk_23_33, bk_23_48, bk_23_51, bk_23_54, bk_23_63, bk_23_64, bk_23_72, bk_23_86, bk_23_94, bk_23_113, bk_23_124, bk_23_127, ct_Del_followLine, ct_Pap_standingOf, ct_Pap_answerDay, up2_ne, up2_sn, up2_ss, ne_eq, tl_some, tl_none, zb_0, zb_1, zb_bi, true_and, bi_eq, bi_ne, oz_f, zz_t, if_true, if_false, not_true_eq_false, not_false_eq_true])
  all_goals grind (splits := 30) [bi]
theorem lp_23_124 (x1 : Int32) (s1 : Int32) (s2 : Int32) : sm_wp X 23 124 [some (.ref 45), some (.int x1)] [.int s2, .int s1, .ref 45] (sM mo G I J) Q = (if ¬ s2 = (-1) then (if ¬ (hPap I s1) then (Q none (sM mo G I J)) else (vp_in s1 60 ∧ (if ¬ (hPap (up2 I 42 s1.toNatClampNeg 2) s1) then (Q none (sM mo G (up2 I 42 s1.toNatClampNeg 2) J)) else (Q none (sM mo G (up2 (up2 I 42 s1.toNatClampNeg 2) 43 s1.toNatClampNeg s2) J))))) else (if ¬ (hPap I s1) then (Q none (sM mo G I J)) else (vp_in s1 60 ∧ (Q none (sM mo G (up2 I 42 s1.toNatClampNeg 3) J))))) := by
  rw [bk_23_124]
  all_goals (try simp (decide := true) only [bk_23_0, bk_23_15, bk_23_30, bk_23_33, bk_23_48, bk_23_51, bk_23_54, bk_23_63, bk_23_64, bk_23_72, bk_23_83, bk_23_86, bk_23_94, bk_23_113, bk_23_127, ct_Del_followCourt, up2_ne, up2_sn, up2_ss, ne_eq, tl_some, tl_none, zb_0, zb_1, zb_bi, true_and, bi_eq, bi_ne, oz_f, zz_t, if_true, if_false, not_true_eq_false, not_false_eq_true])
  all_goals grind (splits := 30) [bi]
theorem lp_24_0 (x1 : Int32) (x2 : Int32) : sm_wp X 24 0 [some (.ref 45), some (.int x1), some (.int x2), none, none, none, none, none] [] (sM mo G I J) Q = (sm_wp X 25 0 [some (.ref 45), some (.int x1), none, none, none, none, none, none] [] (sM mo G I J) (fun v M => sm_wp X 24 24 [some (.ref 45), some (.int x1), some (.int x2), some (.int (aPap I 33 (-1) x1)), some (.int (vf_Book_linesOf I (aPap I 33 (-1) x1))), none, none, none] (v.toList ++ []) M Q)) := by
  rw [bk_24_0]
  all_goals (try simp (decide := true) only [bk_24_8, bk_24_17, bk_24_24, bk_24_44, bk_24_52, bk_24_53, bk_24_64, bk_24_85, bk_24_91, ct_Pap_receiver, ct_Book_linesOf, up2_ne, up2_sn, up2_ss, ne_eq, tl_some, tl_none, zb_0, zb_1, zb_bi, true_and, bi_eq, bi_ne, oz_f, zz_t, if_true, if_false, not_true_eq_false, not_false_eq_true])
  all_goals grind (splits := 30) [bi]
theorem lp_24_27 (x2 : Int32) (x3 : Int32) (x4 : Int32) (x5 : Int32) : sm_wp X 24 27 [some (.ref 45), none, some (.int x2), some (.int x3), some (.int x4), some (.int x5), none, none] [] (sM mo G I J) Q = (if x4 ≤ x5 then (Q (some (.int (-1))) (sM mo G I J)) else (if ¬ vf_Book_verbOf I x3 x5 = 3 then (if ¬ (0 : Int32) = x2 then (sm_wp X 24 27 [some (.ref 45), none, some (.int x2), some (.int x3), some (.int x4), some (.int (x5 + 1)), none, none] [] (sM mo G I J) Q) else (sm_wp X 26 0 [some (.ref 45), some (.int x3), some (.int x5), none, none, none, none] [] (sM mo G I J) (fun v M => sm_wp X 24 64 [some (.ref 45), none, some (.int x2), some (.int x3), some (.int x4), some (.int x5), none, none] (v.toList ++ []) M Q))) else (if ¬ (1 : Int32) = x2 then (sm_wp X 24 27 [some (.ref 45), none, some (.int x2), some (.int x3), some (.int x4), some (.int (x5 + 1)), none, none] [] (sM mo G I J) Q) else (sm_wp X 26 0 [some (.ref 45), some (.int x3), some (.int x5), none, none, none, none] [] (sM mo G I J) (fun v M => sm_wp X 24 64 [some (.ref 45), none, some (.int x2), some (.int x3), some (.int x4), some (.int x5), none, none] (v.toList ++ []) M Q))))) := by
  rw [bk_24_27]
  all_goals (try simp (decide := true) only [bk_24_0, bk_24_8, bk_24_17, bk_24_24, bk_24_44, bk_24_52, bk_24_53, bk_24_64, bk_24_85, bk_24_91, ct_Book_verbOf, up2_ne, up2_sn, up2_ss, ne_eq, tl_some, tl_none, zb_0, zb_1, zb_bi, true_and, bi_eq, bi_ne, oz_f, zz_t, if_true, if_false, not_true_eq_false, not_false_eq_true])
  all_goals grind (splits := 30) [bi]
theorem lp_24_24 (x1 : Int32) (x2 : Int32) (x3 : Int32) (x4 : Int32) : sm_wp X 24 24 [some (.ref 45), some (.int x1), some (.int x2), some (.int x3), some (.int x4), none, none, none] [] (sM mo G I J) Q = (sm_wp X 24 27 [some (.ref 45), none, some (.int x2), some (.int x3), some (.int x4), some (.int 0), none, none] [] (sM mo G I J) Q) := by
  rw [bk_24_24]
  all_goals (try simp (decide := true) only [bk_24_0, bk_24_8, bk_24_17, bk_24_44, bk_24_52, bk_24_53, bk_24_64, bk_24_85, bk_24_91, up2_ne, up2_sn, up2_ss, ne_eq, tl_some, tl_none, zb_0, zb_1, zb_bi, true_and, bi_eq, bi_ne, oz_f, zz_t, if_true, if_false, not_true_eq_false, not_false_eq_true])
  all_goals grind (splits := 30) [bi]
theorem lp_24_64 (x2 : Int32) (x3 : Int32) (x4 : Int32) (x5 : Int32) (s0 : Int64) : sm_wp X 24 64 [some (.ref 45), none, some (.int x2), some (.int x3), some (.int x4), some (.int x5), none, none] [.long s0] (sM mo G I J) Q = (if lg_cmp s0 (-9223372036854775808) = 0 then (sm_wp X 24 27 [some (.ref 45), none, some (.int x2), some (.int x3), some (.int x4), some (.int (x5 + 1)), none, none] [] (sM mo G I J) Q) else (if lg_cmp s0 0 = 0 then (sm_wp X 24 27 [some (.ref 45), none, some (.int x2), some (.int x3), some (.int x4), some (.int (x5 + 1)), none, none] [] (sM mo G I J) Q) else (Q (some (.int x5)) (sM mo G I J)))) := by
  rw [bk_24_64]
  all_goals (try simp (decide := true) only [bkx_24_85_2, bk_24_0, bk_24_8, bk_24_17, bk_24_24, bk_24_44, bk_24_52, bk_24_53, bk_24_85, bk_24_91, up2_ne, up2_sn, up2_ss, ne_eq, tl_some, tl_none, zb_0, zb_1, zb_bi, true_and, bi_eq, bi_ne, oz_f, zz_t, if_true, if_false, not_true_eq_false, not_false_eq_true])
  all_goals grind (splits := 30) [bi]
theorem lp_25_0 (x1 : Int32) : sm_wp X 25 0 [some (.ref 45), some (.int x1), none, none, none, none, none, none] [] (sM mo G I J) Q = (sm_wp X 103 0 [some (.ref 1), some (.int (aPap I 33 (-1) x1)), some (.int (aPap I 37 0 x1)), none, none] [] (sM mo G I J) (fun v M => sm_wp X 25 37 [some (.ref 45), some (.int x1), some (.int (aPap I 33 (-1) x1)), some (.int (aPap I 37 0 x1)), some (.int (aPap I 38 0 x1)), none, none, none] (v.toList ++ []) M Q)) := by
  rw [bk_25_0]
  all_goals (try simp (decide := true) only [bk_25_8, bk_25_17, bk_25_26, bk_25_37, bk_25_49, bk_25_59, bk_25_104, bk_25_113, bk_25_136, bk_25_153, bk_25_169, bk_25_185, bk_25_205, bk_25_208, bk_25_239, bk_25_263, bk_25_270, bk_25_271, ct_Pap_receiver, ct_Pap_givenBySender, ct_Pap_givenByReceiver, up2_ne, up2_sn, up2_ss, ne_eq, tl_some, tl_none, zb_0, zb_1, zb_bi, true_and, bi_eq, bi_ne, oz_f, zz_t, if_true, if_false, not_true_eq_false, not_false_eq_true])
  all_goals grind (splits := 30) [bi]
theorem lp_25_37 (x1 : Int32) (x2 : Int32) (x3 : Int32) (x4 : Int32) (s0 : Int32) : sm_wp X 25 37 [some (.ref 45), some (.int x1), some (.int x2), some (.int x3), some (.int x4), none, none, none] [.int s0] (sM mo G I J) Q = (sm_wp X 103 0 [some (.ref 1), some (.int x2), some (.int x4), none, none] [] (sM mo G I J) (fun v M => sm_wp X 25 49 [some (.ref 45), some (.int x1), some (.int x2), some (.int x3), some (.int x4), some (.int s0), none, none] (v.toList ++ []) M Q)) := by
  rw [bk_25_37]
  all_goals (try simp (decide := true) only [bk_25_0, bk_25_8, bk_25_17, bk_25_26, bk_25_49, bk_25_59, bk_25_104, bk_25_113, bk_25_136, bk_25_153, bk_25_169, bk_25_185, bk_25_205, bk_25_208, bk_25_239, bk_25_263, bk_25_270, bk_25_271, up2_ne, up2_sn, up2_ss, ne_eq, tl_some, tl_none, zb_0, zb_1, zb_bi, true_and, bi_eq, bi_ne, oz_f, zz_t, if_true, if_false, not_true_eq_false, not_false_eq_true])
  all_goals grind (splits := 30) [bi]
theorem lp_25_49 (x1 : Int32) (x2 : Int32) (x3 : Int32) (x4 : Int32) (x5 : Int32) (s0 : Int32) : sm_wp X 25 49 [some (.ref 45), some (.int x1), some (.int x2), some (.int x3), some (.int x4), some (.int x5), none, none] [.int s0] (sM mo G I J) Q = (sm_wp X 105 0 [some (.ref 1), some (.int x2), none, none] [] (sM mo G I J) (fun v M => sm_wp X 25 59 [some (.ref 45), some (.int x1), some (.int x2), some (.int x3), some (.int x4), some (.int x5), some (.int s0), none] (v.toList ++ []) M Q)) := by
  rw [bk_25_49]
  all_goals (try simp (decide := true) only [bk_25_0, bk_25_8, bk_25_17, bk_25_26, bk_25_37, bk_25_59, bk_25_104, bk_25_113, bk_25_136, bk_25_153, bk_25_169, bk_25_185, bk_25_205, bk_25_208, bk_25_239, bk_25_263, bk_25_270, bk_25_271, up2_ne, up2_sn, up2_ss, ne_eq, tl_some, tl_none, zb_0, zb_1, zb_bi, true_and, bi_eq, bi_ne, oz_f, zz_t, if_true, if_false, not_true_eq_false, not_false_eq_true])
  all_goals grind (splits := 30) [bi]
theorem lp_25_59 (x1 : Int32) (x2 : Int32) (x3 : Int32) (x4 : Int32) (x5 : Int32) (x6 : Int32) (s0 : Int32) : sm_wp X 25 59 [some (.ref 45), some (.int x1), some (.int x2), some (.int x3), some (.int x4), some (.int x5), some (.int x6), none] [.int s0] (sM mo G I J) Q = (vp_in 0 12 ∧ (vp_in 1 12 ∧ (vp_in 2 12 ∧ (sm_wp X 106 0 [some (.ref 1), some (.int x3), none, none] [] (sM mo G I (up2 (up2 (up2 J 46 (0 : Int32).toNatClampNeg ((x5 - x6).toInt64)) 46 (1 : Int32).toNatClampNeg (x5.toInt64)) 46 (2 : Int32).toNatClampNeg (x6.toInt64))) (fun v M => sm_wp X 25 104 [some (.ref 45), some (.int x1), some (.int x2), some (.int x3), some (.int x4), some (.int x5), some (.int x6), some (.int s0)] (v.toList ++ [.int 3, .ref 46]) M Q))))) := by
  rw [bk_25_59]
  all_goals (try simp (decide := true) only [bk_25_0, bk_25_8, bk_25_17, bk_25_26, bk_25_37, bk_25_49, bk_25_104, bk_25_113, bk_25_136, bk_25_153, bk_25_169, bk_25_185, bk_25_205, bk_25_208, bk_25_239, bk_25_263, bk_25_270, bk_25_271, up2_ne, up2_sn, up2_ss, ne_eq, tl_some, tl_none, zb_0, zb_1, zb_bi, true_and, bi_eq, bi_ne, oz_f, zz_t, if_true, if_false, not_true_eq_false, not_false_eq_true])
  all_goals grind (splits := 30) [bi]
theorem lp_25_104 (x1 : Int32) (x2 : Int32) (x3 : Int32) (x4 : Int32) (x5 : Int32) (x6 : Int32) (x7 : Int32) (s1 : Int32) (s2 : Int32) : sm_wp X 25 104 [some (.ref 45), some (.int x1), some (.int x2), some (.int x3), some (.int x4), some (.int x5), some (.int x6), some (.int x7)] [.int s2, .int s1, .ref 46] (sM mo G I J) Q = (sm_wp X 106 0 [some (.ref 1), some (.int x4), none, none] [] (sM mo G I J) (fun v M => sm_wp X 25 113 [some (.ref 45), some (.int x1), some (.int x2), some (.int x3), some (.int x4), some (.int x5), some (.int x6), some (.int x7)] (v.toList ++ [.int s2, .int s1, .ref 46]) M Q)) := by
  rw [bk_25_104]
  all_goals (try simp (decide := true) only [bk_25_0, bk_25_8, bk_25_17, bk_25_26, bk_25_37, bk_25_49, bk_25_59, bk_25_113, bk_25_136, bk_25_153, bk_25_169, bk_25_185, bk_25_205, bk_25_208, bk_25_239, bk_25_263, bk_25_270, bk_25_271, up2_ne, up2_sn, up2_ss, ne_eq, tl_some, tl_none, zb_0, zb_1, zb_bi, true_and, bi_eq, bi_ne, oz_f, zz_t, if_true, if_false, not_true_eq_false, not_false_eq_true])
  all_goals grind (splits := 30) [bi]
theorem lp_25_113 (x1 : Int32) (x2 : Int32) (x3 : Int32) (x4 : Int32) (x5 : Int32) (x6 : Int32) (x7 : Int32) (s1 : Int32) (s2 : Int32) (s3 : Int32) : sm_wp X 25 113 [some (.ref 45), some (.int x1), some (.int x2), some (.int x3), some (.int x4), some (.int x5), some (.int x6), some (.int x7)] [.int s3, .int s2, .int s1, .ref 46] (sM mo G I J) Q = (vp_in s1 12 ∧ (sm_wp X 107 0 [some (.ref 1), some (.int x3), some (.int (x7 &&& (x4 ^^^ (-1)))), none, none] [] (sM mo G I (up2 J 46 s1.toNatClampNeg ((s2 - s3).toInt64))) (fun v M => sm_wp X 25 136 [some (.ref 45), some (.int x1), some (.int x2), some (.int x3), some (.int x4), some (.int x5), some (.int x6), some (.int x7)] (v.toList ++ [.int 4, .ref 46]) M Q))) := by
  rw [bk_25_113]
  all_goals (try simp (decide := true) only [bk_25_0, bk_25_8, bk_25_17, bk_25_26, bk_25_37, bk_25_49, bk_25_59, bk_25_104, bk_25_136, bk_25_153, bk_25_169, bk_25_185, bk_25_205, bk_25_208, bk_25_239, bk_25_263, bk_25_270, bk_25_271, up2_ne, up2_sn, up2_ss, ne_eq, tl_some, tl_none, zb_0, zb_1, zb_bi, true_and, bi_eq, bi_ne, oz_f, zz_t, if_true, if_false, not_true_eq_false, not_false_eq_true])
  all_goals grind (splits := 30) [bi]
theorem lp_25_136 (x1 : Int32) (x2 : Int32) (x3 : Int32) (x4 : Int32) (x5 : Int32) (x6 : Int32) (x7 : Int32) (s1 : Int32) (s2 : Int32) : sm_wp X 25 136 [some (.ref 45), some (.int x1), some (.int x2), some (.int x3), some (.int x4), some (.int x5), some (.int x6), some (.int x7)] [.int s2, .int s1, .ref 46] (sM mo G I J) Q = (vp_in s1 12 ∧ (sm_wp X 103 0 [some (.ref 1), some (.int x2), some (.int x7), none, none] [] (sM mo G I (up2 J 46 s1.toNatClampNeg (s2.toInt64))) (fun v M => sm_wp X 25 153 [some (.ref 45), some (.int x1), some (.int x2), some (.int x3), some (.int x4), some (.int x5), some (.int x6), some (.int x7)] (v.toList ++ [.int 5, .ref 46]) M Q))) := by
  rw [bk_25_136]
  all_goals (try simp (decide := true) only [bk_25_0, bk_25_8, bk_25_17, bk_25_26, bk_25_37, bk_25_49, bk_25_59, bk_25_104, bk_25_113, bk_25_153, bk_25_169, bk_25_185, bk_25_205, bk_25_208, bk_25_239, bk_25_263, bk_25_270, bk_25_271, up2_ne, up2_sn, up2_ss, ne_eq, tl_some, tl_none, zb_0, zb_1, zb_bi, true_and, bi_eq, bi_ne, oz_f, zz_t, if_true, if_false, not_true_eq_false, not_false_eq_true])
  all_goals grind (splits := 30) [bi]
theorem lp_25_153 (x1 : Int32) (x2 : Int32) (x3 : Int32) (x4 : Int32) (x5 : Int32) (x6 : Int32) (x7 : Int32) (s1 : Int32) (s2 : Int32) : sm_wp X 25 153 [some (.ref 45), some (.int x1), some (.int x2), some (.int x3), some (.int x4), some (.int x5), some (.int x6), some (.int x7)] [.int s2, .int s1, .ref 46] (sM mo G I J) Q = (vp_in s1 12 ∧ (vp_in 6 12 ∧ (vp_in 7 12 ∧ (vp_in 8 12 ∧ (vp_in 9 12 ∧ (vp_in 10 12 ∧ (if ¬ (vf_Pap_isLinked I x1) then (vp_in 11 12 ∧ (Q none (sM mo G I (up2 (up2 (up2 (up2 (up2 (up2 (up2 J 46 s1.toNatClampNeg (s2.toInt64)) 46 (6 : Int32).toNatClampNeg ((aState I 12 0 x2).toInt64)) 46 (7 : Int32).toNatClampNeg ((aState I 10 0 x2).toInt64)) 46 (8 : Int32).toNatClampNeg ((aState I 10 0 (aPap I 32 (-1) x1)).toInt64)) 46 (9 : Int32).toNatClampNeg ((I 1 3).toInt64)) 46 (10 : Int32).toNatClampNeg (((aPap I 39 (-1) x1) - (I 1 3)).toInt64)) 46 (11 : Int32).toNatClampNeg 0)))) else (vp_in 11 12 ∧ (Q none (sM mo G I (up2 (up2 (up2 (up2 (up2 (up2 (up2 J 46 s1.toNatClampNeg (s2.toInt64)) 46 (6 : Int32).toNatClampNeg ((aState I 12 0 x2).toInt64)) 46 (7 : Int32).toNatClampNeg ((aState I 10 0 x2).toInt64)) 46 (8 : Int32).toNatClampNeg ((aState I 10 0 (aPap I 32 (-1) x1)).toInt64)) 46 (9 : Int32).toNatClampNeg ((I 1 3).toInt64)) 46 (10 : Int32).toNatClampNeg (((aPap I 39 (-1) x1) - (I 1 3)).toInt64)) 46 (11 : Int32).toNatClampNeg 1))))))))))) := by
  rw [bk_25_153]
  all_goals (try simp (decide := true) only [bk_25_0, bk_25_8, bk_25_17, bk_25_26, bk_25_37, bk_25_49, bk_25_59, bk_25_104, bk_25_113, bk_25_136, bk_25_169, bk_25_185, bk_25_205, bk_25_208, bk_25_239, bk_25_263, bk_25_270, bk_25_271, ct_Realm_boundOf, ct_Realm_rankOf, ct_Pap_sender, ct_Pap_lastDayOf, ct_Pap_isLinked, up2_ne, up2_sn, up2_ss, ne_eq, tl_some, tl_none, zb_0, zb_1, zb_bi, true_and, bi_eq, bi_ne, oz_f, zz_t, if_true, if_false, not_true_eq_false, not_false_eq_true])
  all_goals grind (splits := 30) [bi]
theorem lp_26_0 (x1 : Int32) (x2 : Int32) : sm_wp X 26 0 [some (.ref 45), some (.int x1), some (.int x2), none, none, none, none] [] (sM mo G I J) Q = (if x2 ≤ 0 then (sm_wp X 26 36 [some (.ref 45), some (.int x1), none, some (.int (vf_Book_endOf I x1 x2)), some (.int 0), none, none] [] (sM mo G (up2 I 45 5 0) J) Q) else (sm_wp X 26 36 [some (.ref 45), some (.int x1), none, some (.int (vf_Book_endOf I x1 x2)), some (.int (vf_Book_endOf (up2 I 45 5 0) x1 (x2 - 1))), none, none] [] (sM mo G (up2 I 45 5 0) J) Q)) := by
  rw [bk_26_0]
  all_goals (try simp (decide := true) only [bk_26_9, bk_26_30, bk_26_33, bk_26_34, bk_26_53, bk_26_56, bk_26_71, bk_26_77, bk_26_83, bk_26_87, ct_Book_endOf, up2_ne, up2_sn, up2_ss, ne_eq, tl_some, tl_none, zb_0, zb_1, zb_bi, true_and, bi_eq, bi_ne, oz_f, zz_t, if_true, if_false, not_true_eq_false, not_false_eq_true])
  all_goals grind (splits := 30) [bi]
theorem lp_26_36 (x1 : Int32) (x3 : Int32) (x4 : Int32) : sm_wp X 26 36 [some (.ref 45), some (.int x1), none, some (.int x3), some (.int x4), none, none] [] (sM mo G I J) Q = (if x3 ≤ x4 then (sm_wp X 28 0 [some (.ref 45)] [] (sM mo G I J) (fun v M => sm_wp X 26 87 [some (.ref 45), some (.int x1), none, some (.int x3), some (.int x4), none, none] (v.toList ++ []) M Q)) else (sm_wp X 27 0 [some (.ref 45), some (.int (vf_Book_codeAt I x1 x4)), none, none, none, none, none, none] [] (sM mo G I J) (fun v M => sm_wp X 26 56 [some (.ref 45), some (.int x1), none, some (.int x3), some (.int x4), none, none] (v.toList ++ []) M Q))) := by
  rw [bk_26_36]
  all_goals (try simp (decide := true) only [bk_26_0, bk_26_9, bk_26_30, bk_26_33, bk_26_34, bk_26_53, bk_26_56, bk_26_71, bk_26_77, bk_26_83, bk_26_87, ct_Book_codeAt, up2_ne, up2_sn, up2_ss, ne_eq, tl_some, tl_none, zb_0, zb_1, zb_bi, true_and, bi_eq, bi_ne, oz_f, zz_t, if_true, if_false, not_true_eq_false, not_false_eq_true])
  all_goals grind (splits := 30) [bi]
theorem lp_26_56 (x1 : Int32) (x3 : Int32) (x4 : Int32) (s0 : Int64) : sm_wp X 26 56 [some (.ref 45), some (.int x1), none, some (.int x3), some (.int x4), none, none] [.long s0] (sM mo G I J) Q = (if ¬ lg_cmp s0 (-9223372036854775808) = 0 then (sm_wp X 31 0 [some (.ref 45), some (.long s0), none] [] (sM mo G I J) (fun v M => sm_wp X 26 77 [some (.ref 45), some (.int x1), none, some (.int x3), some (.int x4), some (.long s0), none] (v.toList ++ []) M Q)) else (Q (some (.long (-9223372036854775808))) (sM mo G I J))) := by
  rw [bk_26_56]
  all_goals (try simp (decide := true) only [bk_26_0, bk_26_9, bk_26_30, bk_26_33, bk_26_34, bk_26_53, bk_26_71, bk_26_77, bk_26_83, bk_26_87, up2_ne, up2_sn, up2_ss, ne_eq, tl_some, tl_none, zb_0, zb_1, zb_bi, true_and, bi_eq, bi_ne, oz_f, zz_t, if_true, if_false, not_true_eq_false, not_false_eq_true])
  all_goals grind (splits := 30) [bi]
theorem lp_26_87 (x1 : Int32) (x3 : Int32) (x4 : Int32) (s0 : Int64) : sm_wp X 26 87 [some (.ref 45), some (.int x1), none, some (.int x3), some (.int x4), none, none] [.long s0] (sM mo G I J) Q = (Q (some (.long s0)) (sM mo G I J)) := by
  rw [bk_26_87]
  all_goals (try simp (decide := true) only [bk_26_0, bk_26_9, bk_26_30, bk_26_33, bk_26_34, bk_26_53, bk_26_56, bk_26_71, bk_26_77, bk_26_83, up2_ne, up2_sn, up2_ss, ne_eq, tl_some, tl_none, zb_0, zb_1, zb_bi, true_and, bi_eq, bi_ne, oz_f, zz_t, if_true, if_false, not_true_eq_false, not_false_eq_true])
  all_goals grind (splits := 30) [bi]
theorem lp_26_77 (x1 : Int32) (x3 : Int32) (x4 : Int32) (x5 : Int64) : sm_wp X 26 77 [some (.ref 45), some (.int x1), none, some (.int x3), some (.int x4), some (.long x5), none] [] (sM mo G I J) Q = (sm_wp X 26 36 [some (.ref 45), some (.int x1), none, some (.int x3), some (.int (x4 + 1)), none, none] [] (sM mo G I J) Q) := by
  rw [bk_26_77]
  all_goals (try simp (decide := true) only [bk_26_0, bk_26_9, bk_26_30, bk_26_33, bk_26_34, bk_26_53, bk_26_56, bk_26_71, bk_26_83, bk_26_87, up2_ne, up2_sn, up2_ss, ne_eq, tl_some, tl_none, zb_0, zb_1, zb_bi, true_and, bi_eq, bi_ne, oz_f, zz_t, if_true, if_false, not_true_eq_false, not_false_eq_true])
  all_goals grind (splits := 30) [bi]
theorem lp_27_0 (x1 : Int32) : sm_wp X 27 0 [some (.ref 45), some (.int x1), none, none, none, none, none, none] [] (sM mo G I J) Q = (if x1 < 100 then (if x1 < 7 then (sm_wp X 28 0 [some (.ref 45)] [] (sM mo G I J) (fun v M => sm_wp X 27 38 [some (.ref 45), some (.int x1), none, none, none, none, none, none] (v.toList ++ []) M Q)) else (if 19 ≤ x1 then (sm_wp X 28 0 [some (.ref 45)] [] (sM mo G I J) (fun v M => sm_wp X 27 38 [some (.ref 45), some (.int x1), none, none, none, none, none, none] (v.toList ++ []) M Q)) else (vp_in (x1 - 7) 12 ∧ (Q (some (.long (J 46 ((x1 - 7).toNatClampNeg)))) (sM mo G I J))))) else (Q (some (.long ((x1 - 100).toInt64))) (sM mo G I J))) := by
  rw [bk_27_0]
  all_goals (try simp (decide := true) only [bk_27_12, bk_27_34, bk_27_38, bk_27_54, bk_27_55, bk_27_56, bk_27_65, bk_27_69, bk_27_90, bk_27_93, bk_27_100, bk_27_107, bk_27_108, bk_27_128, bk_27_134, bk_27_136, up2_ne, up2_sn, up2_ss, ne_eq, tl_some, tl_none, zb_0, zb_1, zb_bi, true_and, bi_eq, bi_ne, oz_f, zz_t, if_true, if_false, not_true_eq_false, not_false_eq_true])
  all_goals grind (splits := 30) [bi]
theorem lp_27_38 (x1 : Int32) (s0 : Int64) : sm_wp X 27 38 [some (.ref 45), some (.int x1), none, none, none, none, none, none] [.long s0] (sM mo G I J) Q = (if ¬ x1 = 4 then (if ¬ x1 = 33 then (sm_wp X 28 0 [some (.ref 45)] [] (sM mo G I J) (fun v M => sm_wp X 27 69 [some (.ref 45), some (.int x1), some (.long s0), none, none, none, none, none] (v.toList ++ []) M Q)) else (Q (some (.long (-s0))) (sM mo G I J))) else (if ¬ lg_cmp s0 0 = 0 then (Q (some (.long 0)) (sM mo G I J)) else (Q (some (.long 1)) (sM mo G I J)))) := by
  rw [bk_27_38]
  all_goals (try simp (decide := true) only [bk_27_0, bk_27_12, bk_27_34, bk_27_54, bk_27_55, bk_27_56, bk_27_65, bk_27_69, bk_27_90, bk_27_93, bk_27_100, bk_27_107, bk_27_108, bk_27_128, bk_27_134, bk_27_136, up2_ne, up2_sn, up2_ss, ne_eq, tl_some, tl_none, zb_0, zb_1, zb_bi, true_and, bi_eq, bi_ne, oz_f, zz_t, if_true, if_false, not_true_eq_false, not_false_eq_true])
  all_goals grind (splits := 30) [bi]
theorem lp_27_69 (x1 : Int32) (x2 : Int64) (s0 : Int64) : sm_wp X 27 69 [some (.ref 45), some (.int x1), some (.long x2), none, none, none, none, none] [.long s0] (sM mo G I J) Q = (if x1 < 19 then (if ¬ (vf_Del_compares x1 s0 x2) then (if 0 < lg_cmp 0 1000000000000 then (Q (some (.long (-9223372036854775808))) (sM mo G I J)) else (if 0 ≤ lg_cmp 0 (-1000000000000) then (Q (some (.long 0)) (sM mo G I J)) else (Q (some (.long (-9223372036854775808))) (sM mo G I J)))) else (if 0 < lg_cmp 1 1000000000000 then (Q (some (.long (-9223372036854775808))) (sM mo G I J)) else (if 0 ≤ lg_cmp 1 (-1000000000000) then (Q (some (.long 1)) (sM mo G I J)) else (Q (some (.long (-9223372036854775808))) (sM mo G I J))))) else (if 23 < x1 then (if ¬ (vf_Del_compares x1 s0 x2) then (if 0 < lg_cmp 0 1000000000000 then (Q (some (.long (-9223372036854775808))) (sM mo G I J)) else (if 0 ≤ lg_cmp 0 (-1000000000000) then (Q (some (.long 0)) (sM mo G I J)) else (Q (some (.long (-9223372036854775808))) (sM mo G I J)))) else (if 0 < lg_cmp 1 1000000000000 then (Q (some (.long (-9223372036854775808))) (sM mo G I J)) else (if 0 ≤ lg_cmp 1 (-1000000000000) then (Q (some (.long 1)) (sM mo G I J)) else (Q (some (.long (-9223372036854775808))) (sM mo G I J))))) else (vc_Del_compute x1 s0 x2 ∧ (if 0 < lg_cmp (vf_Del_compute x1 s0 x2) 1000000000000 then (Q (some (.long (-9223372036854775808))) (sM mo G I J)) else (if 0 ≤ lg_cmp (vf_Del_compute x1 s0 x2) (-1000000000000) then (Q (some (.long (vf_Del_compute x1 s0 x2))) (sM mo G I J)) else (Q (some (.long (-9223372036854775808))) (sM mo G I J))))))) := by
  rw [bk_27_69]
  all_goals (try simp (decide := true) only [bk_27_0, bk_27_12, bk_27_34, bk_27_38, bk_27_54, bk_27_55, bk_27_56, bk_27_65, bk_27_90, bk_27_93, bk_27_100, bk_27_107, bk_27_108, bk_27_128, bk_27_134, bk_27_136, ct_Del_compares, ct_Del_compute, up2_ne, up2_sn, up2_ss, ne_eq, tl_some, tl_none, zb_0, zb_1, zb_bi, true_and, bi_eq, bi_ne, oz_f, zz_t, if_true, if_false, not_true_eq_false, not_false_eq_true])
  all_goals grind (splits := 30) [bi]
theorem lp_34_0 (x1 : Int32) : sm_wp X 34 0 [some (.ref 45), some (.int x1), none, none, none, none] [] (sM mo G I J) Q = (sm_wp X 34 7 [some (.ref 45), some (.int x1), some (.int 0), some (.int 0), some (.int 0), none] [] (sM mo G I J) Q) := by
  rw [bk_34_0]
  all_goals (try simp (decide := true) only [bk_34_29, bk_34_41, bk_34_66, bk_34_70, bk_34_71, bk_34_87, bk_34_91, bk_34_92, bk_34_93, bk_34_99, bk_34_110, bk_34_113, bk_34_122, up2_ne, up2_sn, up2_ss, ne_eq, tl_some, tl_none, zb_0, zb_1, zb_bi, true_and, bi_eq, bi_ne, oz_f, zz_t, if_true, if_false, not_true_eq_false, not_false_eq_true])
  all_goals grind (splits := 30) [bi]
theorem lp_34_7 (x1 : Int32) (x2 : Int32) (x3 : Int32) (x4 : Int32) : sm_wp X 34 7 [some (.ref 45), some (.int x1), some (.int x2), some (.int x3), some (.int x4), none] [] (sM mo G I J) Q = (if I 31 0 ≤ x4 then (if x2 = 0 then (if ¬ x3 = 0 then (Q none (sM mo G I J)) else (sm_wp X 36 0 [some (.ref 45), some (.int x1), none] [] (sM mo G I J) (fun v M => sm_wp X 34 122 [some (.ref 45), some (.int x1), some (.int x2), some (.int x3), some (.int x4), none] (v.toList ++ []) M Q))) else (sm_wp X 35 0 [some (.ref 45), some (.int x1), some (.int 6), none] [] (sM mo G I J) (fun v M => sm_wp X 34 110 [some (.ref 45), some (.int x1), some (.int x2), some (.int x3), some (.int x4), none] (v.toList ++ []) M Q))) else (if ¬ (vf_Pap_inOneChain I x1 x4) then (sm_wp X 34 7 [some (.ref 45), some (.int x1), some (.int x2), some (.int x3), some (.int (x4 + 1)), none] [] (sM mo G I J) Q) else (if ¬ x2 = 0 then (if ¬ x3 = 0 then (sm_wp X 34 7 [some (.ref 45), some (.int x1), some (.int 1), some (.int 1), some (.int (x4 + 1)), none] [] (sM mo G I J) Q) else (if aPap I 42 (-1) x4 = 0 then (sm_wp X 34 7 [some (.ref 45), some (.int x1), some (.int 1), some (.int 1), some (.int (x4 + 1)), none] [] (sM mo G I J) Q) else (if ¬ aPap I 42 (-1) x4 = 1 then (sm_wp X 34 7 [some (.ref 45), some (.int x1), some (.int 1), some (.int 0), some (.int (x4 + 1)), none] [] (sM mo G I J) Q) else (sm_wp X 34 7 [some (.ref 45), some (.int x1), some (.int 1), some (.int 1), some (.int (x4 + 1)), none] [] (sM mo G I J) Q)))) else (if aPap I 42 (-1) x4 = 3 then (if ¬ x3 = 0 then (sm_wp X 34 7 [some (.ref 45), some (.int x1), some (.int 1), some (.int 1), some (.int (x4 + 1)), none] [] (sM mo G I J) Q) else (if aPap I 42 (-1) x4 = 0 then (sm_wp X 34 7 [some (.ref 45), some (.int x1), some (.int 1), some (.int 1), some (.int (x4 + 1)), none] [] (sM mo G I J) Q) else (if ¬ aPap I 42 (-1) x4 = 1 then (sm_wp X 34 7 [some (.ref 45), some (.int x1), some (.int 1), some (.int 0), some (.int (x4 + 1)), none] [] (sM mo G I J) Q) else (sm_wp X 34 7 [some (.ref 45), some (.int x1), some (.int 1), some (.int 1), some (.int (x4 + 1)), none] [] (sM mo G I J) Q)))) else (if aPap I 42 (-1) x4 = 4 then (if ¬ x3 = 0 then (sm_wp X 34 7 [some (.ref 45), some (.int x1), some (.int 1), some (.int 1), some (.int (x4 + 1)), none] [] (sM mo G I J) Q) else (if aPap I 42 (-1) x4 = 0 then (sm_wp X 34 7 [some (.ref 45), some (.int x1), some (.int 1), some (.int 1), some (.int (x4 + 1)), none] [] (sM mo G I J) Q) else (if ¬ aPap I 42 (-1) x4 = 1 then (sm_wp X 34 7 [some (.ref 45), some (.int x1), some (.int 1), some (.int 0), some (.int (x4 + 1)), none] [] (sM mo G I J) Q) else (sm_wp X 34 7 [some (.ref 45), some (.int x1), some (.int 1), some (.int 1), some (.int (x4 + 1)), none] [] (sM mo G I J) Q)))) else (if ¬ aPap I 42 (-1) x4 = 6 then (if ¬ x3 = 0 then (sm_wp X 34 7 [some (.ref 45), some (.int x1), some (.int 0), some (.int 1), some (.int (x4 + 1)), none] [] (sM mo G I J) Q) else (if aPap I 42 (-1) x4 = 0 then (sm_wp X 34 7 [some (.ref 45), some (.int x1), some (.int 0), some (.int 1), some (.int (x4 + 1)), none] [] (sM mo G I J) Q) else (if ¬ aPap I 42 (-1) x4 = 1 then (sm_wp X 34 7 [some (.ref 45), some (.int x1), some (.int 0), some (.int 0), some (.int (x4 + 1)), none] [] (sM mo G I J) Q) else (sm_wp X 34 7 [some (.ref 45), some (.int x1), some (.int 0), some (.int 1), some (.int (x4 + 1)), none] [] (sM mo G I J) Q)))) else (if ¬ x3 = 0 then (sm_wp X 34 7 [some (.ref 45), some (.int x1), some (.int 1), some (.int 1), some (.int (x4 + 1)), none] [] (sM mo G I J) Q) else (if aPap I 42 (-1) x4 = 0 then (sm_wp X 34 7 [some (.ref 45), some (.int x1), some (.int 1), some (.int 1), some (.int (x4 + 1)), none] [] (sM mo G I J) Q) else (if ¬ aPap I 42 (-1) x4 = 1 then (sm_wp X 34 7 [some (.ref 45), some (.int x1), some (.int 1), some (.int 0), some (.int (x4 + 1)), none] [] (sM mo G I J) Q) else (sm_wp X 34 7 [some (.ref 45), some (.int x1), some (.int 1), some (.int 1), some (.int (x4 + 1)), none] [] (sM mo G I J) Q)))))))))) := by
  rw [bk_34_7]
  all_goals (try simp (decide := true) only [bkx_34_93_3, bk_34_0, bk_34_29, bk_34_41, bk_34_66, bk_34_70, bk_34_71, bk_34_87, bk_34_91, bk_34_92, bk_34_93, bk_34_99, bk_34_110, bk_34_113, bk_34_122, ct_Pap_inOneChain, ct_Pap_standingOf, up2_ne, up2_sn, up2_ss, ne_eq, tl_some, tl_none, zb_0, zb_1, zb_bi, true_and, bi_eq, bi_ne, oz_f, zz_t, if_true, if_false, not_true_eq_false, not_false_eq_true])
  all_goals grind (splits := 30) [bi]
theorem lp_34_110 (x1 : Int32) (x2 : Int32) (x3 : Int32) (x4 : Int32) : sm_wp X 34 110 [some (.ref 45), some (.int x1), some (.int x2), some (.int x3), some (.int x4), none] [] (sM mo G I J) Q = (Q none (sM mo G I J)) := by
  rw [bk_34_110]
  all_goals (try simp (decide := true) only [bk_34_0, bk_34_29, bk_34_41, bk_34_66, bk_34_70, bk_34_71, bk_34_87, bk_34_91, bk_34_92, bk_34_93, bk_34_99, bk_34_113, bk_34_122, up2_ne, up2_sn, up2_ss, ne_eq, tl_some, tl_none, zb_0, zb_1, zb_bi, true_and, bi_eq, bi_ne, oz_f, zz_t, if_true, if_false, not_true_eq_false, not_false_eq_true])
  all_goals grind (splits := 30) [bi]
theorem lp_34_122 (x1 : Int32) (x2 : Int32) (x3 : Int32) (x4 : Int32) : sm_wp X 34 122 [some (.ref 45), some (.int x1), some (.int x2), some (.int x3), some (.int x4), none] [] (sM mo G I J) Q = (Q none (sM mo G I J)) := by
  rw [bk_34_122]
  all_goals (try simp (decide := true) only [bk_34_0, bk_34_29, bk_34_41, bk_34_66, bk_34_70, bk_34_71, bk_34_87, bk_34_91, bk_34_92, bk_34_93, bk_34_99, bk_34_110, bk_34_113, up2_ne, up2_sn, up2_ss, ne_eq, tl_some, tl_none, zb_0, zb_1, zb_bi, true_and, bi_eq, bi_ne, oz_f, zz_t, if_true, if_false, not_true_eq_false, not_false_eq_true])
  all_goals grind (splits := 30) [bi]
theorem lp_35_0 (x1 : Int32) (x2 : Int32) : sm_wp X 35 0 [some (.ref 45), some (.int x1), some (.int x2), none] [] (sM mo G I J) Q = (sm_wp X 35 2 [some (.ref 45), some (.int x1), some (.int x2), some (.int 0)] [] (sM mo G I J) Q) := by
  rw [bk_35_0]
  all_goals (try simp (decide := true) only [bk_35_22, bk_35_33, bk_35_45, bk_35_51, up2_ne, up2_sn, up2_ss, ne_eq, tl_some, tl_none, zb_0, zb_1, zb_bi, true_and, bi_eq, bi_ne, oz_f, zz_t, if_true, if_false, not_true_eq_false, not_false_eq_true])
  all_goals grind (splits := 30) [bi]
theorem lp_35_2 (x1 : Int32) (x2 : Int32) (x3 : Int32) : sm_wp X 35 2 [some (.ref 45), some (.int x1), some (.int x2), some (.int x3)] [] (sM mo G I J) Q = (if I 31 0 ≤ x3 then (Q none (sM mo G I J)) else (if ¬ (vf_Pap_inOneChain I x1 x3) then (sm_wp X 35 2 [some (.ref 45), some (.int x1), some (.int x2), some (.int (x3 + 1))] [] (sM mo G I J) Q) else (if ¬ (vf_Pap_isUnended I x3) then (sm_wp X 35 2 [some (.ref 45), some (.int x1), some (.int x2), some (.int (x3 + 1))] [] (sM mo G I J) Q) else (if ¬ (hPap I x3) then (sm_wp X 35 2 [some (.ref 45), some (.int x1), some (.int x2), some (.int (x3 + 1))] [] (sM mo G I J) Q) else (vp_in x3 60 ∧ (sm_wp X 35 2 [some (.ref 45), some (.int x1), some (.int x2), some (.int (x3 + 1))] [] (sM mo G (up2 I 42 x3.toNatClampNeg x2) J) Q)))))) := by
  rw [bk_35_2]
  all_goals (try simp (decide := true) only [bk_35_0, bk_35_22, bk_35_33, bk_35_45, bk_35_51, ct_Pap_inOneChain, ct_Pap_isUnended, ct_Pap_setStanding, up2_ne, up2_sn, up2_ss, ne_eq, tl_some, tl_none, zb_0, zb_1, zb_bi, true_and, bi_eq, bi_ne, oz_f, zz_t, if_true, if_false, not_true_eq_false, not_false_eq_true])
  all_goals grind (splits := 30) [bi]
theorem lp_36_0 (x1 : Int32) : sm_wp X 36 0 [some (.ref 45), some (.int x1), none] [] (sM mo G I J) Q = (sm_wp X 37 0 [some (.ref 45), some (.int x1), none, none, none, none] [] (sM mo G I J) (fun v M => sm_wp X 36 5 [some (.ref 45), some (.int x1), none] (v.toList ++ []) M Q)) := by
  rw [bk_36_0]
  all_goals (try simp (decide := true) only [bk_36_5, bk_36_15, bk_36_16, bk_36_38, bk_36_49, bk_36_62, bk_36_70, bk_36_74, bk_36_83, bk_36_91, bk_36_95, bk_36_101, bk_36_107, up2_ne, up2_sn, up2_ss, ne_eq, tl_some, tl_none, zb_0, zb_1, zb_bi, true_and, bi_eq, bi_ne, oz_f, zz_t, if_true, if_false, not_true_eq_false, not_false_eq_true])
  all_goals grind (splits := 30) [bi]
theorem lp_36_18 (x1 : Int32) (x2 : Int32) : sm_wp X 36 18 [some (.ref 45), some (.int x1), some (.int x2)] [] (sM mo G I J) Q = (if I 31 0 ≤ x2 then (sm_wp X 35 0 [some (.ref 45), some (.int x1), some (.int 5), none] [] (sM mo G I J) (fun v M => sm_wp X 36 107 [some (.ref 45), some (.int x1), some (.int x2)] (v.toList ++ []) M Q)) else (if ¬ (vf_Pap_inOneChain I x1 x2) then (sm_wp X 36 18 [some (.ref 45), some (.int x1), some (.int (x2 + 1))] [] (sM mo G I J) Q) else (if ¬ aPap I 42 (-1) x2 = 2 then (sm_wp X 36 18 [some (.ref 45), some (.int x1), some (.int (x2 + 1))] [] (sM mo G I J) Q) else (sm_wp X 38 0 [some (.ref 45), some (.int (aPap I 37 0 x2)), some (.int (aPap I 33 (-1) x2)), some (.int x2), none] [] (sM mo G I J) (fun v M => sm_wp X 36 74 [some (.ref 45), some (.int x1), some (.int x2)] (v.toList ++ []) M Q))))) := by
  rw [bk_36_18]
  all_goals (try simp (decide := true) only [bk_36_0, bk_36_5, bk_36_15, bk_36_16, bk_36_38, bk_36_49, bk_36_62, bk_36_70, bk_36_74, bk_36_83, bk_36_91, bk_36_95, bk_36_101, bk_36_107, ct_Pap_inOneChain, ct_Pap_standingOf, ct_Pap_givenBySender, ct_Pap_receiver, up2_ne, up2_sn, up2_ss, ne_eq, tl_some, tl_none, zb_0, zb_1, zb_bi, true_and, bi_eq, bi_ne, oz_f, zz_t, if_true, if_false, not_true_eq_false, not_false_eq_true])
  all_goals grind (splits := 30) [bi]
theorem lp_36_5 (x1 : Int32) (s0 : Int32) : sm_wp X 36 5 [some (.ref 45), some (.int x1), none] [.int s0] (sM mo G I J) Q = (if ¬ s0 = 0 then (sm_wp X 36 18 [some (.ref 45), some (.int x1), some (.int 0)] [] (sM mo G I J) Q) else (sm_wp X 35 0 [some (.ref 45), some (.int x1), some (.int 6), none] [] (sM mo G I J) (fun v M => sm_wp X 36 15 [some (.ref 45), some (.int x1), none] (v.toList ++ []) M Q))) := by
  rw [bk_36_5]
  all_goals (try simp (decide := true) only [bk_36_0, bk_36_15, bk_36_16, bk_36_38, bk_36_49, bk_36_62, bk_36_70, bk_36_74, bk_36_83, bk_36_91, bk_36_95, bk_36_101, bk_36_107, up2_ne, up2_sn, up2_ss, ne_eq, tl_some, tl_none, zb_0, zb_1, zb_bi, true_and, bi_eq, bi_ne, oz_f, zz_t, if_true, if_false, not_true_eq_false, not_false_eq_true])
  all_goals grind (splits := 30) [bi]
theorem lp_36_74 (x1 : Int32) (x2 : Int32) : sm_wp X 36 74 [some (.ref 45), some (.int x1), some (.int x2)] [] (sM mo G I J) Q = (sm_wp X 38 0 [some (.ref 45), some (.int (aPap I 38 0 x2)), some (.int (aPap I 32 (-1) x2)), some (.int x2), none] [] (sM mo G I J) (fun v M => sm_wp X 36 95 [some (.ref 45), some (.int x1), some (.int x2)] (v.toList ++ []) M Q)) := by
  rw [bk_36_74]
  all_goals (try simp (decide := true) only [bk_36_0, bk_36_5, bk_36_15, bk_36_16, bk_36_38, bk_36_49, bk_36_62, bk_36_70, bk_36_83, bk_36_91, bk_36_95, bk_36_101, bk_36_107, ct_Pap_givenByReceiver, ct_Pap_sender, up2_ne, up2_sn, up2_ss, ne_eq, tl_some, tl_none, zb_0, zb_1, zb_bi, true_and, bi_eq, bi_ne, oz_f, zz_t, if_true, if_false, not_true_eq_false, not_false_eq_true])
  all_goals grind (splits := 30) [bi]
theorem lp_36_107 (x1 : Int32) (x2 : Int32) : sm_wp X 36 107 [some (.ref 45), some (.int x1), some (.int x2)] [] (sM mo G I J) Q = (Q none (sM mo G I J)) := by
  rw [bk_36_107]
  all_goals (try simp (decide := true) only [bk_36_0, bk_36_5, bk_36_15, bk_36_16, bk_36_38, bk_36_49, bk_36_62, bk_36_70, bk_36_74, bk_36_83, bk_36_91, bk_36_95, bk_36_101, up2_ne, up2_sn, up2_ss, ne_eq, tl_some, tl_none, zb_0, zb_1, zb_bi, true_and, bi_eq, bi_ne, oz_f, zz_t, if_true, if_false, not_true_eq_false, not_false_eq_true])
  all_goals grind (splits := 30) [bi]
theorem lp_36_15 (x1 : Int32) : sm_wp X 36 15 [some (.ref 45), some (.int x1), none] [] (sM mo G I J) Q = (Q none (sM mo G I J)) := by
  rw [bk_36_15]
  all_goals (try simp (decide := true) only [bk_36_0, bk_36_5, bk_36_16, bk_36_38, bk_36_49, bk_36_62, bk_36_70, bk_36_74, bk_36_83, bk_36_91, bk_36_95, bk_36_101, bk_36_107, up2_ne, up2_sn, up2_ss, ne_eq, tl_some, tl_none, zb_0, zb_1, zb_bi, true_and, bi_eq, bi_ne, oz_f, zz_t, if_true, if_false, not_true_eq_false, not_false_eq_true])
  all_goals grind (splits := 30) [bi]
theorem lp_36_95 (x1 : Int32) (x2 : Int32) : sm_wp X 36 95 [some (.ref 45), some (.int x1), some (.int x2)] [] (sM mo G I J) Q = (sm_wp X 36 18 [some (.ref 45), some (.int x1), some (.int (x2 + 1))] [] (sM mo G I J) Q) := by
  rw [bk_36_95]
  all_goals (try simp (decide := true) only [bk_36_0, bk_36_5, bk_36_15, bk_36_16, bk_36_38, bk_36_49, bk_36_62, bk_36_70, bk_36_74, bk_36_83, bk_36_91, bk_36_101, bk_36_107, up2_ne, up2_sn, up2_ss, ne_eq, tl_some, tl_none, zb_0, zb_1, zb_bi, true_and, bi_eq, bi_ne, oz_f, zz_t, if_true, if_false, not_true_eq_false, not_false_eq_true])
  all_goals grind (splits := 30) [bi]
theorem lp_37_0 (x1 : Int32) : sm_wp X 37 0 [some (.ref 45), some (.int x1), none, none, none, none] [] (sM mo G I J) Q = (sm_wp X 37 4 [some (.ref 45), some (.int x1), some (.int 0), some (.int 0), none, none] [] (sM mo G I J) Q) := by
  rw [bk_37_0]
  all_goals (try simp (decide := true) only [bk_37_24, bk_37_35, bk_37_47, bk_37_57, bk_37_83, bk_37_86, bk_37_106, bk_37_109, bk_37_115, bk_37_117, bk_37_125, bk_37_131, up2_ne, up2_sn, up2_ss, ne_eq, tl_some, tl_none, zb_0, zb_1, zb_bi, true_and, bi_eq, bi_ne, oz_f, zz_t, if_true, if_false, not_true_eq_false, not_false_eq_true])
  all_goals grind (splits := 30) [bi]
theorem lp_37_4 (x1 : Int32) (x2 : Int32) (x3 : Int32) : sm_wp X 37 4 [some (.ref 45), some (.int x1), some (.int x2), some (.int x3), none, none] [] (sM mo G I J) Q = (if I 31 0 ≤ x3 then (Q (some (.int 1)) (sM mo G I J)) else (if ¬ (vf_Pap_inOneChain I x1 x3) then (sm_wp X 37 4 [some (.ref 45), some (.int x1), some (.int x2), some (.int (x3 + 1)), none, none] [] (sM mo G I J) Q) else (if ¬ aPap I 42 (-1) x3 = 2 then (sm_wp X 37 4 [some (.ref 45), some (.int x1), some (.int x2), some (.int (x3 + 1)), none, none] [] (sM mo G I J) Q) else (if ¬ x2 &&& ((aPap I 37 0 x3) ||| (aPap I 38 0 x3)) = 0 then (Q (some (.int 0)) (sM mo G I J)) else (sm_wp X 105 0 [some (.ref 1), some (.int (aPap I 32 (-1) x3)), none, none] [] (sM mo G I J) (fun v M => sm_wp X 37 86 [some (.ref 45), some (.int x1), some (.int x2), some (.int x3), some (.int (aPap I 37 0 x3)), some (.int (aPap I 38 0 x3))] (v.toList ++ [.int (aPap I 37 0 x3)]) M Q)))))) := by
  rw [bk_37_4]
  all_goals (try simp (decide := true) only [bk_37_0, bk_37_24, bk_37_35, bk_37_47, bk_37_57, bk_37_83, bk_37_86, bk_37_106, bk_37_109, bk_37_115, bk_37_117, bk_37_125, bk_37_131, ct_Pap_inOneChain, ct_Pap_standingOf, ct_Pap_givenBySender, ct_Pap_givenByReceiver, ct_Pap_sender, up2_ne, up2_sn, up2_ss, ne_eq, tl_some, tl_none, zb_0, zb_1, zb_bi, true_and, bi_eq, bi_ne, oz_f, zz_t, if_true, if_false, not_true_eq_false, not_false_eq_true])
  all_goals grind (splits := 30) [bi]
theorem lp_37_86 (x1 : Int32) (x2 : Int32) (x3 : Int32) (x4 : Int32) (x5 : Int32) (s0 : Int32) (s1 : Int32) : sm_wp X 37 86 [some (.ref 45), some (.int x1), some (.int x2), some (.int x3), some (.int x4), some (.int x5)] [.int s1, .int s0] (sM mo G I J) Q = (if ¬ s0 &&& (s1 ^^^ (-1)) = 0 then (Q (some (.int 0)) (sM mo G I J)) else (sm_wp X 105 0 [some (.ref 1), some (.int (aPap I 33 (-1) x3)), none, none] [] (sM mo G I J) (fun v M => sm_wp X 37 109 [some (.ref 45), some (.int x1), some (.int x2), some (.int x3), some (.int x4), some (.int x5)] (v.toList ++ [.int x5]) M Q))) := by
  rw [bk_37_86]
  all_goals (try simp (decide := true) only [bk_37_0, bk_37_24, bk_37_35, bk_37_47, bk_37_57, bk_37_83, bk_37_106, bk_37_109, bk_37_115, bk_37_117, bk_37_125, bk_37_131, ct_Pap_receiver, up2_ne, up2_sn, up2_ss, ne_eq, tl_some, tl_none, zb_0, zb_1, zb_bi, true_and, bi_eq, bi_ne, oz_f, zz_t, if_true, if_false, not_true_eq_false, not_false_eq_true])
  all_goals grind (splits := 30) [bi]
theorem lp_37_109 (x1 : Int32) (x2 : Int32) (x3 : Int32) (x4 : Int32) (x5 : Int32) (s0 : Int32) (s1 : Int32) : sm_wp X 37 109 [some (.ref 45), some (.int x1), some (.int x2), some (.int x3), some (.int x4), some (.int x5)] [.int s1, .int s0] (sM mo G I J) Q = (if s0 &&& (s1 ^^^ (-1)) = 0 then (sm_wp X 37 4 [some (.ref 45), some (.int x1), some (.int (x2 ||| (x4 ||| x5))), some (.int (x3 + 1)), none, none] [] (sM mo G I J) Q) else (Q (some (.int 0)) (sM mo G I J))) := by
  rw [bk_37_109]
  all_goals (try simp (decide := true) only [bkx_37_125_4, bk_37_0, bk_37_24, bk_37_35, bk_37_47, bk_37_57, bk_37_83, bk_37_86, bk_37_106, bk_37_115, bk_37_117, bk_37_125, bk_37_131, up2_ne, up2_sn, up2_ss, ne_eq, tl_some, tl_none, zb_0, zb_1, zb_bi, true_and, bi_eq, bi_ne, oz_f, zz_t, if_true, if_false, not_true_eq_false, not_false_eq_true])
  all_goals grind (splits := 30) [bi]
end R3
end
section
/-! One turn of each loop, and the stretches between calls, by program. -/
section R3
variable (X : (Nat → Int32) × Nat) (mo : Bool) (G : Nat × Nat) (I : Nat → Nat → Int32) (J : Nat → Nat → Int64) (Q : Option Value → sm_M → Prop)
theorem lp_38_0 (x1 : Int32) (x2 : Int32) (x3 : Int32) : sm_wp X 38 0 [some (.ref 45), some (.int x1), some (.int x2), some (.int x3), none] [] (sM mo G I J) Q = (sm_wp X 38 3 [some (.ref 45), some (.int x1), some (.int x2), some (.int x3), some (.int 0)] [] (sM mo G I J) Q) := by
  rw [bk_38_0]
  all_goals (try simp (decide := true) only [bk_38_21, bk_38_35, bk_38_41, up2_ne, up2_sn, up2_ss, ne_eq, tl_some, tl_none, zb_0, zb_1, zb_bi, true_and, bi_eq, bi_ne, oz_f, zz_t, if_true, if_false, not_true_eq_false, not_false_eq_true])
  all_goals grind (splits := 30) [bi]
theorem lp_38_3 (x1 : Int32) (x2 : Int32) (x3 : Int32) (x4 : Int32) : sm_wp X 38 3 [some (.ref 45), some (.int x1), some (.int x2), some (.int x3), some (.int x4)] [] (sM mo G I J) Q = (if I 1 0 ≤ x4 then (Q none (sM mo G I J)) else (if ¬ (hBit x1 x4) then (sm_wp X 38 3 [some (.ref 45), some (.int x1), some (.int x2), some (.int x3), some (.int (x4 + 1))] [] (sM mo G I J) Q) else (if (hLand I x4) then (vp_in x4 12 ∧ (if I 6 (x4.toNatClampNeg) < 0 then (sm_wp X 38 3 [some (.ref 45), some (.int x1), some (.int x2), some (.int x3), some (.int (x4 + 1))] [] (sM mo G (up2 (up2 I 4 x4.toNatClampNeg x2) 1 4 ((I 1 4) + 1)) J) Q) else (if 80 ≤ I 6 (x4.toNatClampNeg) then (sm_wp X 38 3 [some (.ref 45), some (.int x1), some (.int x2), some (.int x3), some (.int (x4 + 1))] [] (sM mo G (up2 (up2 I 4 x4.toNatClampNeg x2) 1 4 ((I 1 4) + 1)) J) Q) else (vp_in ((x4 * 80) + (I 6 (x4.toNatClampNeg))) 960 ∧ (sm_wp X 38 3 [some (.ref 45), some (.int x1), some (.int x2), some (.int x3), some (.int (x4 + 1))] [] (sM mo G (up2 (up2 (up2 (up2 (up2 (up2 I 7 ((x4 * 80) + (I 6 (x4.toNatClampNeg))).toNatClampNeg x2) 8 ((x4 * 80) + (I 6 (x4.toNatClampNeg))).toNatClampNeg (I 1 3)) 9 ((x4 * 80) + (I 6 (x4.toNatClampNeg))).toNatClampNeg x3) 6 x4.toNatClampNeg ((I 6 (x4.toNatClampNeg)) + 1)) 4 x4.toNatClampNeg x2) 1 4 ((I 1 4) + 1)) J) Q))))) else (sm_wp X 38 3 [some (.ref 45), some (.int x1), some (.int x2), some (.int x3), some (.int (x4 + 1))] [] (sM mo G I J) Q)))) := by
  rw [bk_38_3]
  all_goals (try simp (decide := true) only [bk_38_0, bk_38_21, bk_38_35, bk_38_41, ct_House_hasBit, ct_Realm_giveLand, up2_ne, up2_sn, up2_ss, ne_eq, tl_some, tl_none, zb_0, zb_1, zb_bi, true_and, bi_eq, bi_ne, oz_f, zz_t, if_true, if_false, not_true_eq_false, not_false_eq_true])
  all_goals grind (splits := 30) [bi]
end R3
end
section
/-! One turn of each loop, and the stretches between calls, by program. -/
section R3
variable (X : (Nat → Int32) × Nat) (mo : Bool) (G : Nat × Nat) (I : Nat → Nat → Int32) (J : Nat → Nat → Int64) (Q : Option Value → sm_M → Prop)
theorem lp_167_0 (x1 : Int32) (x2 : Int32) (x3 : Int32) (x4 : Int32) (x5 : Int32) : sm_wp X 167 0 [some (.ref 0), some (.int x1), some (.int x2), some (.int x3), some (.int x4), some (.int x5)] [] (sM mo G I J) Q = (if (I 14 0) + 20 ≤ 400 then (sm_wp X 154 0 [some (.ref 14), some (.int x1), none] [] (sM mo G I J) (fun v M => sm_wp X 167 26 [some (.ref 0), some (.int x1), some (.int x2), some (.int x3), some (.int x4), some (.int x5)] (v.toList ++ []) M Q)) else (Q (some (.int (-1))) (sM mo G I J))) := by
  rw [bk_167_0]
  all_goals (try simp (decide := true) only [bk_167_18, bk_167_26, bk_167_34, bk_167_42, bk_167_51, bk_167_60, up2_ne, up2_sn, up2_ss, ne_eq, tl_some, tl_none, zb_0, zb_1, zb_bi, true_and, bi_eq, bi_ne, oz_f, zz_t, if_true, if_false, not_true_eq_false, not_false_eq_true])
  all_goals grind (splits := 30) [bi]
theorem lp_167_26 (x1 : Int32) (x2 : Int32) (x3 : Int32) (x4 : Int32) (x5 : Int32) : sm_wp X 167 26 [some (.ref 0), some (.int x1), some (.int x2), some (.int x3), some (.int x4), some (.int x5)] [] (sM mo G I J) Q = (sm_wp X 154 0 [some (.ref 14), some (.int x2), none] [] (sM mo G I J) (fun v M => sm_wp X 167 34 [some (.ref 0), some (.int x1), some (.int x2), some (.int x3), some (.int x4), some (.int x5)] (v.toList ++ []) M Q)) := by
  rw [bk_167_26]
  all_goals (try simp (decide := true) only [bk_167_0, bk_167_18, bk_167_34, bk_167_42, bk_167_51, bk_167_60, up2_ne, up2_sn, up2_ss, ne_eq, tl_some, tl_none, zb_0, zb_1, zb_bi, true_and, bi_eq, bi_ne, oz_f, zz_t, if_true, if_false, not_true_eq_false, not_false_eq_true])
  all_goals grind (splits := 30) [bi]
theorem lp_167_34 (x1 : Int32) (x2 : Int32) (x3 : Int32) (x4 : Int32) (x5 : Int32) : sm_wp X 167 34 [some (.ref 0), some (.int x1), some (.int x2), some (.int x3), some (.int x4), some (.int x5)] [] (sM mo G I J) Q = (sm_wp X 154 0 [some (.ref 14), some (.int x3), none] [] (sM mo G I J) (fun v M => sm_wp X 167 42 [some (.ref 0), some (.int x1), some (.int x2), some (.int x3), some (.int x4), some (.int x5)] (v.toList ++ []) M Q)) := by
  rw [bk_167_34]
  all_goals (try simp (decide := true) only [bk_167_0, bk_167_18, bk_167_26, bk_167_42, bk_167_51, bk_167_60, up2_ne, up2_sn, up2_ss, ne_eq, tl_some, tl_none, zb_0, zb_1, zb_bi, true_and, bi_eq, bi_ne, oz_f, zz_t, if_true, if_false, not_true_eq_false, not_false_eq_true])
  all_goals grind (splits := 30) [bi]
theorem lp_167_42 (x1 : Int32) (x2 : Int32) (x3 : Int32) (x4 : Int32) (x5 : Int32) : sm_wp X 167 42 [some (.ref 0), some (.int x1), some (.int x2), some (.int x3), some (.int x4), some (.int x5)] [] (sM mo G I J) Q = (sm_wp X 154 0 [some (.ref 14), some (.int x4), none] [] (sM mo G I J) (fun v M => sm_wp X 167 51 [some (.ref 0), some (.int x1), some (.int x2), some (.int x3), some (.int x4), some (.int x5)] (v.toList ++ []) M Q)) := by
  rw [bk_167_42]
  all_goals (try simp (decide := true) only [bk_167_0, bk_167_18, bk_167_26, bk_167_34, bk_167_51, bk_167_60, up2_ne, up2_sn, up2_ss, ne_eq, tl_some, tl_none, zb_0, zb_1, zb_bi, true_and, bi_eq, bi_ne, oz_f, zz_t, if_true, if_false, not_true_eq_false, not_false_eq_true])
  all_goals grind (splits := 30) [bi]
theorem lp_167_51 (x1 : Int32) (x2 : Int32) (x3 : Int32) (x4 : Int32) (x5 : Int32) : sm_wp X 167 51 [some (.ref 0), some (.int x1), some (.int x2), some (.int x3), some (.int x4), some (.int x5)] [] (sM mo G I J) Q = (sm_wp X 154 0 [some (.ref 14), some (.int x5), none] [] (sM mo G I J) (fun v M => sm_wp X 167 60 [some (.ref 0), some (.int x1), some (.int x2), some (.int x3), some (.int x4), some (.int x5)] (v.toList ++ []) M Q)) := by
  rw [bk_167_51]
  all_goals (try simp (decide := true) only [bk_167_0, bk_167_18, bk_167_26, bk_167_34, bk_167_42, bk_167_60, up2_ne, up2_sn, up2_ss, ne_eq, tl_some, tl_none, zb_0, zb_1, zb_bi, true_and, bi_eq, bi_ne, oz_f, zz_t, if_true, if_false, not_true_eq_false, not_false_eq_true])
  all_goals grind (splits := 30) [bi]
theorem lp_167_60 (x1 : Int32) (x2 : Int32) (x3 : Int32) (x4 : Int32) (x5 : Int32) : sm_wp X 167 60 [some (.ref 0), some (.int x1), some (.int x2), some (.int x3), some (.int x4), some (.int x5)] [] (sM mo G I J) Q = (Q (some (.int (I 14 0))) (sM mo G I J)) := by
  rw [bk_167_60]
  all_goals (try simp (decide := true) only [bk_167_0, bk_167_18, bk_167_26, bk_167_34, bk_167_42, bk_167_51, up2_ne, up2_sn, up2_ss, ne_eq, tl_some, tl_none, zb_0, zb_1, zb_bi, true_and, bi_eq, bi_ne, oz_f, zz_t, if_true, if_false, not_true_eq_false, not_false_eq_true])
  all_goals grind (splits := 30) [bi]
theorem lp_168_0 (x1 : Int32) (x2 : Int32) : sm_wp X 168 0 [some (.ref 0), some (.int x1), some (.int x2)] [] (sM mo G I J) Q = (if x1 < 0 then (Q (some (.int (-2))) (sM mo G I J)) else (if I 14 0 < x1 then (Q (some (.int (-2))) (sM mo G I J)) else (if (hState I x2) then (sm_wp X 47 0 [some (.ref 16), some (.int x1), none] [] (sM mo G I J) (fun v M => sm_wp X 168 37 [some (.ref 0), some (.int x1), some (.int x2)] (v.toList ++ []) M Q)) else (Q (some (.int (-2))) (sM mo G I J))))) := by
  rw [bk_168_0]
  all_goals (try simp (decide := true) only [bk_168_23, bk_168_26, bk_168_29, bk_168_37, bk_168_49, bk_168_61, ct_Realm_isState, up2_ne, up2_sn, up2_ss, ne_eq, tl_some, tl_none, zb_0, zb_1, zb_bi, true_and, bi_eq, bi_ne, oz_f, zz_t, if_true, if_false, not_true_eq_false, not_false_eq_true])
  all_goals grind (splits := 30) [bi]
theorem lp_168_37 (x1 : Int32) (x2 : Int32) : sm_wp X 168 37 [some (.ref 0), some (.int x1), some (.int x2)] [] (sM mo G I J) Q = (if I 16 0 = 0 then (sm_wp X 40 0 [some (.ref 21), some (.ref 16), some (.int x2), none] [] (sM mo G I J) (fun v M => sm_wp X 168 61 [some (.ref 0), some (.int x1), some (.int x2)] (v.toList ++ []) M Q)) else (Q (some (.int (-1))) (sM mo G I J))) := by
  rw [bk_168_37]
  all_goals (try simp (decide := true) only [bk_168_0, bk_168_23, bk_168_26, bk_168_29, bk_168_49, bk_168_61, up2_ne, up2_sn, up2_ss, ne_eq, tl_some, tl_none, zb_0, zb_1, zb_bi, true_and, bi_eq, bi_ne, oz_f, zz_t, if_true, if_false, not_true_eq_false, not_false_eq_true])
  all_goals grind (splits := 30) [bi]
theorem lp_168_61 (x1 : Int32) (x2 : Int32) : sm_wp X 168 61 [some (.ref 0), some (.int x1), some (.int x2)] [] (sM mo G I J) Q = (Q (some (.int (I 16 2))) (sM mo G I J)) := by
  rw [bk_168_61]
  all_goals (try simp (decide := true) only [bk_168_0, bk_168_23, bk_168_26, bk_168_29, bk_168_37, bk_168_49, up2_ne, up2_sn, up2_ss, ne_eq, tl_some, tl_none, zb_0, zb_1, zb_bi, true_and, bi_eq, bi_ne, oz_f, zz_t, if_true, if_false, not_true_eq_false, not_false_eq_true])
  all_goals grind (splits := 30) [bi]
theorem lp_178_0 (x1 : Int32) (x2 : Int32) (x3 : Int32) (x4 : Int32) (x5 : Int32) (x6 : Int32) : sm_wp X 178 0 [some (.ref 0), some (.int x1), some (.int x2), some (.int x3), some (.int x4), some (.int x5), some (.int x6), none, none] [] (sM mo G I J) Q = (if ¬ (hPres I x1) then (Q (some (.int (-1))) (sM mo G I J)) else (if ¬ (hPres I x2) then (Q (some (.int (-1))) (sM mo G I J)) else (if ¬ x1 = x2 then (if x3 ||| x4 = 0 then (Q (some (.int (-1))) (sM mo G I J)) else (if ¬ x3 &&& x4 = 0 then (Q (some (.int (-1))) (sM mo G I J)) else (if (x3 ||| x4) &&& ((((1 : Int32) <<< ((I 1 0) &&& 31)) - 1) ^^^ (-1)) = 0 then (if x5 < I 1 3 then (Q (some (.int (-1))) (sM mo G I J)) else (if 300 < x5 then (Q (some (.int (-1))) (sM mo G I J)) else (if ¬ (60 ≤ I 31 0) then (if x6 = (-1) then (sm_wp X 67 0 [some (.ref 31), some (.int x1), some (.int x2), some (.int (I 1 3))] [] (sM mo G I J) (fun v M => sm_wp X 178 132 [some (.ref 0), some (.int x1), some (.int x2), some (.int x3), some (.int x4), some (.int x5), some (.int x6), some (.int (x3 ||| x4)), none] (v.toList ++ []) M Q)) else (if (hPap I x6 ∧ ¬ I 42 (x6.toNatClampNeg) = -1) then (sm_wp X 67 0 [some (.ref 31), some (.int x1), some (.int x2), some (.int (I 1 3))] [] (sM mo G I J) (fun v M => sm_wp X 178 132 [some (.ref 0), some (.int x1), some (.int x2), some (.int x3), some (.int x4), some (.int x5), some (.int x6), some (.int (x3 ||| x4)), none] (v.toList ++ []) M Q)) else (Q (some (.int (-1))) (sM mo G I J)))) else (Q (some (.int (-1))) (sM mo G I J))))) else (Q (some (.int (-1))) (sM mo G I J))))) else (Q (some (.int (-1))) (sM mo G I J))))) := by
  rw [bk_178_0]
  all_goals (try simp (decide := true) only [bk_178_8, bk_178_19, bk_178_27, bk_178_29, bk_178_56, bk_178_62, bk_178_64, bk_178_91, bk_178_94, bk_178_96, bk_178_111, bk_178_116, bk_178_132, bk_178_150, ct_Realm_isPresent, ct_Realm_allLands, ct_Pap_isFull, ct_Pap_isOffer, up2_ne, up2_sn, up2_ss, ne_eq, tl_some, tl_none, zb_0, zb_1, zb_bi, true_and, bi_eq, bi_ne, oz_f, zz_t, if_true, if_false, not_true_eq_false, not_false_eq_true])
  all_goals grind (splits := 30) [bi]
theorem lp_178_132 (x1 : Int32) (x2 : Int32) (x3 : Int32) (x4 : Int32) (x5 : Int32) (x6 : Int32) (x7 : Int32) (s0 : Int32) : sm_wp X 178 132 [some (.ref 0), some (.int x1), some (.int x2), some (.int x3), some (.int x4), some (.int x5), some (.int x6), some (.int x7), none] [.int s0] (sM mo G I J) Q = (sm_wp X 68 0 [some (.ref 31), some (.int s0), some (.int x3), some (.int x4), some (.int x5), some (.int x6)] [] (sM mo G I J) (fun v M => sm_wp X 178 150 [some (.ref 0), some (.int x1), some (.int x2), some (.int x3), some (.int x4), some (.int x5), some (.int x6), some (.int x7), some (.int s0)] (v.toList ++ []) M Q)) := by
  rw [bk_178_132]
  all_goals (try simp (decide := true) only [bk_178_0, bk_178_8, bk_178_19, bk_178_27, bk_178_29, bk_178_56, bk_178_62, bk_178_64, bk_178_91, bk_178_94, bk_178_96, bk_178_111, bk_178_116, bk_178_150, up2_ne, up2_sn, up2_ss, ne_eq, tl_some, tl_none, zb_0, zb_1, zb_bi, true_and, bi_eq, bi_ne, oz_f, zz_t, if_true, if_false, not_true_eq_false, not_false_eq_true])
  all_goals grind (splits := 30) [bi]
theorem lp_178_150 (x1 : Int32) (x2 : Int32) (x3 : Int32) (x4 : Int32) (x5 : Int32) (x6 : Int32) (x7 : Int32) (x8 : Int32) : sm_wp X 178 150 [some (.ref 0), some (.int x1), some (.int x2), some (.int x3), some (.int x4), some (.int x5), some (.int x6), some (.int x7), some (.int x8)] [] (sM mo G I J) Q = (Q (some (.int x8)) (sM mo G I J)) := by
  rw [bk_178_150]
  all_goals (try simp (decide := true) only [bk_178_0, bk_178_8, bk_178_19, bk_178_27, bk_178_29, bk_178_56, bk_178_62, bk_178_64, bk_178_91, bk_178_94, bk_178_96, bk_178_111, bk_178_116, bk_178_132, up2_ne, up2_sn, up2_ss, ne_eq, tl_some, tl_none, zb_0, zb_1, zb_bi, true_and, bi_eq, bi_ne, oz_f, zz_t, if_true, if_false, not_true_eq_false, not_false_eq_true])
  all_goals grind (splits := 30) [bi]
theorem lp_179_0 (x1 : Int32) (x2 : Int32) (x3 : Int32) : sm_wp X 179 0 [some (.ref 0), some (.int x1), some (.int x2), some (.int x3), none] [] (sM mo G I J) Q = (if ¬ (hPres I x1) then (Q (some (.int (-1))) (sM mo G I J)) else (if ¬ (hPres I x2) then (Q (some (.int (-1))) (sM mo G I J)) else (if ¬ (¬ x3 < 1 ∧ ¬ 99 < x3) then (Q (some (.int (-1))) (sM mo G I J)) else (if ¬ (60 ≤ I 31 0) then (vp_in (I 31 0) 60 ∧ (if ¬ x1 = x2 then (if ¬ (hPap (up2 (up2 (up2 (up2 (up2 (up2 (up2 (up2 (up2 I 32 (I 31 0).toNatClampNeg x1) 33 (I 31 0).toNatClampNeg x2) 34 (I 31 0).toNatClampNeg (I 1 3)) 40 (I 31 0).toNatClampNeg (-1)) 41 (I 31 0).toNatClampNeg (-1)) 42 (I 31 0).toNatClampNeg (-1)) 43 (I 31 0).toNatClampNeg (-1)) 44 (I 31 0).toNatClampNeg (-1)) 31 0 ((I 31 0) + 1)) (((I 31 0) + 1) - 1)) then (Q (some (.int (((I 31 0) + 1) - 1))) (sM mo G (up2 (up2 (up2 (up2 (up2 (up2 (up2 (up2 (up2 I 32 (I 31 0).toNatClampNeg x1) 33 (I 31 0).toNatClampNeg x2) 34 (I 31 0).toNatClampNeg (I 1 3)) 40 (I 31 0).toNatClampNeg (-1)) 41 (I 31 0).toNatClampNeg (-1)) 42 (I 31 0).toNatClampNeg (-1)) 43 (I 31 0).toNatClampNeg (-1)) 44 (I 31 0).toNatClampNeg (-1)) 31 0 ((I 31 0) + 1)) J)) else (vp_in (((I 31 0) + 1) - 1) 60 ∧ (Q (some (.int (((I 31 0) + 1) - 1))) (sM mo G (up2 (up2 (up2 (up2 (up2 (up2 (up2 (up2 (up2 (up2 (up2 I 32 (I 31 0).toNatClampNeg x1) 33 (I 31 0).toNatClampNeg x2) 34 (I 31 0).toNatClampNeg (I 1 3)) 40 (I 31 0).toNatClampNeg (-1)) 41 (I 31 0).toNatClampNeg (-1)) 42 (I 31 0).toNatClampNeg (-1)) 43 (I 31 0).toNatClampNeg (-1)) 44 (I 31 0).toNatClampNeg (-1)) 31 0 ((I 31 0) + 1)) 35 (((I 31 0) + 1) - 1).toNatClampNeg x3) 36 (((I 31 0) + 1) - 1).toNatClampNeg 0) J)))) else (sm_wp X 151 0 [some (.ref 26), some (.int x1), some (.int (I 1 3)), none, none] [] (sM mo G (up2 (up2 (up2 (up2 (up2 (up2 (up2 (up2 (up2 I 32 (I 31 0).toNatClampNeg x1) 33 (I 31 0).toNatClampNeg x2) 34 (I 31 0).toNatClampNeg (I 1 3)) 40 (I 31 0).toNatClampNeg (-1)) 41 (I 31 0).toNatClampNeg (-1)) 42 (I 31 0).toNatClampNeg (-1)) 43 (I 31 0).toNatClampNeg (-1)) 44 (I 31 0).toNatClampNeg (-1)) 31 0 ((I 31 0) + 1)) J) (fun v M => sm_wp X 179 86 [some (.ref 0), some (.int x1), some (.int x2), some (.int x3), some (.int (((I 31 0) + 1) - 1))] (v.toList ++ [.int x3, .int (((I 31 0) + 1) - 1), .ref 31]) M Q)))) else (Q (some (.int (-1))) (sM mo G I J)))))) := by
  rw [bk_179_0]
  all_goals (try simp (decide := true) only [bk_179_8, bk_179_19, bk_179_26, bk_179_36, bk_179_39, bk_179_41, bk_179_57, bk_179_86, bk_179_89, bk_179_90, bk_179_93, ct_Realm_isPresent, ct_House_isWord, ct_Pap_isFull, ct_Pap_addPaper, ct_Pap_makeNote, up2_ne, up2_sn, up2_ss, ne_eq, tl_some, tl_none, zb_0, zb_1, zb_bi, true_and, bi_eq, bi_ne, oz_f, zz_t, if_true, if_false, not_true_eq_false, not_false_eq_true])
  all_goals grind (splits := 30) [bi]
theorem lp_179_86 (x1 : Int32) (x2 : Int32) (x3 : Int32) (x4 : Int32) (s1 : Int32) (s2 : Int32) (s3 : Int32) : sm_wp X 179 86 [some (.ref 0), some (.int x1), some (.int x2), some (.int x3), some (.int x4)] [.int s3, .int s2, .int s1, .ref 31] (sM mo G I J) Q = (if ¬ (hPap I s1) then (Q (some (.int x4)) (sM mo G I J)) else (vp_in s1 60 ∧ (Q (some (.int x4)) (sM mo G (up2 (up2 I 35 s1.toNatClampNeg s2) 36 s1.toNatClampNeg s3) J)))) := by
  rw [bk_179_86]
  all_goals (try simp (decide := true) only [bk_179_0, bk_179_8, bk_179_19, bk_179_26, bk_179_36, bk_179_39, bk_179_41, bk_179_57, bk_179_89, bk_179_90, bk_179_93, ct_Pap_makeNote, up2_ne, up2_sn, up2_ss, ne_eq, tl_some, tl_none, zb_0, zb_1, zb_bi, true_and, bi_eq, bi_ne, oz_f, zz_t, if_true, if_false, not_true_eq_false, not_false_eq_true])
  all_goals grind (splits := 30) [bi]
theorem lp_182_0 (x1 : Int32) : sm_wp X 182 0 [some (.ref 0), some (.int x1), none] [] (sM mo G I J) Q = (if x1 < 1 then (Q (some (.int (-1))) (sM mo G I J)) else (if 50 < x1 then (Q (some (.int (-1))) (sM mo G I J)) else (if (I 1 3) + x1 ≤ 300 then (sm_wp X 182 30 [some (.ref 0), some (.int x1), some (.int 0)] [] (sM mo G I J) Q) else (Q (some (.int (-1))) (sM mo G I J))))) := by
  rw [bk_182_0]
  all_goals (try simp (decide := true) only [bk_182_26, bk_182_28, bk_182_42, bk_182_48, up2_ne, up2_sn, up2_ss, ne_eq, tl_some, tl_none, zb_0, zb_1, zb_bi, true_and, bi_eq, bi_ne, oz_f, zz_t, if_true, if_false, not_true_eq_false, not_false_eq_true])
  all_goals grind (splits := 30) [bi]
theorem lp_182_30 (x1 : Int32) (x2 : Int32) : sm_wp X 182 30 [some (.ref 0), some (.int x1), some (.int x2)] [] (sM mo G I J) Q = (if x1 ≤ x2 then (Q (some (.int (I 1 3))) (sM mo G I J)) else (sm_wp X 22 0 [some (.ref 45), none, none] [] (sM mo G I J) (fun v M => sm_wp X 182 42 [some (.ref 0), some (.int x1), some (.int x2)] (v.toList ++ []) M Q))) := by
  rw [bk_182_30]
  all_goals (try simp (decide := true) only [bk_182_0, bk_182_26, bk_182_28, bk_182_42, bk_182_48, up2_ne, up2_sn, up2_ss, ne_eq, tl_some, tl_none, zb_0, zb_1, zb_bi, true_and, bi_eq, bi_ne, oz_f, zz_t, if_true, if_false, not_true_eq_false, not_false_eq_true])
  all_goals grind (splits := 30) [bi]
theorem lp_182_42 (x1 : Int32) (x2 : Int32) : sm_wp X 182 42 [some (.ref 0), some (.int x1), some (.int x2)] [] (sM mo G I J) Q = (sm_wp X 182 30 [some (.ref 0), some (.int x1), some (.int (x2 + 1))] [] (sM mo G I J) Q) := by
  rw [bk_182_42]
  all_goals (try simp (decide := true) only [bk_182_0, bk_182_26, bk_182_28, bk_182_48, up2_ne, up2_sn, up2_ss, ne_eq, tl_some, tl_none, zb_0, zb_1, zb_bi, true_and, bi_eq, bi_ne, oz_f, zz_t, if_true, if_false, not_true_eq_false, not_false_eq_true])
  all_goals grind (splits := 30) [bi]
theorem lp_184_0 (x1 : Int32) : sm_wp X 184 0 [some (.ref 0), some (.int x1)] [] (sM mo G I J) Q = (if ¬ (hPap I x1 ∧ ¬ I 42 (x1.toNatClampNeg) = -1) then (Q (some (.int (-1))) (sM mo G I J)) else (sm_wp X 24 0 [some (.ref 45), some (.int x1), some (.int 0), none, none, none, none, none] [] (sM mo G I J) (fun v M => sm_wp X 184 20 [some (.ref 0), some (.int x1)] (v.toList ++ []) M Q))) := by
  rw [bk_184_0]
  all_goals (try simp (decide := true) only [bk_184_8, bk_184_20, bk_184_23, bk_184_24, ct_Pap_isOffer, up2_ne, up2_sn, up2_ss, ne_eq, tl_some, tl_none, zb_0, zb_1, zb_bi, true_and, bi_eq, bi_ne, oz_f, zz_t, if_true, if_false, not_true_eq_false, not_false_eq_true])
  all_goals grind (splits := 30) [bi]
theorem lp_184_20 (x1 : Int32) (s0 : Int32) : sm_wp X 184 20 [some (.ref 0), some (.int x1)] [.int s0] (sM mo G I J) Q = (Q (some (.int s0)) (sM mo G I J)) := by
  rw [bk_184_20]
  all_goals (try simp (decide := true) only [bk_184_0, bk_184_8, bk_184_23, bk_184_24, up2_ne, up2_sn, up2_ss, ne_eq, tl_some, tl_none, zb_0, zb_1, zb_bi, true_and, bi_eq, bi_ne, oz_f, zz_t, if_true, if_false, not_true_eq_false, not_false_eq_true])
  all_goals grind (splits := 30) [bi]
theorem lp_185_0 (x1 : Int32) (x2 : Int32) : sm_wp X 185 0 [some (.ref 0), some (.int x1), some (.int x2)] [] (sM mo G I J) Q = (if ¬ (hPap I x1 ∧ ¬ I 42 (x1.toNatClampNeg) = -1) then (Q (some (.long (-9223372036854775808))) (sM mo G I J)) else (if (vf_Book_isLine I (aPap I 33 (-1) x1) x2) then (sm_wp X 25 0 [some (.ref 45), some (.int x1), none, none, none, none, none, none] [] (sM mo G I J) (fun v M => sm_wp X 185 42 [some (.ref 0), some (.int x1), some (.int x2)] (v.toList ++ []) M Q)) else (Q (some (.long (-9223372036854775808))) (sM mo G I J)))) := by
  rw [bk_185_0]
  all_goals (try simp (decide := true) only [bk_185_8, bk_185_23, bk_185_27, bk_185_30, bk_185_34, bk_185_42, bk_185_54, bk_185_58, ct_Pap_isOffer, ct_Pap_receiver, ct_Book_isLine, up2_ne, up2_sn, up2_ss, ne_eq, tl_some, tl_none, zb_0, zb_1, zb_bi, true_and, bi_eq, bi_ne, oz_f, zz_t, if_true, if_false, not_true_eq_false, not_false_eq_true])
  all_goals grind (splits := 30) [bi]
theorem lp_185_42 (x1 : Int32) (x2 : Int32) : sm_wp X 185 42 [some (.ref 0), some (.int x1), some (.int x2)] [] (sM mo G I J) Q = (sm_wp X 26 0 [some (.ref 45), some (.int (aPap I 33 (-1) x1)), some (.int x2), none, none, none, none] [] (sM mo G I J) (fun v M => sm_wp X 185 58 [some (.ref 0), some (.int x1), some (.int x2)] (v.toList ++ []) M Q)) := by
  rw [bk_185_42]
  all_goals (try simp (decide := true) only [bk_185_0, bk_185_8, bk_185_23, bk_185_27, bk_185_30, bk_185_34, bk_185_54, bk_185_58, ct_Pap_receiver, up2_ne, up2_sn, up2_ss, ne_eq, tl_some, tl_none, zb_0, zb_1, zb_bi, true_and, bi_eq, bi_ne, oz_f, zz_t, if_true, if_false, not_true_eq_false, not_false_eq_true])
  all_goals grind (splits := 30) [bi]
theorem lp_185_58 (x1 : Int32) (x2 : Int32) (s0 : Int64) : sm_wp X 185 58 [some (.ref 0), some (.int x1), some (.int x2)] [.long s0] (sM mo G I J) Q = (Q (some (.long s0)) (sM mo G I J)) := by
  rw [bk_185_58]
  all_goals (try simp (decide := true) only [bk_185_0, bk_185_8, bk_185_23, bk_185_27, bk_185_30, bk_185_34, bk_185_42, bk_185_54, up2_ne, up2_sn, up2_ss, ne_eq, tl_some, tl_none, zb_0, zb_1, zb_bi, true_and, bi_eq, bi_ne, oz_f, zz_t, if_true, if_false, not_true_eq_false, not_false_eq_true])
  all_goals grind (splits := 30) [bi]
theorem lp_187_0 (x1 : Int32) (x2 : Int32) (x3 : Int32) : sm_wp X 187 0 [some (.ref 0), some (.int x1), some (.int x2), some (.int x3)] [] (sM mo G I J) Q = (if ¬ (hState I x1) then (Q (some (.int (-1))) (sM mo G I J)) else (if x2 < 0 then (Q (some (.int (-1))) (sM mo G I J)) else (if I 1 3 < x2 then (Q (some (.int (-1))) (sM mo G I J)) else (if (¬ x3 < 1 ∧ ¬ 99 < x3) then (sm_wp X 85 0 [some (.ref 31), some (.int x1), some (.int x2), some (.int x3), none, none, none] [] (sM mo G I J) (fun v M => sm_wp X 187 45 [some (.ref 0), some (.int x1), some (.int x2), some (.int x3)] (v.toList ++ []) M Q)) else (Q (some (.int (-1))) (sM mo G I J)))))) := by
  rw [bk_187_0]
  all_goals (try simp (decide := true) only [bk_187_8, bk_187_30, bk_187_33, bk_187_35, bk_187_45, ct_Realm_isState, ct_House_isWord, up2_ne, up2_sn, up2_ss, ne_eq, tl_some, tl_none, zb_0, zb_1, zb_bi, true_and, bi_eq, bi_ne, oz_f, zz_t, if_true, if_false, not_true_eq_false, not_false_eq_true])
  all_goals grind (splits := 30) [bi]
theorem lp_187_45 (x1 : Int32) (x2 : Int32) (x3 : Int32) (s0 : Int32) : sm_wp X 187 45 [some (.ref 0), some (.int x1), some (.int x2), some (.int x3)] [.int s0] (sM mo G I J) Q = (Q (some (.int s0)) (sM mo G I J)) := by
  rw [bk_187_45]
  all_goals (try simp (decide := true) only [bk_187_0, bk_187_8, bk_187_30, bk_187_33, bk_187_35, up2_ne, up2_sn, up2_ss, ne_eq, tl_some, tl_none, zb_0, zb_1, zb_bi, true_and, bi_eq, bi_ne, oz_f, zz_t, if_true, if_false, not_true_eq_false, not_false_eq_true])
  all_goals grind (splits := 30) [bi]
theorem lp_188_0 (x1 : Int32) : sm_wp X 188 0 [some (.ref 0), some (.int x1)] [] (sM mo G I J) Q = (if ¬ (hState I x1) then (Q (some (.int (-1))) (sM mo G I J)) else (sm_wp X 111 0 [some (.ref 1), some (.int x1)] [] (sM mo G I J) (fun v M => sm_wp X 188 19 [some (.ref 0), some (.int x1)] (v.toList ++ []) M Q))) := by
  rw [bk_188_0]
  all_goals (try simp (decide := true) only [bk_188_8, bk_188_19, bk_188_22, bk_188_23, ct_Realm_isState, up2_ne, up2_sn, up2_ss, ne_eq, tl_some, tl_none, zb_0, zb_1, zb_bi, true_and, bi_eq, bi_ne, oz_f, zz_t, if_true, if_false, not_true_eq_false, not_false_eq_true])
  all_goals grind (splits := 30) [bi]
theorem lp_188_19 (x1 : Int32) (s0 : Int32) : sm_wp X 188 19 [some (.ref 0), some (.int x1)] [.int s0] (sM mo G I J) Q = (Q (some (.int s0)) (sM mo G I J)) := by
  rw [bk_188_19]
  all_goals (try simp (decide := true) only [bk_188_0, bk_188_8, bk_188_22, bk_188_23, up2_ne, up2_sn, up2_ss, ne_eq, tl_some, tl_none, zb_0, zb_1, zb_bi, true_and, bi_eq, bi_ne, oz_f, zz_t, if_true, if_false, not_true_eq_false, not_false_eq_true])
  all_goals grind (splits := 30) [bi]
theorem lp_189_0 (x1 : Int32) : sm_wp X 189 0 [some (.ref 0), some (.int x1)] [] (sM mo G I J) Q = (if x1 < 0 then (Q (some (.int (-1))) (sM mo G I J)) else (if x1 ≤ 3 then (if ¬ x1 = 0 then (sm_wp X 128 0 [some (.ref 52), some (.int (I 1 2)), none, none] [] (sM mo G I J) (fun v M => sm_wp X 189 44 [some (.ref 0), some (.int x1)] (v.toList ++ []) M Q)) else (sm_wp X 112 0 [some (.ref 1), some (.int (I 1 2)), none, none] [] (sM mo G I J) (fun v M => sm_wp X 189 29 [some (.ref 0), some (.int x1)] (v.toList ++ []) M Q))) else (Q (some (.int (-1))) (sM mo G I J)))) := by
  rw [bk_189_0]
  all_goals (try simp (decide := true) only [bk_189_9, bk_189_11, bk_189_29, bk_189_30, bk_189_44, bk_189_52, up2_ne, up2_sn, up2_ss, ne_eq, tl_some, tl_none, zb_0, zb_1, zb_bi, true_and, bi_eq, bi_ne, oz_f, zz_t, if_true, if_false, not_true_eq_false, not_false_eq_true])
  all_goals grind (splits := 30) [bi]
theorem lp_189_29 (x1 : Int32) (s0 : Int32) : sm_wp X 189 29 [some (.ref 0), some (.int x1)] [.int s0] (sM mo G I J) Q = (Q (some (.int s0)) (sM mo G I J)) := by
  rw [bk_189_29]
  all_goals (try simp (decide := true) only [bk_189_0, bk_189_9, bk_189_11, bk_189_30, bk_189_44, bk_189_52, up2_ne, up2_sn, up2_ss, ne_eq, tl_some, tl_none, zb_0, zb_1, zb_bi, true_and, bi_eq, bi_ne, oz_f, zz_t, if_true, if_false, not_true_eq_false, not_false_eq_true])
  all_goals grind (splits := 30) [bi]
theorem lp_189_44 (x1 : Int32) : sm_wp X 189 44 [some (.ref 0), some (.int x1)] [] (sM mo G I J) Q = (sm_wp X 138 0 [some (.ref 52), some (.int x1)] [] (sM mo G I J) (fun v M => sm_wp X 189 52 [some (.ref 0), some (.int x1)] (v.toList ++ []) M Q)) := by
  rw [bk_189_44]
  all_goals (try simp (decide := true) only [bk_189_0, bk_189_9, bk_189_11, bk_189_29, bk_189_30, bk_189_52, up2_ne, up2_sn, up2_ss, ne_eq, tl_some, tl_none, zb_0, zb_1, zb_bi, true_and, bi_eq, bi_ne, oz_f, zz_t, if_true, if_false, not_true_eq_false, not_false_eq_true])
  all_goals grind (splits := 30) [bi]
theorem lp_189_52 (x1 : Int32) (s0 : Int32) : sm_wp X 189 52 [some (.ref 0), some (.int x1)] [.int s0] (sM mo G I J) Q = (Q (some (.int s0)) (sM mo G I J)) := by
  rw [bk_189_52]
  all_goals (try simp (decide := true) only [bk_189_0, bk_189_9, bk_189_11, bk_189_29, bk_189_30, bk_189_44, up2_ne, up2_sn, up2_ss, ne_eq, tl_some, tl_none, zb_0, zb_1, zb_bi, true_and, bi_eq, bi_ne, oz_f, zz_t, if_true, if_false, not_true_eq_false, not_false_eq_true])
  all_goals grind (splits := 30) [bi]
theorem lp_190_0 (x1 : Int32) : sm_wp X 190 0 [some (.ref 0), some (.int x1)] [] (sM mo G I J) Q = (sm_wp X 128 0 [some (.ref 52), some (.int (I 1 2)), none, none] [] (sM mo G I J) (fun v M => sm_wp X 190 14 [some (.ref 0), some (.int x1)] (v.toList ++ []) M Q)) := by
  rw [bk_190_0]
  all_goals (try simp (decide := true) only [bk_190_14, bk_190_22, up2_ne, up2_sn, up2_ss, ne_eq, tl_some, tl_none, zb_0, zb_1, zb_bi, true_and, bi_eq, bi_ne, oz_f, zz_t, if_true, if_false, not_true_eq_false, not_false_eq_true])
  all_goals grind (splits := 30) [bi]
theorem lp_190_14 (x1 : Int32) : sm_wp X 190 14 [some (.ref 0), some (.int x1)] [] (sM mo G I J) Q = (sm_wp X 139 0 [some (.ref 52), some (.int x1)] [] (sM mo G I J) (fun v M => sm_wp X 190 22 [some (.ref 0), some (.int x1)] (v.toList ++ []) M Q)) := by
  rw [bk_190_14]
  all_goals (try simp (decide := true) only [bk_190_0, bk_190_22, up2_ne, up2_sn, up2_ss, ne_eq, tl_some, tl_none, zb_0, zb_1, zb_bi, true_and, bi_eq, bi_ne, oz_f, zz_t, if_true, if_false, not_true_eq_false, not_false_eq_true])
  all_goals grind (splits := 30) [bi]
theorem lp_190_22 (x1 : Int32) (s0 : Int32) : sm_wp X 190 22 [some (.ref 0), some (.int x1)] [.int s0] (sM mo G I J) Q = (Q (some (.int s0)) (sM mo G I J)) := by
  rw [bk_190_22]
  all_goals (try simp (decide := true) only [bk_190_0, bk_190_14, up2_ne, up2_sn, up2_ss, ne_eq, tl_some, tl_none, zb_0, zb_1, zb_bi, true_and, bi_eq, bi_ne, oz_f, zz_t, if_true, if_false, not_true_eq_false, not_false_eq_true])
  all_goals grind (splits := 30) [bi]
theorem lp_191_0 (x1 : Int32) (x2 : Int32) : sm_wp X 191 0 [some (.ref 0), some (.int x1), some (.int x2)] [] (sM mo G I J) Q = (if (hPres I x1) then (sm_wp X 128 0 [some (.ref 60), some (.int ((I 1 2) &&& (((1 : Int32) <<< (x1 &&& 31)) ^^^ (-1)))), none, none] [] (sM mo G I J) (fun v M => sm_wp X 191 33 [some (.ref 0), some (.int x1), some (.int x2)] (v.toList ++ []) M Q)) else (Q (some (.int (-1))) (sM mo G I J))) := by
  rw [bk_191_0]
  all_goals (try simp (decide := true) only [bk_191_8, bk_191_13, bk_191_33, bk_191_41, ct_Realm_isPresent, up2_ne, up2_sn, up2_ss, ne_eq, tl_some, tl_none, zb_0, zb_1, zb_bi, true_and, bi_eq, bi_ne, oz_f, zz_t, if_true, if_false, not_true_eq_false, not_false_eq_true])
  all_goals grind (splits := 30) [bi]
theorem lp_191_33 (x1 : Int32) (x2 : Int32) : sm_wp X 191 33 [some (.ref 0), some (.int x1), some (.int x2)] [] (sM mo G I J) Q = (sm_wp X 139 0 [some (.ref 60), some (.int x2)] [] (sM mo G I J) (fun v M => sm_wp X 191 41 [some (.ref 0), some (.int x1), some (.int x2)] (v.toList ++ []) M Q)) := by
  rw [bk_191_33]
  all_goals (try simp (decide := true) only [bk_191_0, bk_191_8, bk_191_13, bk_191_41, up2_ne, up2_sn, up2_ss, ne_eq, tl_some, tl_none, zb_0, zb_1, zb_bi, true_and, bi_eq, bi_ne, oz_f, zz_t, if_true, if_false, not_true_eq_false, not_false_eq_true])
  all_goals grind (splits := 30) [bi]
theorem lp_191_41 (x1 : Int32) (x2 : Int32) (s0 : Int32) : sm_wp X 191 41 [some (.ref 0), some (.int x1), some (.int x2)] [.int s0] (sM mo G I J) Q = (Q (some (.int s0)) (sM mo G I J)) := by
  rw [bk_191_41]
  all_goals (try simp (decide := true) only [bk_191_0, bk_191_8, bk_191_13, bk_191_33, up2_ne, up2_sn, up2_ss, ne_eq, tl_some, tl_none, zb_0, zb_1, zb_bi, true_and, bi_eq, bi_ne, oz_f, zz_t, if_true, if_false, not_true_eq_false, not_false_eq_true])
  all_goals grind (splits := 30) [bi]
theorem lp_192_0  : sm_wp X 192 0 [some (.ref 0)] [] (sM mo G I J) Q = (sm_wp X 128 0 [some (.ref 52), some (.int (I 1 2)), none, none] [] (sM mo G I J) (fun v M => sm_wp X 192 14 [some (.ref 0)] (v.toList ++ []) M Q)) := by
  rw [bk_192_0]
  all_goals (try simp (decide := true) only [bk_192_14, bk_192_21, up2_ne, up2_sn, up2_ss, ne_eq, tl_some, tl_none, zb_0, zb_1, zb_bi, true_and, bi_eq, bi_ne, oz_f, zz_t, if_true, if_false, not_true_eq_false, not_false_eq_true])
  all_goals grind (splits := 30) [bi]
theorem lp_192_14  : sm_wp X 192 14 [some (.ref 0)] [] (sM mo G I J) Q = (sm_wp X 141 0 [some (.ref 52), none, none] [] (sM mo G I J) (fun v M => sm_wp X 192 21 [some (.ref 0)] (v.toList ++ []) M Q)) := by
  rw [bk_192_14]
  all_goals (try simp (decide := true) only [bk_192_0, bk_192_21, up2_ne, up2_sn, up2_ss, ne_eq, tl_some, tl_none, zb_0, zb_1, zb_bi, true_and, bi_eq, bi_ne, oz_f, zz_t, if_true, if_false, not_true_eq_false, not_false_eq_true])
  all_goals grind (splits := 30) [bi]
theorem lp_192_21 (s0 : Int32) : sm_wp X 192 21 [some (.ref 0)] [.int s0] (sM mo G I J) Q = (Q (some (.int s0)) (sM mo G I J)) := by
  rw [bk_192_21]
  all_goals (try simp (decide := true) only [bk_192_0, bk_192_14, up2_ne, up2_sn, up2_ss, ne_eq, tl_some, tl_none, zb_0, zb_1, zb_bi, true_and, bi_eq, bi_ne, oz_f, zz_t, if_true, if_false, not_true_eq_false, not_false_eq_true])
  all_goals grind (splits := 30) [bi]
theorem lp_193_0 (x1 : Int32) : sm_wp X 193 0 [some (.ref 0), some (.int x1)] [] (sM mo G I J) Q = (sm_wp X 143 0 [some (.ref 52), some (.int (I 1 2)), some (.int x1), none, none] [] (sM mo G I J) (fun v M => sm_wp X 193 15 [some (.ref 0), some (.int x1)] (v.toList ++ []) M Q)) := by
  rw [bk_193_0]
  all_goals (try simp (decide := true) only [bk_193_15, up2_ne, up2_sn, up2_ss, ne_eq, tl_some, tl_none, zb_0, zb_1, zb_bi, true_and, bi_eq, bi_ne, oz_f, zz_t, if_true, if_false, not_true_eq_false, not_false_eq_true])
  all_goals grind (splits := 30) [bi]
theorem lp_193_15 (x1 : Int32) (s0 : Int32) : sm_wp X 193 15 [some (.ref 0), some (.int x1)] [.int s0] (sM mo G I J) Q = (Q (some (.int s0)) (sM mo G I J)) := by
  rw [bk_193_15]
  all_goals (try simp (decide := true) only [bk_193_0, up2_ne, up2_sn, up2_ss, ne_eq, tl_some, tl_none, zb_0, zb_1, zb_bi, true_and, bi_eq, bi_ne, oz_f, zz_t, if_true, if_false, not_true_eq_false, not_false_eq_true])
  all_goals grind (splits := 30) [bi]
theorem lp_194_0 (x1 : Int32) : sm_wp X 194 0 [some (.ref 0), some (.int x1)] [] (sM mo G I J) Q = (sm_wp X 119 0 [some (.ref 68), none] [] (sM mo G I J) (fun v M => sm_wp X 194 7 [some (.ref 0), some (.int x1)] (v.toList ++ []) M Q)) := by
  rw [bk_194_0]
  all_goals (try simp (decide := true) only [bk_194_7, bk_194_15, up2_ne, up2_sn, up2_ss, ne_eq, tl_some, tl_none, zb_0, zb_1, zb_bi, true_and, bi_eq, bi_ne, oz_f, zz_t, if_true, if_false, not_true_eq_false, not_false_eq_true])
  all_goals grind (splits := 30) [bi]
theorem lp_194_7 (x1 : Int32) : sm_wp X 194 7 [some (.ref 0), some (.int x1)] [] (sM mo G I J) Q = (if ¬ x1 = 0 then (if x1 < 1 then (if (x1 - 1) - 4 < 0 then (Q (some (.int (-1))) (sM mo G I J)) else (if 4 ≤ (x1 - 1) - 4 then (Q (some (.int (-1))) (sM mo G I J)) else (if I 68 3 ≤ (x1 - 1) - 4 then (Q (some (.int (-1))) (sM mo G I J)) else (vp_in ((x1 - 1) - 4) 4 ∧ (Q (some (.int (I 70 (((x1 - 1) - 4).toNatClampNeg)))) (sM mo G I J)))))) else (if 4 < x1 then (if (x1 - 1) - 4 < 0 then (Q (some (.int (-1))) (sM mo G I J)) else (if 4 ≤ (x1 - 1) - 4 then (Q (some (.int (-1))) (sM mo G I J)) else (if I 68 3 ≤ (x1 - 1) - 4 then (Q (some (.int (-1))) (sM mo G I J)) else (vp_in ((x1 - 1) - 4) 4 ∧ (Q (some (.int (I 70 (((x1 - 1) - 4).toNatClampNeg)))) (sM mo G I J)))))) else (if I 68 3 < x1 then (Q (some (.int (-1))) (sM mo G I J)) else (vp_in (x1 - 1) 4 ∧ (Q (some (.int (I 69 ((x1 - 1).toNatClampNeg)))) (sM mo G I J)))))) else (Q (some (.int (I 68 3))) (sM mo G I J))) := by
  rw [bk_194_7]
  all_goals (try simp (decide := true) only [bk_194_0, bk_194_15, ct_Ring_tell, up2_ne, up2_sn, up2_ss, ne_eq, tl_some, tl_none, zb_0, zb_1, zb_bi, true_and, bi_eq, bi_ne, oz_f, zz_t, if_true, if_false, not_true_eq_false, not_false_eq_true])
  all_goals grind (splits := 30) [bi]
theorem lp_199_0 (x1 : Int32) (x2 : Int32) (x3 : Int32) : sm_wp X 199 0 [some (.ref 0), some (.int x1), some (.int x2), some (.int x3)] [] (sM mo G I J) Q = (if vf_Art_draftLength I x1 x2 = 0 then (Q (some (.int (-1))) (sM mo G I J)) else (if ¬ vf_Art_draftLength I x1 x3 = 0 then (sm_wp X 8 0 [some (.ref 71), some (.int x1), some (.int x2), some (.int x3), none, none, none, none, none, none, none] [] (sM mo G I J) (fun v M => sm_wp X 199 36 [some (.ref 0), some (.int x1), some (.int x2), some (.int x3)] (v.toList ++ []) M Q)) else (Q (some (.int (-1))) (sM mo G I J)))) := by
  rw [bk_199_0]
  all_goals (try simp (decide := true) only [bk_199_9, bk_199_21, bk_199_24, bk_199_26, bk_199_36, ct_Art_draftLength, up2_ne, up2_sn, up2_ss, ne_eq, tl_some, tl_none, zb_0, zb_1, zb_bi, true_and, bi_eq, bi_ne, oz_f, zz_t, if_true, if_false, not_true_eq_false, not_false_eq_true])
  all_goals grind (splits := 30) [bi]
theorem lp_199_36 (x1 : Int32) (x2 : Int32) (x3 : Int32) (s0 : Int32) : sm_wp X 199 36 [some (.ref 0), some (.int x1), some (.int x2), some (.int x3)] [.int s0] (sM mo G I J) Q = (Q (some (.int s0)) (sM mo G I J)) := by
  rw [bk_199_36]
  all_goals (try simp (decide := true) only [bk_199_0, bk_199_9, bk_199_21, bk_199_24, bk_199_26, up2_ne, up2_sn, up2_ss, ne_eq, tl_some, tl_none, zb_0, zb_1, zb_bi, true_and, bi_eq, bi_ne, oz_f, zz_t, if_true, if_false, not_true_eq_false, not_false_eq_true])
  all_goals grind (splits := 30) [bi]
end R3
end
section
/-! One turn of each loop, and the stretches between calls, by program. -/
section R3
variable (X : (Nat → Int32) × Nat) (mo : Bool) (G : Nat × Nat) (I : Nat → Nat → Int32) (J : Nat → Nat → Int64) (Q : Option Value → sm_M → Prop)
theorem lp_200_0 (x1 : Int32) (x2 : Int32) : sm_wp X 200 0 [some (.ref 0), some (.int x1), some (.int x2)] [] (sM mo G I J) Q = (if (hArt I x1) then (if x2 = 0 then (sm_wp X 10 0 [some (.ref 71), some (.int x1), none, none, none] [] (sM mo G I J) (fun v M => sm_wp X 200 52 [some (.ref 0), some (.int x1), some (.int x2)] (v.toList ++ []) M Q)) else (if x2 = 1 then (sm_wp X 10 0 [some (.ref 71), some (.int x1), none, none, none] [] (sM mo G I J) (fun v M => sm_wp X 200 66 [some (.ref 0), some (.int x1), some (.int x2)] (v.toList ++ [.int x1, .ref 71]) M Q)) else (if x2 = 2 then (sm_wp X 13 0 [some (.ref 71), some (.int x1), none, none, none] [] (sM mo G I J) (fun v M => sm_wp X 200 78 [some (.ref 0), some (.int x1), some (.int x2)] (v.toList ++ []) M Q)) else (if x2 = 3 then (sm_wp X 13 0 [some (.ref 71), some (.int x1), none, none, none] [] (sM mo G I J) (fun v M => sm_wp X 200 95 [some (.ref 0), some (.int x1), some (.int x2)] (v.toList ++ []) M Q)) else (Q (some (.int (-1))) (sM mo G I J)))))) else (Q (some (.int (-1))) (sM mo G I J))) := by
  rw [bk_200_0]
  all_goals (try simp (decide := true) only [bk_200_8, bk_200_13, bk_200_44, bk_200_52, bk_200_53, bk_200_66, bk_200_69, bk_200_70, bk_200_78, bk_200_85, bk_200_86, bk_200_87, bk_200_95, bk_200_102, bk_200_110, bk_200_111, ct_Art_isArticle, up2_ne, up2_sn, up2_ss, ne_eq, tl_some, tl_none, zb_0, zb_1, zb_bi, true_and, bi_eq, bi_ne, oz_f, zz_t, if_true, if_false, not_true_eq_false, not_false_eq_true])
  all_goals grind (splits := 30) [bi]
theorem lp_200_52 (x1 : Int32) (x2 : Int32) (s0 : Int32) : sm_wp X 200 52 [some (.ref 0), some (.int x1), some (.int x2)] [.int s0] (sM mo G I J) Q = (Q (some (.int s0)) (sM mo G I J)) := by
  rw [bk_200_52]
  all_goals (try simp (decide := true) only [bk_200_0, bk_200_8, bk_200_13, bk_200_44, bk_200_53, bk_200_66, bk_200_69, bk_200_70, bk_200_78, bk_200_85, bk_200_86, bk_200_87, bk_200_95, bk_200_102, bk_200_110, bk_200_111, up2_ne, up2_sn, up2_ss, ne_eq, tl_some, tl_none, zb_0, zb_1, zb_bi, true_and, bi_eq, bi_ne, oz_f, zz_t, if_true, if_false, not_true_eq_false, not_false_eq_true])
  all_goals grind (splits := 30) [bi]
theorem lp_200_66 (x1 : Int32) (x2 : Int32) (s1 : Int32) (s2 : Int32) : sm_wp X 200 66 [some (.ref 0), some (.int x1), some (.int x2)] [.int s2, .int s1, .ref 71] (sM mo G I J) Q = (Q (some (.int (vf_Art_draftLength I s1 s2))) (sM mo G I J)) := by
  rw [bk_200_66]
  all_goals (try simp (decide := true) only [bk_200_0, bk_200_8, bk_200_13, bk_200_44, bk_200_52, bk_200_53, bk_200_69, bk_200_70, bk_200_78, bk_200_85, bk_200_86, bk_200_87, bk_200_95, bk_200_102, bk_200_110, bk_200_111, ct_Art_draftLength, up2_ne, up2_sn, up2_ss, ne_eq, tl_some, tl_none, zb_0, zb_1, zb_bi, true_and, bi_eq, bi_ne, oz_f, zz_t, if_true, if_false, not_true_eq_false, not_false_eq_true])
  all_goals grind (splits := 30) [bi]
theorem lp_200_78 (x1 : Int32) (x2 : Int32) (s0 : Int32) : sm_wp X 200 78 [some (.ref 0), some (.int x1), some (.int x2)] [.int s0] (sM mo G I J) Q = (if s0 = 0 then (Q (some (.int 0)) (sM mo G I J)) else (Q (some (.int 1)) (sM mo G I J))) := by
  rw [bk_200_78]
  all_goals (try simp (decide := true) only [bk_200_0, bk_200_8, bk_200_13, bk_200_44, bk_200_52, bk_200_53, bk_200_66, bk_200_69, bk_200_70, bk_200_85, bk_200_86, bk_200_87, bk_200_95, bk_200_102, bk_200_110, bk_200_111, up2_ne, up2_sn, up2_ss, ne_eq, tl_some, tl_none, zb_0, zb_1, zb_bi, true_and, bi_eq, bi_ne, oz_f, zz_t, if_true, if_false, not_true_eq_false, not_false_eq_true])
  all_goals grind (splits := 30) [bi]
theorem lp_200_95 (x1 : Int32) (x2 : Int32) (s0 : Int32) : sm_wp X 200 95 [some (.ref 0), some (.int x1), some (.int x2)] [.int s0] (sM mo G I J) Q = (if s0 = 0 then (if (hArt I x1) then (vp_in x1 8 ∧ (if vf_Integer_bitCount ((I 1 2) &&& ((I 75 (x1.toNatClampNeg)) ^^^ (-1))) < 2 then (Q (some (.int 0)) (sM mo G I J)) else (Q (some (.int (vf_Integer_bitCount ((I 1 2) &&& ((I 75 (x1.toNatClampNeg)) ^^^ (-1)))))) (sM mo G I J)))) else (Q (some (.int 0)) (sM mo G I J))) else (Q (some (.int 0)) (sM mo G I J))) := by
  rw [bk_200_95]
  all_goals (try simp (decide := true) only [bk_200_0, bk_200_8, bk_200_13, bk_200_44, bk_200_52, bk_200_53, bk_200_66, bk_200_69, bk_200_70, bk_200_78, bk_200_85, bk_200_86, bk_200_87, bk_200_102, bk_200_110, bk_200_111, ct_Art_signersOf, up2_ne, up2_sn, up2_ss, ne_eq, tl_some, tl_none, zb_0, zb_1, zb_bi, true_and, bi_eq, bi_ne, oz_f, zz_t, if_true, if_false, not_true_eq_false, not_false_eq_true])
  all_goals grind (splits := 30) [bi]
theorem lp_201_0 (x1 : Int32) (x2 : Int32) (x3 : Int32) : sm_wp X 201 0 [some (.ref 0), some (.int x1), some (.int x2), some (.int x3)] [] (sM mo G I J) Q = (if (hArt I x1) then (sm_wp X 20 0 [some (.ref 71), some (.int x1), some (.int x2), some (.int x3), none] [] (sM mo G I J) (fun v M => sm_wp X 201 23 [some (.ref 0), some (.int x1), some (.int x2), some (.int x3)] (v.toList ++ []) M Q)) else (Q (some (.int (-1))) (sM mo G I J))) := by
  rw [bk_201_0]
  all_goals (try simp (decide := true) only [bk_201_8, bk_201_13, bk_201_23, ct_Art_isArticle, up2_ne, up2_sn, up2_ss, ne_eq, tl_some, tl_none, zb_0, zb_1, zb_bi, true_and, bi_eq, bi_ne, oz_f, zz_t, if_true, if_false, not_true_eq_false, not_false_eq_true])
  all_goals grind (splits := 30) [bi]
theorem lp_201_23 (x1 : Int32) (x2 : Int32) (x3 : Int32) (s0 : Int32) : sm_wp X 201 23 [some (.ref 0), some (.int x1), some (.int x2), some (.int x3)] [.int s0] (sM mo G I J) Q = (Q (some (.int s0)) (sM mo G I J)) := by
  rw [bk_201_23]
  all_goals (try simp (decide := true) only [bk_201_0, bk_201_8, bk_201_13, up2_ne, up2_sn, up2_ss, ne_eq, tl_some, tl_none, zb_0, zb_1, zb_bi, true_and, bi_eq, bi_ne, oz_f, zz_t, if_true, if_false, not_true_eq_false, not_false_eq_true])
  all_goals grind (splits := 30) [bi]
theorem lp_202_0 (x1 : Int32) : sm_wp X 202 0 [some (.ref 0), some (.int x1)] [] (sM mo G I J) Q = (if (hPres I x1) then (if ¬ (hState I x1) then (sm_wp X 86 0 [some (.ref 31), some (.int x1), none, none] [] (sM mo G I J) (fun v M => sm_wp X 202 29 [some (.ref 0), some (.int x1)] (v.toList ++ []) M Q)) else (sm_wp X 86 0 [some (.ref 31), some (.int x1), none, none] [] (sM mo G (up2 (up2 I 1 2 ((I 1 2) &&& (((1 : Int32) <<< (x1 &&& 31)) ^^^ (-1)))) 1 4 ((I 1 4) + 1)) J) (fun v M => sm_wp X 202 29 [some (.ref 0), some (.int x1)] (v.toList ++ []) M Q))) else (Q (some (.int (-1))) (sM mo G I J))) := by
  rw [bk_202_0]
  all_goals (try simp (decide := true) only [bk_202_8, bk_202_13, bk_202_21, bk_202_29, ct_Realm_isPresent, ct_Realm_removeState, up2_ne, up2_sn, up2_ss, ne_eq, tl_some, tl_none, zb_0, zb_1, zb_bi, true_and, bi_eq, bi_ne, oz_f, zz_t, if_true, if_false, not_true_eq_false, not_false_eq_true])
  all_goals grind (splits := 30) [bi]
theorem lp_202_29 (x1 : Int32) (s0 : Int32) : sm_wp X 202 29 [some (.ref 0), some (.int x1)] [.int s0] (sM mo G I J) Q = (Q (some (.int s0)) (sM mo G I J)) := by
  rw [bk_202_29]
  all_goals (try simp (decide := true) only [bk_202_0, bk_202_8, bk_202_13, bk_202_21, up2_ne, up2_sn, up2_ss, ne_eq, tl_some, tl_none, zb_0, zb_1, zb_bi, true_and, bi_eq, bi_ne, oz_f, zz_t, if_true, if_false, not_true_eq_false, not_false_eq_true])
  all_goals grind (splits := 30) [bi]
theorem lp_204_0 (x1 : Int32) : sm_wp X 204 0 [some (.ref 0), some (.int x1)] [] (sM mo G I J) Q = (if x1 = 0 then (Q (some (.int (I 1 0))) (sM mo G I J)) else (if x1 = 1 then (Q (some (.int (I 1 1))) (sM mo G I J)) else (if x1 = 2 then (Q (some (.int (I 1 2))) (sM mo G I J)) else (if x1 = 3 then (Q (some (.int (I 31 0))) (sM mo G I J)) else (if x1 = 4 then (Q (some (.int (I 1 3))) (sM mo G I J)) else (if x1 = 5 then (Q (some (.int (I 71 0))) (sM mo G I J)) else (if x1 = 6 then (Q (some (.int (I 26 0))) (sM mo G I J)) else (if x1 = 7 then (sm_wp X 116 0 [some (.ref 1)] [] (sM mo G I J) (fun v M => sm_wp X 204 111 [some (.ref 0), some (.int x1)] (v.toList ++ []) M Q)) else (Q (some (.int (-1))) (sM mo G I J)))))))))) := by
  rw [bk_204_0]
  all_goals (try simp (decide := true) only [bk_204_48, bk_204_56, bk_204_64, bk_204_72, bk_204_80, bk_204_88, bk_204_96, bk_204_104, bk_204_111, bk_204_112, up2_ne, up2_sn, up2_ss, ne_eq, tl_some, tl_none, zb_0, zb_1, zb_bi, true_and, bi_eq, bi_ne, oz_f, zz_t, if_true, if_false, not_true_eq_false, not_false_eq_true])
  all_goals grind (splits := 30) [bi]
theorem lp_204_111 (x1 : Int32) (s0 : Int32) : sm_wp X 204 111 [some (.ref 0), some (.int x1)] [.int s0] (sM mo G I J) Q = (Q (some (.int s0)) (sM mo G I J)) := by
  rw [bk_204_111]
  all_goals (try simp (decide := true) only [bk_204_0, bk_204_48, bk_204_56, bk_204_64, bk_204_72, bk_204_80, bk_204_88, bk_204_96, bk_204_104, bk_204_112, up2_ne, up2_sn, up2_ss, ne_eq, tl_some, tl_none, zb_0, zb_1, zb_bi, true_and, bi_eq, bi_ne, oz_f, zz_t, if_true, if_false, not_true_eq_false, not_false_eq_true])
  all_goals grind (splits := 30) [bi]
end R3
end
