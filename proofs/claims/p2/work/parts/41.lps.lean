/-! Contracts of the simple loops. -/
/-- the lands that s holds, as bits -/
def hlds (h : Nat → Int32) (s : Int32) (n : Nat) : Int32 := up (fun l b => if h l = s then b ||| b1 l else b) n 0
def wsum (W : Nat → Int32) (s set : Int32) (n : Nat) : Int32 := up (fun l a => if bt set l = true then a + wof W s (zI l) else a) n 0
def ssum (S : Nat → Int32) (set : Int32) (n : Nat) : Int32 := up (fun l a => if bt set l = true then a + S l else a) n 0
def cnear (N : Nat → Int32) (set oth : Int32) (n : Nat) : Int32 := up (fun l a => if bt set l = true then (if N l &&& oth = 0 then a else a + 1) else a) n 0
def popc (x : Int32) : Int32 := up (fun k a => a + (if bt x k = true then 1 else 0)) 12 0
section L1
variable (X : (Nat → Int32) × Nat) (mo : Bool) (G : Nat × Nat) (I : Nat → Nat → Int32) (J : Nat → Nat → Int64) (Q : Option Value → sm_M → Prop)
theorem ct_landsHeld {n : Nat} (hn : I 1 0 = zI n) (h12 : n ≤ 12) (s : Int32) :
    sm_wp X 105 0 [some (.ref 1), some (.int s), none, none] [] (sM mo G I J) Q = Q (some (.int (hlds (I 4) s n))) (sM mo G I J) := by
  rw [lp_105_0]
  refine (cnt (fun k b => sm_wp X 105 4 [some (.ref 1), some (.int s), some (.int b), some (.int (zI k))] [] (sM mo G I J) Q) (fun l b => if I 4 l = s then b ||| b1 l else b) 0 n ?_).trans ?_
  · intro k hk
    rw [lp_105_4, hn]
    simp (disch := first | omega | decide) only [zI_lt, zI_le, zI_eq, zI_cn, zI_vp, zI_add, zI_mul, zI_sub, zIl_add, zIr_add, zIl_mul, zIr_mul, zIr_sub, zIl_lt, zIr_lt, zIl_le, zIr_le, zIl_eq, zIr_eq, zI_sIn, zI_m1, zI_m1', Int32.add_zero, Int32.or_zero]
    grind [b1]
  · rw [lp_105_4, hn]
    simp (disch := first | omega | decide) only [zI_lt, zI_le, zI_eq, zI_cn, zI_vp, zI_add, zI_mul, zI_sub, zIl_add, zIr_add, zIl_mul, zIr_mul, zIr_sub, zIl_lt, zIr_lt, zIl_le, zIr_le, zIl_eq, zIr_eq, zI_sIn, zI_m1, zI_m1', Int32.add_zero, Int32.or_zero]
    grind [hlds]
theorem ct_worthOfLands {n : Nat} (hn : I 1 0 = zI n) (h12 : n ≤ 12) (s set : Int32) :
    sm_wp X 103 0 [some (.ref 1), some (.int s), some (.int set), none, none] [] (sM mo G I J) Q = Q (some (.int (wsum (I 13) s set n))) (sM mo G I J) := by
  rw [lp_103_0]
  refine (cnt (fun k b => sm_wp X 103 5 [some (.ref 1), some (.int s), some (.int set), some (.int b), some (.int (zI k))] [] (sM mo G I J) Q) (fun l a => if bt set l = true then a + wof (I 13) s (zI l) else a) 0 n ?_).trans ?_
  · intro k hk
    rw [lp_103_5, hn]
    simp (disch := first | omega | decide) only [zI_lt, zI_le, zI_eq, zI_cn, zI_vp, zI_add, zI_mul, zI_sub, zIl_add, zIr_add, zIl_mul, zIr_mul, zIr_sub, zIl_lt, zIr_lt, zIl_le, zIr_le, zIl_eq, zIr_eq, zI_sIn, zI_m1, zI_m1', Int32.add_zero, Int32.or_zero, hb_bt]
    grind
  · rw [lp_103_5, hn]
    simp (disch := first | omega | decide) only [zI_lt, zI_le, zI_eq, zI_cn, zI_vp, zI_add, zI_mul, zI_sub, zIl_add, zIr_add, zIl_mul, zIr_mul, zIr_sub, zIl_lt, zIr_lt, zIl_le, zIr_le, zIl_eq, zIr_eq, zI_sIn, zI_m1, zI_m1', Int32.add_zero, Int32.or_zero]
    grind [wsum]
theorem ct_soulsOfLands {n : Nat} (hn : I 1 0 = zI n) (h12 : n ≤ 12) (set : Int32) :
    sm_wp X 106 0 [some (.ref 1), some (.int set), none, none] [] (sM mo G I J) Q = Q (some (.int (ssum (I 2) set n))) (sM mo G I J) := by
  rw [lp_106_0]
  refine (cnt (fun k b => sm_wp X 106 4 [some (.ref 1), some (.int set), some (.int b), some (.int (zI k))] [] (sM mo G I J) Q) (fun l a => if bt set l = true then a + I 2 l else a) 0 n ?_).trans ?_
  · intro k hk
    rw [lp_106_4, hn]
    simp (disch := first | omega | decide) only [zI_lt, zI_le, zI_eq, zI_cn, zI_vp, zI_add, zI_mul, zI_sub, zIl_add, zIr_add, zIl_mul, zIr_mul, zIr_sub, zIl_lt, zIr_lt, zIl_le, zIr_le, zIl_eq, zIr_eq, zI_sIn, zI_m1, zI_m1', Int32.add_zero, Int32.or_zero, hb_bt]
    grind
  · rw [lp_106_4, hn]
    simp (disch := first | omega | decide) only [zI_lt, zI_le, zI_eq, zI_cn, zI_vp, zI_add, zI_mul, zI_sub, zIl_add, zIr_add, zIl_mul, zIr_mul, zIr_sub, zIl_lt, zIr_lt, zIl_le, zIr_le, zIl_eq, zIr_eq, zI_sIn, zI_m1, zI_m1', Int32.add_zero, Int32.or_zero]
    grind [ssum]
theorem ct_countNear {n : Nat} (hn : I 1 0 = zI n) (h12 : n ≤ 12) (set oth : Int32) :
    sm_wp X 107 0 [some (.ref 1), some (.int set), some (.int oth), none, none] [] (sM mo G I J) Q = Q (some (.int (cnear (I 3) set oth n))) (sM mo G I J) := by
  rw [lp_107_0]
  refine (cnt (fun k b => sm_wp X 107 5 [some (.ref 1), some (.int set), some (.int oth), some (.int b), some (.int (zI k))] [] (sM mo G I J) Q) (fun l a => if bt set l = true then (if I 3 l &&& oth = 0 then a else a + 1) else a) 0 n ?_).trans ?_
  · intro k hk
    rw [lp_107_5, hn]
    simp (disch := first | omega | decide) only [zI_lt, zI_le, zI_eq, zI_cn, zI_vp, zI_add, zI_mul, zI_sub, zIl_add, zIr_add, zIl_mul, zIr_mul, zIr_sub, zIl_lt, zIr_lt, zIl_le, zIr_le, zIl_eq, zIr_eq, zI_sIn, zI_m1, zI_m1', Int32.add_zero, Int32.or_zero, hb_bt]
    grind
  · rw [lp_107_5, hn]
    simp (disch := first | omega | decide) only [zI_lt, zI_le, zI_eq, zI_cn, zI_vp, zI_add, zI_mul, zI_sub, zIl_add, zIr_add, zIl_mul, zIr_mul, zIr_sub, zIl_lt, zIr_lt, zIl_le, zIr_le, zIl_eq, zIr_eq, zI_sIn, zI_m1, zI_m1', Int32.add_zero, Int32.or_zero]
    grind [cnear]
theorem ct_Mbits (x : Int32) :
    sm_wp X 219 0 [some (.int x), none, none] [] (sM mo G I J) Q = Q (some (.int (popc x))) (sM mo G I J) := by
  rw [lp_219_0]
  refine (cnt (fun k b => sm_wp X 219 4 [some (.int x), some (.int b), some (.int (zI k))] [] (sM mo G I J) Q) (fun k a => a + (if bt x k = true then 1 else 0)) 0 12 ?_).trans ?_
  · intro k hk
    rw [lp_219_4]
    simp (disch := first | omega | decide) only [zI_lt, zI_le, zI_eq, zI_cn, zI_vp, zI_add, zI_mul, zI_sub, zIl_add, zIr_add, zIl_mul, zIr_mul, zIr_sub, zIl_lt, zIr_lt, zIl_le, zIr_le, zIl_eq, zIr_eq, zI_sIn, zI_m1, zI_m1', Int32.add_zero, Int32.or_zero, shr_bt]
    grind
  · rw [lp_219_4]
    simp (disch := first | omega | decide) only [zI_lt, zI_le, zI_eq, zI_cn, zI_vp, zI_add, zI_mul, zI_sub, zIl_add, zIr_add, zIl_mul, zIr_mul, zIr_sub, zIl_lt, zIr_lt, zIl_le, zIr_le, zIl_eq, zIr_eq, zI_sIn, zI_m1, zI_m1', Int32.add_zero, Int32.or_zero]
    grind [popc]
theorem ct_Mholdings {n : Nat} (hn : I 81 3 = zI n) (h12 : n ≤ 12) (s : Int32) :
    sm_wp X 223 0 [some (.ref 81), some (.int s), none, none] [] (sM mo G I J) Q = Q (some (.int (hlds (I 85) s n))) (sM mo G I J) := by
  rw [lp_223_0]
  refine (cnt (fun k b => sm_wp X 223 4 [some (.ref 81), some (.int s), some (.int b), some (.int (zI k))] [] (sM mo G I J) Q) (fun l b => if I 85 l = s then b ||| b1 l else b) 0 n ?_).trans ?_
  · intro k hk
    rw [lp_223_4, hn]
    simp (disch := first | omega | decide) only [zI_lt, zI_le, zI_eq, zI_cn, zI_vp, zI_add, zI_mul, zI_sub, zIl_add, zIr_add, zIl_mul, zIr_mul, zIr_sub, zIl_lt, zIr_lt, zIl_le, zIr_le, zIl_eq, zIr_eq, zI_sIn, zI_m1, zI_m1', Int32.add_zero, Int32.or_zero]
    grind [b1]
  · rw [lp_223_4, hn]
    simp (disch := first | omega | decide) only [zI_lt, zI_le, zI_eq, zI_cn, zI_vp, zI_add, zI_mul, zI_sub, zIl_add, zIr_add, zIl_mul, zIr_mul, zIr_sub, zIl_lt, zIr_lt, zIl_le, zIr_le, zIl_eq, zIr_eq, zI_sIn, zI_m1, zI_m1', Int32.add_zero, Int32.or_zero]
    grind [hlds]
theorem wof_nI (W : Nat → Int32) {s l : Nat} (hs : s < 6) (hl : l < 12) : wof W (zI s) (zI l) = W (12 * s + l) := by
  unfold wof
  simp (disch := first | omega | decide) only [zI_lt, zI_le, zI_eq, zI_cn, zI_vp, zI_add, zI_mul, zI_sub, zIl_add, zIr_add, zIl_mul, zIr_mul, zIr_sub, zIl_lt, zIr_lt, zIl_le, zIr_le, zIl_eq, zIr_eq, zI_sIn, zI_m1, zI_m1', Int32.add_zero, Int32.or_zero]
  have : s * 12 + l = 12 * s + l := by omega
  rw [this]
  grind
theorem ct_MworthOf {n s : Nat} (hn : I 81 3 = zI n) (h12 : n ≤ 12) (hs : s < 6) (set : Int32) :
    sm_wp X 224 0 [some (.ref 81), some (.int (zI s)), some (.int set), none, none] [] (sM mo G I J) Q = Q (some (.int (wsum (I 91) (zI s) set n))) (sM mo G I J) := by
  rw [lp_224_0]
  refine (cnt (fun k b => sm_wp X 224 5 [some (.ref 81), some (.int (zI s)), some (.int set), some (.int b), some (.int (zI k))] [] (sM mo G I J) Q) (fun l a => if bt set l = true then a + wof (I 91) (zI s) (zI l) else a) 0 n ?_).trans ?_
  · intro k hk
    rw [lp_224_5, hn]
    simp (disch := first | omega | decide) only [zI_lt, zI_le, zI_eq, zI_cn, zI_vp, zI_add, zI_mul, zI_sub, zIl_add, zIr_add, zIl_mul, zIr_mul, zIr_sub, zIl_lt, zIr_lt, zIl_le, zIr_le, zIl_eq, zIr_eq, zI_sIn, zI_m1, zI_m1', Int32.add_zero, Int32.or_zero, sb_1, wof_nI]
    grind
  · rw [lp_224_5, hn]
    simp (disch := first | omega | decide) only [zI_lt, zI_le, zI_eq, zI_cn, zI_vp, zI_add, zI_mul, zI_sub, zIl_add, zIr_add, zIl_mul, zIr_mul, zIr_sub, zIl_lt, zIr_lt, zIl_le, zIr_le, zIl_eq, zIr_eq, zI_sIn, zI_m1, zI_m1', Int32.add_zero, Int32.or_zero]
    grind [wsum]
theorem ct_MsoulsOf {n : Nat} (hn : I 81 3 = zI n) (h12 : n ≤ 12) (set : Int32) :
    sm_wp X 258 0 [some (.ref 81), some (.int set), none, none] [] (sM mo G I J) Q = Q (some (.int (ssum (I 83) set n))) (sM mo G I J) := by
  rw [lp_258_0]
  refine (cnt (fun k b => sm_wp X 258 4 [some (.ref 81), some (.int set), some (.int b), some (.int (zI k))] [] (sM mo G I J) Q) (fun l a => if bt set l = true then a + I 83 l else a) 0 n ?_).trans ?_
  · intro k hk
    rw [lp_258_4, hn]
    simp (disch := first | omega | decide) only [zI_lt, zI_le, zI_eq, zI_cn, zI_vp, zI_add, zI_mul, zI_sub, zIl_add, zIr_add, zIl_mul, zIr_mul, zIr_sub, zIl_lt, zIr_lt, zIl_le, zIr_le, zIl_eq, zIr_eq, zI_sIn, zI_m1, zI_m1', Int32.add_zero, Int32.or_zero, sb_1]
    grind
  · rw [lp_258_4, hn]
    simp (disch := first | omega | decide) only [zI_lt, zI_le, zI_eq, zI_cn, zI_vp, zI_add, zI_mul, zI_sub, zIl_add, zIr_add, zIl_mul, zIr_mul, zIr_sub, zIl_lt, zIr_lt, zIl_le, zIr_le, zIl_eq, zIr_eq, zI_sIn, zI_m1, zI_m1', Int32.add_zero, Int32.or_zero]
    grind [ssum]
end L1
