/-! Values of lines. -/
def cval (nv V : Nat → Int64) (h x : Nat) : Option Int64 := if 100 ≤ x then some (zI (x - 100)).toInt64 else if 7 ≤ x ∧ x < 19 then some (nv (x - 7)) else if x = 4 then some (if V (h - 1) = 0 then 1 else 0) else if x = 33 then some (-(V (h - 1))) else bopv x (V (h - 2)) (V (h - 1))
def stpv (nv : Nat → Int64) (h x : Nat) (o : Option (Nat → Int64)) : Option (Nat → Int64) := match o with
  | none => none
  | some V => match cval nv V h x with
    | none => none
    | some v => some (va_up V (h - ar x) v)
def evl (nv : Nat → Int64) (c : Nat → Nat) (f : Nat) : Nat → Option (Nat → Int64)
  | 0 => some (fun _ => 0)
  | k + 1 => stpv nv (hg c f k) (c (f + k)) (evl nv c f k)
def topv (o : Option (Nat → Int64)) : Int64 := match o with
  | none => -9223372036854775808
  | some V => V 0
def lval (nv : Nat → Int64) (c : Nat → Nat) (f e : Nat) : Int64 := topv (evl nv c f (e - f))
theorem evl_s (nv : Nat → Int64) (c : Nat → Nat) (f k : Nat) : evl nv c f (k + 1) = stpv nv (hg c f k) (c (f + k)) (evl nv c f k) := rfl
theorem evl_n {nv : Nat → Int64} {c : Nat → Nat} {f k : Nat} (h : evl nv c f k = none) : ∀ d, evl nv c f (k + d) = none := by
  intro d
  induction d with
  | zero => exact h
  | succ d ih => rw [show k + (d + 1) = (k + d) + 1 from rfl, evl_s, ih]; rfl
theorem vl_s (V : Nat → Int64) (k : Nat) (v : Int64) : va_up V k v k = v := if_pos rfl
theorem vl_n (V : Nat → Int64) {k j : Nat} (v : Int64) (h : ¬ j = k) : va_up V k v j = V j := if_neg h
theorem i32_b (x : Int32) : bnd x.toInt64 := by
  have a := x.le_toInt
  have b := x.toInt_lt
  unfold bnd
  rw [Jvm.Kit.i64_of_i32]
  omega
theorem ar_2 {x : Nat} (h : vcd x) (h1 : ¬ 100 ≤ x) (h2 : ¬ (7 ≤ x ∧ x < 19)) (h3 : ¬ x = 4) (h4 : ¬ x = 33) : ar x = 2 ∧ (x = 5 ∨ x = 6 ∨ (19 ≤ x ∧ x ≤ 29)) := by
  unfold vcd at h
  refine ⟨?_, by omega⟩
  unfold ar
  rw [if_neg (by omega), if_neg (by omega)]
theorem cval_b {nv V : Nat → Int64} {h x : Nat} {v : Int64} (hx : vcd x) (ha : ar x ≤ h) (hn : ∀ i, i < 12 → bnd (nv i)) (hV : ∀ j, j < h → bnd (V j)) (e : cval nv V h x = some v) : bnd v := by
  unfold cval at e
  have s : ∀ {a b : Int64}, some a = some b → a = b := fun e => Option.some.inj e
  by_cases g1 : 100 ≤ x
  · rw [if_pos g1] at e; rw [← s e]; exact i32_b _
  rw [if_neg g1] at e
  by_cases g2 : 7 ≤ x ∧ x < 19
  · rw [if_pos g2] at e; rw [← s e]; exact hn _ (by omega)
  rw [if_neg g2] at e
  by_cases g3 : x = 4
  · rw [if_pos g3] at e; rw [← s e]; exact bnd_1 _
  rw [if_neg g3] at e
  by_cases g4 : x = 33
  · have a1 : ar x = 1 := by rw [g4]; rfl
    rw [if_pos g4] at e
    rw [← s e]
    have b := hV (h - 1) (by omega)
    unfold bnd
    rw [neg_t b]
    have := b.1
    have := b.2
    omega
  rw [if_neg g4] at e
  have a2 := (ar_2 hx g1 g2 g3 g4).1
  exact bop_b (hV _ (by omega)) (hV _ (by omega)) e
theorem stpv_b {nv V W : Nat → Int64} {h x : Nat} (hx : vcd x) (ha : ar x ≤ h) (hn : ∀ i, i < 12 → bnd (nv i)) (hV : ∀ j, j < h → bnd (V j)) (e : stpv nv h x (some V) = some W) : ∃ v, cval nv V h x = some v ∧ bnd v ∧ W = va_up V (h - ar x) v ∧ ∀ j, j < h - ar x + 1 → bnd (W j) := by
  have e1 : stpv nv h x (some V) = match cval nv V h x with
    | none => none
    | some v => some (va_up V (h - ar x) v) := rfl
  rw [e1] at e
  cases hc : cval nv V h x with
  | none => rw [hc] at e; cases e
  | some v =>
    rw [hc] at e
    have e2 : va_up V (h - ar x) v = W := Option.some.inj e
    have b := cval_b hx ha hn hV hc
    refine ⟨v, rfl, b, e2.symm, fun j hj => ?_⟩
    rw [← e2]
    by_cases g : j = h - ar x
    · rw [g, vl_s]; exact b
    · rw [vl_n _ _ g]; exact hV j (by omega)
theorem stpv_n {nv V : Nat → Int64} {h x : Nat} (hc : cval nv V h x = none) : stpv nv h x (some V) = none := by
  have e1 : stpv nv h x (some V) = match cval nv V h x with
    | none => none
    | some v => some (va_up V (h - ar x) v) := rfl
  rw [e1, hc]
theorem stpv_y {nv V : Nat → Int64} {h x : Nat} {v : Int64} (hc : cval nv V h x = some v) : stpv nv h x (some V) = some (va_up V (h - ar x) v) := by
  have e1 : stpv nv h x (some V) = match cval nv V h x with
    | none => none
    | some v => some (va_up V (h - ar x) v) := rfl
  rw [e1, hc]
theorem bnd_M {v : Int64} (h : bnd v) : ¬ lg_cmp v (-9223372036854775808) = 0 := by
  rw [lg_cmp_eq]
  intro e
  rw [e] at h
  exact nbM h
section V2
variable {X : (Nat → Int32) × Nat} {mo : Bool} {G : Nat × Nat} {I : Nat → Nat → Int32} {J : Nat → Nat → Int64} {Q : Option Value → sm_M → Prop}
/-- the class's stack -/
def skC (h : Nat) (V nv : Nat → Int64) (I K : Nat → Nat → Int32) (J J' : Nat → Nat → Int64) : Prop := K 45 5 = zI h ∧ (∀ j, j < h → J' 47 j = V j) ∧ (∀ i, i < 12 → J' 46 i = nv i) ∧ (∀ d, ¬ d = 45 → K d = I d) ∧ (∀ j, ¬ j = 5 → K 45 j = I 45 j) ∧ ∀ d, ¬ d = 47 → J' d = J d
theorem c_pop1 {h : Nat} {V nv : Nat → Int64} {K : Nat → Nat → Int32} {J' : Nat → Nat → Int64} (st : skC h V nv I K J J') (h1 : 1 ≤ h) (h64 : h ≤ 64) (hQ : ∀ L, skC (h - 1) V nv I L J J' → Q (some (.long (V (h - 1)))) (sM mo G L J')) : sm_wp X 28 0 [some (.ref 45)] [] (sM mo G K J') Q := by
  obtain ⟨k1, k2, k3, k4, k5, k6⟩ := st
  rw [ct_Del_pop, k1, if_neg (by rw [zIr_lt (c := 1) (by decide) (by omega)]; show ¬ h < 1; omega), if_pos (by rw [zIr_le (c := 64) (by decide) (by omega)]; exact h64), show zI h - 1 = zI (h - 1) from zIr_sub (c := 1) h1, zI_vp (by omega), zI_cn (by omega), k2 (h - 1) (by omega)]
  exact ⟨by omega, hQ _ ⟨by simp (decide := true) only [up2_ra, up2_rn, va_ap, ne_eq, if_false, if_true, not_false_eq_true], fun j hj => k2 j (by omega), k3, fun d hd => by rw [up2_rn _ _ _ _ _ hd]; exact k4 d hd, fun j hj => by rw [up2_ra, va_ap, if_neg hj]; exact k5 j hj, k6⟩⟩
theorem c_psh1 {h : Nat} {V nv : Nat → Int64} {K : Nat → Nat → Int32} {J' : Nat → Nat → Int64} {v : Int64} (st : skC h V nv I K J J') (h64 : h < 64) (hQ : ∀ L J'', skC (h + 1) (va_up V h v) nv I L J J'' → Q none (sM mo G L J'')) : sm_wp X 31 0 [some (.ref 45), some (.long v), none] [] (sM mo G K J') Q := by
  obtain ⟨k1, k2, k3, k4, k5, k6⟩ := st
  rw [ct_Del_push, k1, if_neg (by rw [zIr_lt (c := 0) (by decide) (by omega)]; exact Nat.not_lt_zero _), if_neg (by rw [zIl_le (c := 64) (by decide) (by omega)]; show ¬ 64 ≤ h; omega), zI_vp (by omega), zI_cn (by omega), show zI h + 1 = zI (h + 1) from zIr_add 1 h]
  refine ⟨h64, hQ _ _ ⟨by simp (decide := true) only [up2_ra, up2_rn, va_ap, ne_eq, if_false, if_true, not_false_eq_true], fun j hj => ?_, fun i hi => ?_, fun d hd => by rw [up2_rn _ _ _ _ _ hd]; exact k4 d hd, fun j hj => by rw [up2_ra, va_ap, if_neg hj]; exact k5 j hj, fun d hd => by rw [up2_rn _ _ _ _ _ hd]; exact k6 d hd⟩⟩
  · rw [up2_ra]
    by_cases e : j = h
    · rw [e, vl_s, vl_s]
    · rw [vl_n _ _ e, vl_n _ _ e]; exact k2 j (by omega)
  · rw [up2_rn _ _ _ _ _ (by decide)]; exact k3 i hi
/-- a code -/
theorem c_27 {h x : Nat} {V nv : Nat → Int64} {K : Nat → Nat → Int32} {J' : Nat → Nat → Int64} (hx : vcd x) (ha : ar x ≤ h) (h64 : h ≤ 64) (hn : ∀ i, i < 12 → bnd (nv i)) (hV : ∀ j, j < h → bnd (V j)) (st : skC h V nv I K J J')
    (hQ : ∀ L, skC (h - ar x) V nv I L J J' → Q (some (.long (orM (cval nv V h x)))) (sM mo G L J')) : sm_wp X 27 0 [some (.ref 45), some (.int (zI x)), none, none, none, none, none, none] [] (sM mo G K J') Q := by
  have x31 : x < 2147483648 := by unfold vcd at hx; omega
  unfold cval at hQ
  by_cases g1 : 100 ≤ x
  · rw [lp_27_0, if_neg (by rw [zIr_lt (c := 100) (by decide) (by omega)]; show ¬ x < 100; omega), show zI x - 100 = zI (x - 100) from zIr_sub (c := 100) g1]
    rw [if_pos g1] at hQ
    have a0 : ar x = 0 := by unfold ar; rw [if_pos (Or.inl g1)]
    rw [a0] at hQ
    exact hQ K st
  rw [if_neg g1] at hQ
  rw [lp_27_0, if_pos (by rw [zIr_lt (c := 100) (by decide) (by omega)]; show x < 100; omega)]
  by_cases g2 : 7 ≤ x ∧ x < 19
  · rw [if_pos g2] at hQ
    have a0 : ar x = 0 := by unfold ar; rw [if_pos (Or.inr g2)]
    rw [a0] at hQ
    rw [if_neg (by rw [zIr_lt (c := 7) (by decide) (by omega)]; show ¬ x < 7; omega), if_neg (by rw [zIl_le (c := 19) (by decide) (by omega)]; show ¬ 19 ≤ x; omega), show zI x - 7 = zI (x - 7) from zIr_sub (c := 7) g2.1, zI_vp (by omega), zI_cn (by omega), st.2.2.1 (x - 7) (by omega)]
    exact ⟨by omega, hQ K st⟩
  rw [if_neg g2] at hQ
  have h1 : 1 ≤ ar x := by
    by_cases g3 : x = 4
    · rw [g3]; decide
    · by_cases g4 : x = 33
      · rw [g4]; decide
      · rw [(ar_2 hx g1 g2 g3 g4).1]; decide
  have rest : sm_wp X 28 0 [some (.ref 45)] [] (sM mo G K J') (fun v M => sm_wp X 27 38 [some (.ref 45), some (.int (zI x)), none, none, none, none, none, none] (v.toList ++ []) M Q) := by
    refine c_pop1 st (by omega) h64 ?_
    intro L sL
    simp only [tl_some]
    rw [lp_27_38]
    by_cases g3 : x = 4
    · rw [if_pos g3] at hQ
      have a1 : ar x = 1 := by rw [g3]; rfl
      rw [a1] at hQ
      rw [if_neg (fun e => e (by rw [g3]; rfl))]
      have q := hQ L sL
      by_cases z : V (h - 1) = 0
      · rw [if_pos z] at q
        rw [if_neg (fun e => e ((lg_cmp_eq _ _).mpr z))]
        exact q
      · rw [if_neg z] at q
        rw [if_pos (fun e => z ((lg_cmp_eq _ _).mp e))]
        exact q
    · rw [if_neg g3] at hQ
      rw [if_pos (by rw [zIr_eq (c := 4) (by decide) (by omega)]; exact g3)]
      by_cases g4 : x = 33
      · rw [if_pos g4] at hQ
        have a1 : ar x = 1 := by rw [g4]; rfl
        rw [a1] at hQ
        rw [if_neg (fun e => e (by rw [g4]; rfl))]
        exact hQ L sL
      · rw [if_neg g4] at hQ
        obtain ⟨a2, hb⟩ := ar_2 hx g1 g2 g3 g4
        rw [a2] at hQ
        rw [if_pos (by rw [zIr_eq (c := 33) (by decide) (by omega)]; exact g4)]
        refine c_pop1 sL (by omega) (by omega) ?_
        intro L2 sL2
        simp only [tl_some]
        refine c_69 hb (hV _ (by omega)) (hV _ (by omega)) ?_
        rw [show h - 1 - 1 = h - 2 from by omega] at sL2 ⊢
        exact hQ L2 sL2
  by_cases l7 : x < 7
  · rw [if_pos (by rw [zIr_lt (c := 7) (by decide) (by omega)]; exact l7)]
    exact rest
  · rw [if_neg (by rw [zIr_lt (c := 7) (by decide) (by omega)]; exact l7), if_pos (by rw [zIl_le (c := 19) (by decide) (by omega)]; show 19 ≤ x; omega)]
    exact rest
/-- a line by the class -/
theorem c_26l {s f e : Nat} {c : Nat → Nat} {nv : Nat → Int64} (hs : s < 6) (he : e ≤ 64) (hc : ∀ k, k < e → I 23 (64 * s + k) = zI (c k) ∧ vcd (c k)) (hp : pL c f e) (h1 : hg c f (e - f) = 1) (hn : ∀ i, i < 12 → bnd (nv i))
    (hQ : ∀ L J', (∀ d, ¬ d = 45 → L d = I d) → (∀ j, ¬ j = 5 → L 45 j = I 45 j) → (∀ d, ¬ d = 47 → J' d = J d) → Q (some (.long (lval nv c f e))) (sM mo G L J')) : ∀ d k V K J', f + k + d = e → evl nv c f k = some V → (∀ j, j < hg c f k → bnd (V j)) → skC (hg c f k) V nv I K J J' → sm_wp X 26 36 [some (.ref 45), some (.int (zI s)), none, some (.int (zI e)), some (.int (zI (f + k))), none, none] [] (sM mo G K J') Q := by
  intro d
  induction d with
  | zero =>
    intro k V K J' hk ev hV st
    have ek : e - f = k := by omega
    rw [ek] at h1
    rw [lp_26_36, if_pos (by rw [zI_le (by omega) (by omega)]; omega)]
    rw [h1] at st
    refine c_pop1 st (Nat.le_refl _) (by omega) ?_
    intro L sL
    simp only [tl_some]
    rw [lp_26_87]
    have q := hQ L J' sL.2.2.2.1 sL.2.2.2.2.1 sL.2.2.2.2.2
    unfold lval at q
    rw [ek, ev] at q
    exact q
  | succ d ih =>
    intro k V K J' hk ev hV st
    have hgk := hg_b c f k
    obtain ⟨e23, vc⟩ := hc (f + k) (by omega)
    have ca : vf_Book_codeAt K (zI s) (zI (f + k)) = zI (c (f + k)) := by
      unfold vf_Book_codeAt
      rw [if_neg (by rw [zIr_lt (c := 0) (by decide) (by omega)]; exact Nat.not_lt_zero _), if_neg (by rw [zIl_le (c := 6) (by decide) (by omega)]; show ¬ 6 ≤ s; omega), if_neg (by rw [zIr_lt (c := 0) (by decide) (by omega)]; exact Nat.not_lt_zero _), if_pos (by rw [zIr_lt (c := 64) (by decide) (by omega)]; show f + k < 64; omega), show zI s * 64 = zI (s * 64) from zIr_mul 64 s, zI_add, zI_cn (by omega), st.2.2.2.1 23 (by decide), show s * 64 + (f + k) = 64 * s + (f + k) from by omega]
      exact e23
    have hpk := hp k (by omega)
    rw [lp_26_36, if_neg (by rw [zI_le (by omega) (by omega)]; omega), ca]
    refine c_27 vc hpk (by omega) hn hV st ?_
    intro L sL
    simp only [tl_some]
    rw [lp_26_56]
    cases hv : cval nv V (hg c f k) (c (f + k)) with
    | none =>
      have en : evl nv c f (k + 1) = none := by rw [evl_s, ev]; exact stpv_n hv
      have en2 : evl nv c f (e - f) = none := by rw [show e - f = k + 1 + (e - f - (k + 1)) from by omega]; exact evl_n en _
      have q := hQ L J' sL.2.2.2.1 sL.2.2.2.2.1 sL.2.2.2.2.2
      unfold lval at q
      rw [en2] at q
      rw [if_neg (fun e => e ((lg_cmp_eq _ _).mpr rfl))]
      exact q
    | some v =>
      have bv := cval_b vc hpk hn hV hv
      have es : evl nv c f (k + 1) = some (va_up V (hg c f k - ar (c (f + k))) v) := by rw [evl_s, ev]; exact stpv_y hv
      rw [if_pos (show ¬ lg_cmp (orM (some v)) (-9223372036854775808) = 0 from bnd_M bv)]
      refine c_psh1 (v := orM (some v)) sL (by omega) ?_
      intro L2 J2 sL2
      simp only [tl_none]
      rw [lp_26_77, show zI (f + k) + 1 = zI (f + (k + 1)) from zIr_add 1 _]
      refine ih (k + 1) _ L2 J2 (by omega) es (fun j hj => ?_) sL2
      rw [hg_s] at hj
      by_cases g : j = hg c f k - ar (c (f + k))
      · rw [g, vl_s]; exact bv
      · rw [vl_n _ _ g]; exact hV j (by omega)
end V2
