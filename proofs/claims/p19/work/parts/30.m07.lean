section
/-! Values of lines. -/
def cval (nv V : Nat → Int64) (h x : Nat) : Option Int64 := if 100 ≤ x then some (zI (x - 100)).toInt64 else if 7 ≤ x ∧ x < 19 then some (nv (x - 7)) else if x = 4 then some (if V (h - 1) = 0 then 1 else 0) else if x = 33 then some (-(V (h - 1))) else bopv x (V (h - 2)) (V (h - 1))
def stpv (nv : Nat → Int64) (h x : Nat) (o : Option (Nat → Int64)) : Option (Nat → Int64) := match o with
  | none => none
  | some V => match cval nv V h x with
    | none => none
    | some v => some (va_up V (h - ar x) v)
def evl (nv : Nat → Int64) (c : Nat → Nat) (f : Nat) : Nat → Option (Nat → Int64)
  | 0 => some (fun _ => 0)
  | k + 1 => stpv nv (hg c f k) (c (f + k)) (evl nv c f k)
def topv (o : Option (Nat → Int64)) : Int64 := match o with
  | none => -9223372036854775808
  | some V => V 0
def lval (nv : Nat → Int64) (c : Nat → Nat) (f e : Nat) : Int64 := topv (evl nv c f (e - f))
theorem evl_s (nv : Nat → Int64) (c : Nat → Nat) (f k : Nat) : evl nv c f (k + 1) = stpv nv (hg c f k) (c (f + k)) (evl nv c f k) := rfl
theorem evl_n {nv : Nat → Int64} {c : Nat → Nat} {f k : Nat} (h : evl nv c f k = none) : ∀ d, evl nv c f (k + d) = none := by
  intro d
  induction d with
  | zero => exact h
  | succ d ih => rw [show k + (d + 1) = (k + d) + 1 from rfl, evl_s, ih]; rfl
theorem vl_s (V : Nat → Int64) (k : Nat) (v : Int64) : va_up V k v k = v := if_pos rfl
theorem vl_n (V : Nat → Int64) {k j : Nat} (v : Int64) (h : ¬ j = k) : va_up V k v j = V j := if_neg h
theorem i32_b (x : Int32) : bnd x.toInt64 := by
  have a := x.le_toInt
  have b := x.toInt_lt
  unfold bnd
  rw [Jvm.Kit.i64_of_i32]
  omega
theorem ar_2 {x : Nat} (h : vcd x) (h1 : ¬ 100 ≤ x) (h2 : ¬ (7 ≤ x ∧ x < 19)) (h3 : ¬ x = 4) (h4 : ¬ x = 33) : ar x = 2 ∧ (x = 5 ∨ x = 6 ∨ (19 ≤ x ∧ x ≤ 29)) := by
  unfold vcd at h
  refine ⟨?_, by omega⟩
  unfold ar
  rw [if_neg (by omega), if_neg (by omega)]
theorem cval_b {nv V : Nat → Int64} {h x : Nat} {v : Int64} (hx : vcd x) (ha : ar x ≤ h) (hn : ∀ i, i < 12 → bnd (nv i)) (hV : ∀ j, j < h → bnd (V j)) (e : cval nv V h x = some v) : bnd v := by
  unfold cval at e
  have s : ∀ {a b : Int64}, some a = some b → a = b := fun e => Option.some.inj e
  by_cases g1 : 100 ≤ x
  · rw [if_pos g1] at e; rw [← s e]; exact i32_b _
  rw [if_neg g1] at e
  by_cases g2 : 7 ≤ x ∧ x < 19
  · rw [if_pos g2] at e; rw [← s e]; exact hn _ (by omega)
  rw [if_neg g2] at e
  by_cases g3 : x = 4
  · rw [if_pos g3] at e; rw [← s e]; exact bnd_1 _
  rw [if_neg g3] at e
  by_cases g4 : x = 33
  · have a1 : ar x = 1 := by rw [g4]; rfl
    rw [if_pos g4] at e
    rw [← s e]
    have b := hV (h - 1) (by omega)
    unfold bnd
    rw [neg_t b]
    have := b.1
    have := b.2
    omega
  rw [if_neg g4] at e
  have a2 := (ar_2 hx g1 g2 g3 g4).1
  exact bop_b (hV _ (by omega)) (hV _ (by omega)) e
theorem stpv_b {nv V W : Nat → Int64} {h x : Nat} (hx : vcd x) (ha : ar x ≤ h) (hn : ∀ i, i < 12 → bnd (nv i)) (hV : ∀ j, j < h → bnd (V j)) (e : stpv nv h x (some V) = some W) : ∃ v, cval nv V h x = some v ∧ bnd v ∧ W = va_up V (h - ar x) v ∧ ∀ j, j < h - ar x + 1 → bnd (W j) := by
  have e1 : stpv nv h x (some V) = match cval nv V h x with
    | none => none
    | some v => some (va_up V (h - ar x) v) := rfl
  rw [e1] at e
  cases hc : cval nv V h x with
  | none => rw [hc] at e; cases e
  | some v =>
    rw [hc] at e
    have e2 : va_up V (h - ar x) v = W := Option.some.inj e
    have b := cval_b hx ha hn hV hc
    refine ⟨v, rfl, b, e2.symm, fun j hj => ?_⟩
    rw [← e2]
    by_cases g : j = h - ar x
    · rw [g, vl_s]; exact b
    · rw [vl_n _ _ g]; exact hV j (by omega)
theorem stpv_n {nv V : Nat → Int64} {h x : Nat} (hc : cval nv V h x = none) : stpv nv h x (some V) = none := by
  have e1 : stpv nv h x (some V) = match cval nv V h x with
    | none => none
    | some v => some (va_up V (h - ar x) v) := rfl
  rw [e1, hc]
theorem stpv_y {nv V : Nat → Int64} {h x : Nat} {v : Int64} (hc : cval nv V h x = some v) : stpv nv h x (some V) = some (va_up V (h - ar x) v) := by
  have e1 : stpv nv h x (some V) = match cval nv V h x with
    | none => none
    | some v => some (va_up V (h - ar x) v) := rfl
  rw [e1, hc]
theorem bnd_M {v : Int64} (h : bnd v) : ¬ lg_cmp v (-9223372036854775808) = 0 := by
  rw [lg_cmp_eq]
  intro e
  rw [e] at h
  exact nbM h
section V2
variable {X : (Nat → Int32) × Nat} {mo : Bool} {G : Nat × Nat} {I : Nat → Nat → Int32} {J : Nat → Nat → Int64} {Q : Option Value → sm_M → Prop}
/-- the class's stack -/
def skC (h : Nat) (V nv : Nat → Int64) (I K : Nat → Nat → Int32) (J J' : Nat → Nat → Int64) : Prop := K 45 5 = zI h ∧ (∀ j, j < h → J' 47 j = V j) ∧ (∀ i, i < 12 → J' 46 i = nv i) ∧ (∀ d, ¬ d = 45 → K d = I d) ∧ (∀ j, ¬ j = 5 → K 45 j = I 45 j) ∧ ∀ d, ¬ d = 47 → J' d = J d
theorem c_pop1 {h : Nat} {V nv : Nat → Int64} {K : Nat → Nat → Int32} {J' : Nat → Nat → Int64} (st : skC h V nv I K J J') (h1 : 1 ≤ h) (h64 : h ≤ 64) (hQ : ∀ L, skC (h - 1) V nv I L J J' → Q (some (.long (V (h - 1)))) (sM mo G L J')) : sm_wp X 28 0 [some (.ref 45)] [] (sM mo G K J') Q := by
  obtain ⟨k1, k2, k3, k4, k5, k6⟩ := st
  rw [ct_Del_pop, k1, if_neg (by rw [zIr_lt (c := 1) (by decide) (by omega)]; show ¬ h < 1; omega), if_pos (by rw [zIr_le (c := 64) (by decide) (by omega)]; exact h64), show zI h - 1 = zI (h - 1) from zIr_sub (c := 1) h1, zI_vp (by omega), zI_cn (by omega), k2 (h - 1) (by omega)]
  exact ⟨by omega, hQ _ ⟨by simp (decide := true) only [up2_ra, up2_rn, va_ap, ne_eq, if_false, if_true, not_false_eq_true], fun j hj => k2 j (by omega), k3, fun d hd => by rw [up2_rn _ _ _ _ _ hd]; exact k4 d hd, fun j hj => by rw [up2_ra, va_ap, if_neg hj]; exact k5 j hj, k6⟩⟩
theorem c_psh1 {h : Nat} {V nv : Nat → Int64} {K : Nat → Nat → Int32} {J' : Nat → Nat → Int64} {v : Int64} (st : skC h V nv I K J J') (h64 : h < 64) (hQ : ∀ L J'', skC (h + 1) (va_up V h v) nv I L J J'' → Q none (sM mo G L J'')) : sm_wp X 31 0 [some (.ref 45), some (.long v), none] [] (sM mo G K J') Q := by
  obtain ⟨k1, k2, k3, k4, k5, k6⟩ := st
  rw [ct_Del_push, k1, if_neg (by rw [zIr_lt (c := 0) (by decide) (by omega)]; exact Nat.not_lt_zero _), if_neg (by rw [zIl_le (c := 64) (by decide) (by omega)]; show ¬ 64 ≤ h; omega), zI_vp (by omega), zI_cn (by omega), show zI h + 1 = zI (h + 1) from zIr_add 1 h]
  refine ⟨h64, hQ _ _ ⟨by simp (decide := true) only [up2_ra, up2_rn, va_ap, ne_eq, if_false, if_true, not_false_eq_true], fun j hj => ?_, fun i hi => ?_, fun d hd => by rw [up2_rn _ _ _ _ _ hd]; exact k4 d hd, fun j hj => by rw [up2_ra, va_ap, if_neg hj]; exact k5 j hj, fun d hd => by rw [up2_rn _ _ _ _ _ hd]; exact k6 d hd⟩⟩
  · rw [up2_ra]
    by_cases e : j = h
    · rw [e, vl_s, vl_s]
    · rw [vl_n _ _ e, vl_n _ _ e]; exact k2 j (by omega)
  · rw [up2_rn _ _ _ _ _ (by decide)]; exact k3 i hi
/-- a code -/
theorem c_27 {h x : Nat} {V nv : Nat → Int64} {K : Nat → Nat → Int32} {J' : Nat → Nat → Int64} (hx : vcd x) (ha : ar x ≤ h) (h64 : h ≤ 64) (hn : ∀ i, i < 12 → bnd (nv i)) (hV : ∀ j, j < h → bnd (V j)) (st : skC h V nv I K J J')
    (hQ : ∀ L, skC (h - ar x) V nv I L J J' → Q (some (.long (orM (cval nv V h x)))) (sM mo G L J')) : sm_wp X 27 0 [some (.ref 45), some (.int (zI x)), none, none, none, none, none, none] [] (sM mo G K J') Q := by
  have x31 : x < 2147483648 := by unfold vcd at hx; omega
  unfold cval at hQ
  by_cases g1 : 100 ≤ x
  · rw [lp_27_0, if_neg (by rw [zIr_lt (c := 100) (by decide) (by omega)]; show ¬ x < 100; omega), show zI x - 100 = zI (x - 100) from zIr_sub (c := 100) g1]
    rw [if_pos g1] at hQ
    have a0 : ar x = 0 := by unfold ar; rw [if_pos (Or.inl g1)]
    rw [a0] at hQ
    exact hQ K st
  rw [if_neg g1] at hQ
  rw [lp_27_0, if_pos (by rw [zIr_lt (c := 100) (by decide) (by omega)]; show x < 100; omega)]
  by_cases g2 : 7 ≤ x ∧ x < 19
  · rw [if_pos g2] at hQ
    have a0 : ar x = 0 := by unfold ar; rw [if_pos (Or.inr g2)]
    rw [a0] at hQ
    rw [if_neg (by rw [zIr_lt (c := 7) (by decide) (by omega)]; show ¬ x < 7; omega), if_neg (by rw [zIl_le (c := 19) (by decide) (by omega)]; show ¬ 19 ≤ x; omega), show zI x - 7 = zI (x - 7) from zIr_sub (c := 7) g2.1, zI_vp (by omega), zI_cn (by omega), st.2.2.1 (x - 7) (by omega)]
    exact ⟨by omega, hQ K st⟩
  rw [if_neg g2] at hQ
  have h1 : 1 ≤ ar x := by
    by_cases g3 : x = 4
    · rw [g3]; decide
    · by_cases g4 : x = 33
      · rw [g4]; decide
      · rw [(ar_2 hx g1 g2 g3 g4).1]; decide
  have rest : sm_wp X 28 0 [some (.ref 45)] [] (sM mo G K J') (fun v M => sm_wp X 27 38 [some (.ref 45), some (.int (zI x)), none, none, none, none, none, none] (v.toList ++ []) M Q) := by
    refine c_pop1 st (by omega) h64 ?_
    intro L sL
    simp only [tl_some]
    rw [lp_27_38]
    by_cases g3 : x = 4
    · rw [if_pos g3] at hQ
      have a1 : ar x = 1 := by rw [g3]; rfl
      rw [a1] at hQ
      rw [if_neg (fun e => e (by rw [g3]; rfl))]
      have q := hQ L sL
      by_cases z : V (h - 1) = 0
      · rw [if_pos z] at q
        rw [if_neg (fun e => e ((lg_cmp_eq _ _).mpr z))]
        exact q
      · rw [if_neg z] at q
        rw [if_pos (fun e => z ((lg_cmp_eq _ _).mp e))]
        exact q
    · rw [if_neg g3] at hQ
      rw [if_pos (by rw [zIr_eq (c := 4) (by decide) (by omega)]; exact g3)]
      by_cases g4 : x = 33
      · rw [if_pos g4] at hQ
        have a1 : ar x = 1 := by rw [g4]; rfl
        rw [a1] at hQ
        rw [if_neg (fun e => e (by rw [g4]; rfl))]
        exact hQ L sL
      · rw [if_neg g4] at hQ
        obtain ⟨a2, hb⟩ := ar_2 hx g1 g2 g3 g4
        rw [a2] at hQ
        rw [if_pos (by rw [zIr_eq (c := 33) (by decide) (by omega)]; exact g4)]
        refine c_pop1 sL (by omega) (by omega) ?_
        intro L2 sL2
        simp only [tl_some]
        refine c_69 hb (hV _ (by omega)) (hV _ (by omega)) ?_
        rw [show h - 1 - 1 = h - 2 from by omega] at sL2 ⊢
        exact hQ L2 sL2
  by_cases l7 : x < 7
  · rw [if_pos (by rw [zIr_lt (c := 7) (by decide) (by omega)]; exact l7)]
    exact rest
  · rw [if_neg (by rw [zIr_lt (c := 7) (by decide) (by omega)]; exact l7), if_pos (by rw [zIl_le (c := 19) (by decide) (by omega)]; show 19 ≤ x; omega)]
    exact rest
/-- a line by the class -/
theorem c_26l {s f e : Nat} {c : Nat → Nat} {nv : Nat → Int64} (hs : s < 6) (he : e ≤ 64) (hc : ∀ k, k < e → I 23 (64 * s + k) = zI (c k) ∧ vcd (c k)) (hp : pL c f e) (h1 : hg c f (e - f) = 1) (hn : ∀ i, i < 12 → bnd (nv i))
    (hQ : ∀ L J', (∀ d, ¬ d = 45 → L d = I d) → (∀ j, ¬ j = 5 → L 45 j = I 45 j) → (∀ d, ¬ d = 47 → J' d = J d) → Q (some (.long (lval nv c f e))) (sM mo G L J')) : ∀ d k V K J', f + k + d = e → evl nv c f k = some V → (∀ j, j < hg c f k → bnd (V j)) → skC (hg c f k) V nv I K J J' → sm_wp X 26 36 [some (.ref 45), some (.int (zI s)), none, some (.int (zI e)), some (.int (zI (f + k))), none, none] [] (sM mo G K J') Q := by
  intro d
  induction d with
  | zero =>
    intro k V K J' hk ev hV st
    have ek : e - f = k := by omega
    rw [ek] at h1
    rw [lp_26_36, if_pos (by rw [zI_le (by omega) (by omega)]; omega)]
    rw [h1] at st
    refine c_pop1 st (Nat.le_refl _) (by omega) ?_
    intro L sL
    simp only [tl_some]
    rw [lp_26_87]
    have q := hQ L J' sL.2.2.2.1 sL.2.2.2.2.1 sL.2.2.2.2.2
    unfold lval at q
    rw [ek, ev] at q
    exact q
  | succ d ih =>
    intro k V K J' hk ev hV st
    have hgk := hg_b c f k
    obtain ⟨e23, vc⟩ := hc (f + k) (by omega)
    have ca : vf_Book_codeAt K (zI s) (zI (f + k)) = zI (c (f + k)) := by
      unfold vf_Book_codeAt
      rw [if_neg (by rw [zIr_lt (c := 0) (by decide) (by omega)]; exact Nat.not_lt_zero _), if_neg (by rw [zIl_le (c := 6) (by decide) (by omega)]; show ¬ 6 ≤ s; omega), if_neg (by rw [zIr_lt (c := 0) (by decide) (by omega)]; exact Nat.not_lt_zero _), if_pos (by rw [zIr_lt (c := 64) (by decide) (by omega)]; show f + k < 64; omega), show zI s * 64 = zI (s * 64) from zIr_mul 64 s, zI_add, zI_cn (by omega), st.2.2.2.1 23 (by decide), show s * 64 + (f + k) = 64 * s + (f + k) from by omega]
      exact e23
    have hpk := hp k (by omega)
    rw [lp_26_36, if_neg (by rw [zI_le (by omega) (by omega)]; omega), ca]
    refine c_27 vc hpk (by omega) hn hV st ?_
    intro L sL
    simp only [tl_some]
    rw [lp_26_56]
    cases hv : cval nv V (hg c f k) (c (f + k)) with
    | none =>
      have en : evl nv c f (k + 1) = none := by rw [evl_s, ev]; exact stpv_n hv
      have en2 : evl nv c f (e - f) = none := by rw [show e - f = k + 1 + (e - f - (k + 1)) from by omega]; exact evl_n en _
      have q := hQ L J' sL.2.2.2.1 sL.2.2.2.2.1 sL.2.2.2.2.2
      unfold lval at q
      rw [en2] at q
      rw [if_neg (fun e => e ((lg_cmp_eq _ _).mpr rfl))]
      exact q
    | some v =>
      have bv := cval_b vc hpk hn hV hv
      have es : evl nv c f (k + 1) = some (va_up V (hg c f k - ar (c (f + k))) v) := by rw [evl_s, ev]; exact stpv_y hv
      rw [if_pos (show ¬ lg_cmp (orM (some v)) (-9223372036854775808) = 0 from bnd_M bv)]
      refine c_psh1 (v := orM (some v)) sL (by omega) ?_
      intro L2 J2 sL2
      simp only [tl_none]
      rw [lp_26_77, show zI (f + k) + 1 = zI (f + (k + 1)) from zIr_add 1 _]
      refine ih (k + 1) _ L2 J2 (by omega) es (fun j hj => ?_) sL2
      rw [hg_s] at hj
      by_cases g : j = hg c f k - ar (c (f + k))
      · rw [g, vl_s]; exact bv
      · rw [vl_n _ _ g]; exact hV j (by omega)
end V2
end
section
/-! Values of lines: the class's start, the reference. -/
theorem hs_in {c gb : Nat → Nat} {f : Nat} : ∀ k j, j < hg c f k → ∃ i, i < k ∧ hs c gb f k j = gb (f + i) := by
  intro k
  induction k with
  | zero => intro j hj; exact absurd hj (Nat.not_lt_zero _)
  | succ k ih =>
    intro j hj
    rw [hg_s] at hj
    rw [hs_s]
    unfold va_up
    by_cases e : j = hg c f k - ar (c (f + k))
    · rw [if_pos e]; exact ⟨k, by omega, rfl⟩
    · rw [if_neg e]
      obtain ⟨i, hi, h⟩ := ih j (by omega)
      exact ⟨i, by omega, h⟩
/-- the book of one state, with its parts named -/
def bkP (s m : Nat) (c gb vb le : Nat → Nat) (r22 r23 r24 r25 q94 q95 q96 q97 q98 q99 q100 q101 q102 : Nat → Int32) : Prop := r22 s = zI m ∧ q102 s = zI m ∧ m ≤ 16 ∧ bkC s (ls le m) c gb r23 q94 q97 q98 ∧ ∀ i, i < m → bkL s c gb vb le (ls le m) r24 r25 q95 q96 q99 q100 q101 i
section V3
variable {X : (Nat → Int32) × Nat} {mo : Bool} {G : Nat × Nat} {I : Nat → Nat → Int32} {J : Nat → Nat → Int64} {Q : Option Value → sm_M → Prop}
theorem lns_e {s m : Nat} (hs : s < 6) (h : I 22 s = zI m) : vf_Book_linesOf I (zI s) = zI m := by
  unfold vf_Book_linesOf
  rw [if_neg (by rw [zIr_lt (c := 0) (by decide) (by omega)]; exact Nat.not_lt_zero _), if_neg (by rw [zIl_le (c := 6) (by decide) (by omega)]; show ¬ 6 ≤ s; omega), zI_cn (by omega)]
  exact h
theorem isl_e {s m i : Nat} (hs : s < 6) (h : I 22 s = zI m) (hm : m ≤ 16) (hi : i < m) : vf_Book_isLine I (zI s) (zI i) := by
  refine ⟨?_, ?_, ?_⟩
  · rw [zIr_lt (c := 0) (by decide) (by omega)]; exact Nat.not_lt_zero _
  · rw [zIl_le (c := 16) (by decide) (by omega)]; show ¬ 16 ≤ i; omega
  · rw [lns_e hs h, zI_le (by omega) (by omega)]; omega
theorem end_e {s m i e : Nat} (hs : s < 6) (h : I 22 s = zI m) (hm : m ≤ 16) (hi : i < m) (he : I 25 (16 * s + i) = zI e) : vf_Book_endOf I (zI s) (zI i) = zI e := by
  unfold vf_Book_endOf
  rw [if_neg (fun g => g (isl_e hs h hm hi)), show zI s * 16 = zI (s * 16) from zIr_mul 16 s, zI_add, zI_cn (by omega), show s * 16 + i = 16 * s + i from by omega]
  exact he
theorem vrb_e {s m i v : Nat} (hs : s < 6) (h : I 22 s = zI m) (hm : m ≤ 16) (hi : i < m) (he : I 24 (16 * s + i) = zI v) : vf_Book_verbOf I (zI s) (zI i) = zI v := by
  unfold vf_Book_verbOf
  rw [if_neg (fun g => g (isl_e hs h hm hi)), show zI s * 16 = zI (s * 16) from zIr_mul 16 s, zI_add, zI_cn (by omega), show s * 16 + i = 16 * s + i from by omega]
  exact he
theorem c_26 {s m i : Nat} {c gb vb le : Nat → Nat} {nv : Nat → Int64} (hs : s < 6) (hb : bkP s m c gb vb le (I 22) (I 23) (I 24) (I 25) (I 94) (I 95) (I 96) (I 97) (I 98) (I 99) (I 100) (I 101) (I 102)) (hi : i < m) (hn : ∀ i, i < 12 → bnd (nv i)) (hJ : ∀ i, i < 12 → J 46 i = nv i)
    (hQ : ∀ L J', (∀ d, ¬ d = 45 → L d = I d) → (∀ j, ¬ j = 5 → L 45 j = I 45 j) → (∀ d, ¬ d = 47 → J' d = J d) → Q (some (.long (lval nv c (ls le i) (le i)))) (sM mo G L J')) : sm_wp X 26 0 [some (.ref 45), some (.int (zI s)), some (.int (zI i)), none, none, none, none] [] (sM mo G I J) Q := by
  obtain ⟨h22, -, hm, ⟨hT, hC, -⟩, hL⟩ := hb
  obtain ⟨a1, a2, a3, a4, a5, a6, a7, a8, a9, a10, a11⟩ := hL i hi
  have ee : vf_Book_endOf I (zI s) (zI i) = zI (le i) := end_e hs h22 hm hi a4
  have k1 : ∀ d, ¬ d = 45 → up2 I 45 5 0 d = I d := fun d hd => up2_rn _ _ _ _ _ hd
  have k2 : ∀ j, ¬ j = 5 → up2 I 45 5 0 45 j = I 45 j := fun j hj => by rw [up2_ra, va_ap, if_neg hj]
  have go := c_26l (X := X) (mo := mo) (G := G) (I := I) (J := J) (Q := Q) (s := s) (f := ls le i) (e := le i) (c := c) (nv := nv) hs (by omega) (fun k hk => ⟨(hC k (by omega)).1, (hC k (by omega)).2.1⟩) a9 a10 hn hQ (le i - ls le i) 0 (fun _ => 0) (up2 I 45 5 0) J (by omega) rfl (fun j hj => absurd hj (Nat.not_lt_zero _)) ⟨by simp (decide := true) only [up2_ra, up2_rn, va_ap, ne_eq, if_false, if_true, not_false_eq_true]; rfl, fun j hj => absurd hj (Nat.not_lt_zero _), hJ, k1, k2, fun _ _ => rfl⟩
  rw [Nat.add_zero] at go
  rw [lp_26_0, ee]
  by_cases z : i = 0
  · subst z
    rw [if_pos (by decide)]
    exact go
  · rw [if_neg (by rw [zIr_le (c := 0) (by decide) (by omega)]; show ¬ i ≤ 0; omega), show zI i - 1 = zI (i - 1) from zIr_sub (c := 1) (by show 1 ≤ i; omega)]
    have es : vf_Book_endOf (up2 I 45 5 0) (zI s) (zI (i - 1)) = zI (ls le i) := by
      have b := (hL (i - 1) (by omega)).2.2.2.1
      refine end_e hs (m := m) (by rw [k1 22 (by decide)]; exact h22) hm (by omega) ?_
      rw [k1 25 (by decide), b]
      unfold ls
      rw [if_neg z]
    rw [es]
    exact go
/-- what the reference works on -/
def skR (b h : Nat) (c gb : Nat → Nat) (f k : Nat) (V : Nat → Int64) (I K : Nat → Nat → Int32) (J J' : Nat → Nat → Int64) : Prop := (∀ j, j < h → J' 121 (b + hs c gb f k j) = V j) ∧ (∀ d, ¬ d = 81 → K d = I d) ∧ (∀ j, ¬ j = 63 → K 81 j = I 81 j) ∧ K 81 63 = 0 ∧ ∀ d, ¬ d = 121 → J' d = J d
theorem r_256l {U : Nat → Nat → Int32} {s m i p : Nat} {c gb vb le : Nat → Nat} {nm : Nat → Int32} (hU : ∀ d, 81 < d → U d = I d) (hs6 : s < 6) (hp : p < 60) (hb : bkP s m c gb vb le (I 22) (I 23) (I 24) (I 25) (I 94) (I 95) (I 96) (I 97) (I 98) (I 99) (I 100) (I 101) (I 102)) (hi : i < m)
    (hN : ∀ (K : Nat → Nat → Int32) (J' : Nat → Nat → Int64) (R : Option Value → sm_M → Prop) a, (∀ d, ¬ d = 81 → K d = U d) → (∀ j, ¬ j = 63 → K 81 j = U 81 j) → a < 12 → R (some (.int (nm a))) (sM mo G K J') → sm_wp X 257 0 [some (.ref 81), some (.int (zI a)), some (.int (zI p)), none] [] (sM mo G K J') R)
    (hQ : ∀ L J', (∀ d, ¬ d = 81 → L d = U d) → (∀ j, ¬ j = 63 → L 81 j = U 81 j) → (∀ d, ¬ d = 121 → J' d = J d) → Q (some (.long (lval (fun a => (nm a).toInt64) c (ls le i) (le i)))) (sM mo G L J')) : ∀ d k V v K J', ls le i + k + d = le i → evl (fun a => (nm a).toInt64) c (ls le i) k = some V → (∀ j, j < hg c (ls le i) k → bnd (V j)) → (k = 0 ∨ v = V (hg c (ls le i) k - 1)) → skR (64 * s) (hg c (ls le i) k) c gb (ls le i) k V U K J J' → sm_wp X 256 26 [some (.ref 81), some (.int (zI p)), none, some (.int (zI s)), some (.int (zI (16 * s + i))), some (.long v), none, some (.int (zI k)), none, none] [] (sM mo G K J') Q := by
  obtain ⟨-, h102, hm, ⟨hT, hC, hinj⟩, hL⟩ := hb
  obtain ⟨a1, a2, a3, a4, a5, a6, a7, a8, a9, a10, a11⟩ := hL i hi
  have hn : ∀ a, a < 12 → bnd ((fun a => (nm a).toInt64) a) := fun a _ => i32_b _
  -- an error ends it
  have err : ∀ k v K J', evl (fun a => (nm a).toInt64) c (ls le i) k = none → ls le i + k ≤ le i → K 81 63 = 1 → (∀ d, ¬ d = 81 → K d = U d) → (∀ j, ¬ j = 63 → K 81 j = U 81 j) → (∀ d, ¬ d = 121 → J' d = J d) → sm_wp X 256 26 [some (.ref 81), some (.int (zI p)), none, some (.int (zI s)), some (.int (zI (16 * s + i))), some (.long v), none, some (.int (zI k)), none, none] [] (sM mo G K J') Q := by
    intro k v K J' en hk k63 k1 k2 k3
    have en2 : evl (fun a => (nm a).toInt64) c (ls le i) (le i - ls le i) = none := by rw [show le i - ls le i = k + (le i - ls le i - k) from by omega]; exact evl_n en _
    have q := hQ K J' k1 k2 k3
    unfold lval at q
    rw [en2] at q
    rw [lp_256_26, zI_vp (by omega), k63]
    refine ⟨by omega, ?_⟩
    split
    · rw [if_neg (by decide)]; exact q
    · rw [if_pos (by decide)]; exact q
  intro d
  induction d with
  | zero =>
    intro k V v K J' hk ev hV hv st
    obtain ⟨t1, t2, t3, t4, t5⟩ := st
    have ek : le i - ls le i = k := by omega
    rw [ek] at a10 a6
    have k0 : ¬ k = 0 := by
      intro e
      rw [e] at a10
      exact absurd a10 (by show ¬ 0 = 1; decide)
    have q := hQ K J' t2 t3 t5
    unfold lval at q
    rw [ek, ev] at q
    have hv' := hv.resolve_left k0
    rw [a10] at hv'
    rw [lp_256_26, zI_vp (by omega), zI_cn (by omega), t2 101 (by decide), hU 101 (by decide), a6, if_pos (by rw [zI_le (by omega) (by omega)]; omega), t4, if_pos rfl, hv']
    exact ⟨by omega, q⟩
  | succ d ih =>
    intro k V v K J' hk ev hV hv st
    obtain ⟨t1, t2, t3, t4, t5⟩ := st
    have hgk := hg_b c (ls le i) k
    obtain ⟨b1, vc, b3, b4, b5, b6⟩ := hC (ls le i + k) (by omega)
    have hpk := a9 k (by omega)
    obtain ⟨l1, l2⟩ := a11 k (by omega)
    generalize hx : c (ls le i + k) = x at *
    generalize hgx : gb (ls le i + k) = g at *
    generalize hh : hg c (ls le i) k = h at *
    have nb : ∀ j, j < h → hs c gb (ls le i) k j < 64 ∧ ¬ hs c gb (ls le i) k j = g := fun j hj => by
      obtain ⟨a, ha, e⟩ := hs_in k j (by rw [hh]; exact hj)
      rw [e]
      refine ⟨(hC _ (by omega)).2.2.2.1, fun e2 => ?_⟩
      rw [← hgx] at e2
      have := hinj _ _ (by omega) (by omega) e2
      omega
    -- the next value stands at its node
    have nxt : ∀ (w : Int64) K2, (∀ d, ¬ d = 81 → K2 d = U d) → (∀ j, ¬ j = 63 → K2 81 j = U 81 j) → K2 81 63 = 0 → cval (fun a => (nm a).toInt64) V h x = some w → sm_wp X 256 26 [some (.ref 81), some (.int (zI p)), none, some (.int (zI s)), some (.int (zI (16 * s + i))), some (.long w), none, some (.int (zI (k + 1))), none, none] [] (sM mo G K2 (up2 J' 121 (64 * s + g) w)) Q := by
      intro w K2 k1 k2 k3 hv2
      have bw := cval_b vc hpk hn hV hv2
      have es : evl (fun a => (nm a).toInt64) c (ls le i) (k + 1) = some (va_up V (h - ar x) w) := by rw [evl_s, hx, hh, ev]; exact stpv_y hv2
      have eh : hg c (ls le i) (k + 1) = h - ar x + 1 := by rw [hg_s, hh, hx]
      refine ih (k + 1) _ w K2 _ (by omega) es (fun j hj => ?_) (Or.inr ?_) ⟨fun j hj => ?_, k1, k2, k3, fun d hd => by rw [up2_rn _ _ _ _ _ hd]; exact t5 d hd⟩
      · rw [eh] at hj
        by_cases e : j = h - ar x
        · rw [e, vl_s]; exact bw
        · rw [vl_n _ _ e]; exact hV j (by omega)
      · rw [eh, Nat.add_sub_cancel, vl_s]
      · rw [eh] at hj
        rw [hs_s, hh, hx, hgx, up2_ra]
        by_cases e : j = h - ar x
        · rw [e, va_s, vl_s, vl_s]
        · rw [va_n _ _ e, vl_n _ _ e, vl_n _ _ (by have := (nb j (by omega)).2; omega)]
          exact t1 j (by omega)
    have e100 : K 100 (16 * s + i) = zI (ls le i) := by rw [t2 100 (by decide), hU 100 (by decide)]; exact a5
    have e98 : K 98 (64 * s + (ls le i + k)) = zI (64 * s + g) := by rw [t2 98 (by decide), hU 98 (by decide)]; exact b3
    have e94 : K 94 (64 * s + g) = zI (kdc x) := by rw [t2 94 (by decide), hU 94 (by decide)]; exact b5
    have e97 : K 97 (64 * s + g) = zI (amc x) := by rw [t2 97 (by decide), hU 97 (by decide)]; exact b6
    have k31 : kdc x < 100 := by
      unfold vcd at vc
      unfold kdc
      split
      · omega
      · split
        · omega
        · split
          · omega
          · split
            · omega
            · split
              · omega
              · split
                · omega
                · split <;> omega
    rw [lp_256_26, zI_vp (by omega), zI_cn (by omega), t2 101 (by decide), hU 101 (by decide), a6, if_neg (by rw [zI_le (by omega) (by omega)]; omega), t4, if_neg (fun e => e rfl), e100, show (64 : Int32) * zI s = zI (64 * s) from zIl_mul 64 s, zI_add, zI_add, show 64 * s + ls le i + k = 64 * s + (ls le i + k) from by omega, zI_vp (by omega), zI_cn (by omega), e98, zI_vp (by omega), zI_vp (by omega), zI_cn (by omega), e94, e97, show zI k + 1 = zI (k + 1) from zIr_add 1 k]
    refine ⟨by omega, by omega, by omega, ?_⟩
    unfold cval at nxt
    by_cases g1 : 100 ≤ x
    · have kd : kdc x = 0 := by unfold kdc; rw [if_pos g1]
      have am : amc x = x - 100 := by unfold amc; rw [if_pos g1]
      rw [kd, if_neg (fun e => e rfl), am]
      exact ⟨by omega, nxt _ K t2 t3 t4 (by rw [if_pos g1])⟩
    by_cases g2 : 7 ≤ x ∧ x < 19
    · have kd : kdc x = 16 := by unfold kdc; rw [if_neg g1, if_pos g2]
      have am : amc x = x - 7 := by unfold amc; rw [if_neg g1, if_pos g2]
      rw [kd, if_pos (by decide), if_neg (fun e => e rfl), am]
      refine hN K J' _ (x - 7) t2 t3 (by omega) ?_
      simp only [tl_some]
      rw [lp_256_111, zI_vp (by omega), zI_cn (by omega), show zI k + 1 = zI (k + 1) from zIr_add 1 k]
      exact ⟨by omega, nxt _ K t2 t3 t4 (by rw [if_neg g1, if_pos g2])⟩
    have x34 : x < 34 := by unfold vcd at vc; omega
    by_cases g3 : x = 4
    · have kd : kdc x = 13 := by rw [g3]; rfl
      have a1' : ar x = 1 := by rw [g3]; rfl
      have n1 := nb (h - 1) (by omega)
      rw [kd, if_pos (by decide), if_pos (by decide), if_pos (by decide), if_neg (fun e => e rfl), t2 95 (by decide), hU 95 (by decide), l1 a1', zI_vp (by omega), zI_cn (by omega), t1 (h - 1) (by omega)]
      refine ⟨by omega, ?_⟩
      have tr : vf_Model_truth 0 = 0 ∧ vf_Model_truth 1 = 1 := by decide
      rw [tr.1, tr.2]
      by_cases z : V (h - 1) = 0
      · rw [if_neg (fun e => e ((lg_cmp_eq _ _).mpr z))]
        exact ⟨by omega, nxt 1 K t2 t3 t4 (by rw [if_neg g1, if_neg g2, if_pos g3, if_pos z])⟩
      · rw [if_pos (fun e => z ((lg_cmp_eq _ _).mp e))]
        exact ⟨by omega, nxt 0 K t2 t3 t4 (by rw [if_neg g1, if_neg g2, if_pos g3, if_neg z])⟩
    by_cases g4 : x = 33
    · have kd : kdc x = 12 := by rw [g4]; rfl
      have a1' : ar x = 1 := by rw [g4]; rfl
      have n1 := nb (h - 1) (by omega)
      rw [kd, if_pos (by decide), if_pos (by decide), if_neg (fun e => e rfl), t2 95 (by decide), hU 95 (by decide), l1 a1', zI_vp (by omega), zI_cn (by omega), t1 (h - 1) (by omega)]
      exact ⟨by omega, by omega, nxt _ K t2 t3 t4 (by rw [if_neg g1, if_neg g2, if_neg g3, if_pos g4])⟩
    obtain ⟨a2', hbs⟩ := ar_2 vc g1 g2 g3 g4
    have n1 := nb (h - 1) (by omega)
    have n2 := nb (h - 2) (by omega)
    have kds : ¬ kdc x = 0 ∧ ¬ kdc x = 16 ∧ ¬ kdc x = 12 ∧ ¬ kdc x = 13 := by
      have e : ∀ x : Fin 34, (x.val = 5 ∨ x.val = 6 ∨ (19 ≤ x.val ∧ x.val ≤ 29)) → ¬ kdc x.val = 0 ∧ ¬ kdc x.val = 16 ∧ ¬ kdc x.val = 12 ∧ ¬ kdc x.val = 13 := by decide
      exact e ⟨x, x34⟩ hbs
    obtain ⟨l3, l4⟩ := l2 a2'
    rw [if_pos (by rw [zIr_eq (c := 0) (by decide) (by omega)]; exact kds.1), if_pos (by rw [zIr_eq (c := 16) (by decide) (by omega)]; exact kds.2.1), if_pos (by rw [zIr_eq (c := 12) (by decide) (by omega)]; exact kds.2.2.1), if_pos (by rw [zIr_eq (c := 13) (by decide) (by omega)]; exact kds.2.2.2), t2 95 (by decide), hU 95 (by decide), t2 96 (by decide), hU 96 (by decide), l3, l4, zI_vp (by omega), zI_cn (by omega), zI_vp (by omega), zI_cn (by omega), t1 (h - 1) (by omega), t1 (h - 2) (by omega)]
    refine ⟨by omega, by omega, r_261 hbs (hV _ (by omega)) (hV _ (by omega)) t4 ?_⟩
    intro L lA lB
    have f1 : ∀ d, ¬ d = 81 → L d = U d := fun d hd => by rw [lA d hd]; exact t2 d hd
    have f2 : ∀ j, ¬ j = 63 → L 81 j = U 81 j := fun j hj => by rw [lB j hj]; exact t3 j hj
    have cv : cval (fun a => (nm a).toInt64) V h x = bopv x (V (h - 2)) (V (h - 1)) := by
      unfold cval
      rw [if_neg g1, if_neg g2, if_neg g3, if_neg g4]
    refine ⟨fun w hw z => ?_, fun hw z => ?_⟩
    · simp only [tl_some]
      rw [lp_256_203, zI_vp (by omega), zI_cn (by omega), show zI k + 1 = zI (k + 1) from zIr_add 1 k]
      exact ⟨by omega, nxt w L f1 f2 z (by rw [if_neg g1, if_neg g2, if_neg g3, if_neg g4]; exact hw)⟩
    · simp only [tl_some]
      rw [lp_256_203, zI_vp (by omega), zI_cn (by omega), show zI k + 1 = zI (k + 1) from zIr_add 1 k]
      refine ⟨by omega, err (k + 1) 0 L _ ?_ (by omega) z f1 f2 (fun d hd => by rw [up2_rn _ _ _ _ _ hd]; exact t5 d hd)⟩
      rw [evl_s, hx, hh, ev]
      exact stpv_n (cv.trans hw)
theorem r_256 {U : Nat → Nat → Int32} {s m i p : Nat} {c gb vb le : Nat → Nat} {nm : Nat → Int32} (hU : ∀ d, 81 < d → U d = I d) (hs6 : s < 6) (hp : p < 60) (hb : bkP s m c gb vb le (I 22) (I 23) (I 24) (I 25) (I 94) (I 95) (I 96) (I 97) (I 98) (I 99) (I 100) (I 101) (I 102)) (hi : i < m) (h109 : I 109 p = zI s)
    (hN : ∀ (K : Nat → Nat → Int32) (J' : Nat → Nat → Int64) (R : Option Value → sm_M → Prop) a, (∀ d, ¬ d = 81 → K d = U d) → (∀ j, ¬ j = 63 → K 81 j = U 81 j) → a < 12 → R (some (.int (nm a))) (sM mo G K J') → sm_wp X 257 0 [some (.ref 81), some (.int (zI a)), some (.int (zI p)), none] [] (sM mo G K J') R)
    (hQ : ∀ L J', (∀ d, ¬ d = 81 → L d = U d) → (∀ j, ¬ j = 63 → L 81 j = U 81 j) → (∀ d, ¬ d = 121 → J' d = J d) → Q (some (.long (lval (fun a => (nm a).toInt64) c (ls le i) (le i)))) (sM mo G L J')) : sm_wp X 256 0 [some (.ref 81), some (.int (zI p)), some (.int (zI i)), none, none, none, none, none, none, none] [] (sM mo G U J) Q := by
  have hm := hb.2.2.1
  have h1 := hb.2.2.2.2 i hi
  rw [lp_256_0, zI_vp (by omega), zI_cn (by omega), hU 109 (by decide), h109, show (16 : Int32) * zI s = zI (16 * s) from zIl_mul 16 s, zI_add]
  refine ⟨hp, ?_⟩
  exact r_256l hU hs6 hp hb hi hN hQ (le i - ls le i) 0 (fun _ => 0) 0 (up2 U 81 63 0) J (by have := h1.2.2.2.2.2.2.1; omega) rfl (fun j hj => absurd hj (Nat.not_lt_zero _)) (Or.inl rfl) ⟨fun j hj => absurd hj (Nat.not_lt_zero _), fun d hd => up2_rn _ _ _ _ _ hd, fun j hj => by rw [up2_ra, va_ap, if_neg hj], up2_ss, fun _ _ => rfl⟩
end V3
end
section
/-! What the names stand for. -/
def nmv (I : Nat → Nat → Int32) (n t fr p a : Nat) : Int32 :=
  if a = 0 then wsum (I 13) (zI t) (I 37 p) n - wsum (I 13) (zI t) (I 38 p) n
  else if a = 1 then wsum (I 13) (zI t) (I 37 p) n
  else if a = 2 then wsum (I 13) (zI t) (I 38 p) n
  else if a = 3 then ssum (I 2) (I 37 p) n - ssum (I 2) (I 38 p) n
  else if a = 4 then cnear (I 3) (I 37 p) (hlds (I 4) (zI t) n &&& (I 38 p ^^^ (-1))) n
  else if a = 5 then wsum (I 13) (zI t) (hlds (I 4) (zI t) n) n
  else if a = 6 then I 12 t
  else if a = 7 then I 10 t
  else if a = 8 then I 10 fr
  else if a = 9 then I 1 3
  else if a = 10 then I 39 p - I 1 3
  else if I 40 p = -1 then 0 else 1
theorem v12 (a : Nat) (h : a < 12) : vp_in (zI a) 12 := Eq.mpr (zI_vp (a := a) (n := 12) (by omega)) h
section N1
variable {X : (Nat → Int32) × Nat} {mo : Bool} {G : Nat × Nat} {I : Nat → Nat → Int32} {J : Nat → Nat → Int64} {Q : Option Value → sm_M → Prop}
theorem aP_e {np p : Nat} (hp : I 31 0 = zI np) (h60 : np ≤ 60) (hlt : p < np) (c : Nat) (d : Int32) : aPap I c d (zI p) = I c p := by
  unfold aPap
  rw [if_pos (by rw [hPap_vp hp h60, zI_sIn (by omega) (by omega)]; exact hlt), zI_cn (by omega)]
theorem aS_e {m s : Nat} (hm : I 1 1 = zI m) (h6 : m ≤ 6) (hlt : s < m) (c : Nat) (d : Int32) : aState I c d (zI s) = I c s := by
  unfold aState
  rw [if_pos (by rw [hState_vp hm h6, zI_sIn (by omega) (by omega)]; exact hlt), zI_cn (by omega)]
theorem c_25 {n m np p t fr : Nat} (hn : I 1 0 = zI n) (h12 : n ≤ 12) (hm : I 1 1 = zI m) (h6 : m ≤ 6) (hp : I 31 0 = zI np) (h60 : np ≤ 60) (hlt : p < np) (ht : I 33 p = zI t) (htm : t < m) (hf : I 32 p = zI fr) (hfm : fr < m)
    (hQ : ∀ J', (∀ d, ¬ d = 46 → J' d = J d) → (∀ a, a < 12 → J' 46 a = (nmv I n t fr p a).toInt64) → Q none (sM mo G I J')) : sm_wp X 25 0 [some (.ref 45), some (.int (zI p)), none, none, none, none, none, none] [] (sM mo G I J) Q := by
  have e0 : (0 : Int32).toNatClampNeg = 0 := rfl
  have e1 : (1 : Int32).toNatClampNeg = 1 := rfl
  have e2 : (2 : Int32).toNatClampNeg = 2 := rfl
  have e3 : (3 : Int32).toNatClampNeg = 3 := rfl
  have e4 : (4 : Int32).toNatClampNeg = 4 := rfl
  have e5 : (5 : Int32).toNatClampNeg = 5 := rfl
  have e6 : (6 : Int32).toNatClampNeg = 6 := rfl
  have e7 : (7 : Int32).toNatClampNeg = 7 := rfl
  have e8 : (8 : Int32).toNatClampNeg = 8 := rfl
  have e9 : (9 : Int32).toNatClampNeg = 9 := rfl
  have e10 : (10 : Int32).toNatClampNeg = 10 := rfl
  have e11 : (11 : Int32).toNatClampNeg = 11 := rfl
  have lk : vf_Pap_isLinked I (zI p) ↔ ¬ I 40 p = -1 := by
    constructor
    · intro h
      have := h.2
      rw [zI_cn (by omega)] at this
      exact this
    · intro h
      exact ⟨by rw [hPap_vp hp h60, zI_sIn (by omega) (by omega)]; exact hlt, by rw [zI_cn (by omega)]; exact h⟩
  rw [lp_25_0, aP_e hp h60 hlt, aP_e hp h60 hlt, aP_e hp h60 hlt, ht, ct_worthOfLands _ _ _ _ _ _ hn h12]
  simp only [tl_some]
  rw [lp_25_37, ct_worthOfLands _ _ _ _ _ _ hn h12]
  simp only [tl_some]
  rw [lp_25_49, ct_landsHeld _ _ _ _ _ _ hn h12]
  simp only [tl_some]
  rw [lp_25_59, e0, e1, e2, ct_soulsOfLands _ _ _ _ _ _ hn h12]
  refine ⟨v12 0 (by decide), v12 1 (by decide), v12 2 (by decide), ?_⟩
  simp only [tl_some]
  rw [lp_25_104, ct_soulsOfLands _ _ _ _ _ _ hn h12]
  simp only [tl_some]
  rw [lp_25_113, e3, ct_countNear _ _ _ _ _ _ hn h12]
  refine ⟨v12 3 (by decide), ?_⟩
  simp only [tl_some]
  rw [lp_25_136, e4, ct_worthOfLands _ _ _ _ _ _ hn h12]
  refine ⟨v12 4 (by decide), ?_⟩
  simp only [tl_some]
  rw [lp_25_153, e5, e6, e7, e8, e9, e10, e11, aS_e hm h6 htm, aS_e hm h6 htm, aP_e hp h60 hlt, hf, aS_e hm h6 hfm, aP_e hp h60 hlt]
  refine ⟨v12 5 (by decide), v12 6 (by decide), v12 7 (by decide), v12 8 (by decide), v12 9 (by decide), v12 10 (by decide), ?_⟩
  have z0 : (0 : Int64) = (0 : Int32).toInt64 := by decide
  have z1 : (1 : Int64) = (1 : Int32).toInt64 := by decide
  by_cases g : I 40 p = -1
  · rw [if_pos (fun e => lk.mp e g)]
    refine ⟨v12 11 (by decide), hQ _ (fun d hd => by simp only [up2_rn, ne_eq, hd, not_false_eq_true]) (fun a ha => ?_)⟩
    have hc : a = 0 ∨ a = 1 ∨ a = 2 ∨ a = 3 ∨ a = 4 ∨ a = 5 ∨ a = 6 ∨ a = 7 ∨ a = 8 ∨ a = 9 ∨ a = 10 ∨ a = 11 := by omega
    rcases hc with rfl | rfl | rfl | rfl | rfl | rfl | rfl | rfl | rfl | rfl | rfl | rfl
    all_goals simp (decide := true) only [up2_ra, up2_rn, va_ap, ne_eq, if_false, if_true, not_false_eq_true, nmv, g, z0]
  · rw [if_neg (fun e => e (lk.mpr g))]
    refine ⟨v12 11 (by decide), hQ _ (fun d hd => by simp only [up2_rn, ne_eq, hd, not_false_eq_true]) (fun a ha => ?_)⟩
    have hc : a = 0 ∨ a = 1 ∨ a = 2 ∨ a = 3 ∨ a = 4 ∨ a = 5 ∨ a = 6 ∨ a = 7 ∨ a = 8 ∨ a = 9 ∨ a = 10 ∨ a = 11 := by omega
    rcases hc with rfl | rfl | rfl | rfl | rfl | rfl | rfl | rfl | rfl | rfl | rfl | rfl
    all_goals simp (decide := true) only [up2_ra, up2_rn, va_ap, ne_eq, if_false, if_true, not_false_eq_true, nmv, g, z1]
/-- near, by the reference -/
theorem r_259 {n : Nat} {N : Nat → Int32} {gets keeps : Int32} (hn : I 81 3 = zI n) (h12 : n ≤ 12) (hg : ivG N (I 84)) (hk : ∀ k, bt keeps k = true → k < n)
    (hQ : Q (some (.int (cnear N gets keeps n))) (sM mo G I J)) : sm_wp X 259 0 [some (.ref 81), some (.int gets), some (.int keeps), none, none, none, none] [] (sM mo G I J) Q := by
  have cs : ∀ l, cnear N gets keeps (l + 1) = if bt gets l = true then (if N l &&& keeps = 0 then cnear N gets keeps l else cnear N gets keeps l + 1) else cnear N gets keeps l := fun _ => rfl
  have inner : ∀ l, l < n → ∀ d k, k + d = n → ∀ is : Int32, (is = 1 ∧ (∃ j, j < k ∧ bt keeps j = true ∧ I 84 (12 * l + j) = 1)) ∨ (is = 0 ∧ ∀ j, j < k → ¬ (bt keeps j = true ∧ I 84 (12 * l + j) = 1)) → sm_wp X 259 5 [some (.ref 81), some (.int gets), some (.int keeps), some (.int (cnear N gets keeps (l + 1))), some (.int (zI (l + 1))), none, none] [] (sM mo G I J) Q → sm_wp X 259 20 [some (.ref 81), some (.int gets), some (.int keeps), some (.int (cnear N gets keeps l)), some (.int (zI l)), some (.int is), some (.int (zI k))] [] (sM mo G I J) Q := by
    intro l hl d
    induction d with
    | zero =>
      intro k hk' is his hnext
      have e : k = n := by omega
      subst e
      rw [lp_259_20, hn, if_pos (by rw [zI_le (by omega) (by omega)]; exact Nat.le_refl _), show zI l + 1 = zI (l + 1) from zIr_add 1 l, Int32.add_zero]
      rw [cs] at hnext
      have key : (∃ j, j < k ∧ bt keeps j = true ∧ I 84 (12 * l + j) = 1) ↔ ¬ N l &&& keeps = 0 := by
        rw [bt_eq0]
        constructor
        · rintro ⟨j, h1, h2, h3⟩ h
          have := h j (by omega)
          rw [bt_and, h2, (hg.2 l (by omega) j (by omega)).mpr h3] at this
          exact absurd this (by decide)
        · intro h
          apply Classical.byContradiction
          intro hh
          apply h
          intro j hj
          rw [bt_and]
          cases h1 : bt keeps j with
          | false => rw [Bool.and_false]
          | true =>
            cases h2 : bt (N l) j with
            | false => rfl
            | true => exact absurd ⟨j, hk j h1, h1, (hg.2 l (by omega) j (by have := hk j h1; omega)).mp h2⟩ hh
      rcases his with ⟨rfl, h⟩ | ⟨rfl, h⟩
      · rw [if_neg (by decide)]
        have kk := key.mp h
        rw [if_neg kk] at hnext
        by_cases g : bt gets l = true
        · rw [if_pos g] at hnext
          rw [if_neg (fun e => e (by rw [sb_1 _ _ (by omega)]; exact g))]
          exact hnext
        · rw [if_neg g] at hnext
          rw [if_pos (by rw [sb_1 _ _ (by omega)]; exact g)]
          exact hnext
      · rw [if_pos rfl]
        have kk : N l &&& keeps = 0 := Classical.byContradiction fun e => by
          obtain ⟨j, h1, h2⟩ := key.mpr e
          exact h j h1 h2
        rw [if_pos kk, ite_self] at hnext
        exact hnext
    | succ d ih =>
      intro k hk' is his hnext
      rw [lp_259_20, hn, if_neg (by rw [zI_le (by omega) (by omega)]; omega), show zI k + 1 = zI (k + 1) from zIr_add 1 k]
      rcases his with ⟨rfl, j, h1, h2⟩ | ⟨rfl, h⟩
      · rw [if_pos (by decide)]
        exact ih (k + 1) (by omega) 1 (Or.inl ⟨rfl, j, by omega, h2⟩) hnext
      · rw [if_neg (fun e => e rfl), show (12 : Int32) * zI l = zI (12 * l) from zIl_mul 12 l, zI_add, zI_vp (by omega), zI_cn (by omega)]
        by_cases g : bt keeps k = true
        · rw [if_neg (fun e => e (by rw [sb_1 _ _ (by omega)]; exact g))]
          refine ⟨by omega, ?_⟩
          rcases hg.1 (12 * l + k) with z | z
          · rw [if_pos z]
            refine ih (k + 1) (by omega) 0 (Or.inr ⟨rfl, fun j hj e => ?_⟩) hnext
            by_cases ej : j = k
            · rw [ej, z] at e
              exact absurd e.2 (by decide)
            · exact h j (by omega) e
          · rw [if_neg (by rw [z]; decide)]
            exact ih (k + 1) (by omega) 1 (Or.inl ⟨rfl, k, by omega, g, z⟩) hnext
        · rw [if_pos (by rw [sb_1 _ _ (by omega)]; exact g)]
          refine ih (k + 1) (by omega) 0 (Or.inr ⟨rfl, fun j hj e => ?_⟩) hnext
          by_cases ej : j = k
          · rw [ej] at e; exact g e.1
          · exact h j (by omega) e
  have outer : ∀ d l, l + d = n → sm_wp X 259 5 [some (.ref 81), some (.int gets), some (.int keeps), some (.int (cnear N gets keeps l)), some (.int (zI l)), none, none] [] (sM mo G I J) Q := by
    intro d
    induction d with
    | zero =>
      intro l hl
      have e : l = n := by omega
      subst e
      rw [lp_259_5, hn, if_pos (by rw [zI_le (by omega) (by omega)]; exact Nat.le_refl _)]
      exact hQ
    | succ d ih =>
      intro l hl
      rw [lp_259_5, hn, if_neg (by rw [zI_le (by omega) (by omega)]; omega)]
      exact inner l (by omega) n 0 (by omega) 0 (Or.inr ⟨rfl, fun j hj => absurd hj (Nat.not_lt_zero _)⟩) (ih (l + 1) (by omega))
  rw [lp_259_0]
  exact outer n 0 (by omega)
/-- the two sides' data that names need -/
def nmC (n m np : Nat) (I : Nat → Nat → Int32) : Prop := (I 1 0 = zI n ∧ I 81 3 = zI n ∧ n ≤ 12) ∧ (I 1 1 = zI m ∧ m ≤ 6) ∧ (I 31 0 = zI np ∧ np ≤ 60) ∧ (I 91 = I 13 ∧ I 85 = I 4 ∧ I 83 = I 2 ∧ I 92 = I 12 ∧ I 89 = I 10 ∧ I 81 16 = I 1 3) ∧ (I 109 = I 33 ∧ I 108 = I 32 ∧ I 111 = I 37 ∧ I 112 = I 38 ∧ I 113 = I 39) ∧ ivG (I 3) (I 84)
theorem r_257 {n m np p t fr a : Nat} (hC : nmC n m np I) (hlt : p < np) (ht : I 33 p = zI t) (htm : t < m) (hf : I 32 p = zI fr) (hfm : fr < m) (h114 : I 114 p = I 40 p) {K : Nat → Nat → Int32} (k1 : ∀ d, 81 < d → K d = I d) (k2 : ∀ j, ¬ j = 63 → K 81 j = I 81 j) (ha : a < 12)
    (hQ : Q (some (.int (nmv I n t fr p a))) (sM mo G K J)) : sm_wp X 257 0 [some (.ref 81), some (.int (zI a)), some (.int (zI p)), none] [] (sM mo G K J) Q := by
  obtain ⟨⟨n1, n2, n12⟩, ⟨m1, m6⟩, ⟨p1, p60⟩, ⟨e91, e85, e83, e92, e89, e16⟩, ⟨e109, e108, e111, e112, e113⟩, hG⟩ := hC
  have f81 : K 81 3 = zI n := by rw [k2 3 (by decide)]; exact n2
  have f16 : K 81 16 = I 1 3 := by rw [k2 16 (by decide)]; exact e16
  have f109 : K 109 p = zI t := by rw [k1 109 (by decide), e109]; exact ht
  have f108 : K 108 p = zI fr := by rw [k1 108 (by decide), e108]; exact hf
  have f111 : K 111 p = I 37 p := by rw [k1 111 (by decide), e111]
  have f112 : K 112 p = I 38 p := by rw [k1 112 (by decide), e112]
  have f113 : K 113 p = I 39 p := by rw [k1 113 (by decide), e113]
  have f114 : K 114 p = I 40 p := by rw [k1 114 (by decide)]; exact h114
  have f91 : K 91 = I 13 := by rw [k1 91 (by decide), e91]
  have f85 : K 85 = I 4 := by rw [k1 85 (by decide), e85]
  have f83 : K 83 = I 2 := by rw [k1 83 (by decide), e83]
  have f92 : K 92 = I 12 := by rw [k1 92 (by decide), e92]
  have f89 : K 89 = I 10 := by rw [k1 89 (by decide), e89]
  have f84 : K 84 = I 84 := k1 84 (by decide)
  have v6 : ∀ s, s < 6 → vp_in (zI s) 6 := fun s h => Eq.mpr (zI_vp (a := s) (n := 6) (by omega)) h
  have v60 : vp_in (zI p) 60 := Eq.mpr (zI_vp (a := p) (n := 60) (by omega)) (by omega)
  have hc : a = 0 ∨ a = 1 ∨ a = 2 ∨ a = 3 ∨ a = 4 ∨ a = 5 ∨ a = 6 ∨ a = 7 ∨ a = 8 ∨ a = 9 ∨ a = 10 ∨ a = 11 := by omega
  rw [lp_257_0, zI_cn (by omega), f109, f111, f112, f16, f108, f113, f114]
  refine ⟨v60, ?_⟩
  rcases hc with rfl | rfl | rfl | rfl | rfl | rfl | rfl | rfl | rfl | rfl | rfl | rfl
  · rw [if_pos (show zI 0 = 0 from rfl), ct_MworthOf _ _ _ _ _ _ f81 n12 (by omega)]
    simp only [tl_some]
    rw [lp_257_79, zI_cn (by omega), f112, ct_MworthOf _ _ _ _ _ _ f81 n12 (by omega), f91]
    refine ⟨v60, ?_⟩
    simp only [tl_some]
    rw [lp_257_90]
    exact hQ
  · rw [if_neg (by decide), if_pos (show zI 1 = 1 from rfl), ct_MworthOf _ _ _ _ _ _ f81 n12 (by omega), f91]
    simp only [tl_some]
    rw [lp_257_103]
    exact hQ
  · rw [if_neg (by decide), if_neg (by decide), if_pos (show zI 2 = 2 from rfl), ct_MworthOf _ _ _ _ _ _ f81 n12 (by omega), f91]
    simp only [tl_some]
    rw [lp_257_115]
    exact hQ
  · rw [if_neg (by decide), if_neg (by decide), if_neg (by decide), if_pos (show zI 3 = 3 from rfl), ct_MsoulsOf _ _ _ _ _ _ f81 n12, f83]
    simp only [tl_some]
    rw [lp_257_126, zI_cn (by omega), f112, ct_MsoulsOf _ _ _ _ _ _ f81 n12, f83]
    refine ⟨v60, ?_⟩
    simp only [tl_some]
    rw [lp_257_136]
    exact hQ
  · rw [if_neg (by decide), if_neg (by decide), if_neg (by decide), if_neg (by decide), if_pos (show zI 4 = 4 from rfl), ct_Mholdings _ _ _ _ _ _ f81 n12, f85]
    simp only [tl_some]
    rw [lp_257_150, zI_cn (by omega), f112]
    refine ⟨v60, ?_⟩
    refine r_259 (N := I 3) f81 n12 (by rw [f84]; exact hG) (fun k hk => ?_) ?_
    · rw [bt_and, bt_hl (I 4) (zI t) n n12 k] at hk
      have := (Bool.and_eq_true _ _).mp hk
      exact (decide_eq_true_iff.mp this.1).1
    · simp only [tl_some]
      rw [lp_257_162]
      exact hQ
  · rw [if_neg (by decide), if_neg (by decide), if_neg (by decide), if_neg (by decide), if_neg (by decide), if_pos (show zI 5 = 5 from rfl), ct_Mholdings _ _ _ _ _ _ f81 n12, f85]
    simp only [tl_some]
    rw [lp_257_170, ct_MworthOf _ _ _ _ _ _ f81 n12 (by omega), f91]
    simp only [tl_some]
    rw [lp_257_173]
    exact hQ
  · rw [if_neg (by decide), if_neg (by decide), if_neg (by decide), if_neg (by decide), if_neg (by decide), if_neg (by decide), if_pos (show zI 6 = 6 from rfl), f92, zI_cn (by omega)]
    exact ⟨v6 t (by omega), hQ⟩
  · rw [if_neg (by decide), if_neg (by decide), if_neg (by decide), if_neg (by decide), if_neg (by decide), if_neg (by decide), if_neg (by decide), if_pos (show zI 7 = 7 from rfl), f89, zI_cn (by omega)]
    exact ⟨v6 t (by omega), hQ⟩
  · rw [if_neg (by decide), if_neg (by decide), if_neg (by decide), if_neg (by decide), if_neg (by decide), if_neg (by decide), if_neg (by decide), if_neg (by decide), if_pos (show zI 8 = 8 from rfl), f89, zI_cn (by omega)]
    exact ⟨v6 fr (by omega), hQ⟩
  · rw [if_neg (by decide), if_neg (by decide), if_neg (by decide), if_neg (by decide), if_neg (by decide), if_neg (by decide), if_neg (by decide), if_neg (by decide), if_neg (by decide), if_pos (show zI 9 = 9 from rfl)]
    exact hQ
  · rw [if_neg (by decide), if_neg (by decide), if_neg (by decide), if_neg (by decide), if_neg (by decide), if_neg (by decide), if_neg (by decide), if_neg (by decide), if_neg (by decide), if_neg (by decide), if_pos (show zI 10 = 10 from rfl)]
    exact hQ
  · rw [if_neg (by decide), if_neg (by decide), if_neg (by decide), if_neg (by decide), if_neg (by decide), if_neg (by decide), if_neg (by decide), if_neg (by decide), if_neg (by decide), if_neg (by decide), if_neg (by decide)]
    have q : Q (some (.int (if I 40 p = -1 then 0 else 1))) (sM mo G K J) := hQ
    by_cases g : I 40 p = -1
    · rw [if_pos g] at q
      rw [if_neg (fun e => e g)]
      exact q
    · rw [if_neg g] at q
      rw [if_pos g]
      exact q
end N1
end
section
/-! The first line that holds; why, tries. -/
def okl (nv : Nat → Int64) (c vb le : Nat → Nat) (ho : Bool) (i : Nat) : Bool := (decide (vb i = 3) == ho) && (decide (¬ lval nv c (ls le i) (le i) = -9223372036854775808) && decide (¬ lval nv c (ls le i) (le i) = 0))
def frs (P : Nat → Bool) : Nat → Nat → Int32
  | 0, _ => -1
  | d + 1, i => if P i = true then zI i else frs P d (i + 1)
def hoI (ho : Bool) : Int32 := if ho = true then 1 else 0
theorem okl_y {nv : Nat → Int64} {c vb le : Nat → Nat} {ho : Bool} {i : Nat} (h : decide (vb i = 3) = ho) (h1 : ¬ lval nv c (ls le i) (le i) = -9223372036854775808) (h2 : ¬ lval nv c (ls le i) (le i) = 0) : okl nv c vb le ho i = true := by
  unfold okl
  rw [h, decide_eq_true h1, decide_eq_true h2]
  cases ho <;> rfl
theorem okl_n {nv : Nat → Int64} {c vb le : Nat → Nat} {ho : Bool} {i : Nat} (h : ¬ decide (vb i = 3) = ho ∨ lval nv c (ls le i) (le i) = -9223372036854775808 ∨ lval nv c (ls le i) (le i) = 0) : ¬ okl nv c vb le ho i = true := by
  unfold okl
  intro e
  have e := (Bool.and_eq_true _ _).mp e
  have e2 := (Bool.and_eq_true _ _).mp e.2
  rcases h with h | h | h
  · exact h (eq_of_beq e.1)
  · exact (decide_eq_true_iff.mp e2.1) h
  · exact (decide_eq_true_iff.mp e2.2) h
theorem inv_e {c : Nat} {mo : Bool} {G : Nat × Nat} {I V : Nat → Nat → Int32} {J J' : Nat → Nat → Int64} (h : inv c mo G I J) (hd : ∀ d, ¬ d = 45 → ¬ d = 81 → V d = I d) (hj : ∀ j, ¬ j = 2 → ¬ j = 63 → V 81 j = I 81 j) (j52 : J' 52 = J 52) (j60 : J' 60 = J 60) : inv (c + 1) mo G V J' := by
  obtain ⟨n, m, t, p, q, r, ch, ln, hN, hE, hV, hY, hG, hK, hP, hS, hA, hT, hF, hB, hC, hD, hD2, hX, hZ⟩ := h
  refine ⟨n, m, t, p, q, r, ch, ln, ?_⟩
  simp (decide := true) only [hd, hj, j52, j60]
  exact ⟨hN, hE, hV, hY, hG, ivK_s hK, hP, hS, hA, hT, hF, hB, hC, hD, hD2, hX, ivZ_s hZ⟩
section W1
variable {X : (Nat → Int32) × Nat} {mo : Bool} {G : Nat × Nat} {I : Nat → Nat → Int32} {J : Nat → Nat → Int64} {Q : Option Value → sm_M → Prop}
/-- what the class's delegates change -/
def frD (I K : Nat → Nat → Int32) (J J' : Nat → Nat → Int64) : Prop := (∀ d, ¬ d = 45 → K d = I d) ∧ (∀ j, ¬ j = 5 → K 45 j = I 45 j) ∧ ∀ d, ¬ d = 46 → ¬ d = 47 → J' d = J d
/-- what the reference's lines change -/
def frL (I K : Nat → Nat → Int32) (J J' : Nat → Nat → Int64) : Prop := (∀ d, ¬ d = 81 → K d = I d) ∧ (∀ j, ¬ j = 63 → K 81 j = I 81 j) ∧ ∀ d, ¬ d = 121 → J' d = J d
theorem c_24l {s m : Nat} {c gb vb le : Nat → Nat} {nv : Nat → Int64} {ho : Bool} (hs : s < 6) (hb : bkP s m c gb vb le (I 22) (I 23) (I 24) (I 25) (I 94) (I 95) (I 96) (I 97) (I 98) (I 99) (I 100) (I 101) (I 102)) (hn : ∀ i, i < 12 → bnd (nv i))
    (hQ : ∀ L J', frD I L J J' → Q (some (.int (frs (okl nv c vb le ho) m 0))) (sM mo G L J')) : ∀ d i K J', i + d = m → frs (okl nv c vb le ho) d i = frs (okl nv c vb le ho) m 0 → frD I K J J' → (∀ a, a < 12 → J' 46 a = nv a) → sm_wp X 24 27 [some (.ref 45), none, some (.int (hoI ho)), some (.int (zI s)), some (.int (zI m)), some (.int (zI i)), none, none] [] (sM mo G K J') Q := by
  intro d
  induction d with
  | zero =>
    intro i K J' hi hf st hJ
    have hm := hb.2.2.1
    rw [lp_24_27, if_pos (by rw [zI_le (by omega) (by omega)]; omega)]
    have q := hQ K J' st
    rw [← hf] at q
    exact q
  | succ d ih =>
    intro i K J' hi hf st hJ
    have hm := hb.2.2.1
    have f1 := st.1
    have hbK : bkP s m c gb vb le (K 22) (K 23) (K 24) (K 25) (K 94) (K 95) (K 96) (K 97) (K 98) (K 99) (K 100) (K 101) (K 102) := by
      rw [f1 22 (by decide), f1 23 (by decide), f1 24 (by decide), f1 25 (by decide), f1 94 (by decide), f1 95 (by decide), f1 96 (by decide), f1 97 (by decide), f1 98 (by decide), f1 99 (by decide), f1 100 (by decide), f1 101 (by decide), f1 102 (by decide)]
      exact hb
    have hL := hbK.2.2.2.2 i (by omega)
    have ve := vrb_e (I := K) hs hbK.1 hm (show i < m by omega) hL.1
    have v3 := hL.2.2.1
    have fr : frs (okl nv c vb le ho) (d + 1) i = if okl nv c vb le ho i = true then zI i else frs (okl nv c vb le ho) d (i + 1) := rfl
    rw [fr] at hf
    have nxt : ∀ K2 J2, frD I K2 J J2 → (∀ a, a < 12 → J2 46 a = nv a) → ¬ okl nv c vb le ho i = true → sm_wp X 24 27 [some (.ref 45), none, some (.int (hoI ho)), some (.int (zI s)), some (.int (zI m)), some (.int (zI (i + 1))), none, none] [] (sM mo G K2 J2) Q := fun K2 J2 g1 g2 g3 => by
      rw [if_neg g3] at hf
      exact ih (i + 1) K2 J2 (by omega) hf g1 g2
    have val : decide (vb i = 3) = ho → sm_wp X 26 0 [some (.ref 45), some (.int (zI s)), some (.int (zI i)), none, none, none, none] [] (sM mo G K J') (fun v M => sm_wp X 24 64 [some (.ref 45), none, some (.int (hoI ho)), some (.int (zI s)), some (.int (zI m)), some (.int (zI i)), none, none] (v.toList ++ []) M Q) := by
      intro hho
      refine c_26 hs hbK (by omega) hn hJ ?_
      intro L J2 l1 l2 l3
      have fL : frD I L J J2 := ⟨fun d hd => by rw [l1 d hd]; exact f1 d hd, fun j hj => by rw [l2 j hj]; exact st.2.1 j hj, fun d a b => by rw [l3 d b]; exact st.2.2 d a b⟩
      have jL : ∀ a, a < 12 → J2 46 a = nv a := fun a ha => by rw [l3 46 (by decide)]; exact hJ a ha
      simp only [tl_some]
      rw [lp_24_64, show zI i + 1 = zI (i + 1) from zIr_add 1 i]
      by_cases g1 : lval nv c (ls le i) (le i) = -9223372036854775808
      · rw [if_pos ((lg_cmp_eq _ _).mpr g1)]
        exact nxt L J2 fL jL (okl_n (Or.inr (Or.inl g1)))
      · rw [if_neg (fun e => g1 ((lg_cmp_eq _ _).mp e))]
        by_cases g2 : lval nv c (ls le i) (le i) = 0
        · rw [if_pos ((lg_cmp_eq _ _).mpr g2)]
          exact nxt L J2 fL jL (okl_n (Or.inr (Or.inr g2)))
        · rw [if_neg (fun e => g2 ((lg_cmp_eq _ _).mp e))]
          have q := hQ L J2 fL
          rw [if_pos (okl_y hho g1 g2)] at hf
          rw [← hf] at q
          exact q
    rw [lp_24_27, if_neg (by rw [zI_le (by omega) (by omega)]; omega), ve, show zI i + 1 = zI (i + 1) from zIr_add 1 i]
    by_cases e3 : vb i = 3
    · rw [if_neg (fun e => e (by rw [e3]; rfl))]
      cases ho with
      | true =>
        rw [if_neg (fun e => e rfl)]
        exact val (by rw [decide_eq_true e3])
      | false =>
        rw [if_pos (by decide)]
        exact nxt K J' st hJ (okl_n (Or.inl (by rw [decide_eq_true e3]; decide)))
    · rw [if_pos (by rw [zIr_eq (c := 3) (by decide) (by omega)]; exact e3)]
      cases ho with
      | true =>
        rw [if_pos (by decide)]
        exact nxt K J' st hJ (okl_n (Or.inl (by rw [decide_eq_false e3]; decide)))
      | false =>
        rw [if_neg (fun e => e rfl)]
        exact val (by rw [decide_eq_false e3])
/-- of which states a paper is -/
def ppF (np n m p t fr : Nat) (I : Nat → Nat → Int32) : Prop := nmC n m np I ∧ p < np ∧ I 33 p = zI t ∧ t < m ∧ I 32 p = zI fr ∧ fr < m ∧ I 114 p = I 40 p
/-- what the class needs of it -/
def clF (np n m p t fr : Nat) (I : Nat → Nat → Int32) : Prop := (I 1 0 = zI n ∧ n ≤ 12) ∧ (I 1 1 = zI m ∧ m ≤ 6) ∧ (I 31 0 = zI np ∧ np ≤ 60) ∧ p < np ∧ I 33 p = zI t ∧ t < m ∧ I 32 p = zI fr ∧ fr < m
theorem pp_cl {np n m p t fr : Nat} {I : Nat → Nat → Int32} (h : ppF np n m p t fr I) : clF np n m p t fr I := ⟨⟨h.1.1.1, h.1.1.2.2⟩, h.1.2.1, h.1.2.2.1, h.2.1, h.2.2.1, h.2.2.2.1, h.2.2.2.2.1, h.2.2.2.2.2.1⟩
theorem c_24 {n m np p t fr ml : Nat} {c gb vb le : Nat → Nat} {ho : Bool} (hp : clF np n m p t fr I) (hb : bkP t ml c gb vb le (I 22) (I 23) (I 24) (I 25) (I 94) (I 95) (I 96) (I 97) (I 98) (I 99) (I 100) (I 101) (I 102))
    (hQ : ∀ L J', frD I L J J' → Q (some (.int (frs (okl (fun a => (nmv I n t fr p a).toInt64) c vb le ho) ml 0))) (sM mo G L J')) : sm_wp X 24 0 [some (.ref 45), some (.int (zI p)), some (.int (hoI ho)), none, none, none, none, none] [] (sM mo G I J) Q := by
  obtain ⟨⟨n1, n12⟩, ⟨m1, m6⟩, ⟨p1, p60⟩, hlt, ht, htm, hf, hfm⟩ := hp
  rw [lp_24_0, aP_e p1 p60 hlt, ht, lns_e (show t < 6 by omega) hb.1]
  refine c_25 n1 n12 m1 m6 p1 p60 hlt ht htm hf hfm ?_
  intro J' j1 j2
  simp only [tl_none]
  rw [lp_24_24]
  exact c_24l (by omega) hb (fun a _ => i32_b _) hQ ml 0 I J' (by omega) rfl ⟨fun _ _ => rfl, fun _ _ => rfl, fun d a _ => j1 d a⟩ j2
theorem r_254l {U : Nat → Nat → Int32} {n m np p t fr ml : Nat} {c gb vb le : Nat → Nat} {ho : Bool} (hU : ∀ d, 81 < d → U d = I d) (hUj : ∀ j, ¬ j = 63 → U 81 j = I 81 j) (hp : ppF np n m p t fr I) (hb : bkP t ml c gb vb le (I 22) (I 23) (I 24) (I 25) (I 94) (I 95) (I 96) (I 97) (I 98) (I 99) (I 100) (I 101) (I 102))
    (hQ : ∀ L J', frL U L J J' → Q (some (.int (frs (okl (fun a => (nmv I n t fr p a).toInt64) c vb le ho) ml 0))) (sM mo G L J')) : ∀ d i K J', i + d = ml → frs (okl (fun a => (nmv I n t fr p a).toInt64) c vb le ho) d i = frs (okl (fun a => (nmv I n t fr p a).toInt64) c vb le ho) ml 0 → frL U K J J' → sm_wp X 254 10 [some (.ref 81), some (.int (zI p)), some (.int (hoI ho)), some (.int (zI t)), some (.int (zI i))] [] (sM mo G K J') Q := by
  obtain ⟨hC, hlt, ht, htm, hf, hfm, h114⟩ := hp
  have m6 : m ≤ 6 := hC.2.1.2
  have p60 : np ≤ 60 := hC.2.2.1.2
  have hm := hb.2.2.1
  intro d
  induction d with
  | zero =>
    intro i K J' hi hf' st
    rw [lp_254_10, zI_vp (by omega), zI_cn (by omega), st.1 102 (by decide), hU 102 (by decide), hb.2.1, if_pos (by rw [zI_le (by omega) (by omega)]; omega)]
    have q := hQ K J' st
    rw [← hf'] at q
    exact ⟨by omega, q⟩
  | succ d ih =>
    intro i K J' hi hf' st
    have f1 := st.1
    have kI : ∀ d, 81 < d → K d = I d := fun d hd => by rw [f1 d (by omega)]; exact hU d hd
    have kJ : ∀ j, ¬ j = 63 → K 81 j = I 81 j := fun j hj => by rw [st.2.1 j hj]; exact hUj j hj
    have hL := hb.2.2.2.2 i (by omega)
    have v3 := hL.2.2.1
    have fr' : frs (okl (fun a => (nmv I n t fr p a).toInt64) c vb le ho) (d + 1) i = if okl (fun a => (nmv I n t fr p a).toInt64) c vb le ho i = true then zI i else frs (okl (fun a => (nmv I n t fr p a).toInt64) c vb le ho) d (i + 1) := rfl
    rw [fr'] at hf'
    have nxt : ∀ K2 J2, frL U K2 J J2 → ¬ okl (fun a => (nmv I n t fr p a).toInt64) c vb le ho i = true → sm_wp X 254 10 [some (.ref 81), some (.int (zI p)), some (.int (hoI ho)), some (.int (zI t)), some (.int (zI (i + 1)))] [] (sM mo G K2 J2) Q := fun K2 J2 g1 g3 => by
      rw [if_neg g3] at hf'
      exact ih (i + 1) K2 J2 (by omega) hf' g1
    have val : decide (vb i = 3) = ho → sm_wp X 255 0 [some (.ref 81), some (.int (zI p)), some (.int (zI i)), none, none] [] (sM mo G K J') (fun v M => sm_wp X 254 53 [some (.ref 81), some (.int (zI p)), some (.int (hoI ho)), some (.int (zI t)), some (.int (zI i))] (v.toList ++ []) M Q) := by
      intro hho
      rw [lp_255_0]
      refine r_256 (I := I) (nm := nmv I n t fr p) kI (show t < 6 by omega) (show p < 60 by omega) hb (by omega) (by rw [hC.2.2.2.2.1.1]; exact ht) (fun K2 J2 R a g1 g2 ha hR => r_257 hC hlt ht htm hf hfm h114 (fun d hd => by rw [g1 d (by omega)]; exact kI d hd) (fun j hj => by rw [g2 j hj]; exact kJ j hj) ha hR) ?_
      intro L J2 l1 l2 l3
      have fL : frL U L J J2 := ⟨fun d hd => by rw [l1 d hd]; exact f1 d hd, fun j hj => by rw [l2 j hj]; exact st.2.1 j hj, fun d hd => by rw [l3 d hd]; exact st.2.2 d hd⟩
      simp only [tl_some]
      rw [lp_255_6]
      by_cases g1 : lval (fun a => (nmv I n t fr p a).toInt64) c (ls le i) (le i) = -9223372036854775808
      · rw [if_pos ((lg_cmp_eq _ _).mpr g1)]
        simp only [tl_some]
        rw [lp_254_53, if_pos rfl, show zI i + 1 = zI (i + 1) from zIr_add 1 i]
        exact nxt L J2 fL (okl_n (Or.inr (Or.inl g1)))
      · rw [if_neg (fun e => g1 ((lg_cmp_eq _ _).mp e))]
        by_cases g2 : lval (fun a => (nmv I n t fr p a).toInt64) c (ls le i) (le i) = 0
        · rw [if_pos ((lg_cmp_eq _ _).mpr g2)]
          simp only [tl_some]
          rw [lp_254_53, if_pos rfl, show zI i + 1 = zI (i + 1) from zIr_add 1 i]
          exact nxt L J2 fL (okl_n (Or.inr (Or.inr g2)))
        · rw [if_neg (fun e => g2 ((lg_cmp_eq _ _).mp e))]
          simp only [tl_some]
          rw [lp_254_53, if_neg (by decide)]
          have q := hQ L J2 fL
          rw [if_pos (okl_y hho g1 g2)] at hf'
          rw [← hf'] at q
          exact q
    rw [lp_254_10, zI_vp (by omega), zI_cn (by omega), f1 102 (by decide), hU 102 (by decide), hb.2.1, if_neg (by rw [zI_le (by omega) (by omega)]; omega), show (16 : Int32) * zI t = zI (16 * t) from zIl_mul 16 t, zI_add, zI_vp (by omega), zI_cn (by omega), kI 99 (by decide), hL.2.1, show zI i + 1 = zI (i + 1) from zIr_add 1 i]
    refine ⟨by omega, by omega, ?_⟩
    by_cases e3 : vb i = 3
    · rw [if_neg (fun e => e (by rw [e3]; rfl))]
      cases ho with
      | true =>
        rw [if_neg (fun e => e rfl)]
        exact val (by rw [decide_eq_true e3])
      | false =>
        rw [if_pos (by decide)]
        exact nxt K J' st (okl_n (Or.inl (by rw [decide_eq_true e3]; decide)))
    · rw [if_pos (by rw [zIr_eq (c := 3) (by decide) (by omega)]; exact e3)]
      cases ho with
      | true =>
        rw [if_pos (by decide)]
        exact nxt K J' st (okl_n (Or.inl (by rw [decide_eq_false e3]; decide)))
      | false =>
        rw [if_neg (fun e => e rfl)]
        exact val (by rw [decide_eq_false e3])
theorem r_254 {U : Nat → Nat → Int32} {n m np p t fr ml : Nat} {c gb vb le : Nat → Nat} {ho : Bool} (hU : ∀ d, 81 < d → U d = I d) (hUj : ∀ j, ¬ j = 63 → U 81 j = I 81 j) (hp : ppF np n m p t fr I) (hb : bkP t ml c gb vb le (I 22) (I 23) (I 24) (I 25) (I 94) (I 95) (I 96) (I 97) (I 98) (I 99) (I 100) (I 101) (I 102))
    (hQ : ∀ L J', frL U L J J' → Q (some (.int (frs (okl (fun a => (nmv I n t fr p a).toInt64) c vb le ho) ml 0))) (sM mo G L J')) : sm_wp X 254 0 [some (.ref 81), some (.int (zI p)), some (.int (hoI ho)), none, none] [] (sM mo G U J) Q := by
  have hp' := hp
  obtain ⟨hC, hlt, ht, htm, hf, hfm, h114⟩ := hp'
  have p60 : np ≤ 60 := hC.2.2.1.2
  rw [lp_254_0, zI_vp (by omega), zI_cn (by omega), hU 109 (by decide), hC.2.2.2.2.1.1, ht]
  exact ⟨by omega, r_254l hU hUj hp hb hQ ml 0 U J (by omega) rfl ⟨fun _ _ => rfl, fun _ _ => rfl, fun _ _ => rfl⟩⟩
/-- the names don't see what a delegate or a line changes -/
theorem nmv_c {I K : Nat → Nat → Int32} (h : ∀ d, ¬ d = 45 → ¬ d = 81 → K d = I d) (n t fr p a : Nat) : nmv K n t fr p a = nmv I n t fr p a := by
  unfold nmv
  rw [h 13 (by decide) (by decide), h 37 (by decide) (by decide), h 38 (by decide) (by decide), h 2 (by decide) (by decide), h 3 (by decide) (by decide), h 4 (by decide) (by decide), h 12 (by decide) (by decide), h 10 (by decide) (by decide), h 1 (by decide) (by decide), h 39 (by decide) (by decide), h 40 (by decide) (by decide)]
end W1
end
section
/-! why and tries agree. -/
theorem ppF_c {np n m p t fr : Nat} {I K : Nat → Nat → Int32} (h : ppF np n m p t fr I) (hd : ∀ d, ¬ d = 45 → ¬ d = 81 → K d = I d) (h3 : K 81 3 = I 81 3) (h16 : K 81 16 = I 81 16) : ppF np n m p t fr K := by
  unfold ppF nmC at *
  rw [h3, h16, hd 1 (by decide) (by decide), hd 31 (by decide) (by decide), hd 91 (by decide) (by decide), hd 13 (by decide) (by decide), hd 85 (by decide) (by decide), hd 4 (by decide) (by decide), hd 83 (by decide) (by decide), hd 2 (by decide) (by decide), hd 92 (by decide) (by decide), hd 12 (by decide) (by decide), hd 89 (by decide) (by decide), hd 10 (by decide) (by decide), hd 109 (by decide) (by decide), hd 33 (by decide) (by decide), hd 108 (by decide) (by decide), hd 32 (by decide) (by decide), hd 111 (by decide) (by decide), hd 37 (by decide) (by decide), hd 112 (by decide) (by decide), hd 38 (by decide) (by decide), hd 113 (by decide) (by decide), hd 39 (by decide) (by decide), hd 3 (by decide) (by decide), hd 84 (by decide) (by decide), hd 114 (by decide) (by decide), hd 40 (by decide) (by decide)]
  exact h
theorem bkP_c {s m : Nat} {c gb vb le : Nat → Nat} {I K : Nat → Nat → Int32} (h : bkP s m c gb vb le (I 22) (I 23) (I 24) (I 25) (I 94) (I 95) (I 96) (I 97) (I 98) (I 99) (I 100) (I 101) (I 102)) (hd : ∀ d, ¬ d = 45 → ¬ d = 81 → K d = I d) : bkP s m c gb vb le (K 22) (K 23) (K 24) (K 25) (K 94) (K 95) (K 96) (K 97) (K 98) (K 99) (K 100) (K 101) (K 102) := by
  rw [hd 22 (by decide) (by decide), hd 23 (by decide) (by decide), hd 24 (by decide) (by decide), hd 25 (by decide) (by decide), hd 94 (by decide) (by decide), hd 95 (by decide) (by decide), hd 96 (by decide) (by decide), hd 97 (by decide) (by decide), hd 98 (by decide) (by decide), hd 99 (by decide) (by decide), hd 100 (by decide) (by decide), hd 101 (by decide) (by decide), hd 102 (by decide) (by decide)]
  exact h
section W2
variable {X : (Nat → Int32) × Nat} {c : Nat} {mo : Bool} {G : Nat × Nat} {I : Nat → Nat → Int32} {J : Nat → Nat → Int64}
/-- a paper as the law names it: none, a note, an offer -/
theorem pap_h (h : inv c mo G I J) (x : Int32) : (¬ (hPap I x ∧ ¬ I 42 x.toNatClampNeg = -1) ∧ (∀ v, vc_Model_isOffer (up2 I 81 2 v) x ∧ ¬ vf_Model_isOffer (up2 I 81 2 v) x)) ∨
    ∃ np n m k t fr, x = zI k ∧ (hPap I x ∧ ¬ I 42 x.toNatClampNeg = -1) ∧ I 31 0 = zI np ∧ (∀ K : Nat → Nat → Int32, K 81 46 = I 81 46 → K 107 = I 107 → vc_Model_isOffer K x ∧ vf_Model_isOffer K x) ∧ ppF np n m k t fr I ∧ ∃ ml cc gb vb le, bkP t ml cc gb vb le (I 22) (I 23) (I 24) (I 25) (I 94) (I 95) (I 96) (I 97) (I 98) (I 99) (I 100) (I 101) (I 102) := by
  obtain ⟨n, m, t, p, q, r, ch, ln, ⟨n1, n2, n3, n4, n5, n6, n7, n8, n9, n10, n11⟩, ⟨e1, e2, e3, e4, e5, e6, e7, e8⟩, hV, hY, hG, hK, ⟨p1, p2, p3, ⟨q1, q2, q3, q4, q5, q6, q7, q8, q9, q10, q11⟩, p4, p5, p6⟩, hS, hA, hT, hF, hB, hC, hD, hD2, hX, hZ⟩ := h
  rcases Classical.em (sIn x p) with hx | hx
  case inr =>
    left
    refine ⟨fun g => hx (by rw [← hPap_vp p1 p3]; exact g.1), fun v => ?_⟩
    have e46 : up2 I 81 2 v 81 46 = zI p := by simp (decide := true) only [up2_ra, up2_rn, va_ap, ne_eq, if_false, if_true, not_false_eq_true]; exact p2
    unfold vc_Model_isOffer vf_Model_isOffer
    rw [e46]
    exact ⟨fun a b => absurd ⟨a, b⟩ hx, fun g => hx ⟨g.1, g.2.1⟩⟩
  obtain ⟨k, hk, hk31, rfl⟩ := sIn_ex hx
  have cn := zI_cn hk31
  rcases p6 k hk with ⟨s1, s2, s3, s4⟩ | ⟨s1, ⟨fa, hfa, s2⟩, s3, s4, s5, s6, s7, s8, s9, s10, s11⟩
  · left
    refine ⟨fun g => g.2 (by rw [cn]; exact s1), fun v => ?_⟩
    have e46 : up2 I 81 2 v 81 46 = zI p := by simp (decide := true) only [up2_ra, up2_rn, va_ap, ne_eq, if_false, if_true, not_false_eq_true]; exact p2
    have e107 : up2 I 81 2 v 107 = I 107 := up2_rn _ _ _ _ _ (by decide)
    unfold vc_Model_isOffer vf_Model_isOffer
    rw [e46, e107, cn, s2]
    exact ⟨fun _ _ => Eq.mpr (zI_vp (a := k) (n := 60) hk31) (by omega), fun g => absurd g.2.2 (by decide)⟩
  · right
    obtain ⟨⟨fr, hfr, f1⟩, ⟨to, hto, f2⟩, -⟩ := p5 k hk
    obtain ⟨ml, cc, gb, vb, le, b⟩ := hB to (by omega)
    refine ⟨p, n, m, k, to, fr, rfl, ⟨by rw [hPap_vp p1 p3]; exact hx, by rw [cn, s2, zI_m1 (by omega)]; exact fun e => e⟩, p1, fun K g1 g2 => ?_, ⟨⟨⟨n1, n2, n3⟩, ⟨n4, n6⟩, ⟨p1, p3⟩, ⟨e8, e2, e1, e7, e5, by rw [n10, n9]⟩, ⟨q2, q1, q4, q5, q6⟩, hG⟩, hk, f2, hto, f1, hfr, s9⟩, ml, cc, gb, vb, le, b⟩
    unfold vc_Model_isOffer vf_Model_isOffer
    rw [g1, g2, p2, cn, s1]
    exact ⟨fun _ _ => Eq.mpr (zI_vp (a := k) (n := 60) hk31) (by omega), hx.1, hx.2, rfl⟩
theorem op_why (h : inv c mo G I J) (x : Int32) : Agr X 184 [some (.ref 0), some (.int x)] 269 [some (.ref 81), some (.int x)] (sM mo G I J) (Inv (c + 1)) := by
  have hv := inv_t 0 h
  unfold Agr
  rcases pap_h h x with ⟨a, b⟩ | ⟨np, n, m, k, t, fr, rfl, a, p1, b, hp, ml, cc, gb, vb, le, hb⟩
  · rw [lp_184_0, if_pos a, lp_269_0, if_pos (b 0).2]
    exact ⟨(b 0).1, rfl, hv⟩
  · rw [lp_184_0, if_neg (fun e => e a)]
    refine c_24 (ho := false) (pp_cl hp) hb ?_
    intro L J1 f1
    simp only [tl_some]
    rw [lp_184_20]
    have b2 := b (up2 L 81 2 0) (by simp (decide := true) only [up2_ra, up2_rn, va_ap, ne_eq, if_false, if_true, not_false_eq_true]; rw [f1.1 81 (by decide)]) (by rw [up2_rn _ _ _ _ _ (by decide)]; exact f1.1 107 (by decide))
    rw [lp_269_0, if_neg (fun e => e b2.2)]
    refine ⟨b2.1, ?_⟩
    have k1 : ∀ d, ¬ d = 45 → ¬ d = 81 → up2 L 81 2 0 d = I d := fun d a e => by rw [up2_rn _ _ _ _ _ e]; exact f1.1 d a
    have kj : ∀ j, ¬ j = 2 → up2 L 81 2 0 81 j = I 81 j := fun j hj => by rw [up2_ra, va_ap, if_neg hj, f1.1 81 (by decide)]
    refine r_254 (ho := false) (fun _ _ => rfl) (fun _ _ => rfl) (ppF_c hp k1 (kj 3 (by decide)) (kj 16 (by decide))) (bkP_c hb k1) ?_
    intro V J2 f2
    simp only [tl_some]
    rw [lp_269_19]
    refine ⟨?_, mo, G, V, J2, rfl, inv_e h (fun d a e => by rw [f2.1 d e]; exact k1 d a e) (fun j a e => by rw [f2.2.1 j e]; exact kj j a) (by rw [f2.2.2 52 (by decide)]; exact f1.2.2 52 (by decide) (by decide)) (by rw [f2.2.2 60 (by decide)]; exact f1.2.2 60 (by decide) (by decide))⟩
    have e : (fun a => (nmv (up2 L 81 2 0) n t fr k a).toInt64) = fun a => (nmv I n t fr k a).toInt64 := funext fun a => by rw [nmv_c k1]
    rw [e]
theorem op_tries (h : inv c mo G I J) (x y : Int32) : Agr X 185 [some (.ref 0), some (.int x), some (.int y)] 270 [some (.ref 81), some (.int x), some (.int y)] (sM mo G I J) (Inv (c + 1)) := by
  have hv := inv_t 0 h
  unfold Agr
  rcases pap_h h x with ⟨a, b⟩ | ⟨np, n, m, k, t, fr, rfl, a, p1, b, hp, ml, cc, gb, vb, le, hb⟩
  · rw [lp_185_0, if_pos a, lp_270_0, if_pos (b 0).2]
    exact ⟨(b 0).1, rfl, hv⟩
  · have hp' := hp
    obtain ⟨⟨⟨n1, n2, n12⟩, ⟨m1, m6⟩, ⟨p1', p60⟩, -, ⟨q109, -⟩, -⟩, hlt, ht, htm, hf, hfm, -⟩ := hp'
    have hm := hb.2.2.1
    have ea : aPap I 33 (-1) (zI k) = zI t := (aP_e p1' p60 hlt 33 (-1)).trans ht
    have b0 := b (up2 I 81 2 0) (by simp (decide := true) only [up2_ra, up2_rn, va_ap, ne_eq, if_false, if_true, not_false_eq_true]) (up2_rn _ _ _ _ _ (by decide))
    have vk : vp_in (zI k) 60 := Eq.mpr (zI_vp (a := k) (n := 60) (by omega)) (by omega)
    have vt : vp_in (zI t) 7 := Eq.mpr (zI_vp (a := t) (n := 7) (by omega)) (by omega)
    rw [lp_185_0, if_neg (fun e => e a)]
    rcases Classical.em (sIn y ml) with hy | hy
    · obtain ⟨i, hi, hi31, rfl⟩ := sIn_ex hy
      rw [if_pos (by rw [ea]; exact isl_e (by omega) hb.1 hm hi)]
      refine c_25 n1 n12 m1 m6 p1' p60 hlt ht htm hf hfm ?_
      intro J1 j1 j2
      simp only [tl_none]
      rw [lp_185_42, ea]
      refine c_26 (nv := fun a => (nmv I n t fr k a).toInt64) (show t < 6 by omega) hb hi (fun a _ => i32_b _) j2 ?_
      intro L J2 l1 l2 l3
      simp only [tl_some]
      rw [lp_185_58]
      have k1 : ∀ d, ¬ d = 45 → ¬ d = 81 → up2 L 81 2 0 d = I d := fun d a e => by rw [up2_rn _ _ _ _ _ e]; exact l1 d a
      have kj : ∀ j, ¬ j = 2 → up2 L 81 2 0 81 j = I 81 j := fun j hj => by rw [up2_ra, va_ap, if_neg hj, l1 81 (by decide)]
      have b2 := b (up2 L 81 2 0) (kj 46 (by decide)) (k1 107 (by decide) (by decide))
      rw [lp_270_0, if_neg (fun e => e b2.2), if_neg (by rw [zIr_lt (c := 0) (by decide) (by omega)]; exact Nat.not_lt_zero _), zI_cn (by omega), l1 109 (by decide), q109, ht, zI_cn (by omega), l1 102 (by decide), hb.2.1, if_neg (by rw [zI_le (by omega) (by omega)]; omega)]
      refine ⟨b2.1, vk, vt, ?_⟩
      have hC := (ppF_c hp k1 (kj 3 (by decide)) (kj 16 (by decide)))
      obtain ⟨hC1, hlt', ht', htm', hf', hfm', h114'⟩ := hC
      refine r_256 (nm := nmv (up2 L 81 2 0) n t fr k) (fun _ _ => rfl) (show t < 6 by omega) (show k < 60 by omega) (bkP_c hb k1) hi (by rw [k1 109 (by decide) (by decide), q109]; exact ht) (fun K2 J3 R a g1 g2 ha hR => r_257 hC1 hlt' ht' htm' hf' hfm' h114' (fun d hd => g1 d (by omega)) g2 ha hR) ?_
      intro V J3 f1 f2 f3
      simp only [tl_some]
      rw [lp_270_38]
      refine ⟨?_, mo, G, V, J3, rfl, inv_e h (fun d a e => by rw [f1 d e]; exact k1 d a e) (fun j a e => by rw [f2 j e]; exact kj j a) (by rw [f3 52 (by decide), l3 52 (by decide)]; exact j1 52 (by decide)) (by rw [f3 60 (by decide), l3 60 (by decide)]; exact j1 60 (by decide))⟩
      have e : (fun a => (nmv (up2 L 81 2 0) n t fr k a).toInt64) = fun a => (nmv I n t fr k a).toInt64 := funext fun a => by rw [nmv_c k1]
      rw [e]
    · have nl : ¬ vf_Book_isLine I (aPap I 33 (-1) (zI k)) y := by
        rw [ea]
        intro g
        obtain ⟨g1, g2, g3⟩ := g
        rw [lns_e (show t < 6 by omega) hb.1] at g3
        exact hy ⟨g1, g3⟩
      rw [if_neg nl, lp_270_0, if_neg (fun e => e b0.2), zI_cn (by omega), q109, ht, zI_cn (by omega), hb.2.1]
      refine ⟨b0.1, ?_⟩
      by_cases g1 : y < 0
      · rw [if_pos g1]
        exact ⟨rfl, hv⟩
      · rw [if_neg g1]
        have g3 : zI ml ≤ y := Classical.byContradiction fun e => hy ⟨g1, e⟩
        rw [if_pos g3]
        exact ⟨vk, vt, rfl, hv⟩
end W2
end
section
/-! A day goes by: the two sides' data while it does. -/
/-- the class's memory, up to the delegates' own fields -/
def eqC (K L : Nat → Nat → Int32) : Prop := ∀ d, ¬ d = 45 → L d = K d
def jD (J J' : Nat → Nat → Int64) : Prop := ∀ d, ¬ d = 46 → ¬ d = 47 → J' d = J d
def jR (J J' : Nat → Nat → Int64) : Prop := ∀ d, ¬ d = 121 → J' d = J d
/-- what a day doesn't change -/
def fixC (I K : Nat → Nat → Int32) : Prop := (∀ d, ¬ d = 1 → ¬ d = 4 → ¬ d = 6 → ¬ d = 7 → ¬ d = 8 → ¬ d = 9 → ¬ d = 42 → ¬ d = 43 → ¬ d = 44 → K d = I d) ∧ ∀ j, ¬ j = 3 → ¬ j = 4 → K 1 j = I 1 j
def wyE (r7 r8 r9 q88 : Nat → Int32) : Prop := ∀ l, l < 12 → ∀ k, k < 80 → r7 (80 * l + k) = q88 (300 * l + 3 * k) ∧ r8 (80 * l + k) = q88 (300 * l + 3 * k + 1) ∧ r9 (80 * l + k) = q88 (300 * l + 3 * k + 2)
/-- the reference's memory beside the class's: A as the class left it all, K as the class stood at this point -/
def cplR (I A K T : Nat → Nat → Int32) : Prop := (∀ d, d < 81 ∨ 142 < d → T d = A d) ∧ (∀ d, 81 < d → d ≤ 142 → ¬ d = 85 → ¬ d = 87 → ¬ d = 88 → ¬ d = 117 → ¬ d = 118 → ¬ d = 119 → ¬ d = 122 → T d = I d) ∧ (∀ j, ¬ j = 2 → ¬ j = 16 → ¬ j = 63 → T 81 j = I 81 j) ∧
  T 81 16 = K 1 3 ∧ T 85 = K 4 ∧ T 87 = K 6 ∧ T 117 = K 42 ∧ T 119 = K 44 ∧ wyE (K 7) (K 8) (K 9) (T 88)
/-- the papers, as they stay -/
def ppS (n m np : Nat) (I : Nat → Nat → Int32) : Prop := (I 1 0 = zI n ∧ I 81 3 = zI n ∧ n ≤ 12) ∧ (I 1 1 = zI m ∧ I 81 10 = zI m ∧ m ≤ 6) ∧ (I 31 0 = zI np ∧ I 81 46 = zI np ∧ np ≤ 60) ∧ I 81 15 = I 1 2 ∧
  (I 91 = I 13 ∧ I 83 = I 2 ∧ I 92 = I 12 ∧ I 89 = I 10 ∧ I 90 = I 11) ∧ (I 109 = I 33 ∧ I 108 = I 32 ∧ I 111 = I 37 ∧ I 112 = I 38 ∧ I 113 = I 39) ∧ ivG (I 3) (I 84) ∧
  (∀ s, s < 6 → bkS s (I 22) (I 23) (I 24) (I 25) (I 94) (I 95) (I 96) (I 97) (I 98) (I 99) (I 100) (I 101) (I 102)) ∧ (∀ j, ∃ w, w ≤ 9 ∧ I 11 j = zI w) ∧
  (∀ k, k < np → (∃ s, s < m ∧ I 32 k = zI s) ∧ ∃ s, s < m ∧ I 33 k = zI s) ∧
  ∀ k, k < np → (I 42 k = -1 ∧ I 107 k = 1 ∧ I 40 k = -1 ∧ I 41 k = -1) ∨ (¬ I 42 k = -1 ∧ I 107 k = 0 ∧ (∀ j, n ≤ j → bt (I 37 k) j = false) ∧ (∀ j, n ≤ j → bt (I 38 k) j = false) ∧ I 37 k &&& I 38 k = 0 ∧ I 114 k = I 40 k ∧ ((I 40 k = -1 ∧ I 41 k = zI k) ∨ ∃ j, j < k ∧ I 40 k = zI j ∧ ¬ I 42 j = -1 ∧ I 41 k = I 41 j) ∧ ∃ j, j ≤ k ∧ I 41 k = zI j)
/-- an offer's standing -/
def sta (I K : Nat → Nat → Int32) (np : Nat) : Prop := ∀ k, k < np → (I 42 k = -1 ∧ K 42 k = -1) ∨ (¬ I 42 k = -1 ∧ ∃ f, f ≤ 6 ∧ K 42 k = zI f)
/-- what a day's steps keep -/
def wdC (n m np t0 ch0 bd : Nat) (I K : Nat → Nat → Int32) : Prop := fixC I K ∧ sta I K np ∧ (∃ t, t ≤ 300 ∧ t = t0 ∧ K 1 3 = zI t) ∧ (∃ ch, K 1 4 = zI ch ∧ ch ≤ bd ∧ ((ch = ch0 ∧ K 4 = I 4) ∨ ch0 < ch)) ∧
  (∀ l, l < n → K 4 l = -1 ∨ ∃ s, s < m ∧ K 4 l = zI s) ∧ (∀ l, n ≤ l → K 6 l = 0) ∧ ∀ l, ∃ v, K 6 l = zI v ∧ v ≤ 20 + nBound np (K 42)
section D1
variable {I A K T : Nat → Nat → Int32}
theorem ppS_h {c : Nat} {mo : Bool} {G : Nat × Nat} {J : Nat → Nat → Int64} {n m t p q r ch ln : Nat} (hN : ivN n m t (I 1 0) (I 1 1) (I 1 2) (I 1 3) (I 81 3) (I 81 10) (I 81 15) (I 81 16)) (hE : ivE (I 2) (I 4) (I 5) (I 6) (I 10) (I 11) (I 12) (I 13) (I 83) (I 85) (I 86) (I 87) (I 89) (I 90) (I 92) (I 91)) (hV : ivV n m (I 2) (I 4) (I 5) (I 10) (I 11) (I 12) (I 13)) (hG : ivG (I 3) (I 84))
    (hP : ivP p n m t (I 31 0) (I 81 46) (I 32) (I 33) (I 34) (I 35) (I 36) (I 37) (I 38) (I 39) (I 40) (I 41) (I 42) (I 43) (I 44) (I 107) (I 108) (I 109) (I 110) (I 111) (I 112) (I 113) (I 114) (I 115) (I 116) (I 117) (I 118) (I 119)) (hB : ivB (I 22) (I 23) (I 24) (I 25) (I 94) (I 95) (I 96) (I 97) (I 98) (I 99) (I 100) (I 101) (I 102)) : ppS n m p I := by
  obtain ⟨n1, n2, n3, n4, n5, n6, n7, n8, n9, n10, n11⟩ := hN
  obtain ⟨e1, e2, e3, e4, e5, e6, e7, e8⟩ := hE
  obtain ⟨p1, p2, p3, ⟨q1, q2, q3, q4, q5, q6, q7, q8, q9, q10, q11⟩, p4, p5, p6⟩ := hP
  refine ⟨⟨n1, n2, n3⟩, ⟨n4, n5, n6⟩, ⟨p1, p2, p3⟩, n7, ⟨e8, e1, e7, e5, e6⟩, ⟨q2, q1, q4, q5, q6⟩, hG, hB, hV.2.2.2.2.2.2.1, fun k hk => ⟨(p5 k hk).1, (p5 k hk).2.1⟩, fun k hk => ?_⟩
  rcases p6 k hk with ⟨s1, s2, s3, s4⟩ | ⟨s1, ⟨fa, hfa, s2⟩, s3, s4, s5, s6, s7, s8, s9, s10, s11⟩
  · exact Or.inl ⟨s1, s2, s3, s4⟩
  · exact Or.inr ⟨by rw [s2, zI_m1 (by omega)]; exact fun e => e, s1, s5, s6, s7, s9, s10, s11⟩
/-- the joined memory: the class's rows as it stood, the reference's as they stand -/
def jn (K T : Nat → Nat → Int32) : Nat → Nat → Int32 := fun d => if d < 81 then K d else T d
theorem jn_c {d : Nat} (h : d < 81) : jn K T d = K d := if_pos h
theorem jn_r {d : Nat} (h : 81 ≤ d) : jn K T d = T d := if_neg (by omega)
theorem jn_pp {n m np k to fr : Nat} (hp : ppS n m np I) (hf : fixC I K) (hc : cplR I A K T) (hk : k < np) (hto : I 33 k = zI to) (htm : to < m) (hfr : I 32 k = zI fr) (hfm : fr < m) (ho : ¬ I 42 k = -1) : ppF np n m k to fr (jn K T) := by
  obtain ⟨⟨a1, a2, a3⟩, ⟨b1, b2, b3⟩, ⟨c1, c2, c3⟩, d1, ⟨e1, e2, e3, e4, e5⟩, ⟨f1, f2, f3, f4, f5⟩, g1, g2, g3, g4, g5⟩ := hp
  obtain ⟨h1, h2, h3, h4, h5, h6, h7, h8, h9⟩ := hc
  have hof := (g5 k hk).resolve_left (fun e => ho e.1)
  have kc : ∀ d, d < 81 → ¬ d = 1 → ¬ d = 4 → ¬ d = 6 → ¬ d = 7 → ¬ d = 8 → ¬ d = 9 → ¬ d = 42 → ¬ d = 43 → ¬ d = 44 → jn K T d = I d := fun d x a b c d e f g h i => by rw [jn_c x]; exact hf.1 _ a b c d e f g h i
  have kr : ∀ d, 81 < d → d ≤ 142 → ¬ d = 85 → ¬ d = 87 → ¬ d = 88 → ¬ d = 117 → ¬ d = 118 → ¬ d = 119 → ¬ d = 122 → jn K T d = I d := fun d x y a b c d e f g => by rw [jn_r (by omega)]; exact h2 _ x y a b c d e f g
  refine ⟨⟨⟨?_, ?_, a3⟩, ⟨?_, b3⟩, ⟨?_, c3⟩, ⟨?_, ?_, ?_, ?_, ?_, ?_⟩, ⟨?_, ?_, ?_, ?_, ?_⟩, ?_⟩, hk, ?_, htm, ?_, hfm, ?_⟩
  · rw [jn_c (by decide), hf.2 0 (by decide) (by decide)]; exact a1
  · rw [jn_r (by decide), h3 3 (by decide) (by decide) (by decide)]; exact a2
  · rw [jn_c (by decide), hf.2 1 (by decide) (by decide)]; exact b1
  · rw [kc 31 (by decide) (by decide) (by decide) (by decide) (by decide) (by decide) (by decide) (by decide) (by decide) (by decide)]; exact c1
  · rw [kr 91 (by decide) (by decide) (by decide) (by decide) (by decide) (by decide) (by decide) (by decide) (by decide), kc 13 (by decide) (by decide) (by decide) (by decide) (by decide) (by decide) (by decide) (by decide) (by decide) (by decide)]; exact e1
  · rw [jn_r (by decide), jn_c (by decide)]; exact h5
  · rw [kr 83 (by decide) (by decide) (by decide) (by decide) (by decide) (by decide) (by decide) (by decide) (by decide), kc 2 (by decide) (by decide) (by decide) (by decide) (by decide) (by decide) (by decide) (by decide) (by decide) (by decide)]; exact e2
  · rw [kr 92 (by decide) (by decide) (by decide) (by decide) (by decide) (by decide) (by decide) (by decide) (by decide), kc 12 (by decide) (by decide) (by decide) (by decide) (by decide) (by decide) (by decide) (by decide) (by decide) (by decide)]; exact e3
  · rw [kr 89 (by decide) (by decide) (by decide) (by decide) (by decide) (by decide) (by decide) (by decide) (by decide), kc 10 (by decide) (by decide) (by decide) (by decide) (by decide) (by decide) (by decide) (by decide) (by decide) (by decide)]; exact e4
  · rw [jn_r (by decide), jn_c (by decide)]; exact h4
  · rw [kr 109 (by decide) (by decide) (by decide) (by decide) (by decide) (by decide) (by decide) (by decide) (by decide), kc 33 (by decide) (by decide) (by decide) (by decide) (by decide) (by decide) (by decide) (by decide) (by decide) (by decide)]; exact f1
  · rw [kr 108 (by decide) (by decide) (by decide) (by decide) (by decide) (by decide) (by decide) (by decide) (by decide), kc 32 (by decide) (by decide) (by decide) (by decide) (by decide) (by decide) (by decide) (by decide) (by decide) (by decide)]; exact f2
  · rw [kr 111 (by decide) (by decide) (by decide) (by decide) (by decide) (by decide) (by decide) (by decide) (by decide), kc 37 (by decide) (by decide) (by decide) (by decide) (by decide) (by decide) (by decide) (by decide) (by decide) (by decide)]; exact f3
  · rw [kr 112 (by decide) (by decide) (by decide) (by decide) (by decide) (by decide) (by decide) (by decide) (by decide), kc 38 (by decide) (by decide) (by decide) (by decide) (by decide) (by decide) (by decide) (by decide) (by decide) (by decide)]; exact f4
  · rw [kr 113 (by decide) (by decide) (by decide) (by decide) (by decide) (by decide) (by decide) (by decide) (by decide), kc 39 (by decide) (by decide) (by decide) (by decide) (by decide) (by decide) (by decide) (by decide) (by decide) (by decide)]; exact f5
  · rw [kr 84 (by decide) (by decide) (by decide) (by decide) (by decide) (by decide) (by decide) (by decide) (by decide), kc 3 (by decide) (by decide) (by decide) (by decide) (by decide) (by decide) (by decide) (by decide) (by decide) (by decide)]; exact g1
  · rw [kc 33 (by decide) (by decide) (by decide) (by decide) (by decide) (by decide) (by decide) (by decide) (by decide) (by decide)]; exact hto
  · rw [kc 32 (by decide) (by decide) (by decide) (by decide) (by decide) (by decide) (by decide) (by decide) (by decide) (by decide)]; exact hfr
  · rw [kr 114 (by decide) (by decide) (by decide) (by decide) (by decide) (by decide) (by decide) (by decide) (by decide), kc 40 (by decide) (by decide) (by decide) (by decide) (by decide) (by decide) (by decide) (by decide) (by decide) (by decide)]; exact hof.2.2.2.2.2.1
theorem cl_pp {n m np k to fr : Nat} {L : Nat → Nat → Int32} (hp : ppS n m np I) (hf : fixC I K) (he : eqC K L) (hk : k < np) (hto : I 33 k = zI to) (htm : to < m) (hfr : I 32 k = zI fr) (hfm : fr < m) : clF np n m k to fr L := by
  obtain ⟨⟨a1, a2, a3⟩, ⟨b1, b2, b3⟩, ⟨c1, c2, c3⟩, -⟩ := hp
  refine ⟨⟨?_, a3⟩, ⟨?_, b3⟩, ⟨?_, c3⟩, hk, ?_, htm, ?_, hfm⟩
  · rw [he 1 (by decide), hf.2 0 (by decide) (by decide)]; exact a1
  · rw [he 1 (by decide), hf.2 1 (by decide) (by decide)]; exact b1
  · rw [he 31 (by decide), hf.1 31 (by decide) (by decide) (by decide) (by decide) (by decide) (by decide) (by decide) (by decide) (by decide)]; exact c1
  · rw [he 33 (by decide), hf.1 33 (by decide) (by decide) (by decide) (by decide) (by decide) (by decide) (by decide) (by decide) (by decide)]; exact hto
  · rw [he 32 (by decide), hf.1 32 (by decide) (by decide) (by decide) (by decide) (by decide) (by decide) (by decide) (by decide) (by decide)]; exact hfr
theorem fx_bk {s m : Nat} {c gb vb le : Nat → Nat} (h : bkP s m c gb vb le (I 22) (I 23) (I 24) (I 25) (I 94) (I 95) (I 96) (I 97) (I 98) (I 99) (I 100) (I 101) (I 102)) {L : Nat → Nat → Int32} (e : ∀ d, (21 < d ∧ d < 26) ∨ (93 < d ∧ d < 103) → L d = I d) : bkP s m c gb vb le (L 22) (L 23) (L 24) (L 25) (L 94) (L 95) (L 96) (L 97) (L 98) (L 99) (L 100) (L 101) (L 102) := by
  rw [e 22 (by decide), e 23 (by decide), e 24 (by decide), e 25 (by decide), e 94 (by decide), e 95 (by decide), e 96 (by decide), e 97 (by decide), e 98 (by decide), e 99 (by decide), e 100 (by decide), e 101 (by decide), e 102 (by decide)]
  exact h
end D1
end
section
/-! An offer is answered, on both sides. -/
theorem frs_p (P : Nat → Bool) : ∀ d i, frs P d i = -1 ∨ ∃ j, i ≤ j ∧ j < i + d ∧ frs P d i = zI j ∧ P j = true := by
  intro d
  induction d with
  | zero => intro i; exact Or.inl rfl
  | succ d ih =>
    intro i
    have e : frs P (d + 1) i = if P i = true then zI i else frs P d (i + 1) := rfl
    by_cases g : P i = true
    · rw [if_pos g] at e
      exact Or.inr ⟨i, Nat.le_refl _, by omega, e, g⟩
    · rw [if_neg g] at e
      rw [e]
      rcases ih (i + 1) with h | ⟨j, h1, h2, h3, h4⟩
      · exact Or.inl h
      · exact Or.inr ⟨j, by omega, by omega, h3, h4⟩
theorem nBd_s (p : Nat) (r : Nat → Int32) : nBound (p + 1) r = if r p = 5 then nBound p r + 1 else nBound p r := rfl
theorem nBd_c {r r' : Nat → Int32} : ∀ p, (∀ k, k < p → (r' k = 5 ↔ r k = 5)) → nBound p r' = nBound p r := by
  intro p
  induction p with
  | zero => intro _; rfl
  | succ p ih =>
    intro h
    rw [nBd_s, nBd_s, ih (fun k hk => h k (by omega))]
    by_cases g : r p = 5
    · rw [if_pos g, if_pos ((h p (by omega)).mpr g)]
    · rw [if_neg g, if_neg (fun e => g ((h p (by omega)).mp e))]
theorem eqC_u {K L : Nat → Nat → Int32} (h : eqC K L) (d k : Nat) (v : Int32) : eqC (up2 K d k v) (up2 L d k v) := fun e he => by
  by_cases g : e = d
  · subst g
    rw [up2_ra, up2_ra, h e he]
  · rw [up2_rn _ _ _ _ _ g, up2_rn _ _ _ _ _ g]; exact h e he
theorem fixC_u {I K : Nat → Nat → Int32} {d k : Nat} {v : Int32} (h : fixC I K) (hd : d = 42 ∨ d = 43 ∨ d = 44) : fixC I (up2 K d k v) := ⟨fun e a1 a2 a3 a4 a5 a6 a7 a8 a9 => by rw [up2_rn _ _ _ _ _ (by omega)]; exact h.1 e a1 a2 a3 a4 a5 a6 a7 a8 a9, fun j a b => by rw [up2_rn _ _ _ _ _ (by omega)]; exact h.2 j a b⟩
theorem cpl_42 {I A K T : Nat → Nat → Int32} (h : cplR I A K T) (k : Nat) (v : Int32) : cplR I A (up2 K 42 k v) (up2 T 117 k v) := by
  obtain ⟨h1, h2, h3, h4, h5, h6, h7, h8, h9⟩ := h
  refine ⟨fun d a => by rw [up2_rn _ _ _ _ _ (by omega)]; exact h1 d a, fun d x y a b c d' e f g => by rw [up2_rn _ _ _ _ _ d']; exact h2 d x y a b c d' e f g, fun j a b c => by rw [up2_rn _ _ _ _ _ (by decide)]; exact h3 j a b c, ?_, ?_, ?_, ?_, ?_, ?_⟩
  · rw [up2_rn _ _ _ _ _ (by decide), up2_rn _ _ _ _ _ (by decide)]; exact h4
  · rw [up2_rn _ _ _ _ _ (by decide), up2_rn _ _ _ _ _ (by decide)]; exact h5
  · rw [up2_rn _ _ _ _ _ (by decide), up2_rn _ _ _ _ _ (by decide)]; exact h6
  · rw [up2_ra, up2_ra, h7]
  · rw [up2_rn _ _ _ _ _ (by decide), up2_rn _ _ _ _ _ (by decide)]; exact h8
  · rw [up2_rn _ _ _ _ _ (by decide), up2_rn _ _ _ _ _ (by decide), up2_rn _ _ _ _ _ (by decide), up2_rn _ _ _ _ _ (by decide)]; exact h9
theorem cpl_44 {I A K T : Nat → Nat → Int32} (h : cplR I A K T) (k : Nat) (v : Int32) : cplR I A (up2 K 44 k v) (up2 T 119 k v) := by
  obtain ⟨h1, h2, h3, h4, h5, h6, h7, h8, h9⟩ := h
  refine ⟨fun d a => by rw [up2_rn _ _ _ _ _ (by omega)]; exact h1 d a, fun d x y a b c d' e f g => by rw [up2_rn _ _ _ _ _ f]; exact h2 d x y a b c d' e f g, fun j a b c => by rw [up2_rn _ _ _ _ _ (by decide)]; exact h3 j a b c, ?_, ?_, ?_, ?_, ?_, ?_⟩
  · rw [up2_rn _ _ _ _ _ (by decide), up2_rn _ _ _ _ _ (by decide)]; exact h4
  · rw [up2_rn _ _ _ _ _ (by decide), up2_rn _ _ _ _ _ (by decide)]; exact h5
  · rw [up2_rn _ _ _ _ _ (by decide), up2_rn _ _ _ _ _ (by decide)]; exact h6
  · rw [up2_rn _ _ _ _ _ (by decide), up2_rn _ _ _ _ _ (by decide)]; exact h7
  · rw [up2_ra, up2_ra, h8]
  · rw [up2_rn _ _ _ _ _ (by decide), up2_rn _ _ _ _ _ (by decide), up2_rn _ _ _ _ _ (by decide), up2_rn _ _ _ _ _ (by decide)]; exact h9
theorem cpl_43 {I A K T : Nat → Nat → Int32} (h : cplR I A K T) (k k' : Nat) (v v' : Int32) : cplR I A (up2 K 43 k v) (up2 T 118 k' v') := by
  obtain ⟨h1, h2, h3, h4, h5, h6, h7, h8, h9⟩ := h
  refine ⟨fun d a => by rw [up2_rn _ _ _ _ _ (by omega)]; exact h1 d a, fun d x y a b c d' e f g => by rw [up2_rn _ _ _ _ _ e]; exact h2 d x y a b c d' e f g, fun j a b c => by rw [up2_rn _ _ _ _ _ (by decide)]; exact h3 j a b c, ?_, ?_, ?_, ?_, ?_, ?_⟩
  · rw [up2_rn _ _ _ _ _ (by decide), up2_rn _ _ _ _ _ (by decide)]; exact h4
  · rw [up2_rn _ _ _ _ _ (by decide), up2_rn _ _ _ _ _ (by decide)]; exact h5
  · rw [up2_rn _ _ _ _ _ (by decide), up2_rn _ _ _ _ _ (by decide)]; exact h6
  · rw [up2_rn _ _ _ _ _ (by decide), up2_rn _ _ _ _ _ (by decide)]; exact h7
  · rw [up2_rn _ _ _ _ _ (by decide), up2_rn _ _ _ _ _ (by decide)]; exact h8
  · rw [up2_rn _ _ _ _ _ (by decide), up2_rn _ _ _ _ _ (by decide), up2_rn _ _ _ _ _ (by decide), up2_rn _ _ _ _ _ (by decide)]; exact h9
theorem cpl_118 {I A K T : Nat → Nat → Int32} (h : cplR I A K T) (k : Nat) (v : Int32) : cplR I A K (up2 T 118 k v) := by
  obtain ⟨h1, h2, h3, h4, h5, h6, h7, h8, h9⟩ := h
  refine ⟨fun d a => by rw [up2_rn _ _ _ _ _ (by omega)]; exact h1 d a, fun d x y a b c d' e f g => by rw [up2_rn _ _ _ _ _ e]; exact h2 d x y a b c d' e f g, fun j a b c => by rw [up2_rn _ _ _ _ _ (by decide)]; exact h3 j a b c, ?_, ?_, ?_, ?_, ?_, ?_⟩
  · rw [up2_rn _ _ _ _ _ (by decide)]; exact h4
  · rw [up2_rn _ _ _ _ _ (by decide)]; exact h5
  · rw [up2_rn _ _ _ _ _ (by decide)]; exact h6
  · rw [up2_rn _ _ _ _ _ (by decide)]; exact h7
  · rw [up2_rn _ _ _ _ _ (by decide)]; exact h8
  · rw [up2_rn _ _ _ _ _ (by decide)]; exact h9
theorem cpl_L {I A K T T' : Nat → Nat → Int32} {J J' : Nat → Nat → Int64} (h : cplR I A K T) (f : frL T T' J J') : cplR I A K T' := by
  obtain ⟨h1, h2, h3, h4, h5, h6, h7, h8, h9⟩ := h
  obtain ⟨f1, f2, -⟩ := f
  refine ⟨fun d a => by rw [f1 d (by omega)]; exact h1 d a, fun d x y a b c d' e f' g => by rw [f1 d (by omega)]; exact h2 d x y a b c d' e f' g, fun j a b c => by rw [f2 j c]; exact h3 j a b c, by rw [f2 16 (by decide)]; exact h4, by rw [f1 85 (by decide)]; exact h5, by rw [f1 87 (by decide)]; exact h6, by rw [f1 117 (by decide)]; exact h7, by rw [f1 119 (by decide)]; exact h8, by rw [f1 88 (by decide)]; exact h9⟩
theorem wd_42 {n m np t0 ch0 bd k f : Nat} {I K : Nat → Nat → Int32} (h : wdC n m np t0 ch0 bd I K) (ho : ¬ I 42 k = -1) (hf : f ≤ 6) (h5 : ¬ f = 5) (k5 : ¬ K 42 k = 5) : wdC n m np t0 ch0 bd I (up2 K 42 k (zI f)) := by
  obtain ⟨h1, h2, h3, h4, h5', h6, h7⟩ := h
  refine ⟨fixC_u h1 (by decide), fun j hj => ?_, ?_, ?_, ?_, ?_, ?_⟩
  · rw [up2_ra, va_ap]
    by_cases e : j = k
    · rw [if_pos e, e]; exact Or.inr ⟨ho, f, hf, rfl⟩
    · rw [if_neg e]; exact h2 j hj
  · rw [up2_rn _ _ _ _ _ (by decide)]; exact h3
  · rw [up2_rn _ _ _ _ _ (by decide), up2_rn _ _ _ _ _ (by decide)]; exact h4
  · rw [up2_rn _ _ _ _ _ (by decide)]; exact h5'
  · rw [up2_rn _ _ _ _ _ (by decide)]; exact h6
  · rw [up2_rn _ _ _ _ _ (by decide), up2_ra, nBd_c np (r := K 42) (fun j _ => ?_)]
    · exact h7
    · rw [va_ap]
      by_cases e : j = k
      · rw [if_pos e, e]
        exact ⟨fun g => absurd g (by rw [zIr_eq (c := 5) (by decide) (by omega)]; exact h5), fun g => absurd g k5⟩
      · rw [if_neg e]
theorem wd_34 {n m np t0 ch0 bd k d : Nat} {v : Int32} {I K : Nat → Nat → Int32} (h : wdC n m np t0 ch0 bd I K) (hd : d = 43 ∨ d = 44) : wdC n m np t0 ch0 bd I (up2 K d k v) := by
  obtain ⟨h1, h2, h3, h4, h5', h6, h7⟩ := h
  refine ⟨fixC_u h1 (by omega), fun j hj => ?_, ?_, ?_, ?_, ?_, ?_⟩
  · rw [up2_rn _ _ _ _ _ (by omega)]; exact h2 j hj
  · rw [up2_rn _ _ _ _ _ (by omega)]; exact h3
  · rw [up2_rn _ _ _ _ _ (by omega), up2_rn _ _ _ _ _ (by omega)]; exact h4
  · rw [up2_rn _ _ _ _ _ (by omega)]; exact h5'
  · rw [up2_rn _ _ _ _ _ (by omega)]; exact h6
  · rw [up2_rn _ _ _ _ _ (by omega), up2_rn _ _ _ _ _ (by omega)]; exact h7
/-- the two run alongside -/
def cRun (mo : Bool) (G : Nat × Nat) (pg : sm_M → (Option Value → sm_M → Prop) → Prop) (K K' : Nat → Nat → Int32) : Prop := ∀ L J (Q : Option Value → sm_M → Prop), eqC K L → (∀ L' J', eqC K' L' → jD J J' → Q none (sM mo G L' J')) → pg (sM mo G L J) Q
def rRun (mo : Bool) (G : Nat × Nat) (I : Nat → Nat → Int32) (pg : sm_M → (Option Value → sm_M → Prop) → Prop) (K K' : Nat → Nat → Int32) : Prop := ∀ A T J (Q : Option Value → sm_M → Prop), cplR I A K T → (∀ T' J', cplR I A K' T' → jR J J' → Q none (sM mo G T' J')) → pg (sM mo G T J) Q
section D2
variable {X : (Nat → Int32) × Nat} {mo : Bool} {G : Nat × Nat} {I K : Nat → Nat → Int32}
theorem bkx_253_180 (I : Nat → Nat → Int32) (J : Nat → Nat → Int64) (Q : Option Value → sm_M → Prop) (x1 x2 x3 s1 s2 : Int32) :
    sm_wp X 253 180 [some (.ref 81), some (.int x1), some (.int x2), some (.int x3)] [.int s2, .int s1, .ref 118] (sM mo G I J) Q =
    (vp_in s1 60 ∧ (vp_in x1 60 ∧ (if ((up2 I 118 s1.toNatClampNeg s2) 118 (x1.toNatClampNeg) : Int32) < 0 then sm_wp X 253 199 [some (.ref 81), some (.int x1), some (.int x2), some (.int x3)] [.int x1, .ref 117] (sM mo G (up2 I 118 s1.toNatClampNeg s2) J) Q else (sm_wp X 253 200 [some (.ref 81), some (.int x1), some (.int x2), some (.int x3)] [.int 2, .int x1, .ref 117] (sM mo G (up2 I 118 s1.toNatClampNeg s2) J) Q)))) :=
  (sm_blk X 253 180 (tt_lin 253 (by decide)) rfl rfl _ _ _ _).trans rfl
theorem bkx_253_199 (I : Nat → Nat → Int32) (J : Nat → Nat → Int64) (Q : Option Value → sm_M → Prop) (x1 x2 x3 s1 : Int32) :
    sm_wp X 253 199 [some (.ref 81), some (.int x1), some (.int x2), some (.int x3)] [.int s1, .ref 117] (sM mo G I J) Q =
    (vp_in s1 60 ∧ (True ∧ Q none (sM mo G (up2 I 117 s1.toNatClampNeg 3) J))) :=
  (sm_blk X 253 199 (tt_lin 253 (by decide)) rfl rfl _ _ _ _).trans rfl
theorem bkx_253_200 (I : Nat → Nat → Int32) (J : Nat → Nat → Int64) (Q : Option Value → sm_M → Prop) (x1 x2 x3 s1 s2 : Int32) :
    sm_wp X 253 200 [some (.ref 81), some (.int x1), some (.int x2), some (.int x3)] [.int s2, .int s1, .ref 117] (sM mo G I J) Q =
    (vp_in s1 60 ∧ (True ∧ Q none (sM mo G (up2 I 117 s1.toNatClampNeg s2) J))) :=
  (sm_blk X 253 200 (tt_lin 253 (by decide)) rfl rfl _ _ _ _).trans rfl
/-- the first line, by both -/
theorem fln {n m np t0 ch0 bd k : Nat} (ho : Bool) (hp : ppS n m np I) (wd : wdC n m np t0 ch0 bd I K) (hk : k < np) (ofr : ¬ I 42 k = -1) : ∃ (to fr ml : Nat) (cc gb vb le : Nat → Nat) (r : Int32), I 33 k = zI to ∧ to < m ∧ I 32 k = zI fr ∧ fr < m ∧ bkP to ml cc gb vb le (I 22) (I 23) (I 24) (I 25) (I 94) (I 95) (I 96) (I 97) (I 98) (I 99) (I 100) (I 101) (I 102) ∧
    (r = -1 ∨ ∃ i, i < ml ∧ r = zI i ∧ decide (vb i = 3) = ho) ∧
    (∀ L J (Q : Option Value → sm_M → Prop), eqC K L → (∀ L' J', eqC K L' → jD J J' → Q (some (.int r)) (sM mo G L' J')) → sm_wp X 24 0 [some (.ref 45), some (.int (zI k)), some (.int (hoI ho)), none, none, none, none, none] [] (sM mo G L J) Q) ∧
    (∀ A T J (Q : Option Value → sm_M → Prop), cplR I A K T → (∀ T' J', frL T T' J J' → Q (some (.int r)) (sM mo G T' J')) → sm_wp X 254 0 [some (.ref 81), some (.int (zI k)), some (.int (hoI ho)), none, none] [] (sM mo G T J) Q) := by
  obtain ⟨⟨fr, hfr, f1⟩, to, hto, f2⟩ := hp.2.2.2.2.2.2.2.2.2.1 k hk
  have m6 : m ≤ 6 := hp.2.1.2.2
  obtain ⟨ml, cc, gb, vb, le, b⟩ := hp.2.2.2.2.2.2.2.1 to (by omega)
  refine ⟨to, fr, ml, cc, gb, vb, le, frs (okl (fun a => (nmv K n to fr k a).toInt64) cc vb le ho) ml 0, f2, hto, f1, hfr, b, ?_, ?_, ?_⟩
  · rcases frs_p (okl (fun a => (nmv K n to fr k a).toInt64) cc vb le ho) ml 0 with h | ⟨j, -, h2, h3, h4⟩
    · exact Or.inl h
    · refine Or.inr ⟨j, by omega, h3, ?_⟩
      unfold okl at h4
      exact eq_of_beq ((Bool.and_eq_true _ _).mp h4).1
  · intro L J Q hL hQ
    have fx := wd.1
    have lI : ∀ d, (21 < d ∧ d < 26) ∨ (93 < d ∧ d < 103) → L d = I d := fun d hd => by rw [hL d (by omega)]; exact fx.1 d (by omega) (by omega) (by omega) (by omega) (by omega) (by omega) (by omega) (by omega) (by omega)
    refine c_24 (cl_pp hp fx hL hk f2 hto f1 hfr) (fx_bk b lI) ?_
    intro L' J' hf
    have e : (fun a => (nmv L n to fr k a).toInt64) = fun a => (nmv K n to fr k a).toInt64 := funext fun a => by rw [nmv_c (fun d x y => hL d x)]
    rw [e]
    exact hQ L' J' (fun d hd => by rw [hf.1 d hd]; exact hL d hd) hf.2.2
  · intro A T J Q hT hQ
    have fx := wd.1
    have e : (fun a => (nmv (jn K T) n to fr k a).toInt64) = fun a => (nmv K n to fr k a).toInt64 := funext fun a => by
      unfold nmv
      rw [jn_c (by decide), jn_c (by decide), jn_c (by decide), jn_c (by decide), jn_c (by decide), jn_c (by decide), jn_c (by decide), jn_c (by decide), jn_c (by decide), jn_c (by decide), jn_c (by decide)]
    refine r_254 (I := jn K T) (fun d hd => (jn_r (by omega)).symm) (fun j _ => by rw [jn_r (by decide)]) (jn_pp hp fx hT hk f2 hto f1 hfr ofr) (fx_bk b (fun d hd => ?_)) ?_
    · by_cases g : d < 81
      · rw [jn_c g]; exact fx.1 d (by omega) (by omega) (by omega) (by omega) (by omega) (by omega) (by omega) (by omega) (by omega)
      · rw [jn_r (by omega)]; exact hT.2.1 d (by omega) (by omega) (by omega) (by omega) (by omega) (by omega) (by omega) (by omega) (by omega)
    · intro T' J' hf
      rw [e]
      exact hQ T' J' hf
end D2
end
section
/-! An offer is answered, on both sides: the whole. -/
section D3
variable {X : (Nat → Int32) × Nat} {mo : Bool} {G : Nat × Nat} {I K : Nat → Nat → Int32}
/-- the answer from home -/
theorem crt {n m np t0 ch0 bd k : Nat} (hp : ppS n m np I) (wd : wdC n m np t0 ch0 bd I K) (hk : k < np) (ofr : ¬ I 42 k = -1) (h1 : K 42 k = 1) : ∃ K', wdC n m np t0 ch0 bd I K' ∧
    (∀ L J (Q : Option Value → sm_M → Prop), eqC K L → (∀ L' J', eqC K' L' → jD J J' → Q none (sM mo G L' J')) → sm_wp X 24 0 [some (.ref 45), some (.int (zI k)), some (.int 1), none, none, none, none, none] [] (sM mo G L J) (fun v M => sm_wp X 23 124 [some (.ref 45), some (.int (zI k))] (v.toList ++ [.int (zI k), .ref 45]) M Q)) ∧
    (∀ A T J (Q : Option Value → sm_M → Prop), cplR I A K T → (∀ T' J', cplR I A K' T' → jR J J' → Q none (sM mo G T' J')) → sm_wp X 254 0 [some (.ref 81), some (.int (zI k)), some (.int 1), none, none] [] (sM mo G T J) (fun v M => sm_wp X 253 180 [some (.ref 81), some (.int (zI k)), none, none] (v.toList ++ [.int (zI k), .ref 118]) M Q) ∧ ∀ x2 x3 : Int32, sm_wp X 254 0 [some (.ref 81), some (.int (zI k)), some (.int 1), none, none] [] (sM mo G T J) (fun v M => sm_wp X 253 180 [some (.ref 81), some (.int (zI k)), some (.int x2), some (.int x3)] (v.toList ++ [.int (zI k), .ref 118]) M Q)) := by
  have k60 : k < 60 := by have := hp.2.2.1.2.2; omega
  have v60 : vp_in (zI k) 60 := Eq.mpr (zI_vp (a := k) (n := 60) (by omega)) k60
  have fx := wd.1
  have np60 := hp.2.2.1.2.2
  obtain ⟨to, fr, ml, cc, gb, vb, le, r, -, -, -, -, hb, hr, hC, hR⟩ := fln (X := X) (mo := mo) (G := G) true hp wd hk ofr
  have hpp : ∀ L : Nat → Nat → Int32, L 31 = K 31 → hPap L (zI k) := fun L hL => by
    have e31 : K 31 0 = zI np := by rw [fx.1 31 (by decide) (by decide) (by decide) (by decide) (by decide) (by decide) (by decide) (by decide) (by decide)]; exact hp.2.2.1.1
    rw [hPap_vp (n := np) (by rw [hL]; exact e31) np60, zI_sIn (by omega) (by omega)]
    exact hk
  have k5 : ¬ K 42 k = 5 := by rw [h1]; decide
  by_cases rn : r = -1
  · -- none holds
    refine ⟨up2 K 42 k (zI 3), wd_42 wd ofr (by omega) (by omega) k5, ?_, ?_⟩
    · intro L J Q hL hQ
      refine hC L J _ hL ?_
      intro L' J' e1 e2
      simp only [tl_some]
      rw [lp_23_124, if_neg (fun e => e rn), if_neg (fun e => e (hpp L' (e1 31 (by decide)))), zI_cn (by omega)]
      exact ⟨v60, hQ _ _ (eqC_u e1 42 k (zI 3)) e2⟩
    · intro A T J Q hT hQ
      have fin : ∀ T' J', frL T T' J J' → (∀ b : Int32, b = zI 3 → Q none (sM mo G (up2 (up2 T' 118 k r) 117 k b) J')) := fun T' J' hf b hb2 => by
        rw [hb2]
        refine hQ _ _ (cpl_42 (cpl_118 (cpl_L hT hf) k r) k (zI 3)) hf.2.2
      refine ⟨hR A T J _ hT (fun T' J' hf => ?_), fun x2 x3 => hR A T J _ hT (fun T' J' hf => ?_)⟩
      · simp only [tl_some]
        rw [lp_253_180, zI_cn (by omega), if_pos (by rw [up2_ra, va_ap, if_pos rfl, rn]; decide)]
        exact ⟨v60, v60, fin T' J' hf 3 rfl⟩
      · simp only [tl_some]
        rw [bkx_253_180, zI_cn (by omega), if_pos (by rw [up2_ra, va_ap, if_pos rfl, rn]; decide), bkx_253_199, zI_cn (by omega)]
        exact ⟨v60, v60, v60, trivial, fin T' J' hf 3 rfl⟩
  · obtain ⟨i, hi, rfl, -⟩ := hr.resolve_left rn
    have im := hb.2.2.1
    refine ⟨up2 (up2 K 42 k (zI 2)) 43 k (zI i), wd_34 (wd_42 wd ofr (by omega) (by omega) k5) (Or.inl rfl), ?_, ?_⟩
    · intro L J Q hL hQ
      refine hC L J _ hL ?_
      intro L' J' e1 e2
      simp only [tl_some]
      rw [lp_23_124, if_pos rn, if_neg (fun e => e (hpp L' (e1 31 (by decide)))), if_neg (fun e => e (hpp _ (by rw [up2_rn _ _ _ _ _ (by decide)]; exact e1 31 (by decide)))), zI_cn (by omega)]
      exact ⟨v60, hQ _ _ (eqC_u (eqC_u e1 42 k (zI 2)) 43 k (zI i)) e2⟩
    · intro A T J Q hT hQ
      have fin : ∀ T' J', frL T T' J J' → (∀ b : Int32, b = zI 2 → Q none (sM mo G (up2 (up2 T' 118 k (zI i)) 117 k b) J')) := fun T' J' hf b hb2 => by
        rw [hb2]
        have c1 := cpl_43 (cpl_42 (cpl_118 (cpl_L hT hf) k (zI i)) k (zI 2)) k k (zI i) (zI i)
        have c2 : up2 (up2 (up2 T' 118 k (zI i)) 117 k (zI 2)) 118 k (zI i) = up2 (up2 T' 118 k (zI i)) 117 k (zI 2) := by
          funext d j
          by_cases g : d = 118
          · subst g
            rw [up2_ra, va_ap, up2_rn _ _ _ _ _ (by decide), up2_ra, va_ap]
            by_cases g2 : j = k
            · rw [if_pos g2, if_pos g2]
            · rw [if_neg g2]
          · rw [up2_rn _ _ _ _ _ g]
        rw [c2] at c1
        exact hQ _ _ c1 hf.2.2
      have nn : ∀ T' : Nat → Nat → Int32, ¬ (up2 T' 118 k (zI i)) 118 k < 0 := fun T' => by
        rw [up2_ra, va_ap, if_pos rfl, zIr_lt (c := 0) (by decide) (by omega)]
        exact Nat.not_lt_zero _
      refine ⟨hR A T J _ hT (fun T' J' hf => ?_), fun x2 x3 => hR A T J _ hT (fun T' J' hf => ?_)⟩
      · simp only [tl_some]
        rw [lp_253_180, zI_cn (by omega), if_neg (nn T')]
        exact ⟨v60, v60, fin T' J' hf 2 rfl⟩
      · simp only [tl_some]
        rw [bkx_253_180, zI_cn (by omega), if_neg (nn T'), bkx_253_200, zI_cn (by omega)]
        exact ⟨v60, v60, v60, trivial, fin T' J' hf 2 rfl⟩
theorem nlt {a b : Int32} : (a < b) = ¬ b ≤ a := propext Int32.not_le.symm
theorem ans {n m np t0 ch0 bd k f : Nat} (hp : ppS n m np I) (wd : wdC n m np t0 ch0 bd I K) (hk : k < np) (ofr : ¬ I 42 k = -1) (hf1 : f ≤ 1) (hf : K 42 k = zI f) : ∃ K', wdC n m np t0 ch0 bd I K' ∧
    cRun mo G (fun M Q => sm_wp X 23 0 [some (.ref 45), some (.int (zI k))] [] M Q) K K' ∧ rRun mo G I (fun M Q => sm_wp X 253 0 [some (.ref 81), some (.int (zI k)), none, none] [] M Q) K K' := by
  have np60 := hp.2.2.1.2.2
  have k60 : k < 60 := by omega
  have v60 : vp_in (zI k) 60 := Eq.mpr (zI_vp (a := k) (n := 60) (by omega)) k60
  have fx := wd.1
  have m6 : m ≤ 6 := hp.2.1.2.2
  obtain ⟨to, fr, ml, cc, gb, vb, le, r, hto, htm, hfr, hfm, hb, hr, hC, hR⟩ := fln (X := X) (mo := mo) (G := G) false hp wd hk ofr
  have im := hb.2.2.1
  obtain ⟨t, t300, t0', et⟩ := wd.2.2.1
  have e31 : K 31 0 = zI np := by rw [fx.1 31 (by decide) (by decide) (by decide) (by decide) (by decide) (by decide) (by decide) (by decide) (by decide)]; exact hp.2.2.1.1
  have kf : ∀ d, d = 11 ∨ d = 22 ∨ d = 24 ∨ d = 31 ∨ d = 32 ∨ d = 33 ∨ d = 39 → K d = I d := fun d h => fx.1 d (by omega) (by omega) (by omega) (by omega) (by omega) (by omega) (by omega) (by omega) (by omega)
  have hpp : ∀ L : Nat → Nat → Int32, L 31 = K 31 → hPap L (zI k) := fun L hL => by
    rw [hPap_vp (n := np) (by rw [hL]; exact e31) np60, zI_sIn (by omega) (by omega)]
    exact hk
  have apk : ∀ (L : Nat → Nat → Int32) (c : Nat) (d : Int32), L 31 = K 31 → aPap L c d (zI k) = L c k := fun L c d hL => by
    unfold aPap
    rw [if_pos (hpp L hL), zI_cn (by omega)]
  have f5 : ¬ K 42 k = 5 := by rw [hf, zIr_eq (c := 5) (by decide) (by omega)]; show ¬ f = 5; omega
  -- who is here
  have prC : ∀ L : Nat → Nat → Int32, eqC K L → ∀ s, s < m → (hPres L (zI s) ↔ bt (I 1 2) s = true) := fun L hL s hs => by
    rw [hPres_vp (n := m) (by rw [hL 1 (by decide), fx.2 1 (by decide) (by decide)]; exact hp.2.1.1) m6, zI_sIn (by omega) (by omega), zI_cn (by omega), hL 1 (by decide), fx.2 2 (by decide) (by decide)]
    exact ⟨fun h => h.2, fun h => ⟨hs, h⟩⟩
  have prR : ∀ A T : Nat → Nat → Int32, cplR I A K T → ∀ s, s < m → (vf_Model_isPresent T (zI s) ↔ bt (I 1 2) s = true) := fun A T hT s hs => by
    rw [mPres_vp (n := m) (by rw [hT.2.2.1 10 (by decide) (by decide) (by decide)]; exact hp.2.1.2.1) m6, zI_sIn (by omega) (by omega), zI_cn (by omega), hT.2.2.1 15 (by decide) (by decide) (by decide), hp.2.2.2.1]
    exact ⟨fun h => h.2, fun h => ⟨hs, h⟩⟩
  have rT : ∀ A T : Nat → Nat → Int32, cplR I A K T → T 113 k = K 39 k ∧ T 108 k = zI fr ∧ T 109 k = zI to ∧ T 81 16 = zI t ∧ T 117 k = zI f ∧ T 119 k = K 44 k ∧ T 90 = I 11 ∧ (∀ j, T 99 j = I 99 j) := fun A T hT => by
    have q := hp.2.2.2.2.2.1
    refine ⟨?_, ?_, ?_, ?_, ?_, ?_, ?_, ?_⟩
    · rw [hT.2.1 113 (by decide) (by decide) (by decide) (by decide) (by decide) (by decide) (by decide) (by decide) (by decide), q.2.2.2.2, kf 39 (by decide)]
    · rw [hT.2.1 108 (by decide) (by decide) (by decide) (by decide) (by decide) (by decide) (by decide) (by decide) (by decide), q.2.1]; exact hfr
    · rw [hT.2.1 109 (by decide) (by decide) (by decide) (by decide) (by decide) (by decide) (by decide) (by decide) (by decide), q.1]; exact hto
    · rw [hT.2.2.2.1]; exact et
    · rw [hT.2.2.2.2.2.2.1]; exact hf
    · rw [hT.2.2.2.2.2.2.2.1]
    · rw [hT.2.1 90 (by decide) (by decide) (by decide) (by decide) (by decide) (by decide) (by decide) (by decide) (by decide)]; exact hp.2.2.2.2.1.2.2.2.2
    · intro j; rw [hT.2.1 99 (by decide) (by decide) (by decide) (by decide) (by decide) (by decide) (by decide) (by decide) (by decide)]
  by_cases lap : K 39 k < zI t ∨ ¬ bt (I 1 2) fr = true ∨ ¬ bt (I 1 2) to = true
  · -- lapsed
    refine ⟨up2 K 42 k (zI 4), wd_42 wd ofr (by omega) (by omega) f5, ?_, ?_⟩
    · intro L J Q hL hQ
      have l31 : L 31 = K 31 := hL 31 (by decide)
      have e1 : L 1 3 = zI t := by rw [hL 1 (by decide)]; exact et
      have q := hQ _ J (eqC_u hL 42 k (zI 4)) (fun _ _ _ => rfl)
      show sm_wp X 23 0 [some (.ref 45), some (.int (zI k))] [] (sM mo G L J) Q
      rw [lp_23_0, apk L 39 _ l31, apk L 32 _ l31, apk L 33 _ l31, hL 39 (by decide), hL 32 (by decide), hL 33 (by decide), kf 32 (by decide), kf 33 (by decide), hfr, hto, e1, zI_cn (by omega)]
      by_cases a : K 39 k < zI t
      · rw [if_pos a, if_neg (fun e => e (hpp L l31))]
        exact ⟨v60, q⟩
      · rw [if_neg a]
        by_cases b : bt (I 1 2) fr = true
        · rw [if_neg (fun e => e ((prC L hL fr hfm).mpr b)), if_neg (fun e => (by
            rcases lap with h | h | h
            · exact a h
            · exact h b
            · exact h ((prC L hL to htm).mp e))), if_neg (fun e => e (hpp L l31))]
          exact ⟨v60, q⟩
        · rw [if_pos (fun e => b ((prC L hL fr hfm).mp e)), if_neg (fun e => e (hpp L l31))]
          exact ⟨v60, q⟩
    · intro A T J Q hT hQ
      obtain ⟨r1, r2, r3, r4, r5, r6, r7, r8⟩ := rT A T hT
      have q := hQ _ J (cpl_42 hT k (zI 4)) (fun _ _ => rfl)
      show sm_wp X 253 0 [some (.ref 81), some (.int (zI k)), none, none] [] (sM mo G T J) Q
      rw [lp_253_0, zI_cn (by omega), r1, r2, r3, r4]
      refine ⟨v60, ?_⟩
      by_cases a : K 39 k < zI t
      · rw [if_pos a]; exact q
      · rw [if_neg a]
        by_cases b : bt (I 1 2) fr = true
        · rw [if_neg (fun e => e ((prR A T hT fr hfm).mpr b)), if_neg (fun e => (by
            rcases lap with h | h | h
            · exact a h
            · exact h b
            · exact h ((prR A T hT to htm).mp e)))]
          exact q
        · rw [if_pos (fun e => b ((prR A T hT fr hfm).mp e))]
          exact q
  have nl1 : ¬ K 39 k < zI t := fun e => lap (Or.inl e)
  have nl2 : bt (I 1 2) fr = true := Classical.not_not.mp (fun e => lap (Or.inr (Or.inl e)))
  have nl3 : bt (I 1 2) to = true := Classical.not_not.mp (fun e => lap (Or.inr (Or.inr e)))
  have cst : ∀ L J (Q : Option Value → sm_M → Prop), eqC K L → (if ¬ zI f = 0 then (if ¬ zI f = 1 then (Q none (sM mo G L J)) else (if zI t < L 44 k then (Q none (sM mo G L J)) else (sm_wp X 24 0 [some (.ref 45), some (.int (zI k)), some (.int 1), none, none, none, none, none] [] (sM mo G L J) (fun v M => sm_wp X 23 124 [some (.ref 45), some (.int (zI k))] (v.toList ++ [.int (zI k), .ref 45]) M Q)))) else (sm_wp X 24 0 [some (.ref 45), some (.int (zI k)), some (.int 0), none, none, none, none, none] [] (sM mo G L J) (fun v M => sm_wp X 23 83 [some (.ref 45), some (.int (zI k))] (v.toList ++ [.int (zI k), .ref 45]) M Q))) → sm_wp X 23 0 [some (.ref 45), some (.int (zI k))] [] (sM mo G L J) Q := fun L J Q hL h => by
    have l31 : L 31 = K 31 := hL 31 (by decide)
    have e1 : L 1 3 = zI t := by rw [hL 1 (by decide)]; exact et
    rw [lp_23_0, apk L 39 _ l31, apk L 32 _ l31, apk L 33 _ l31, apk L 42 _ l31, apk L 44 _ l31, hL 39 (by decide), hL 32 (by decide), hL 33 (by decide), hL 42 (by decide), hf, kf 32 (by decide), kf 33 (by decide), hfr, hto, e1, if_neg nl1, if_neg (fun e => e ((prC L hL fr hfm).mpr nl2)), if_pos ((prC L hL to htm).mpr nl3)]
    exact h
  have rst' : ∀ A T J (Q : Option Value → sm_M → Prop), cplR I A K T → (if ¬ zI f = 0 then (if ¬ zI f = 1 then (Q none (sM mo G T J)) else (if T 119 k ≤ zI t then (sm_wp X 254 0 [some (.ref 81), some (.int (zI k)), some (.int 1), none, none] [] (sM mo G T J) (fun v M => sm_wp X 253 180 [some (.ref 81), some (.int (zI k)), none, none] (v.toList ++ [.int (zI k), .ref 118]) M Q)) else (Q none (sM mo G T J)))) else (sm_wp X 254 0 [some (.ref 81), some (.int (zI k)), some (.int 0), none, none] [] (sM mo G T J) (fun v M => sm_wp X 253 62 [some (.ref 81), some (.int (zI k)), none, none] (v.toList ++ []) M Q))) → sm_wp X 253 0 [some (.ref 81), some (.int (zI k)), none, none] [] (sM mo G T J) Q := fun A T J Q hT h => by
    obtain ⟨r1, r2, r3, r4, r5, r6, r7, r8⟩ := rT A T hT
    rw [lp_253_0, zI_cn (by omega), r1, r2, r3, r4, r5, if_neg nl1, if_neg (fun e => e ((prR A T hT fr hfm).mpr nl2)), if_pos ((prR A T hT to htm).mpr nl3)]
    exact ⟨v60, h⟩
  by_cases f1 : f = 1
  · -- asked
    subst f1
    by_cases due : zI t < K 44 k
    · refine ⟨K, wd, ?_, ?_⟩
      · intro L J Q hL hQ
        refine cst L J Q hL ?_
        rw [if_pos (by decide), if_neg (fun e => e rfl), hL 44 (by decide), if_pos due]
        exact hQ L J hL (fun _ _ _ => rfl)
      · intro A T J Q hT hQ
        refine rst' A T J Q hT ?_
        rw [if_pos (by decide), if_neg (fun e => e rfl), (rT A T hT).2.2.2.2.2.1, if_neg (by rw [nlt] at due; exact due)]
        exact hQ T J hT (fun _ _ => rfl)
    · obtain ⟨K', w', c', r'⟩ := crt (X := X) (mo := mo) (G := G) hp wd hk ofr hf
      refine ⟨K', w', ?_, ?_⟩
      · intro L J Q hL hQ
        refine cst L J Q hL ?_
        rw [if_pos (by decide), if_neg (fun e => e rfl), hL 44 (by decide), if_neg due]
        exact c' L J Q hL hQ
      · intro A T J Q hT hQ
        refine rst' A T J Q hT ?_
        rw [if_pos (by decide), if_neg (fun e => e rfl), (rT A T hT).2.2.2.2.2.1, if_pos (by rw [nlt] at due; exact Classical.not_not.mp due)]
        exact (r' A T J Q hT hQ).1
  have f0 : f = 0 := by omega
  subst f0
  -- pending
  by_cases rn : r = -1
  · refine ⟨K, wd, ?_, ?_⟩
    · intro L J Q hL hQ
      refine cst L J Q hL ?_
      rw [if_neg (fun e => e rfl)]
      refine hC L J _ hL ?_
      intro L' J' e1 e2
      have l31 : L' 31 = K 31 := e1 31 (by decide)
      simp only [tl_some]
      rw [lp_23_83, if_neg (by rw [rn]; exact fun e => e.1 (by decide)), apk L' 42 _ l31, e1 42 (by decide), hf, if_pos (by decide)]
      exact hQ L' J' e1 e2
    · intro A T J Q hT hQ
      refine rst' A T J Q hT ?_
      rw [if_neg (fun e => e rfl)]
      refine hR A T J _ hT ?_
      intro T' J' hfl
      simp only [tl_some]
      rw [lp_253_62, if_neg (by rw [rn]; decide)]
      exact hQ T' J' (cpl_L hT hfl) hfl.2.2
  obtain ⟨i, hi, rfl, hv3⟩ := hr.resolve_left rn
  have hL24 := hb.2.2.2.2 i hi
  have vb3 : ¬ vb i = 3 := by
    intro e
    rw [decide_eq_true e] at hv3
    cases hv3
  have vb4 := hL24.2.2.1
  obtain ⟨hm, hm9, eh⟩ := hp.2.2.2.2.2.2.2.2.1 to
  -- the class behind the first line
  have c83 : ∀ L J (Q : Option Value → sm_M → Prop), eqC K L → (if vb i = 2 then (if zI t < zI (t + 2 * hm) then (Q none (sM mo G (up2 (up2 (up2 L 43 k (zI i)) 42 k (zI 1)) 44 k (zI (t + 2 * hm))) J)) else (sm_wp X 24 0 [some (.ref 45), some (.int (zI k)), some (.int 1), none, none, none, none, none] [] (sM mo G (up2 (up2 (up2 L 43 k (zI i)) 42 k (zI 1)) 44 k (zI (t + 2 * hm))) J) (fun v M => sm_wp X 23 124 [some (.ref 45), some (.int (zI k))] (v.toList ++ [.int (zI k), .ref 45]) M Q))) else Q none (sM mo G (up2 (up2 L 43 k (zI i)) 42 k (zI (if vb i = 0 then 2 else 3))) J)) → sm_wp X 23 83 [some (.ref 45), some (.int (zI k))] [.int (zI i), .int (zI k), .ref 45] (sM mo G L J) Q := by
    intro L J Q hL h
    have l31 : L 31 = K 31 := hL 31 (by decide)
    have e1 : L 1 3 = zI t := by rw [hL 1 (by decide)]; exact et
    have l33 : L 33 k = zI to := by rw [hL 33 (by decide), kf 33 (by decide)]; exact hto
    have l22 : L 22 to = zI ml := by rw [hL 22 (by decide), kf 22 (by decide)]; exact hb.1
    have l24 : L 24 (16 * to + i) = zI (vb i) := by rw [hL 24 (by decide), kf 24 (by decide)]; exact hL24.1
    have p43 : hPap (up2 L 43 k (zI i)) (zI k) := hpp _ (by rw [up2_rn _ _ _ _ _ (by decide)]; exact l31)
    have p42 : ∀ v, hPap (up2 (up2 L 43 k (zI i)) 42 k v) (zI k) := fun v => hpp _ (by rw [up2_rn _ _ _ _ _ (by decide), up2_rn _ _ _ _ _ (by decide)]; exact l31)
    have vv : vf_Book_verbOf (up2 L 43 k (zI i)) (zI to) (zI i) = zI (vb i) := vrb_e (show to < 6 by omega) (m := ml) (by rw [up2_rn _ _ _ _ _ (by decide)]; exact l22) im hi (by rw [up2_rn _ _ _ _ _ (by decide)]; exact l24)
    have a42 : ∀ v, aPap (up2 (up2 L 43 k (zI i)) 42 k v) 42 (-1) (zI k) = v := fun v => by
      rw [apk _ 42 _ (by rw [up2_rn _ _ _ _ _ (by decide), up2_rn _ _ _ _ _ (by decide)]; exact l31), up2_ra, va_ap, if_pos rfl]
    have as : aState (up2 (up2 L 43 k (zI i)) 42 k 1) 11 0 (zI to) = zI hm := by
      rw [aS_e (m := m) (by rw [up2_rn _ _ _ _ _ (by decide), up2_rn _ _ _ _ _ (by decide), hL 1 (by decide), fx.2 1 (by decide) (by decide)]; exact hp.2.1.1) m6 htm, up2_rn _ _ _ _ _ (by decide), up2_rn _ _ _ _ _ (by decide), hL 11 (by decide), kf 11 (by decide)]
      exact eh
    rw [lp_23_83, apk L 33 _ l31, l33, if_pos (isl_e (show to < 6 by omega) l22 im hi), if_neg (fun e => e (hpp L l31)), zI_cn (by omega), vv]
    refine ⟨v60, ?_⟩
    have hvb : vb i = 0 ∨ vb i = 1 ∨ vb i = 2 := by omega
    rcases hvb with g | g | g
    · rw [if_neg (show ¬ vb i = 2 by omega), if_pos g] at h
      rw [g, if_neg (fun e => e rfl), if_neg (fun e => e p43), a42 2, if_pos (by decide)]
      exact h
    · rw [if_neg (show ¬ vb i = 2 by omega), if_neg (show ¬ vb i = 0 by omega)] at h
      rw [g, if_pos (by decide), if_neg (fun e => e rfl), if_neg (fun e => e p43), a42 3, if_pos (by decide)]
      exact h
    · rw [if_pos g] at h
      have a44 : ∀ v, aPap (up2 (up2 (up2 L 43 k (zI i)) 42 k 1) 44 k v) 42 (-1) (zI k) = 1 ∧ aPap (up2 (up2 (up2 L 43 k (zI i)) 42 k 1) 44 k v) 44 (-1) (zI k) = v := fun v => by
        have e31' : up2 (up2 (up2 L 43 k (zI i)) 42 k 1) 44 k v 31 = K 31 := by rw [up2_rn _ _ _ _ _ (by decide), up2_rn _ _ _ _ _ (by decide), up2_rn _ _ _ _ _ (by decide)]; exact l31
        rw [apk _ 42 _ e31', apk _ 44 _ e31', up2_rn _ _ _ _ _ (by decide), up2_ra, va_ap, if_pos rfl, up2_ra, va_ap, if_pos rfl]
        exact ⟨rfl, rfl⟩
      have e2 : zI t + 2 * zI hm = zI (t + 2 * hm) := by rw [show (2 : Int32) * zI hm = zI (2 * hm) from zIl_mul 2 hm, zI_add]
      rw [g, if_pos (by decide), if_pos (by decide), if_neg (fun e => e rfl), if_neg (fun e => e p43), if_neg (fun e => e (p42 1)), as, e1, e2, (a44 _).1, (a44 _).2, if_neg (fun e => e rfl)]
      exact h
  have r62 : ∀ A T J (Q : Option Value → sm_M → Prop), cplR I A K T → (if vb i = 2 then (if zI (t + 2 * hm) ≤ zI t then (sm_wp X 254 0 [some (.ref 81), some (.int (zI k)), some (.int 1), none, none] [] (sM mo G (up2 (up2 (up2 T 118 k (zI i)) 117 k (zI 1)) 119 k (zI (t + 2 * hm))) J) (fun v M => sm_wp X 253 180 [some (.ref 81), some (.int (zI k)), some (.int (zI i)), some (.int 2)] (v.toList ++ [.int (zI k), .ref 118]) M Q)) else Q none (sM mo G (up2 (up2 (up2 T 118 k (zI i)) 117 k (zI 1)) 119 k (zI (t + 2 * hm))) J)) else Q none (sM mo G (up2 (up2 T 118 k (zI i)) 117 k (zI (if vb i = 0 then 2 else 3))) J)) → sm_wp X 253 62 [some (.ref 81), some (.int (zI k)), none, none] [.int (zI i)] (sM mo G T J) Q := by
    intro A T J Q hT h
    obtain ⟨r1, r2, r3, r4, r5, r6, r7, r8⟩ := rT A T hT
    have to6 : vp_in (zI to) 6 := Eq.mpr (zI_vp (a := to) (n := 6) (by omega)) (by omega)
    rw [lp_253_62, if_pos (by rw [zIl_le (c := 0) (by decide) (by omega)]; exact Nat.zero_le _), zI_cn (by omega), r3, show (16 : Int32) * zI to = zI (16 * to) from zIl_mul 16 to, zI_add, zI_vp (by omega), zI_vp (by omega), zI_cn (by omega), r8, hL24.2.1]
    refine ⟨k60, by omega, ?_⟩
    have hvb : vb i = 0 ∨ vb i = 1 ∨ vb i = 2 := by omega
    have u117 : ∀ v, (up2 (up2 T 118 k (zI i)) 117 k v) 117 k = v := fun v => by rw [up2_ra, va_ap, if_pos rfl]
    rcases hvb with g | g | g
    · rw [if_neg (show ¬ vb i = 2 by omega), if_pos g] at h
      rw [g, if_neg (fun e => e rfl), if_pos (by decide), u117, if_pos (by decide)]
      exact h
    · rw [if_neg (show ¬ vb i = 2 by omega), if_neg (show ¬ vb i = 0 by omega)] at h
      rw [g, if_pos (by decide), if_neg (fun e => e rfl), if_pos (by decide), u117, if_pos (by decide)]
      exact h
    · rw [if_pos g] at h
      have e2 : zI t + 2 * zI hm = zI (t + 2 * hm) := by rw [show (2 : Int32) * zI hm = zI (2 * hm) from zIl_mul 2 hm, zI_add]
      have u119 : ∀ v, (up2 (up2 (up2 T 118 k (zI i)) 117 k 1) 119 k v) 119 k = v := fun v => by rw [up2_ra, va_ap, if_pos rfl]
      rw [g, if_pos (by decide), if_pos (by decide), if_neg (fun e => e rfl), u117, if_neg (fun e => e rfl), r7, zI_cn (by omega), eh, r4, e2, u119]
      exact ⟨to6, h⟩
  have wd1 : wdC n m np t0 ch0 bd I (up2 K 43 k (zI i)) := wd_34 wd (Or.inl rfl)
  have f51 : ¬ up2 K 43 k (zI i) 42 k = 5 := by rw [up2_rn _ _ _ _ _ (by decide)]; exact f5
  have cp1 : ∀ A T, cplR I A K T → cplR I A (up2 K 43 k (zI i)) (up2 T 118 k (zI i)) := fun A T hT => cpl_43 hT k k (zI i) (zI i)
  have g2 := Classical.em (vb i = 2)
  rcases g2 with g2 | g2
  case inr =>
    refine ⟨up2 (up2 K 43 k (zI i)) 42 k (zI (if vb i = 0 then 2 else 3)), wd_42 wd1 ofr (by split <;> omega) (by split <;> omega) f51, ?_, ?_⟩
    · intro L J Q hL hQ
      refine cst L J Q hL ?_
      rw [if_neg (fun e => e rfl)]
      refine hC L J _ hL ?_
      intro L' J' e1 e2
      simp only [tl_some]
      refine c83 L' J' Q e1 ?_
      rw [if_neg g2]
      exact hQ _ _ (eqC_u (eqC_u e1 43 k (zI i)) 42 k _) e2
    · intro A T J Q hT hQ
      refine rst' A T J Q hT ?_
      rw [if_neg (fun e => e rfl)]
      refine hR A T J _ hT ?_
      intro T' J' hfl
      simp only [tl_some]
      refine r62 A T' J' Q (cpl_L hT hfl) ?_
      rw [if_neg g2]
      exact hQ _ _ (cpl_42 (cp1 A T' (cpl_L hT hfl)) k _) hfl.2.2
  have wd2 : wdC n m np t0 ch0 bd I (up2 (up2 (up2 K 43 k (zI i)) 42 k (zI 1)) 44 k (zI (t + 2 * hm))) := wd_34 (wd_42 wd1 ofr (by omega) (by omega) f51) (Or.inr rfl)
  have cp2 : ∀ A T, cplR I A K T → cplR I A (up2 (up2 (up2 K 43 k (zI i)) 42 k (zI 1)) 44 k (zI (t + 2 * hm))) (up2 (up2 (up2 T 118 k (zI i)) 117 k (zI 1)) 119 k (zI (t + 2 * hm))) := fun A T hT => cpl_44 (cpl_42 (cp1 A T hT) k (zI 1)) k _
  by_cases due : zI t < zI (t + 2 * hm)
  · refine ⟨_, wd2, ?_, ?_⟩
    · intro L J Q hL hQ
      refine cst L J Q hL ?_
      rw [if_neg (fun e => e rfl)]
      refine hC L J _ hL ?_
      intro L' J' e1 e2
      simp only [tl_some]
      refine c83 L' J' Q e1 ?_
      rw [if_pos g2, if_pos due]
      exact hQ _ _ (eqC_u (eqC_u (eqC_u e1 43 k (zI i)) 42 k _) 44 k _) e2
    · intro A T J Q hT hQ
      refine rst' A T J Q hT ?_
      rw [if_neg (fun e => e rfl)]
      refine hR A T J _ hT ?_
      intro T' J' hfl
      simp only [tl_some]
      refine r62 A T' J' Q (cpl_L hT hfl) ?_
      rw [if_pos g2, if_neg (by rw [nlt] at due; exact due)]
      exact hQ _ _ (cp2 A T' (cpl_L hT hfl)) hfl.2.2
  · obtain ⟨K', w', c', r'⟩ := crt (X := X) (mo := mo) (G := G) hp wd2 hk ofr (by rw [up2_rn _ _ _ _ _ (by decide), up2_ra, va_ap, if_pos rfl]; rfl)
    refine ⟨K', w', ?_, ?_⟩
    · intro L J Q hL hQ
      refine cst L J Q hL ?_
      rw [if_neg (fun e => e rfl)]
      refine hC L J _ hL ?_
      intro L' J' e1 e2
      simp only [tl_some]
      refine c83 L' J' Q e1 ?_
      rw [if_pos g2, if_neg due]
      exact c' _ J' Q (eqC_u (eqC_u (eqC_u e1 43 k (zI i)) 42 k _) 44 k _) (fun L2 J2 a b => hQ L2 J2 a (fun d x y => by rw [b d x y]; exact e2 d x y))
    · intro A T J Q hT hQ
      refine rst' A T J Q hT ?_
      rw [if_neg (fun e => e rfl)]
      refine hR A T J _ hT ?_
      intro T' J' hfl
      simp only [tl_some]
      refine r62 A T' J' Q (cpl_L hT hfl) ?_
      rw [if_pos g2, if_pos (by rw [nlt] at due; exact Classical.not_not.mp due)]
      exact (r' A _ J' Q (cp2 A T' (cpl_L hT hfl)) (fun T2 J2 a b => hQ T2 J2 a (fun d x => by rw [b d x]; exact hfl.2.2 d x))).2 (zI i) 2
end D3
end
section
/-! Chains, by the reference. -/
theorem cN_lt2 {P R : Nat → Bool} : ∀ n, (∀ l, l < n → P l = true → R l = true) → (∃ l, l < n ∧ R l = true ∧ ¬ P l = true) → cN P n < cN R n := by
  intro n
  induction n with
  | zero => rintro _ ⟨l, h, -⟩; exact absurd h (Nat.not_lt_zero _)
  | succ n ih =>
    rintro h ⟨l, hl, h1, h2⟩
    have le : cN P n ≤ cN R n := cN_imp (fun j hj => h j (by omega))
    by_cases e : l = n
    · subst e
      rw [cN_p h1, cN_q h2]
      omega
    · have lt := ih (fun j hj => h j (by omega)) ⟨l, by omega, h1, h2⟩
      by_cases g : P n = true
      · rw [cN_p g, cN_p (h n (by omega) g)]; omega
      · rw [cN_q g]
        have := cN_mono R (show n ≤ n + 1 by omega)
        omega
/-- in one chain with p -/
def chn (I : Nat → Nat → Int32) (p k : Nat) : Prop := ¬ I 42 k = -1 ∧ I 41 k = I 41 p
def zer (r : Nat → Int32) (k : Nat) : Bool := decide (r k = 0)
def inC (I : Nat → Nat → Int32) (np p : Nat) (r : Nat → Int32) : Prop := (∀ k, k < 60 → r k = 0 ∨ r k = 1) ∧ (∀ k, k < 60 → r k = 1 → k < np ∧ chn I p k) ∧ r p = 1
def clo (I : Nat → Nat → Int32) (r : Nat → Int32) (j : Nat) : Prop := ∀ i, ¬ I 42 j = -1 → I 40 j = zI i → i < j → r j = r i
section C1
variable {X : (Nat → Int32) × Nat} {mo : Bool} {G : Nat × Nat} {I A K : Nat → Nat → Int32} {J : Nat → Nat → Int64} {Q : Option Value → sm_M → Prop}
/-- only the row of the chain differs -/
def fr122 (T T' : Nat → Nat → Int32) : Prop := ∀ d, ¬ d = 122 → T' d = T d
theorem cpl_122 {T T' : Nat → Nat → Int32} (h : cplR I A K T) (f : fr122 T T') : cplR I A K T' := by
  obtain ⟨h1, h2, h3, h4, h5, h6, h7, h8, h9⟩ := h
  refine ⟨fun d a => by rw [f d (by omega)]; exact h1 d a, fun d x y a b c d' e f' g => by rw [f d g]; exact h2 d x y a b c d' e f' g, fun j a b c => by rw [f 81 (by decide)]; exact h3 j a b c, by rw [f 81 (by decide)]; exact h4, by rw [f 85 (by decide)]; exact h5, by rw [f 87 (by decide)]; exact h6, by rw [f 117 (by decide)]; exact h7, by rw [f 119 (by decide)]; exact h8, by rw [f 88 (by decide)]; exact h9⟩
theorem r_265i {p : Nat} {T : Nat → Nat → Int32} (hp : p < 60) (hQ : ∀ T', fr122 T T' → (∀ k, k < 60 → T' 122 k = if k = p then 1 else 0) → sm_wp X 265 32 [some (.ref 81), none, some (.int 1), none] [] (sM mo G T' J) Q) : ∀ d j U, j + d = 60 → fr122 T U → (∀ k, k < j → U 122 k = if k = p then 1 else 0) → sm_wp X 265 2 [some (.ref 81), some (.int (zI p)), some (.int (zI j)), none] [] (sM mo G U J) Q := by
  intro d
  induction d with
  | zero =>
    intro j U hj hf hu
    rw [lp_265_2, if_pos (by rw [zIl_le (c := 60) (by decide) (by omega)]; show 60 ≤ j; omega)]
    exact hQ U hf (fun k hk => hu k (by omega))
  | succ d ih =>
    intro j U hj hf hu
    rw [lp_265_2, if_neg (by rw [zIl_le (c := 60) (by decide) (by omega)]; show ¬ 60 ≤ j; omega), zI_vp (by omega), zI_cn (by omega), show zI j + 1 = zI (j + 1) from zIr_add 1 j]
    have nx : ∀ v : Int32, v = (if j = p then 1 else 0) → sm_wp X 265 2 [some (.ref 81), some (.int (zI p)), some (.int (zI (j + 1))), none] [] (sM mo G (up2 U 122 j v) J) Q := fun v hv => by
      refine ih (j + 1) _ (by omega) (fun e he => by rw [up2_rn _ _ _ _ _ he]; exact hf e he) (fun k hk => ?_)
      rw [up2_ra, va_ap]
      by_cases e : k = j
      · rw [if_pos e, hv, e]
      · rw [if_neg e]; exact hu k (by omega)
    by_cases e : j = p
    · rw [if_neg (fun g => g (by rw [e]))]
      exact ⟨by omega, nx _ (by rw [if_pos e]; rfl)⟩
    · rw [if_pos (by rw [zI_eq (by omega) (by omega)]; exact e)]
      exact ⟨by omega, nx _ (by rw [if_neg e]; rfl)⟩
/-- a round -/
theorem r_265r {n m np p : Nat} {T : Nat → Nat → Int32} (hp : ppS n m np I) (hT : cplR I A K T) (hpn : p < np) {r0 : Nat → Int32} (hQ : ∀ T', fr122 T T' → inC I np p (T' 122) → ((T' 122 = r0 ∧ (∀ j, j < np → clo I r0 j) ∧ sm_wp X 265 32 [some (.ref 81), none, some (.int 0), none] [] (sM mo G T' J) Q = Q none (sM mo G T' J)) ∨ cN (zer (T' 122)) 60 < cN (zer r0) 60) → ∀ x : Int32, (x = 0 → T' 122 = r0 ∧ ∀ j, j < np → clo I r0 j) → (¬ x = 0 → x = 1 ∧ cN (zer (T' 122)) 60 < cN (zer r0) 60) → sm_wp X 265 32 [some (.ref 81), none, some (.int x), none] [] (sM mo G T' J) Q) :
    ∀ d j U (x : Int32), j + d = np → fr122 T U → inC I np p (U 122) → (x = 0 → U 122 = r0 ∧ ∀ i, i < j → clo I r0 i) → (¬ x = 0 → x = 1 ∧ cN (zer (U 122)) 60 < cN (zer r0) 60) → sm_wp X 265 40 [some (.ref 81), none, some (.int x), some (.int (zI j))] [] (sM mo G U J) Q := by
  have np60 := hp.2.2.1.2.2
  intro d
  induction d with
  | zero =>
    intro j U x hj hf hi h0 h1
    have e46 : U 81 46 = zI np := by rw [hf 81 (by decide), hT.2.2.1 46 (by decide) (by decide) (by decide)]; exact hp.2.2.1.2.1
    rw [lp_265_40, e46, if_pos (by rw [zI_le (by omega) (by omega)]; omega)]
    refine hQ U hf hi ?_ x (fun e => ⟨(h0 e).1, fun i hi => (h0 e).2 i (by omega)⟩) h1
    by_cases e : x = 0
    · left
      refine ⟨(h0 e).1, fun i hi => (h0 e).2 i (by omega), ?_⟩
      rw [lp_265_32, if_pos rfl]
    · exact Or.inr (h1 e).2
  | succ d ih =>
    intro j U x hj hf hi h0 h1
    have e46 : U 81 46 = zI np := by rw [hf 81 (by decide), hT.2.2.1 46 (by decide) (by decide) (by decide)]; exact hp.2.2.1.2.1
    have e107 : U 107 = I 107 := by rw [hf 107 (by decide)]; exact hT.2.1 107 (by decide) (by decide) (by decide) (by decide) (by decide) (by decide) (by decide) (by decide) (by decide)
    have e114 : U 114 = I 114 := by rw [hf 114 (by decide)]; exact hT.2.1 114 (by decide) (by decide) (by decide) (by decide) (by decide) (by decide) (by decide) (by decide) (by decide)
    rw [lp_265_40, e46, if_neg (by rw [zI_le (by omega) (by omega)]; omega), zI_vp (by omega), zI_cn (by omega), e107, e114, show zI j + 1 = zI (j + 1) from zIr_add 1 j]
    refine ⟨by omega, ?_⟩
    have st : (∀ i, ¬ I 42 j = -1 → I 40 j = zI i → i < j → U 122 j = U 122 i) → sm_wp X 265 40 [some (.ref 81), none, some (.int x), some (.int (zI (j + 1)))] [] (sM mo G U J) Q := fun hcl => by
      refine ih (j + 1) U x (by omega) hf hi (fun e => ⟨(h0 e).1, fun i hi => ?_⟩) h1
      by_cases e2 : i = j
      · subst e2
        intro a b c e'
        rw [← (h0 e).1]
        exact hcl a b c e'
      · exact (h0 e).2 i (by omega)
    rcases hp.2.2.2.2.2.2.2.2.2.2 j (by omega) with ⟨a1, a2, a3, a4⟩ | ⟨a1, a2, -, -, -, a3, a4, -⟩
    · rw [a2, if_pos (by decide)]
      exact st (fun i h => absurd a1 h)
    · rw [a2, if_neg (fun e => e rfl), a3]
      rcases a4 with ⟨b1, b2⟩ | ⟨i, hij, b1, b2, b3⟩
      · rw [b1, if_pos rfl]
        refine st (fun i _ e => ?_)
        rw [b1] at e
        intro hij
        rw [zI_m1' (by omega)] at e
        exact e.elim
      · rw [b1, if_neg (by rw [zI_m1 (by omega)]; exact fun e => e), zI_vp (by omega), zI_cn (by omega)]
        refine ⟨by omega, ?_⟩
        by_cases e : U 122 j = U 122 i
        · rw [if_neg (fun g => g e)]
          refine st (fun i' _ e2 h3 => ?_)
          rw [b1, zI_eq (by omega) (by omega)] at e2
          rw [← e2]
          exact e
        · rw [if_pos e]
          have bj := hi.1 j (by omega)
          have bi' := hi.1 i (by omega)
          have same : chn I p j ↔ chn I p i := by unfold chn; rw [b3]; exact ⟨fun h => ⟨b2, h.2⟩, fun h => ⟨a1, h.2⟩⟩
          have both : chn I p j ∧ chn I p i := by
            rcases bj with g | g
            · rcases bi' with g' | g'
              · exact absurd (g.trans g'.symm) e
              · have := (hi.2.1 i (by omega) g').2
                exact ⟨same.mpr this, this⟩
            · have := (hi.2.1 j (by omega) g).2
              exact ⟨this, same.mp this⟩
          have rd : ∀ k, up2 (up2 U 122 j (vp_nar .boolean 1)) 122 i (vp_nar .boolean 1) 122 k = if k = i ∨ k = j then 1 else U 122 k := fun k => by
            rw [up2_ra, va_ap, up2_ra, va_ap]
            by_cases g1 : k = i
            · rw [if_pos g1, if_pos (Or.inl g1)]; rfl
            · rw [if_neg g1]
              by_cases g2 : k = j
              · rw [if_pos g2, if_pos (Or.inr g2)]; rfl
              · rw [if_neg g2, if_neg (by omega)]
          have dec : cN (zer (up2 (up2 U 122 j (vp_nar .boolean 1)) 122 i (vp_nar .boolean 1) 122)) 60 < cN (zer (U 122)) 60 := by
            refine cN_lt2 60 (fun l hl h => ?_) ?_
            · unfold zer at h ⊢
              rw [decide_eq_true_iff, rd l] at h
              rw [decide_eq_true_iff]
              by_cases g : l = i ∨ l = j
              · rw [if_pos g] at h; exact absurd h (by decide)
              · rw [if_neg g] at h; exact h
            · have ze : ∀ l, (l = i ∨ l = j) → ¬ zer (up2 (up2 U 122 j (vp_nar .boolean 1)) 122 i (vp_nar .boolean 1) 122) l = true := fun l hl h => by
                unfold zer at h
                rw [decide_eq_true_iff, rd l, if_pos hl] at h
                exact absurd h (by decide)
              rcases bj with g | g
              · exact ⟨j, by omega, decide_eq_true g, ze j (Or.inr rfl)⟩
              · rcases bi' with g' | g'
                · exact ⟨i, by omega, decide_eq_true g', ze i (Or.inl rfl)⟩
                · exact absurd (g.trans g'.symm) e
          have le0 : cN (zer (U 122)) 60 ≤ cN (zer r0) 60 := by
            by_cases e0 : x = 0
            · rw [(h0 e0).1]; exact Nat.le_refl _
            · exact Nat.le_of_lt (h1 e0).2
          refine ih (j + 1) _ 1 (by omega) (fun d hd => by rw [up2_rn _ _ _ _ _ hd, up2_rn _ _ _ _ _ hd]; exact hf d hd) ⟨fun k hk => ?_, fun k hk h => ?_, ?_⟩ (fun e0 => absurd e0 (by decide)) (fun _ => ⟨rfl, by omega⟩)
          · rw [rd k]
            by_cases g : k = i ∨ k = j
            · rw [if_pos g]; exact Or.inr rfl
            · rw [if_neg g]; exact hi.1 k hk
          · rw [rd k] at h
            by_cases g : k = i ∨ k = j
            · rcases g with rfl | rfl
              · exact ⟨by omega, both.2⟩
              · exact ⟨by omega, both.1⟩
            · rw [if_neg g] at h; exact hi.2.1 k hk h
          · rw [rd p]
            by_cases g : p = i ∨ p = j
            · rw [if_pos g]
            · rw [if_neg g]; exact hi.2.2
theorem r_265 {n m np p : Nat} {T : Nat → Nat → Int32} (hp : ppS n m np I) (hT : cplR I A K T) (hpn : p < np) (hpo : ¬ I 42 p = -1) (hQ : ∀ T', fr122 T T' → (∀ k, k < 60 → T' 122 k = 0 ∨ T' 122 k = 1) → (∀ k, k < np → (T' 122 k = 1 ↔ chn I p k)) → Q none (sM mo G T' J)) : sm_wp X 265 0 [some (.ref 81), some (.int (zI p)), none, none] [] (sM mo G T J) Q := by
  have np60 := hp.2.2.1.2.2
  have fin : ∀ r, inC I np p r → (∀ j, j < np → clo I r j) → ∀ k, k < np → (r k = 1 ↔ chn I p k) := by
    intro r hi hc
    have root : ∀ f k, k < f → k < np → ¬ I 42 k = -1 → ∃ j, j < np ∧ I 41 k = zI j ∧ r k = r j := by
      intro f
      induction f with
      | zero => intro k hk; exact absurd hk (Nat.not_lt_zero _)
      | succ f ih =>
        intro k hk hkn ho
        rcases hp.2.2.2.2.2.2.2.2.2.2 k hkn with ⟨a1, -⟩ | ⟨a1, a2, -, -, -, a3, a4, -⟩
        · exact absurd a1 ho
        · rcases a4 with ⟨b1, b2⟩ | ⟨i, hik, b1, b2, b3⟩
          · exact ⟨k, hkn, b2, rfl⟩
          · obtain ⟨j, h1, h2, h3⟩ := ih i (by omega) (by omega) b2
            exact ⟨j, h1, by rw [b3]; exact h2, by rw [hc k hkn i ho b1 hik]; exact h3⟩
    intro k hk
    constructor
    · exact fun h => (hi.2.1 k (by omega) h).2
    · rintro ⟨h1, h2⟩
      obtain ⟨j, j1, j2, j3⟩ := root (k + 1) k (by omega) hk h1
      obtain ⟨i, i1, i2, i3⟩ := root (p + 1) p (by omega) hpn hpo
      rw [j2, i2, zI_eq (by omega) (by omega)] at h2
      rw [j3, h2, ← i3]
      exact hi.2.2
  have rounds : ∀ z U, cN (zer (U 122)) 60 ≤ z → fr122 T U → inC I np p (U 122) → sm_wp X 265 32 [some (.ref 81), none, some (.int 1), none] [] (sM mo G U J) Q := by
    intro z
    induction z with
    | zero =>
      intro U hz hf hi
      rw [lp_265_32, if_neg (by decide)]
      refine r_265r (r0 := U 122) hp hT hpn ?_ np 0 U 0 (by omega) hf hi (fun _ => ⟨rfl, fun i h => absurd h (Nat.not_lt_zero _)⟩) (fun e => absurd rfl e)
      intro T' f' i' _ x hx0 hx1
      by_cases e : x = 0
      · obtain ⟨q1, q2⟩ := hx0 e
        rw [e, lp_265_32, if_pos rfl]
        rw [← q1] at q2
        exact hQ T' f' i'.1 (fin _ i' q2)
      · have := (hx1 e).2
        omega
    | succ z ih =>
      intro U hz hf hi
      rw [lp_265_32, if_neg (by decide)]
      refine r_265r (r0 := U 122) hp hT hpn ?_ np 0 U 0 (by omega) hf hi (fun _ => ⟨rfl, fun i h => absurd h (Nat.not_lt_zero _)⟩) (fun e => absurd rfl e)
      intro T' f' i' _ x hx0 hx1
      by_cases e : x = 0
      · obtain ⟨q1, q2⟩ := hx0 e
        rw [e, lp_265_32, if_pos rfl]
        rw [← q1] at q2
        exact hQ T' f' i'.1 (fin _ i' q2)
      · obtain ⟨q1, q2⟩ := hx1 e
        rw [q1]
        exact ih T' (by omega) f' i'
  rw [lp_265_0]
  refine r_265i (p := p) (by omega) (fun T' f' h' => ?_) 60 0 T (by omega) (fun _ _ => rfl) (fun k h => absurd h (Nat.not_lt_zero _))
  refine rounds _ T' (Nat.le_refl _) f' ⟨fun k hk => ?_, fun k hk h => ?_, ?_⟩
  · rw [h' k hk]
    split
    · exact Or.inr rfl
    · exact Or.inl rfl
  · rw [h' k hk] at h
    by_cases e : k = p
    · rw [e]; exact ⟨hpn, hpo, rfl⟩
    · rw [if_neg e] at h; exact absurd h (by decide)
  · rw [h' p (by omega), if_pos rfl]
end C1
end
section
/-! Chains: standings set together; what holds of a chain. -/
noncomputable def setR (np : Nat) (P : Nat → Prop) (v : Int32) (r : Nat → Int32) : Nat → Int32 := fun k => if pB (k < np ∧ P k) = true then v else r k
theorem setR_y {np k : Nat} {P : Nat → Prop} {v : Int32} {r : Nat → Int32} (h : k < np) (hp : P k) : setR np P v r k = v := by unfold setR; rw [if_pos (pB_t.mpr ⟨h, hp⟩)]
theorem setR_n {np k : Nat} {P : Nat → Prop} {v : Int32} {r : Nat → Int32} (h : ¬ (k < np ∧ P k)) : setR np P v r k = r k := by unfold setR; rw [if_neg (fun e => h (pB_t.mp e))]
theorem setR_0 {P : Nat → Prop} {v : Int32} {r : Nat → Int32} : setR 0 P v r = r := by
  funext k
  exact setR_n (fun e => absurd e.1 (Nat.not_lt_zero _))
theorem setR_s1 {np : Nat} {P : Nat → Prop} {v : Int32} {r : Nat → Int32} (h : P np) : va_up (setR np P v r) np v = setR (np + 1) P v r := by
  funext k
  rw [va_ap]
  by_cases e : k = np
  · rw [if_pos e, e, setR_y (by omega) h]
  · rw [if_neg e]
    by_cases g : k < np ∧ P k
    · rw [setR_y g.1 g.2, setR_y (by omega) g.2]
    · rw [setR_n g, setR_n (fun e2 => g ⟨by omega, e2.2⟩)]
theorem setR_s0 {np : Nat} {P : Nat → Prop} {v : Int32} {r : Nat → Int32} (h : ¬ P np) : setR np P v r = setR (np + 1) P v r := by
  funext k
  by_cases g : k < np ∧ P k
  · rw [setR_y g.1 g.2, setR_y (by omega) g.2]
  · rw [setR_n g, setR_n (fun e2 => by
      by_cases e : k = np
      · rw [e] at e2; exact h e2.2
      · exact g ⟨by omega, e2.2⟩)]
theorem setR_c {np : Nat} {P R : Nat → Prop} {v : Int32} {r : Nat → Int32} (h : ∀ k, k < np → (P k ↔ R k)) : setR np P v r = setR np R v r := by
  funext k
  by_cases g : k < np ∧ P k
  · rw [setR_y g.1 g.2, setR_y g.1 ((h k g.1).mp g.2)]
  · rw [setR_n g, setR_n (fun e => g ⟨e.1, (h k e.1).mpr e.2⟩)]
def una (K : Nat → Nat → Int32) (k : Nat) : Prop := K 42 k = 0 ∨ K 42 k = 1 ∨ K 42 k = 2
/-- a flag -/
def flg (P : Nat → Prop) (j : Nat) (x : Int32) : Prop := (x = 1 ∧ ∃ i, i < j ∧ P i) ∨ (x = 0 ∧ ∀ i, i < j → ¬ P i)
theorem flg_0 (P : Nat → Prop) : flg P 0 0 := Or.inr ⟨rfl, fun i h => absurd h (Nat.not_lt_zero _)⟩
theorem flg_k {P : Nat → Prop} {j : Nat} {x : Int32} (h : flg P j x) (n : ¬ P j) : flg P (j + 1) x := by
  rcases h with ⟨h1, i, h2, h3⟩ | ⟨h1, h2⟩
  · exact Or.inl ⟨h1, i, by omega, h3⟩
  · refine Or.inr ⟨h1, fun i hi e => ?_⟩
    by_cases g : i = j
    · rw [g] at e; exact n e
    · exact h2 i (by omega) e
theorem flg_s {P : Nat → Prop} {j : Nat} (h : P j) : flg P (j + 1) 1 := Or.inl ⟨rfl, j, by omega, h⟩
theorem flg_e {P : Nat → Prop} {j : Nat} (h : flg P j 1) : flg P (j + 1) 1 := by
  rcases h with ⟨-, i, h2, h3⟩ | ⟨h1, -⟩
  · exact Or.inl ⟨rfl, i, by omega, h3⟩
  · exact absurd h1 (by decide)
section C2
variable {X : (Nat → Int32) × Nat} {mo : Bool} {G : Nat × Nat} {I A K : Nat → Nat → Int32}
theorem rw2_u {K : Nat → Nat → Int32} {c k : Nat} {r : Nat → Int32} {v : Int32} : up2 (rw2 K c r) c k v = rw2 K c (va_up r k v) := by
  rw [up2_rw, rw2_a, rw2_rw]
theorem ioc {n m np p k : Nat} (hp : ppS n m np I) (hf : fixC I K) {L : Nat → Nat → Int32} (hL : eqC K L) (hpn : p < np) (hpo : ¬ I 42 p = -1) (hk : k < np) : vf_Pap_inOneChain L (zI p) (zI k) ↔ chn I p k := by
  have np60 := hp.2.2.1.2.2
  have e31 : L 31 0 = zI np := by rw [hL 31 (by decide), hf.1 31 (by decide) (by decide) (by decide) (by decide) (by decide) (by decide) (by decide) (by decide) (by decide)]; exact hp.2.2.1.1
  have e41 : L 41 = I 41 := by rw [hL 41 (by decide), hf.1 41 (by decide) (by decide) (by decide) (by decide) (by decide) (by decide) (by decide) (by decide) (by decide)]
  have pr : ¬ I 41 p = -1 := by
    rcases hp.2.2.2.2.2.2.2.2.2.2 p hpn with ⟨a1, -⟩ | ⟨-, -, -, -, -, -, -, j, hj, e⟩
    · exact absurd a1 hpo
    · rw [e, zI_m1 (by omega)]; exact fun e => e
  unfold vf_Pap_inOneChain
  rw [hPap_vp e31 np60, hPap_vp e31 np60, zI_sIn (by omega) (by omega), zI_sIn (by omega) (by omega), zI_cn (by omega), zI_cn (by omega), e41]
  constructor
  · rintro ⟨-, -, h1, h2⟩
    refine ⟨fun e => ?_, h1.symm⟩
    rcases hp.2.2.2.2.2.2.2.2.2.2 k hk with ⟨-, -, -, a4⟩ | ⟨a1, -⟩
    · rw [a4] at h1; exact pr h1
    · exact a1 e
  · rintro ⟨h1, h2⟩
    exact ⟨hpn, hk, h2.symm, pr⟩
/-- a chain's unended end, by the class -/
theorem c_35 {n m np p w : Nat} (hp : ppS n m np I) (hf : fixC I K) (hpn : p < np) (hpo : ¬ I 42 p = -1) : cRun mo G (fun M Q => sm_wp X 35 0 [some (.ref 45), some (.int (zI p)), some (.int (zI w)), none] [] M Q) K (rw2 K 42 (setR np (fun k => chn I p k ∧ una K k) (zI w) (K 42))) := by
  have np60 := hp.2.2.1.2.2
  intro L J Q hL hQ
  have loop : ∀ d j U, j + d = np → eqC (rw2 K 42 (setR j (fun k => chn I p k ∧ una K k) (zI w) (K 42))) U → sm_wp X 35 2 [some (.ref 45), some (.int (zI p)), some (.int (zI w)), some (.int (zI j))] [] (sM mo G U J) Q := by
    intro d
    induction d with
    | zero =>
      intro j U hj hU
      have e31 : U 31 0 = zI np := by rw [hU 31 (by decide), rw2_n _ _ _ _ (by decide), hf.1 31 (by decide) (by decide) (by decide) (by decide) (by decide) (by decide) (by decide) (by decide) (by decide)]; exact hp.2.2.1.1
      rw [lp_35_2, if_pos (by rw [e31, zI_le (by omega) (by omega)]; omega)]
      have : j = np := by omega
      rw [this] at hU
      exact hQ U J hU (fun _ _ _ => rfl)
    | succ d ih =>
      intro j U hj hU
      have e31 : U 31 0 = zI np := by rw [hU 31 (by decide), rw2_n _ _ _ _ (by decide), hf.1 31 (by decide) (by decide) (by decide) (by decide) (by decide) (by decide) (by decide) (by decide) (by decide)]; exact hp.2.2.1.1
      have hfr : fixC I (rw2 K 42 (setR j (fun k => chn I p k ∧ una K k) (zI w) (K 42))) := ⟨fun e a1 a2 a3 a4 a5 a6 a7 a8 a9 => by rw [rw2_n _ _ _ _ a7]; exact hf.1 e a1 a2 a3 a4 a5 a6 a7 a8 a9, fun i a b => by rw [rw2_n _ _ _ _ (by decide)]; exact hf.2 i a b⟩
      have ic := ioc hp hfr hU hpn hpo (show j < np by omega)
      have hpj : hPap U (zI j) := by rw [hPap_vp e31 np60, zI_sIn (by omega) (by omega)]; omega
      have e42 : aPap U 42 (-1) (zI j) = K 42 j := by
        unfold aPap
        rw [if_pos hpj, zI_cn (by omega), hU 42 (by decide), rw2_a, setR_n (fun e => absurd e.1 (by omega))]
      rw [lp_35_2, if_neg (by rw [e31, zI_le (by omega) (by omega)]; omega), show zI j + 1 = zI (j + 1) from zIr_add 1 j]
      by_cases g : chn I p j
      · rw [if_neg (fun e => e (ic.mpr g))]
        by_cases g2 : una K j
        · rw [if_neg (fun e => e (show vf_Pap_isUnended U (zI j) from by unfold vf_Pap_isUnended; rw [e42]; exact g2)), if_neg (fun e => e hpj), zI_vp (by omega), zI_cn (by omega)]
          refine ⟨by omega, ih (j + 1) _ (by omega) ?_⟩
          rw [← setR_s1 (P := fun k => chn I p k ∧ una K k) ⟨g, g2⟩, ← rw2_u]
          exact eqC_u hU 42 j (zI w)
        · rw [if_pos (show ¬ vf_Pap_isUnended U (zI j) from by unfold vf_Pap_isUnended; rw [e42]; exact g2)]
          refine ih (j + 1) U (by omega) ?_
          rw [← setR_s0 (P := fun k => chn I p k ∧ una K k) (fun e => g2 e.2)]
          exact hU
      · rw [if_pos (fun e => g (ic.mp e))]
        refine ih (j + 1) U (by omega) ?_
        rw [← setR_s0 (P := fun k => chn I p k ∧ una K k) (fun e => g e.1)]
        exact hU
  show sm_wp X 35 0 [some (.ref 45), some (.int (zI p)), some (.int (zI w)), none] [] (sM mo G L J) Q
  rw [lp_35_0]
  refine loop np 0 L (by omega) ?_
  rw [setR_0, rw2_self]
  exact hL
/-- the reference's row of the chain -/
def cRw (np p : Nat) (I T : Nat → Nat → Int32) : Prop := (∀ k, k < 60 → T 122 k = 0 ∨ T 122 k = 1) ∧ ∀ k, k < np → (T 122 k = 1 ↔ chn I p k)
theorem cRw_c {np p : Nat} {T T' : Nat → Nat → Int32} (h : cRw np p I T) (e : T' 122 = T 122) : cRw np p I T' := by unfold cRw; rw [e]; exact h
theorem r_266 {n m np p w lo hi : Nat} (hp : ppS n m np I) (hlo : lo ≤ 6) (hhi : hi ≤ 6) {T : Nat → Nat → Int32} {J : Nat → Nat → Int64} {Q : Option Value → sm_M → Prop} (hT : cplR I A K T) (hc : cRw np p I T) (hst : sta I K np)
    (hQ : ∀ T', cplR I A (rw2 K 42 (setR np (fun k => chn I p k ∧ ∃ f, K 42 k = zI f ∧ f ≤ 6 ∧ lo ≤ f ∧ f ≤ hi) (zI w) (K 42))) T' → Q none (sM mo G T' J)) : sm_wp X 266 0 [some (.ref 81), some (.int (zI lo)), some (.int (zI hi)), some (.int (zI w)), none] [] (sM mo G T J) Q := by
  have np60 := hp.2.2.1.2.2
  have loop : ∀ d j U, j + d = np → cplR I A (rw2 K 42 (setR j (fun k => chn I p k ∧ ∃ f, K 42 k = zI f ∧ f ≤ 6 ∧ lo ≤ f ∧ f ≤ hi) (zI w) (K 42))) U → U 122 = T 122 → sm_wp X 266 3 [some (.ref 81), some (.int (zI lo)), some (.int (zI hi)), some (.int (zI w)), some (.int (zI j))] [] (sM mo G U J) Q := by
    intro d
    induction d with
    | zero =>
      intro j U hj hU h122
      have e46 : U 81 46 = zI np := by rw [hU.2.2.1 46 (by decide) (by decide) (by decide)]; exact hp.2.2.1.2.1
      rw [lp_266_3, e46, if_pos (by rw [zI_le (by omega) (by omega)]; omega)]
      have : j = np := by omega
      rw [this] at hU
      exact hQ U hU
    | succ d ih =>
      intro j U hj hU h122
      have e46 : U 81 46 = zI np := by rw [hU.2.2.1 46 (by decide) (by decide) (by decide)]; exact hp.2.2.1.2.1
      have e117 : U 117 j = K 42 j := by rw [hU.2.2.2.2.2.2.1, rw2_a, setR_n (fun e => absurd e.1 (by omega))]
      rw [lp_266_3, e46, if_neg (by rw [zI_le (by omega) (by omega)]; omega), zI_vp (by omega), zI_cn (by omega), h122, e117, show zI j + 1 = zI (j + 1) from zIr_add 1 j]
      refine ⟨by omega, ?_⟩
      have cj := hc.2 j (by omega)
      have keep : ¬ (chn I p j ∧ ∃ f, K 42 j = zI f ∧ f ≤ 6 ∧ lo ≤ f ∧ f ≤ hi) → sm_wp X 266 3 [some (.ref 81), some (.int (zI lo)), some (.int (zI hi)), some (.int (zI w)), some (.int (zI (j + 1)))] [] (sM mo G U J) Q := fun hn => by
        refine ih (j + 1) U (by omega) ?_ h122
        rw [← setR_s0 (P := fun k => chn I p k ∧ ∃ f, K 42 k = zI f ∧ f ≤ 6 ∧ lo ≤ f ∧ f ≤ hi) hn]
        exact hU
      by_cases z : T 122 j = 0
      · rw [if_pos z]
        exact keep (fun e => by have := cj.mpr e.1; rw [z] at this; exact absurd this (by decide))
      · rw [if_neg z]
        have z1 := (hc.1 j (by omega)).resolve_left z
        have cc := cj.mp z1
        obtain ⟨f, hf6, ef⟩ := ((hst j (by omega)).resolve_left (fun e => cc.1 e.1)).2
        rw [ef]
        by_cases b1 : f < lo
        · rw [if_pos (by rw [zI_lt (by omega) (by omega)]; exact b1)]
          refine keep ?_
          rintro ⟨-, f', e', h2, h3, -⟩
          rw [ef, zI_eq (by omega) (by omega)] at e'
          omega
        · rw [if_neg (by rw [zI_lt (by omega) (by omega)]; exact b1)]
          by_cases b2 : hi < f
          · rw [if_pos (by rw [zI_lt (by omega) (by omega)]; exact b2)]
            refine keep ?_
            rintro ⟨-, f', e', h2, -, h4⟩
            rw [ef, zI_eq (by omega) (by omega)] at e'
            omega
          · rw [if_neg (by rw [zI_lt (by omega) (by omega)]; exact b2)]
            refine ih (j + 1) _ (by omega) ?_ (by rw [up2_rn _ _ _ _ _ (by decide)]; exact h122)
            rw [← setR_s1 (P := fun k => chn I p k ∧ ∃ f, K 42 k = zI f ∧ f ≤ 6 ∧ lo ≤ f ∧ f ≤ hi) ⟨cc, f, ef, hf6, by omega, by omega⟩, ← rw2_u]
            exact cpl_42 hU j (zI w)
  rw [lp_266_0]
  refine loop np 0 T (by omega) ?_ rfl
  rw [setR_0, rw2_self]
  exact hT
end C2
end
section
/-! Chains: whether all can be carried out; broken, waiting. -/
def memC (I K : Nat → Nat → Int32) (p k : Nat) : Prop := chn I p k ∧ K 42 k = 2
noncomputable def gvn (I K : Nat → Nat → Int32) (p : Nat) (j : Nat) : Int32 := up (fun i a => if pB (memC I K p i) = true then a ||| (I 37 i ||| I 38 i) else a) j 0
theorem gvn_y {I K : Nat → Nat → Int32} {p j : Nat} (h : memC I K p j) : gvn I K p (j + 1) = gvn I K p j ||| (I 37 j ||| I 38 j) := by
  show (if pB (memC I K p j) = true then gvn I K p j ||| (I 37 j ||| I 38 j) else gvn I K p j) = _
  rw [if_pos (pB_t.mpr h)]
theorem gvn_n {I K : Nat → Nat → Int32} {p j : Nat} (h : ¬ memC I K p j) : gvn I K p (j + 1) = gvn I K p j := by
  show (if pB (memC I K p j) = true then gvn I K p j ||| (I 37 j ||| I 38 j) else gvn I K p j) = _
  rw [if_neg (fun e => h (pB_t.mp e))]
def okM (n : Nat) (I K : Nat → Nat → Int32) (p i : Nat) : Prop := gvn I K p i &&& (I 37 i ||| I 38 i) = 0 ∧ I 37 i &&& (hlds (K 4) (I 32 i) n ^^^ (-1)) = 0 ∧ I 38 i &&& (hlds (K 4) (I 33 i) n ^^^ (-1)) = 0
def canP (n : Nat) (I K : Nat → Nat → Int32) (p j : Nat) : Prop := ∀ i, i < j → memC I K p i → okM n I K p i
theorem canP_s {n p j : Nat} {I K : Nat → Nat → Int32} (h : canP n I K p j) (g : memC I K p j → okM n I K p j) : canP n I K p (j + 1) := fun i hi hm => by
  by_cases e : i = j
  · rw [e] at hm ⊢; exact g hm
  · exact h i (by omega) hm
section C3
variable {X : (Nat → Int32) × Nat} {mo : Bool} {G : Nat × Nat} {I A K : Nat → Nat → Int32} {J : Nat → Nat → Int64} {Q : Option Value → sm_M → Prop}
theorem c_37 {n m np p : Nat} (hp : ppS n m np I) (hf : fixC I K) (hpn : p < np) (hpo : ¬ I 42 p = -1) {L : Nat → Nat → Int32} (hL : eqC K L) (hY : canP n I K p np → Q (some (.int 1)) (sM mo G L J)) (hN : ¬ canP n I K p np → Q (some (.int 0)) (sM mo G L J)) : sm_wp X 37 0 [some (.ref 45), some (.int (zI p)), none, none, none, none] [] (sM mo G L J) Q := by
  have np60 := hp.2.2.1.2.2
  have kf : ∀ d, d = 31 ∨ d = 32 ∨ d = 33 ∨ d = 37 ∨ d = 38 → L d = I d := fun d h => by rw [hL d (by omega)]; exact hf.1 d (by omega) (by omega) (by omega) (by omega) (by omega) (by omega) (by omega) (by omega) (by omega)
  have e31 : L 31 0 = zI np := by rw [kf 31 (by decide)]; exact hp.2.2.1.1
  have en : L 1 0 = zI n := by rw [hL 1 (by decide), hf.2 0 (by decide) (by decide)]; exact hp.1.1
  have n12 := hp.1.2.2
  have e4 : L 4 = K 4 := hL 4 (by decide)
  have loop : ∀ d j, j + d = np → canP n I K p j → sm_wp X 37 4 [some (.ref 45), some (.int (zI p)), some (.int (gvn I K p j)), some (.int (zI j)), none, none] [] (sM mo G L J) Q := by
    intro d
    induction d with
    | zero =>
      intro j hj hc
      rw [lp_37_4, if_pos (by rw [e31, zI_le (by omega) (by omega)]; omega)]
      have : j = np := by omega
      rw [this] at hc
      exact hY hc
    | succ d ih =>
      intro j hj hc
      have ic := ioc hp hf hL hpn hpo (show j < np by omega)
      have hpj : hPap L (zI j) := by rw [hPap_vp e31 np60, zI_sIn (by omega) (by omega)]; omega
      have ap : ∀ (c : Nat) (d : Int32), aPap L c d (zI j) = L c j := fun c d => by
        unfold aPap
        rw [if_pos hpj, zI_cn (by omega)]
      rw [lp_37_4, if_neg (by rw [e31, zI_le (by omega) (by omega)]; omega), ap 42, ap 37, ap 38, ap 32, hL 42 (by decide), kf 37 (by decide), kf 38 (by decide), kf 32 (by decide), show zI j + 1 = zI (j + 1) from zIr_add 1 j]
      by_cases g : chn I p j
      · rw [if_neg (fun e => e (ic.mpr g))]
        by_cases g2 : K 42 j = 2
        · have mj : memC I K p j := ⟨g, g2⟩
          rw [if_neg (fun e => e g2)]
          have bad : ¬ okM n I K p j → Q (some (.int 0)) (sM mo G L J) := fun h => hN (fun e => h (e j (by omega) mj))
          by_cases o1 : gvn I K p j &&& (I 37 j ||| I 38 j) = 0
          · rw [if_neg (fun e => e o1), ct_landsHeld _ _ _ _ _ _ en n12, e4]
            simp only [tl_some]
            rw [lp_37_86, ap 33, kf 33 (by decide)]
            by_cases o2 : I 37 j &&& (hlds (K 4) (I 32 j) n ^^^ (-1)) = 0
            · rw [if_neg (fun e => e o2), ct_landsHeld _ _ _ _ _ _ en n12, e4]
              simp only [tl_some]
              rw [lp_37_109, show zI j + 1 = zI (j + 1) from zIr_add 1 j]
              by_cases o3 : I 38 j &&& (hlds (K 4) (I 33 j) n ^^^ (-1)) = 0
              · rw [if_pos o3, ← gvn_y mj]
                exact ih (j + 1) (by omega) (canP_s hc (fun _ => ⟨o1, o2, o3⟩))
              · rw [if_neg o3]
                exact bad (fun e => o3 e.2.2)
            · rw [if_pos o2]
              exact bad (fun e => o2 e.2.1)
          · rw [if_pos o1]
            exact bad (fun e => o1 e.1)
        · rw [if_pos g2]
          have nm : ¬ memC I K p j := fun e => g2 e.2
          rw [← gvn_n nm]
          exact ih (j + 1) (by omega) (canP_s hc (fun e => absurd e nm))
      · rw [if_pos (fun e => g (ic.mp e))]
        have nm : ¬ memC I K p j := fun e => g e.1
        rw [← gvn_n nm]
        exact ih (j + 1) (by omega) (canP_s hc (fun e => absurd e nm))
  rw [lp_37_0]
  exact loop np 0 (by omega) (fun i h => absurd h (Nat.not_lt_zero _))
theorem r_267 {n m np p : Nat} (hp : ppS n m np I) {T : Nat → Nat → Int32} (hT : cplR I A K T) (hc : cRw np p I T) (hY : canP n I K p np → Q (some (.int 1)) (sM mo G T J)) (hN : ¬ canP n I K p np → Q (some (.int 0)) (sM mo G T J)) : sm_wp X 267 0 [some (.ref 81), none, none, none] [] (sM mo G T J) Q := by
  have np60 := hp.2.2.1.2.2
  have q := hp.2.2.2.2.2.1
  have rf : ∀ d, d = 108 ∨ d = 109 ∨ d = 111 ∨ d = 112 → T d = I d := fun d h => hT.2.1 d (by omega) (by omega) (by omega) (by omega) (by omega) (by omega) (by omega) (by omega) (by omega)
  have e46 : T 81 46 = zI np := by rw [hT.2.2.1 46 (by decide) (by decide) (by decide)]; exact hp.2.2.1.2.1
  have en : T 81 3 = zI n := by rw [hT.2.2.1 3 (by decide) (by decide) (by decide)]; exact hp.1.2.1
  have n12 := hp.1.2.2
  have e85 : T 85 = K 4 := hT.2.2.2.2.1
  have e117 : T 117 = K 42 := hT.2.2.2.2.2.2.1
  have e108 : T 108 = I 32 := by rw [rf 108 (by decide)]; exact q.2.1
  have e109 : T 109 = I 33 := by rw [rf 109 (by decide)]; exact q.1
  have e111 : T 111 = I 37 := by rw [rf 111 (by decide)]; exact q.2.2.1
  have e112 : T 112 = I 38 := by rw [rf 112 (by decide)]; exact q.2.2.2.1
  have loop : ∀ d j, j + d = np → canP n I K p j → sm_wp X 267 4 [some (.ref 81), some (.int (gvn I K p j)), some (.int (zI j)), none] [] (sM mo G T J) Q := by
    intro d
    induction d with
    | zero =>
      intro j hj hca
      rw [lp_267_4, if_pos (by rw [e46, zI_le (by omega) (by omega)]; omega)]
      have : j = np := by omega
      rw [this] at hca
      exact hY hca
    | succ d ih =>
      intro j hj hca
      have v60 : vp_in (zI j) 60 := Eq.mpr (zI_vp (a := j) (n := 60) (by omega)) (by omega)
      have cj := hc.2 j (by omega)
      rw [lp_267_4, if_neg (by rw [e46, zI_le (by omega) (by omega)]; omega), zI_cn (by omega), e117, e111, e112, e108, show zI j + 1 = zI (j + 1) from zIr_add 1 j]
      refine ⟨v60, ?_⟩
      by_cases z : T 122 j = 0
      · rw [if_pos z]
        have nm : ¬ memC I K p j := fun e => by have := cj.mpr e.1; rw [z] at this; exact absurd this (by decide)
        rw [← gvn_n nm]
        exact ih (j + 1) (by omega) (canP_s hca (fun e => absurd e nm))
      · rw [if_neg z]
        have g := cj.mp ((hc.1 j (by omega)).resolve_left z)
        by_cases g2 : K 42 j = 2
        · have mj : memC I K p j := ⟨g, g2⟩
          rw [if_pos g2]
          have bad : ¬ okM n I K p j → Q (some (.int 0)) (sM mo G T J) := fun h => hN (fun e => h (e j (by omega) mj))
          by_cases o1 : gvn I K p j &&& (I 37 j ||| I 38 j) = 0
          · rw [if_pos o1, ct_Mholdings _ _ _ _ _ _ en n12, e85]
            simp only [tl_some]
            rw [lp_267_76, zI_cn (by omega), e109, e112]
            by_cases o2 : I 37 j &&& (hlds (K 4) (I 32 j) n ^^^ (-1)) = 0
            · rw [if_neg (fun e => e o2), ct_Mholdings _ _ _ _ _ _ en n12, e85]
              refine ⟨v60, ?_⟩
              simp only [tl_some]
              rw [lp_267_98, show zI j + 1 = zI (j + 1) from zIr_add 1 j]
              by_cases o3 : I 38 j &&& (hlds (K 4) (I 33 j) n ^^^ (-1)) = 0
              · rw [if_pos o3, ← gvn_y mj]
                exact ih (j + 1) (by omega) (canP_s hca (fun _ => ⟨o1, o2, o3⟩))
              · rw [if_neg o3]
                exact bad (fun e => o3 e.2.2)
            · rw [if_pos o2]
              exact bad (fun e => o2 e.2.1)
          · rw [if_neg o1]
            exact bad (fun e => o1 e.1)
        · rw [if_neg g2]
          have nm : ¬ memC I K p j := fun e => g2 e.2
          rw [← gvn_n nm]
          exact ih (j + 1) (by omega) (canP_s hca (fun e => absurd e nm))
  rw [lp_267_0]
  exact loop np 0 (by omega) (fun i h => absurd h (Nat.not_lt_zero _))
/-- broken; waiting -/
def brk (I K : Nat → Nat → Int32) (p k : Nat) : Prop := chn I p k ∧ (K 42 k = 3 ∨ K 42 k = 4 ∨ K 42 k = 6)
def wai (I K : Nat → Nat → Int32) (p k : Nat) : Prop := chn I p k ∧ (K 42 k = 0 ∨ K 42 k = 1)
theorem c_34f {n m np p : Nat} (hp : ppS n m np I) (hf : fixC I K) (hst : sta I K np) (hpn : p < np) (hpo : ¬ I 42 p = -1) {L : Nat → Nat → Int32} (hL : eqC K L)
    (hQ : ∀ x y : Int32, flg (brk I K p) np x → flg (wai I K p) np y → (if x = 0 then (if ¬ y = 0 then (Q none (sM mo G L J)) else (sm_wp X 36 0 [some (.ref 45), some (.int (zI p)), none] [] (sM mo G L J) (fun v M => sm_wp X 34 122 [some (.ref 45), some (.int (zI p)), some (.int x), some (.int y), some (.int (zI np)), none] (v.toList ++ []) M Q))) else (sm_wp X 35 0 [some (.ref 45), some (.int (zI p)), some (.int 6), none] [] (sM mo G L J) (fun v M => sm_wp X 34 110 [some (.ref 45), some (.int (zI p)), some (.int x), some (.int y), some (.int (zI np)), none] (v.toList ++ []) M Q)))) :
    sm_wp X 34 0 [some (.ref 45), some (.int (zI p)), none, none, none, none] [] (sM mo G L J) Q := by
  have np60 := hp.2.2.1.2.2
  have e31 : L 31 0 = zI np := by rw [hL 31 (by decide), hf.1 31 (by decide) (by decide) (by decide) (by decide) (by decide) (by decide) (by decide) (by decide) (by decide)]; exact hp.2.2.1.1
  have loop : ∀ d j (x y : Int32), j + d = np → flg (brk I K p) j x → flg (wai I K p) j y → sm_wp X 34 7 [some (.ref 45), some (.int (zI p)), some (.int x), some (.int y), some (.int (zI j)), none] [] (sM mo G L J) Q := by
    intro d
    induction d with
    | zero =>
      intro j x y hj hx hy
      have : j = np := by omega
      subst this
      rw [lp_34_7, if_pos (by rw [e31, zI_le (by omega) (by omega)]; exact Nat.le_refl _)]
      exact hQ x y hx hy
    | succ d ih =>
      intro j x y hj hx hy
      have ic := ioc hp hf hL hpn hpo (show j < np by omega)
      have hpj : hPap L (zI j) := by rw [hPap_vp e31 np60, zI_sIn (by omega) (by omega)]; omega
      have e42 : aPap L 42 (-1) (zI j) = K 42 j := by
        unfold aPap
        rw [if_pos hpj, zI_cn (by omega), hL 42 (by decide)]
      rw [lp_34_7, if_neg (by rw [e31, zI_le (by omega) (by omega)]; omega), e42, show zI j + 1 = zI (j + 1) from zIr_add 1 j]
      by_cases g : chn I p j
      · rw [if_neg (fun e => e (ic.mpr g))]
        obtain ⟨f, hf6, ef⟩ := ((hst j (by omega)).resolve_left (fun e => g.1 e.1)).2
        have fc : f = 0 ∨ f = 1 ∨ f = 2 ∨ f = 3 ∨ f = 4 ∨ f = 5 ∨ f = 6 := by omega
        have bn : ∀ z : Int32, K 42 j = z → ¬ (z = 3 ∨ z = 4 ∨ z = 6) → ∀ x, flg (brk I K p) j x → flg (brk I K p) (j + 1) x := fun z hz hn x h => flg_k h (fun e => hn (by rw [← hz]; exact e.2))
        have wn : ∀ z : Int32, K 42 j = z → ¬ (z = 0 ∨ z = 1) → ∀ x, flg (wai I K p) j x → flg (wai I K p) (j + 1) x := fun z hz hn x h => flg_k h (fun e => hn (by rw [← hz]; exact e.2))
        have by' : ∀ z : Int32, K 42 j = z → (z = 3 ∨ z = 4 ∨ z = 6) → flg (brk I K p) (j + 1) 1 := fun z hz hn => flg_s ⟨g, by rw [hz]; exact hn⟩
        have wy : ∀ z : Int32, K 42 j = z → (z = 0 ∨ z = 1) → flg (wai I K p) (j + 1) 1 := fun z hz hn => flg_s ⟨g, by rw [hz]; exact hn⟩
        have xx : x = 1 ∨ x = 0 := by rcases hx with h | h; exact Or.inl h.1; exact Or.inr h.1
        have yy : y = 1 ∨ y = 0 := by rcases hy with h | h; exact Or.inl h.1; exact Or.inr h.1
        rcases fc with rfl | rfl | rfl | rfl | rfl | rfl | rfl
        · rcases xx with rfl | rfl <;> rcases yy with rfl | rfl <;> rw [ef] <;> simp (decide := true) only [if_true, if_false] <;> exact ih (j + 1) _ _ (by omega) (bn _ ef (by decide) _ hx) (wy _ ef (by decide))
        · rcases xx with rfl | rfl <;> rcases yy with rfl | rfl <;> rw [ef] <;> simp (decide := true) only [if_true, if_false] <;> exact ih (j + 1) _ _ (by omega) (bn _ ef (by decide) _ hx) (wy _ ef (by decide))
        · rcases xx with rfl | rfl <;> rcases yy with rfl | rfl <;> rw [ef] <;> simp (decide := true) only [if_true, if_false] <;> exact ih (j + 1) _ _ (by omega) (bn _ ef (by decide) _ hx) (wn _ ef (by decide) _ hy)
        · rcases xx with rfl | rfl <;> rcases yy with rfl | rfl <;> rw [ef] <;> simp (decide := true) only [if_true, if_false] <;> exact ih (j + 1) _ _ (by omega) (by' _ ef (by decide)) (wn _ ef (by decide) _ hy)
        · rcases xx with rfl | rfl <;> rcases yy with rfl | rfl <;> rw [ef] <;> simp (decide := true) only [if_true, if_false] <;> exact ih (j + 1) _ _ (by omega) (by' _ ef (by decide)) (wn _ ef (by decide) _ hy)
        · rcases xx with rfl | rfl <;> rcases yy with rfl | rfl <;> rw [ef] <;> simp (decide := true) only [if_true, if_false] <;> exact ih (j + 1) _ _ (by omega) (bn _ ef (by decide) _ hx) (wn _ ef (by decide) _ hy)
        · rcases xx with rfl | rfl <;> rcases yy with rfl | rfl <;> rw [ef] <;> simp (decide := true) only [if_true, if_false] <;> exact ih (j + 1) _ _ (by omega) (by' _ ef (by decide)) (wn _ ef (by decide) _ hy)
      · rw [if_pos (fun e => g (ic.mp e))]
        exact ih (j + 1) x y (by omega) (flg_k hx (fun e => g e.1)) (flg_k hy (fun e => g e.1))
  rw [lp_34_0]
  exact loop np 0 0 0 (by omega) (flg_0 _) (flg_0 _)
theorem r_264f {n m np p : Nat} (hp : ppS n m np I) (hst : sta I K np) {T : Nat → Nat → Int32} (hT : cplR I A K T) (hc : cRw np p I T)
    (hQ : ∀ x y : Int32, flg (brk I K p) np x → flg (wai I K p) np y → (if x = 0 then (if y = 0 then (sm_wp X 267 0 [some (.ref 81), none, none, none] [] (sM mo G T J) (fun v M => sm_wp X 264 127 [some (.ref 81), none, some (.int x), some (.int y), some (.int (zI np)), none] (v.toList ++ []) M Q)) else (Q none (sM mo G T J))) else (sm_wp X 266 0 [some (.ref 81), some (.int 0), some (.int 2), some (.int 6), none] [] (sM mo G T J) (fun v M => sm_wp X 264 117 [some (.ref 81), none, some (.int x), some (.int y), some (.int (zI np)), none] (v.toList ++ []) M Q)))) :
    sm_wp X 264 12 [some (.ref 81), none, some (.int 0), some (.int 0), some (.int 0), none] [] (sM mo G T J) Q := by
  have np60 := hp.2.2.1.2.2
  have e46 : T 81 46 = zI np := by rw [hT.2.2.1 46 (by decide) (by decide) (by decide)]; exact hp.2.2.1.2.1
  have e117 : T 117 = K 42 := hT.2.2.2.2.2.2.1
  have loop : ∀ d j (x y : Int32), j + d = np → flg (brk I K p) j x → flg (wai I K p) j y → sm_wp X 264 12 [some (.ref 81), none, some (.int x), some (.int y), some (.int (zI j)), none] [] (sM mo G T J) Q := by
    intro d
    induction d with
    | zero =>
      intro j x y hj hx hy
      have : j = np := by omega
      subst this
      rw [lp_264_12, if_pos (by rw [e46, zI_le (by omega) (by omega)]; exact Nat.le_refl _)]
      exact hQ x y hx hy
    | succ d ih =>
      intro j x y hj hx hy
      have v60 : vp_in (zI j) 60 := Eq.mpr (zI_vp (a := j) (n := 60) (by omega)) (by omega)
      have cj := hc.2 j (by omega)
      rw [lp_264_12, if_neg (by rw [e46, zI_le (by omega) (by omega)]; omega), zI_cn (by omega), e117, show zI j + 1 = zI (j + 1) from zIr_add 1 j]
      refine ⟨v60, ?_⟩
      by_cases z : T 122 j = 0
      · have g : ¬ chn I p j := fun e => by have := cj.mpr e; rw [z] at this; exact absurd this (by decide)
        rw [if_neg (fun e => e z)]
        exact ih (j + 1) x y (by omega) (flg_k hx (fun e => g e.1)) (flg_k hy (fun e => g e.1))
      · have g := cj.mp ((hc.1 j (by omega)).resolve_left z)
        rw [if_pos z]
        obtain ⟨f, hf6, ef⟩ := ((hst j (by omega)).resolve_left (fun e => g.1 e.1)).2
        have fc : f = 0 ∨ f = 1 ∨ f = 2 ∨ f = 3 ∨ f = 4 ∨ f = 5 ∨ f = 6 := by omega
        have bn : ∀ z : Int32, K 42 j = z → ¬ (z = 3 ∨ z = 4 ∨ z = 6) → ∀ x, flg (brk I K p) j x → flg (brk I K p) (j + 1) x := fun z hz hn x h => flg_k h (fun e => hn (by rw [← hz]; exact e.2))
        have wn : ∀ z : Int32, K 42 j = z → ¬ (z = 0 ∨ z = 1) → ∀ x, flg (wai I K p) j x → flg (wai I K p) (j + 1) x := fun z hz hn x h => flg_k h (fun e => hn (by rw [← hz]; exact e.2))
        have by' : ∀ z : Int32, K 42 j = z → (z = 3 ∨ z = 4 ∨ z = 6) → flg (brk I K p) (j + 1) 1 := fun z hz hn => flg_s ⟨g, by rw [hz]; exact hn⟩
        have wy : ∀ z : Int32, K 42 j = z → (z = 0 ∨ z = 1) → flg (wai I K p) (j + 1) 1 := fun z hz hn => flg_s ⟨g, by rw [hz]; exact hn⟩
        have xx : x = 1 ∨ x = 0 := by rcases hx with h | h; exact Or.inl h.1; exact Or.inr h.1
        have yy : y = 1 ∨ y = 0 := by rcases hy with h | h; exact Or.inl h.1; exact Or.inr h.1
        rcases fc with rfl | rfl | rfl | rfl | rfl | rfl | rfl
        · rcases xx with rfl | rfl <;> rcases yy with rfl | rfl <;> rw [ef] <;> simp (decide := true) only [if_true, if_false] <;> exact ih (j + 1) _ _ (by omega) (bn _ ef (by decide) _ hx) (wy _ ef (by decide))
        · rcases xx with rfl | rfl <;> rcases yy with rfl | rfl <;> rw [ef] <;> simp (decide := true) only [if_true, if_false] <;> exact ih (j + 1) _ _ (by omega) (bn _ ef (by decide) _ hx) (wy _ ef (by decide))
        · rcases xx with rfl | rfl <;> rcases yy with rfl | rfl <;> rw [ef] <;> simp (decide := true) only [if_true, if_false] <;> exact ih (j + 1) _ _ (by omega) (bn _ ef (by decide) _ hx) (wn _ ef (by decide) _ hy)
        · rcases xx with rfl | rfl <;> rcases yy with rfl | rfl <;> rw [ef] <;> simp (decide := true) only [if_true, if_false] <;> exact ih (j + 1) _ _ (by omega) (by' _ ef (by decide)) (wn _ ef (by decide) _ hy)
        · rcases xx with rfl | rfl <;> rcases yy with rfl | rfl <;> rw [ef] <;> simp (decide := true) only [if_true, if_false] <;> exact ih (j + 1) _ _ (by omega) (by' _ ef (by decide)) (wn _ ef (by decide) _ hy)
        · rcases xx with rfl | rfl <;> rcases yy with rfl | rfl <;> rw [ef] <;> simp (decide := true) only [if_true, if_false] <;> exact ih (j + 1) _ _ (by omega) (bn _ ef (by decide) _ hx) (wn _ ef (by decide) _ hy)
        · rcases xx with rfl | rfl <;> rcases yy with rfl | rfl <;> rw [ef] <;> simp (decide := true) only [if_true, if_false] <;> exact ih (j + 1) _ _ (by omega) (by' _ ef (by decide)) (wn _ ef (by decide) _ hy)
  exact loop np 0 0 0 (by omega) (flg_0 _) (flg_0 _)
end C3
end
section
/-! Lands are handed over. -/
def hvw (K : Nat → Nat → Int32) (sel : Nat → Bool) (j : Nat) : Bool := sel (j / 80) && decide (j % 80 = (K 6 (j / 80)).toNatClampNeg)
def hv (K : Nat → Nat → Int32) (sel : Nat → Bool) (who : Nat → Int32) (pap : Int32) (cnt : Nat) : Nat → Nat → Int32 := fun d j =>
  if d = 4 then (if sel j = true then who j else K 4 j)
  else if d = 6 then (if sel j = true then K 6 j + 1 else K 6 j)
  else if d = 7 then (if hvw K sel j = true then who (j / 80) else K 7 j)
  else if d = 8 then (if hvw K sel j = true then K 1 3 else K 8 j)
  else if d = 9 then (if hvw K sel j = true then pap else K 9 j)
  else if d = 1 then (if j = 4 then K 1 4 + zI cnt else K 1 j)
  else K d j
section H1
variable {K : Nat → Nat → Int32} {sel : Nat → Bool} {who : Nat → Int32} {pap : Int32} {cnt : Nat}
theorem hv_4 (j : Nat) : hv K sel who pap cnt 4 j = if sel j = true then who j else K 4 j := rfl
theorem hv_6 (j : Nat) : hv K sel who pap cnt 6 j = if sel j = true then K 6 j + 1 else K 6 j := rfl
theorem hv_7 (j : Nat) : hv K sel who pap cnt 7 j = if hvw K sel j = true then who (j / 80) else K 7 j := rfl
theorem hv_8 (j : Nat) : hv K sel who pap cnt 8 j = if hvw K sel j = true then K 1 3 else K 8 j := rfl
theorem hv_9 (j : Nat) : hv K sel who pap cnt 9 j = if hvw K sel j = true then pap else K 9 j := rfl
theorem hv_1 (j : Nat) : hv K sel who pap cnt 1 j = if j = 4 then K 1 4 + zI cnt else K 1 j := rfl
theorem hv_d {d : Nat} (h4 : ¬ d = 4) (h6 : ¬ d = 6) (h7 : ¬ d = 7) (h8 : ¬ d = 8) (h9 : ¬ d = 9) (h1 : ¬ d = 1) : hv K sel who pap cnt d = K d := by
  funext j
  unfold hv
  rw [if_neg h4, if_neg h6, if_neg h7, if_neg h8, if_neg h9, if_neg h1]
theorem hv_0 (h : ∀ l, sel l = false) : hv K sel who pap 0 = K := by
  funext d j
  have hw : ∀ j, ¬ hvw K sel j = true := fun j e => by unfold hvw at e; rw [h] at e; cases e
  have hs : ∀ j, ¬ sel j = true := fun j e => by rw [h] at e; cases e
  unfold hv
  by_cases d4 : d = 4
  · rw [if_pos d4, if_neg (hs j), d4]
  rw [if_neg d4]
  by_cases d6 : d = 6
  · rw [if_pos d6, if_neg (hs j), d6]
  rw [if_neg d6]
  by_cases d7 : d = 7
  · rw [if_pos d7, if_neg (hw j), d7]
  rw [if_neg d7]
  by_cases d8 : d = 8
  · rw [if_pos d8, if_neg (hw j), d8]
  rw [if_neg d8]
  by_cases d9 : d = 9
  · rw [if_pos d9, if_neg (hw j), d9]
  rw [if_neg d9]
  by_cases d1 : d = 1
  · rw [if_pos d1]
    by_cases j4 : j = 4
    · rw [if_pos j4, j4, d1]; exact Int32.add_zero _
    · rw [if_neg j4, d1]
  rw [if_neg d1]
/-- one more -/
def slp (sel : Nat → Bool) (l : Nat) : Nat → Bool := fun i => sel i || decide (i = l)
theorem hvw_s {l w : Nat} (hw : K 6 l = zI w) (h80 : w < 80) (i : Nat) : hvw K (slp sel l) i = (hvw K sel i || decide (i = 80 * l + w)) := by
  unfold hvw slp
  by_cases e : i / 80 = l
  · have cn : (K 6 (i / 80)).toNatClampNeg = w := by rw [e, hw]; exact zI_cn (by omega)
    rw [cn]
    by_cases e2 : i % 80 = w
    · have : i = 80 * l + w := by omega
      rw [decide_eq_true e, decide_eq_true e2, decide_eq_true this, Bool.or_true, Bool.and_true, Bool.or_true]
    · have : ¬ i = 80 * l + w := by omega
      rw [decide_eq_false e2, decide_eq_false this, Bool.and_false, Bool.and_false, Bool.or_false]
  · have : ¬ i = 80 * l + w := by omega
    rw [decide_eq_false e, decide_eq_false this, Bool.or_false, Bool.or_false]
theorem hv_s {l w : Nat} (hs : sel l = false) (hw : K 6 l = zI w) (h80 : w < 80) : up2 (up2 (up2 (up2 (up2 (up2 (hv K sel who pap cnt) 7 (80 * l + w) (who l)) 8 (80 * l + w) (K 1 3)) 9 (80 * l + w) pap) 6 l (zI (w + 1))) 4 l (who l)) 1 4 (K 1 4 + zI (cnt + 1)) = hv K (slp sel l) who pap (cnt + 1) := by
  have ss : ∀ i, slp sel l i = (sel i || decide (i = l)) := fun _ => rfl
  funext d i
  by_cases d1 : d = 1
  · subst d1
    rw [up2_ra, va_ap, hv_1]
    by_cases i4 : i = 4
    · rw [if_pos i4, if_pos i4]
    · rw [if_neg i4, if_neg i4, up2_rn _ _ _ _ _ (by decide), up2_rn _ _ _ _ _ (by decide), up2_rn _ _ _ _ _ (by decide), up2_rn _ _ _ _ _ (by decide), up2_rn _ _ _ _ _ (by decide), hv_1, if_neg i4]
  by_cases d4 : d = 4
  · subst d4
    rw [up2_rn _ _ _ _ _ d1, up2_ra, va_ap, hv_4, ss]
    by_cases e : i = l
    · rw [if_pos e, e, decide_eq_true rfl, Bool.or_true, if_pos rfl]
    · rw [if_neg e, decide_eq_false e, Bool.or_false, up2_rn _ _ _ _ _ (by decide), up2_rn _ _ _ _ _ (by decide), up2_rn _ _ _ _ _ (by decide), up2_rn _ _ _ _ _ (by decide), hv_4]
  by_cases d6 : d = 6
  · subst d6
    rw [up2_rn _ _ _ _ _ d1, up2_rn _ _ _ _ _ d4, up2_ra, va_ap, hv_6, ss]
    by_cases e : i = l
    · rw [if_pos e, e, decide_eq_true rfl, Bool.or_true, if_pos rfl, hw]; exact (zI_add w 1).symm
    · rw [if_neg e, decide_eq_false e, Bool.or_false, up2_rn _ _ _ _ _ (by decide), up2_rn _ _ _ _ _ (by decide), up2_rn _ _ _ _ _ (by decide), hv_6]
  by_cases d9 : d = 9
  · subst d9
    rw [up2_rn _ _ _ _ _ d1, up2_rn _ _ _ _ _ d4, up2_rn _ _ _ _ _ d6, up2_ra, va_ap, hv_9, hvw_s hw h80]
    by_cases e : i = 80 * l + w
    · rw [if_pos e, decide_eq_true e, Bool.or_true, if_pos rfl]
    · rw [if_neg e, decide_eq_false e, Bool.or_false, up2_rn _ _ _ _ _ (by decide), up2_rn _ _ _ _ _ (by decide), hv_9]
  by_cases d8 : d = 8
  · subst d8
    rw [up2_rn _ _ _ _ _ d1, up2_rn _ _ _ _ _ d4, up2_rn _ _ _ _ _ d6, up2_rn _ _ _ _ _ d9, up2_ra, va_ap, hv_8, hvw_s hw h80]
    by_cases e : i = 80 * l + w
    · rw [if_pos e, decide_eq_true e, Bool.or_true, if_pos rfl]
    · rw [if_neg e, decide_eq_false e, Bool.or_false, up2_rn _ _ _ _ _ (by decide), hv_8]
  by_cases d7 : d = 7
  · subst d7
    rw [up2_rn _ _ _ _ _ d1, up2_rn _ _ _ _ _ d4, up2_rn _ _ _ _ _ d6, up2_rn _ _ _ _ _ d9, up2_rn _ _ _ _ _ d8, up2_ra, va_ap, hv_7, hv_7, hvw_s hw h80]
    by_cases e : i = 80 * l + w
    · have : i / 80 = l := by omega
      rw [if_pos e, decide_eq_true e, Bool.or_true, if_pos rfl, this]
    · rw [if_neg e, decide_eq_false e, Bool.or_false]
  rw [up2_rn _ _ _ _ _ d1, up2_rn _ _ _ _ _ d4, up2_rn _ _ _ _ _ d6, up2_rn _ _ _ _ _ d9, up2_rn _ _ _ _ _ d8, up2_rn _ _ _ _ _ d7, hv_d d4 d6 d7 d8 d9 d1, hv_d d4 d6 d7 d8 d9 d1]
end H1
/-- those below j -/
def blw (S : Nat → Bool) (j : Nat) : Nat → Bool := fun l => S l && decide (l < j)
theorem blw_y {S : Nat → Bool} {j : Nat} (h : S j = true) : blw S (j + 1) = slp (blw S j) j := by
  funext l
  unfold blw slp
  by_cases e : l = j
  · rw [e, h, decide_eq_true (Nat.lt_succ_self j), decide_eq_true rfl, Bool.or_true]; rfl
  · rw [decide_eq_false e, Bool.or_false]
    have : decide (l < j + 1) = decide (l < j) := by rw [decide_eq_decide]; omega
    rw [this]
theorem blw_n {S : Nat → Bool} {j : Nat} (h : S j = false) : blw S (j + 1) = blw S j := by
  funext l
  unfold blw
  by_cases e : l = j
  · rw [e, h]; rfl
  · have : decide (l < j + 1) = decide (l < j) := by rw [decide_eq_decide]; omega
    rw [this]
theorem blw_0 (S : Nat → Bool) (l : Nat) : blw S 0 l = false := by unfold blw; rw [decide_eq_false (Nat.not_lt_zero _), Bool.and_false]
theorem blw_f {S : Nat → Bool} {n : Nat} (h : ∀ l, S l = true → l < n) : blw S n = S := by
  funext l
  unfold blw
  cases g : S l with
  | false => rfl
  | true => rw [decide_eq_true (h l g)]; rfl
theorem blw_s (S : Nat → Bool) (j : Nat) : blw S j j = false := by unfold blw; rw [decide_eq_false (Nat.lt_irrefl _), Bool.and_false]
section H2
variable {X : (Nat → Int32) × Nat} {mo : Bool} {G : Nat × Nat} {I A K : Nat → Nat → Int32}
theorem c_38 {n pap : Nat} {S who : Int32} (hn : K 1 0 = zI n) (h12 : n ≤ 12) (hb : ∀ l, bt S l = true → l < n) (hw : ∀ l, bt S l = true → ∃ w, K 6 l = zI w ∧ w < 80) : cRun mo G (fun M Q => sm_wp X 38 0 [some (.ref 45), some (.int S), some (.int who), some (.int (zI pap)), none] [] M Q) K (hv K (bt S) (fun _ => who) (zI pap) (cN (bt S) n)) := by
  intro L J Q hL hQ
  have loop : ∀ d j U, j + d = n → eqC (hv K (blw (bt S) j) (fun _ => who) (zI pap) (cN (bt S) j)) U → sm_wp X 38 3 [some (.ref 45), some (.int S), some (.int who), some (.int (zI pap)), some (.int (zI j))] [] (sM mo G U J) Q := by
    intro d
    induction d with
    | zero =>
      intro j U hj hU
      have : j = n := by omega
      subst this
      have en : U 1 0 = zI j := by rw [hU 1 (by decide), hv_1, if_neg (by decide)]; exact hn
      rw [lp_38_3, if_pos (by rw [en, zI_le (by omega) (by omega)]; exact Nat.le_refl _)]
      rw [blw_f hb] at hU
      exact hQ U J hU (fun _ _ _ => rfl)
    | succ d ih =>
      intro j U hj hU
      have en : U 1 0 = zI n := by rw [hU 1 (by decide), hv_1, if_neg (by decide)]; exact hn
      rw [lp_38_3, if_neg (by rw [en, zI_le (by omega) (by omega)]; omega), show zI j + 1 = zI (j + 1) from zIr_add 1 j]
      by_cases g : bt S j = true
      · obtain ⟨w, e6, w80⟩ := hw j g
        have u6 : U 6 j = zI w := by rw [hU 6 (by decide), hv_6, blw_s, if_neg (by decide)]; exact e6
        have u13 : U 1 3 = K 1 3 := by rw [hU 1 (by decide), hv_1, if_neg (by decide)]
        have u14 : U 1 4 + 1 = K 1 4 + zI (cN (bt S) j + 1) := by
          rw [hU 1 (by decide), hv_1, if_pos rfl, ← zI_add]
          exact Int32.add_assoc _ _ _
        rw [if_neg (fun e => e (by rw [hb_bt _ _ (by omega)]; exact g)), if_pos (by rw [hLand_vp en h12, zI_sIn (by omega) (by omega)]; omega), zI_cn (by omega), u6, if_neg (by rw [zIr_lt (c := 0) (by decide) (by omega)]; exact Nat.not_lt_zero _), if_neg (by rw [zIl_le (c := 80) (by decide) (by omega)]; show ¬ 80 ≤ w; omega), show zI j * (80 : Int32) = zI (j * 80) from zIr_mul 80 j, zI_add, zI_vp (by omega), zI_vp (by omega), zI_cn (by omega), show j * 80 + w = 80 * j + w from by omega, u13, u14, show zI w + 1 = zI (w + 1) from zIr_add 1 w]
        refine ⟨by omega, by omega, ih (j + 1) _ (by omega) ?_⟩
        rw [blw_y g, cN_p g, ← hv_s (blw_s _ j) e6 w80]
        exact eqC_u (eqC_u (eqC_u (eqC_u (eqC_u (eqC_u hU 7 _ _) 8 _ _) 9 _ _) 6 _ _) 4 _ _) 1 _ _
      · rw [if_pos (by rw [hb_bt _ _ (by omega)]; exact g)]
        refine ih (j + 1) U (by omega) ?_
        rw [blw_n (by cases h : bt S j with | false => rfl | true => exact absurd h g), cN_q g]
        exact hU
  show sm_wp X 38 0 [some (.ref 45), some (.int S), some (.int who), some (.int (zI pap)), none] [] (sM mo G L J) Q
  rw [lp_38_0]
  refine loop n 0 L (by omega) ?_
  have e0 : cN (bt S) 0 = 0 := rfl
  rw [e0, hv_0 (blw_0 _)]
  exact hL
/-- the coupling sees some rows alone -/
theorem cpl_K {K' T : Nat → Nat → Int32} (h : cplR I A K T) (h13 : K' 1 3 = K 1 3) (h4 : K' 4 = K 4) (h6 : K' 6 = K 6) (h7 : K' 7 = K 7) (h8 : K' 8 = K 8) (h9 : K' 9 = K 9) (h42 : K' 42 = K 42) (h44 : K' 44 = K 44) : cplR I A K' T := by
  unfold cplR
  rw [h13, h4, h6, h7, h8, h9, h42, h44]
  exact h
/-- a land, by the reference -/
theorem cpl_h {T : Nat → Nat → Int32} {sel : Nat → Bool} {who : Nat → Int32} {l w pap : Nat} (h : cplR I A (hv K sel who (zI pap) 0) T) (hl : l < 12) (hs : sel l = false) (hw : K 6 l = zI w) (h80 : w < 80) : cplR I A (hv K (slp sel l) who (zI pap) 0) (up2 (up2 (up2 (up2 (up2 T 85 l (who l)) 88 (300 * l + 3 * w) (who l)) 88 (300 * l + 3 * w + 1) (K 1 3)) 88 (300 * l + 3 * w + 2) (zI pap)) 87 l (zI (w + 1))) := by
  have st := hv_s (cnt := 0) (who := who) (pap := zI pap) hs hw h80
  obtain ⟨c1, c2, c3, c4, c5, c6, c7, c8, c9⟩ := h
  have row : ∀ d, ¬ d = 1 → hv K (slp sel l) who (zI pap) 0 d = hv K (slp sel l) who (zI pap) (0 + 1) d := fun d hd => by
    funext j
    unfold hv
    rw [if_neg hd, if_neg hd]
  refine ⟨fun d a => by simp only [up2_rn, ne_eq, show ¬ d = 85 from by omega, show ¬ d = 88 from by omega, show ¬ d = 87 from by omega, not_false_eq_true]; exact c1 d a, fun d x y a b c d' e f g => by simp only [up2_rn, ne_eq, a, b, c, not_false_eq_true]; exact c2 d x y a b c d' e f g, fun j a b c => by simp (decide := true) only [up2_ra, up2_rn, va_ap, ne_eq, if_false, if_true, not_false_eq_true]; exact c3 j a b c, ?_, ?_, ?_, ?_, ?_, ?_⟩
  · simp (decide := true) only [up2_ra, up2_rn, va_ap, ne_eq, if_false, if_true, not_false_eq_true]
    rw [c4, hv_1, hv_1, if_neg (by decide)]
  · simp (decide := true) only [up2_ra, up2_rn, ne_eq, not_false_eq_true]
    rw [c5, row 4 (by decide), ← st]
    simp (decide := true) only [up2_ra, up2_rn, ne_eq, not_false_eq_true]
  · simp (decide := true) only [up2_ra, up2_rn, ne_eq, not_false_eq_true]
    rw [c6, row 6 (by decide), ← st]
    simp (decide := true) only [up2_ra, up2_rn, ne_eq, not_false_eq_true]
  · simp (decide := true) only [up2_ra, up2_rn, ne_eq, not_false_eq_true]
    rw [c7, hv_d (by decide) (by decide) (by decide) (by decide) (by decide) (by decide), hv_d (by decide) (by decide) (by decide) (by decide) (by decide) (by decide)]
  · simp (decide := true) only [up2_ra, up2_rn, ne_eq, not_false_eq_true]
    rw [c8, hv_d (by decide) (by decide) (by decide) (by decide) (by decide) (by decide), hv_d (by decide) (by decide) (by decide) (by decide) (by decide) (by decide)]
  · rw [row 7 (by decide), row 8 (by decide), row 9 (by decide), ← st]
    simp (decide := true) only [up2_ra, up2_rn, ne_eq, not_false_eq_true]
    intro l' hl' k hk
    obtain ⟨z7, z8, z9⟩ := c9 l' hl' k hk
    simp only [va_ap]
    by_cases e : l' = l ∧ k = w
    · obtain ⟨rfl, rfl⟩ := e
      refine ⟨?_, ?_, ?_⟩
      · rw [if_pos rfl, if_neg (by omega), if_neg (by omega), if_pos rfl]
      · rw [if_pos rfl, if_neg (by omega), if_pos rfl]
      · rw [if_pos rfl, if_pos rfl]
    · have n1 : ¬ 80 * l' + k = 80 * l + w := by omega
      refine ⟨?_, ?_, ?_⟩
      · rw [if_neg n1, if_neg (by omega), if_neg (by omega), if_neg (by omega)]; exact z7
      · rw [if_neg n1, if_neg (by omega), if_neg (by omega), if_neg (by omega)]; exact z8
      · rw [if_neg n1, if_neg (by omega), if_neg (by omega), if_neg (by omega)]; exact z9
end H2
end
section
/-! What is carried out. -/
def h2 (K : Nat → Nat → Int32) (g t : Int32) (n to fr k : Nat) : Nat → Nat → Int32 := hv (hv K (bt g) (fun _ => zI to) (zI k) (cN (bt g) n)) (bt t) (fun _ => zI fr) (zI k) (cN (bt t) n)
def sl2 (g t : Int32) : Nat → Bool := fun l => bt g l || bt t l
def wh2 (g : Int32) (to fr : Nat) : Nat → Int32 := fun l => if bt g l = true then zI to else zI fr
theorem bt_dis {g t : Int32} (h : g &&& t = 0) (l : Nat) : ¬ (bt g l = true ∧ bt t l = true) := by
  rintro ⟨a, b⟩
  have := bt_and g t l
  rw [h, bt_0, a, b] at this
  cases this
theorem h2_6 {K : Nat → Nat → Int32} {g t : Int32} {n to fr k : Nat} (hd : g &&& t = 0) (j : Nat) : h2 K g t n to fr k 6 j = if sl2 g t j = true then K 6 j + 1 else K 6 j := by
  unfold h2 sl2
  rw [hv_6, hv_6]
  have := bt_dis hd j
  by_cases a : bt g j = true
  · have b : ¬ bt t j = true := fun e => this ⟨a, e⟩
    rw [if_neg b, if_pos a, a, Bool.true_or, if_pos rfl]
  · have a' : bt g j = false := by cases h : bt g j with | false => rfl | true => exact absurd h a
    rw [if_neg a, a', Bool.false_or]
theorem h2_4 {K : Nat → Nat → Int32} {g t : Int32} {n to fr k : Nat} (hd : g &&& t = 0) (j : Nat) : h2 K g t n to fr k 4 j = if sl2 g t j = true then wh2 g to fr j else K 4 j := by
  unfold h2 sl2 wh2
  rw [hv_4, hv_4]
  have := bt_dis hd j
  by_cases a : bt g j = true
  · have b : ¬ bt t j = true := fun e => this ⟨a, e⟩
    rw [if_neg b, if_pos a, a, Bool.true_or, if_pos rfl, if_pos rfl]
  · have a' : bt g j = false := by cases h : bt g j with | false => rfl | true => exact absurd h a
    rw [if_neg a, a', Bool.false_or]
    by_cases b : bt t j = true
    · rw [if_pos b, if_pos b, if_neg (by decide)]
    · rw [if_neg b, if_neg b]
theorem h2_w {K : Nat → Nat → Int32} {g t : Int32} {n to k : Nat} (hd : g &&& t = 0) (j : Nat) : hvw (hv K (bt g) (fun _ => zI to) (zI k) (cN (bt g) n)) (bt t) j = hvw K (bt t) j := by
  unfold hvw
  by_cases b : bt t (j / 80) = true
  · have a : ¬ bt g (j / 80) = true := fun e => bt_dis hd _ ⟨e, b⟩
    rw [hv_6, if_neg a]
  · have b' : bt t (j / 80) = false := by cases h : bt t (j / 80) with | false => rfl | true => exact absurd h b
    rw [b', Bool.false_and, Bool.false_and]
theorem sl_w {K : Nat → Nat → Int32} {g t : Int32} (j : Nat) : hvw K (sl2 g t) j = (hvw K (bt g) j || hvw K (bt t) j) := by
  unfold hvw sl2
  cases bt g (j / 80) <;> cases bt t (j / 80) <;> simp
theorem hw_b {K : Nat → Nat → Int32} {S : Nat → Bool} {j : Nat} (h : hvw K S j = true) : S (j / 80) = true := ((Bool.and_eq_true _ _).mp h).1
theorem h2_e {K : Nat → Nat → Int32} {g t : Int32} {n to fr k c : Nat} (hd : g &&& t = 0) : h2 K g t n to fr k 1 3 = hv K (sl2 g t) (wh2 g to fr) (zI k) c 1 3 ∧ ∀ d, d = 4 ∨ d = 6 ∨ d = 7 ∨ d = 8 ∨ d = 9 ∨ d = 42 ∨ d = 44 → h2 K g t n to fr k d = hv K (sl2 g t) (wh2 g to fr) (zI k) c d := by
  refine ⟨?_, ?_⟩
  · unfold h2
    rw [hv_1, if_neg (by decide), hv_1, if_neg (by decide), hv_1, if_neg (by decide)]
  · have both : ∀ j, hvw K (bt g) j = true → hvw K (bt t) j = false := fun j h => by
      cases e : hvw K (bt t) j with
      | false => rfl
      | true => exact absurd ⟨hw_b h, hw_b e⟩ (bt_dis hd _)
    rintro d (rfl | rfl | rfl | rfl | rfl | rfl | rfl)
    · funext j; rw [h2_4 hd, hv_4]
    · funext j; rw [h2_6 hd, hv_6]
    · funext j
      show hv (hv K (bt g) (fun _ => zI to) (zI k) (cN (bt g) n)) (bt t) (fun _ => zI fr) (zI k) (cN (bt t) n) 7 j = _
      rw [hv_7, hv_7, hv_7, h2_w hd, sl_w]
      unfold wh2
      cases a : hvw K (bt g) j with
      | true => rw [both j a, Bool.true_or, if_neg (by decide), if_pos rfl, if_pos rfl, if_pos (hw_b a)]
      | false =>
        rw [Bool.false_or, if_neg (show ¬ false = true by decide)]
        cases b : hvw K (bt t) j with
        | true => rw [if_pos rfl, if_pos rfl, if_neg (fun e => bt_dis hd _ ⟨e, hw_b b⟩)]
        | false => rw [if_neg (by decide), if_neg (by decide)]
    · funext j
      show hv (hv K (bt g) (fun _ => zI to) (zI k) (cN (bt g) n)) (bt t) (fun _ => zI fr) (zI k) (cN (bt t) n) 8 j = _
      rw [hv_8, hv_8, hv_8, h2_w hd, sl_w, hv_1, if_neg (show ¬ 3 = 4 by decide)]
      cases a : hvw K (bt g) j with
      | true => rw [both j a, Bool.true_or, if_neg (by decide), if_pos rfl]
      | false => rw [Bool.false_or, if_neg (show ¬ false = true by decide)]
    · funext j
      show hv (hv K (bt g) (fun _ => zI to) (zI k) (cN (bt g) n)) (bt t) (fun _ => zI fr) (zI k) (cN (bt t) n) 9 j = _
      rw [hv_9, hv_9, hv_9, h2_w hd, sl_w]
      cases a : hvw K (bt g) j with
      | true => rw [both j a, Bool.true_or, if_neg (by decide), if_pos rfl]
      | false => rw [Bool.false_or, if_neg (show ¬ false = true by decide)]
    · unfold h2
      rw [hv_d (by decide) (by decide) (by decide) (by decide) (by decide) (by decide), hv_d (by decide) (by decide) (by decide) (by decide) (by decide) (by decide), hv_d (by decide) (by decide) (by decide) (by decide) (by decide) (by decide)]
    · unfold h2
      rw [hv_d (by decide) (by decide) (by decide) (by decide) (by decide) (by decide), hv_d (by decide) (by decide) (by decide) (by decide) (by decide) (by decide), hv_d (by decide) (by decide) (by decide) (by decide) (by decide) (by decide)]
/-- while it is carried out: q papers are through -/
def wdM (n m np t0 ch0 bd q : Nat) (I K : Nat → Nat → Int32) : Prop := fixC I K ∧ sta I K np ∧ (∃ t, t ≤ 300 ∧ t = t0 ∧ K 1 3 = zI t) ∧ (∃ ch, K 1 4 = zI ch ∧ ch ≤ bd ∧ ((ch = ch0 ∧ K 4 = I 4) ∨ ch0 < ch)) ∧
  (∀ l, l < n → K 4 l = -1 ∨ ∃ s, s < m ∧ K 4 l = zI s) ∧ (∀ l, n ≤ l → K 6 l = 0) ∧ ∀ l, ∃ v, K 6 l = zI v ∧ v ≤ 20 + nBound np (K 42) + q
theorem wdM_0 {n m np t0 ch0 bd : Nat} {I K : Nat → Nat → Int32} (h : wdC n m np t0 ch0 bd I K) : wdM n m np t0 ch0 bd 0 I K := h
theorem cN_0 {S : Nat → Bool} : ∀ n, cN S n = 0 → ∀ l, l < n → S l = false := by
  intro n
  induction n with
  | zero => intro _ l h; exact absurd h (Nat.not_lt_zero _)
  | succ n ih =>
    intro h l hl
    by_cases g : S n = true
    · rw [cN_p g] at h; omega
    · rw [cN_q g] at h
      by_cases e : l = n
      · rw [e]; cases hh : S n with | false => rfl | true => exact absurd hh g
      · exact ih h l (by omega)
theorem wdM_s {n m np t0 ch0 bd q k to fr : Nat} {g t : Int32} {I K : Nat → Nat → Int32} (h : wdM n m np t0 ch0 bd q I K) (hd : g &&& t = 0) (n12 : n ≤ 12) (hg : ∀ l, bt g l = true → l < n) (ht : ∀ l, bt t l = true → l < n) (hto : to < m) (hfr : fr < m) : wdM n m np t0 ch0 (bd + 24) (q + 1) I (h2 K g t n to fr k) := by
  obtain ⟨h1, h2', h3, ⟨ch, c1, c2, c3⟩, h5, h6, h7⟩ := h
  have r1 : ∀ j, ¬ j = 4 → h2 K g t n to fr k 1 j = K 1 j := fun j hj => by unfold h2; rw [hv_1, if_neg hj, hv_1, if_neg hj]
  have rd : ∀ d, ¬ d = 4 → ¬ d = 6 → ¬ d = 7 → ¬ d = 8 → ¬ d = 9 → ¬ d = 1 → h2 K g t n to fr k d = K d := fun d a b c e f i => by unfold h2; rw [hv_d a b c e f i, hv_d a b c e f i]
  have r14 : h2 K g t n to fr k 1 4 = zI (ch + cN (bt g) n + cN (bt t) n) := by
    unfold h2
    rw [hv_1, if_pos rfl, hv_1, if_pos rfl, c1, zI_add, zI_add]
  have g12 := cN_le (bt g) n
  have t12 := cN_le (bt t) n
  have sl : ∀ l, sl2 g t l = true → l < n := fun l hl => by
    unfold sl2 at hl
    rcases (Bool.or_eq_true _ _).mp hl with e | e
    · exact hg l e
    · exact ht l e
  refine ⟨⟨fun d a1 a2 a3 a4 a5 a6 a7 a8 a9 => by rw [rd d a2 a3 a4 a5 a6 a1]; exact h1.1 d a1 a2 a3 a4 a5 a6 a7 a8 a9, fun j a b => by rw [r1 j b]; exact h1.2 j a b⟩, fun j hj => by rw [rd 42 (by decide) (by decide) (by decide) (by decide) (by decide) (by decide)]; exact h2' j hj, by rw [r1 3 (by decide)]; exact h3, ⟨ch + cN (bt g) n + cN (bt t) n, r14, by omega, ?_⟩, fun l hl => ?_, fun l hl => ?_, fun l => ?_⟩
  · by_cases z : cN (bt g) n + cN (bt t) n = 0
    · have no : ∀ l, ¬ sl2 g t l = true := fun l hl => by
        have ln := sl l hl
        have z1 := cN_0 n (show cN (bt g) n = 0 by omega) l ln
        have z2 := cN_0 n (show cN (bt t) n = 0 by omega) l ln
        unfold sl2 at hl
        rw [z1, z2] at hl
        cases hl
      rcases c3 with ⟨c3, c4⟩ | c3
      · left
        refine ⟨by omega, ?_⟩
        rw [← c4]
        funext l
        rw [h2_4 hd, if_neg (no l)]
      · right; omega
    · right
      rcases c3 with ⟨c3, -⟩ | c3 <;> omega
  · rw [h2_4 hd]
    by_cases e : sl2 g t l = true
    · rw [if_pos e]
      right
      unfold wh2
      by_cases e2 : bt g l = true
      · rw [if_pos e2]; exact ⟨to, hto, rfl⟩
      · rw [if_neg e2]; exact ⟨fr, hfr, rfl⟩
    · rw [if_neg e]; exact h5 l hl
  · rw [h2_6 hd, if_neg (fun e => by have := sl l e; omega)]
    exact h6 l hl
  · obtain ⟨v, e1, e2⟩ := h7 l
    rw [h2_6 hd, rd 42 (by decide) (by decide) (by decide) (by decide) (by decide) (by decide)]
    by_cases e : sl2 g t l = true
    · rw [if_pos e, e1]
      exact ⟨v + 1, zI_add v 1, by omega⟩
    · rw [if_neg e]
      exact ⟨v, e1, by omega⟩
theorem nBd_m {r : Nat → Int32} {S : Nat → Bool} (h : ∀ k, S k = true → ¬ r k = 5) : ∀ p, nBound p r + cN S p ≤ p := by
  intro p
  induction p with
  | zero => exact Nat.le_refl _
  | succ p ih =>
    rw [nBd_s]
    by_cases g : S p = true
    · rw [if_neg (h p g), cN_p g]; omega
    · rw [cN_q g]
      split <;> omega
theorem nBd_set {r : Nat → Int32} {P : Nat → Prop} {np : Nat} (h : ∀ k, P k → ¬ r k = 5) : ∀ j, j ≤ np → nBound j (setR np P 5 r) = nBound j r + cN (fun k => pB (P k)) j := by
  intro j
  induction j with
  | zero => intro _; rfl
  | succ j ih =>
    intro hj
    rw [nBd_s, nBd_s, ih (by omega)]
    by_cases g : P j
    · rw [setR_y (by omega) g, if_pos rfl, if_neg (h j g), cN_p (pB_t.mpr g)]; omega
    · rw [setR_n (fun e => g e.2), cN_q (fun e => g (pB_t.mp e))]
      split <;> omega
section H3
variable {X : (Nat → Int32) × Nat} {mo : Bool} {G : Nat × Nat} {I A K : Nat → Nat → Int32}
/-- one paper, by the reference -/
theorem r_178 {n m np k to fr : Nat} (hp : ppS n m np I) (hk : k < np) (hto : I 33 k = zI to) (hfr : I 32 k = zI fr) (hd : I 37 k &&& I 38 k = 0) (hg : ∀ l, bt (I 37 k) l = true → l < n) (ht : ∀ l, bt (I 38 k) l = true → l < n) (hw : ∀ l, l < n → ∃ w, K 6 l = zI w ∧ w < 80) {T : Nat → Nat → Int32} {J : Nat → Nat → Int64} {Q : Option Value → sm_M → Prop} (hT : cplR I A K T)
    (hQ : ∀ T', cplR I A (h2 K (I 37 k) (I 38 k) n to fr k) T' → T' 122 = T 122 → sm_wp X 264 142 [some (.ref 81), none, none, none, some (.int (zI (k + 1))), none] [] (sM mo G T' J) Q) : sm_wp X 264 178 [some (.ref 81), none, none, none, some (.int (zI k)), some (.int (zI 0))] [] (sM mo G T J) Q := by
  have np60 := hp.2.2.1.2.2
  have n12 := hp.1.2.2
  have v60 : vp_in (zI k) 60 := Eq.mpr (zI_vp (a := k) (n := 60) (by omega)) (by omega)
  have loop : ∀ d l U, l + d = n → cplR I A (hv K (blw (sl2 (I 37 k) (I 38 k)) l) (wh2 (I 37 k) to fr) (zI k) 0) U → U 122 = T 122 → sm_wp X 264 178 [some (.ref 81), none, none, none, some (.int (zI k)), some (.int (zI l))] [] (sM mo G U J) Q := by
    intro d
    induction d with
    | zero =>
      intro l U hl hU h122
      have : l = n := by omega
      subst this
      have en : U 81 3 = zI l := by rw [hU.2.2.1 3 (by decide) (by decide) (by decide)]; exact hp.1.2.1
      rw [lp_264_178, if_pos (by rw [en, zI_le (by omega) (by omega)]; exact Nat.le_refl _), show zI k + 1 = zI (k + 1) from zIr_add 1 k]
      rw [blw_f (fun l' hl' => by
        unfold sl2 at hl'
        rcases (Bool.or_eq_true _ _).mp hl' with e | e
        · exact hg l' e
        · exact ht l' e)] at hU
      obtain ⟨x1, x2⟩ := h2_e (K := K) (n := l) (to := to) (fr := fr) (k := k) (c := 0) hd
      exact hQ U (cpl_K hU x1 (x2 4 (by decide)) (x2 6 (by decide)) (x2 7 (by decide)) (x2 8 (by decide)) (x2 9 (by decide)) (x2 42 (by decide)) (x2 44 (by decide))) h122
    | succ d ih =>
      intro l U hl hU h122
      have en : U 81 3 = zI n := by rw [hU.2.2.1 3 (by decide) (by decide) (by decide)]; exact hp.1.2.1
      have rf : ∀ d, d = 108 ∨ d = 109 ∨ d = 111 ∨ d = 112 → U d = I d := fun d h => hU.2.1 d (by omega) (by omega) (by omega) (by omega) (by omega) (by omega) (by omega) (by omega) (by omega)
      have q := hp.2.2.2.2.2.1
      have e108 : U 108 k = zI fr := by rw [rf 108 (by decide), q.2.1]; exact hfr
      have e109 : U 109 k = zI to := by rw [rf 109 (by decide), q.1]; exact hto
      have e111 : U 111 k = I 37 k := by rw [rf 111 (by decide), q.2.2.1]
      have e112 : U 112 k = I 38 k := by rw [rf 112 (by decide), q.2.2.2.1]
      have e16 : U 81 16 = K 1 3 := by rw [hU.2.2.2.1, hv_1, if_neg (by decide)]
      obtain ⟨w, e6, w80⟩ := hw l (by omega)
      have e87 : U 87 l = zI w := by rw [hU.2.2.2.2.2.1, hv_6, blw_s, if_neg (by decide)]; exact e6
      rw [lp_264_178, if_neg (by rw [en, zI_le (by omega) (by omega)]; omega), zI_cn (by omega), zI_cn (by omega), e111, e112, e108, e109, e16, e87, show zI l + 1 = zI (l + 1) from zIr_add 1 l, show (300 : Int32) * zI l = zI (300 * l) from zIl_mul 300 l, show (3 : Int32) * zI w = zI (3 * w) from zIl_mul 3 w, zI_add, show zI (300 * l + 3 * w) + 1 = zI (300 * l + 3 * w + 1) from zIr_add 1 _, show zI (300 * l + 3 * w) + 2 = zI (300 * l + 3 * w + 2) from zIr_add 2 _, show zI w + 1 = zI (w + 1) from zIr_add 1 w]
      refine ⟨v60, ?_⟩
      have vl : vp_in (zI l) 12 := v12 l (by omega)
      have v0 : vp_in (zI (300 * l + 3 * w)) 3600 := Eq.mpr (zI_vp (a := 300 * l + 3 * w) (n := 3600) (by omega)) (by omega)
      have v1 : vp_in (zI (300 * l + 3 * w + 1)) 3600 := Eq.mpr (zI_vp (a := 300 * l + 3 * w + 1) (n := 3600) (by omega)) (by omega)
      have v2 : vp_in (zI (300 * l + 3 * w + 2)) 3600 := Eq.mpr (zI_vp (a := 300 * l + 3 * w + 2) (n := 3600) (by omega)) (by omega)
      have c0 : (zI (300 * l + 3 * w)).toNatClampNeg = 300 * l + 3 * w := zI_cn (by omega)
      have c1 : (zI (300 * l + 3 * w + 1)).toNatClampNeg = 300 * l + 3 * w + 1 := zI_cn (by omega)
      have c2 : (zI (300 * l + 3 * w + 2)).toNatClampNeg = 300 * l + 3 * w + 2 := zI_cn (by omega)
      by_cases g1 : bt (I 37 k) l = true
      · have g2 : ¬ bt (I 38 k) l = true := fun e => bt_dis hd l ⟨g1, e⟩
        rw [if_neg (fun e => e (by rw [sb_1 _ _ (by omega)]; exact g1)), if_pos (by rw [sb_1 _ _ (by omega)]; exact g2), c0, c1, c2]
        refine ⟨vl, v0, v1, v2, ih (l + 1) _ (by omega) ?_ (by simp (decide := true) only [up2_rn, ne_eq, not_false_eq_true]; exact h122)⟩
        have ch := cpl_h hU (show l < 12 by omega) (blw_s _ l) e6 w80
        have wl : wh2 (I 37 k) to fr l = zI to := by unfold wh2; rw [if_pos g1]
        rw [wl] at ch
        rw [blw_y (by unfold sl2; rw [g1]; rfl)]
        exact ch
      · rw [if_pos (by rw [sb_1 _ _ (by omega)]; exact g1)]
        by_cases g2 : bt (I 38 k) l = true
        · rw [if_neg (fun e => e (by rw [sb_1 _ _ (by omega)]; exact g2)), c0, c1, c2]
          refine ⟨vl, v0, v1, v2, ih (l + 1) _ (by omega) ?_ (by simp (decide := true) only [up2_rn, ne_eq, not_false_eq_true]; exact h122)⟩
          have ch := cpl_h hU (show l < 12 by omega) (blw_s _ l) e6 w80
          have wl : wh2 (I 37 k) to fr l = zI fr := by unfold wh2; rw [if_neg g1]
          rw [wl] at ch
          rw [blw_y (by unfold sl2; rw [g2, Bool.or_true])]
          exact ch
        · rw [if_pos (by rw [sb_1 _ _ (by omega)]; exact g2)]
          refine ih (l + 1) U (by omega) ?_ h122
          rw [blw_n (by
            unfold sl2
            cases a : bt (I 37 k) l with
            | true => exact absurd a g1
            | false =>
              cases b : bt (I 38 k) l with
              | true => exact absurd b g2
              | false => rfl)]
          exact hU
  refine loop n 0 T (by omega) ?_ rfl
  rw [hv_0 (blw_0 _)]
  exact hT
end H3
end
section
/-! A chain ends, on both sides. -/
theorem jD_t {J J1 J2 : Nat → Nat → Int64} (a : jD J J1) (b : jD J1 J2) : jD J J2 := fun d x y => (b d x y).trans (a d x y)
theorem jR_t {J J1 J2 : Nat → Nat → Int64} (a : jR J J1) (b : jR J1 J2) : jR J J2 := fun d x => (b d x).trans (a d x)
theorem wdM_b {n m np t0 ch0 bd bd' q : Nat} {I K : Nat → Nat → Int32} (h : wdM n m np t0 ch0 bd q I K) (hb : bd ≤ bd') : wdM n m np t0 ch0 bd' q I K := by
  obtain ⟨h1, h2, h3, ⟨ch, c1, c2, c3⟩, h5⟩ := h
  exact ⟨h1, h2, h3, ⟨ch, c1, by omega, c3⟩, h5⟩
theorem wdC_b {n m np t0 ch0 bd bd' : Nat} {I K : Nat → Nat → Int32} (h : wdC n m np t0 ch0 bd I K) (hb : bd ≤ bd') : wdC n m np t0 ch0 bd' I K := wdM_b (q := 0) h hb
theorem fixC_r {I K : Nat → Nat → Int32} {r : Nat → Int32} (h : fixC I K) : fixC I (rw2 K 42 r) := ⟨fun e a1 a2 a3 a4 a5 a6 a7 a8 a9 => by rw [rw2_n _ _ _ _ a7]; exact h.1 e a1 a2 a3 a4 a5 a6 a7 a8 a9, fun i a b => by rw [rw2_n _ _ _ _ (by decide)]; exact h.2 i a b⟩
theorem sta_r {I K : Nat → Nat → Int32} {np p w : Nat} {P : Nat → Prop} (h : sta I K np) (hw : w ≤ 6) (hP : ∀ k, P k → chn I p k) : sta I (rw2 K 42 (setR np P (zI w) (K 42))) np := fun k hk => by
  rw [rw2_a]
  by_cases g : P k
  · rw [setR_y hk g]; exact Or.inr ⟨(hP k g).1, w, hw, rfl⟩
  · rw [setR_n (fun e => g e.2)]; exact h k hk
/-- set to an end that isn't bound -/
theorem wd_set {n m np p w t0 ch0 bd : Nat} {P : Nat → Prop} {I K : Nat → Nat → Int32} (h : wdC n m np t0 ch0 bd I K) (hw : w ≤ 6) (h5 : ¬ w = 5) (hP : ∀ k, P k → chn I p k ∧ ¬ K 42 k = 5) : wdC n m np t0 ch0 bd I (rw2 K 42 (setR np P (zI w) (K 42))) := by
  obtain ⟨h1, h2, h3, h4, h5', h6, h7⟩ := h
  refine ⟨fixC_r h1, sta_r h2 hw (fun k hk => (hP k hk).1), by rw [rw2_n _ _ _ _ (by decide)]; exact h3, by rw [rw2_n _ _ _ _ (by decide), rw2_n _ _ _ _ (by decide)]; exact h4, by rw [rw2_n _ _ _ _ (by decide)]; exact h5', by rw [rw2_n _ _ _ _ (by decide)]; exact h6, ?_⟩
  rw [rw2_n _ _ _ _ (by decide), rw2_a, nBd_c np (r := K 42) (fun k hk => ?_)]
  · exact h7
  · by_cases g : P k
    · rw [setR_y hk g, zIr_eq (c := 5) (by decide) (by omega)]
      exact ⟨fun e => absurd e h5, fun e => absurd e (hP k g).2⟩
    · rw [setR_n (fun e => g e.2)]
section E1
variable {X : (Nat → Int32) × Nat} {mo : Bool} {G : Nat × Nat} {I K : Nat → Nat → Int32}
def rRunC (mo : Bool) (G : Nat × Nat) (np p : Nat) (I : Nat → Nat → Int32) (pg : sm_M → (Option Value → sm_M → Prop) → Prop) (K K' : Nat → Nat → Int32) : Prop := ∀ A T J (Q : Option Value → sm_M → Prop), cplR I A K T → cRw np p I T → (∀ T' J', cplR I A K' T' → jR J J' → Q none (sM mo G T' J')) → pg (sM mo G T J) Q
theorem una_n {k : Nat} (h : una K k) : ¬ K 42 k = 5 := by
  rcases h with h | h | h <;> rw [h] <;> decide
theorem crl {n m np p t0 ch0 bd : Nat} (hp : ppS n m np I) (hpn : p < np) (hpo : ¬ I 42 p = -1) (r0 : Nat → Int32) (hnw : ∀ k, k < np → chn I p k → ¬ (r0 k = 0 ∨ r0 k = 1)) : ∀ d j K, j + d = np → wdM n m np t0 ch0 (bd + 24 * j) (cN (fun k => pB (chn I p k ∧ r0 k = 2)) j) I K → K 42 = r0 → ∃ K', wdC n m np t0 ch0 (bd + 24 * np) I K' ∧
    cRun mo G (fun M Q => sm_wp X 36 18 [some (.ref 45), some (.int (zI p)), some (.int (zI j))] [] M Q) K K' ∧ rRunC mo G np p I (fun M Q => sm_wp X 264 142 [some (.ref 81), none, none, none, some (.int (zI j)), none] [] M Q) K K' := by
  have np60 := hp.2.2.1.2.2
  have n12 := hp.1.2.2
  have e31 : ∀ K L : Nat → Nat → Int32, fixC I K → eqC K L → L 31 0 = zI np := fun K L hf hL => by rw [hL 31 (by decide), hf.1 31 (by decide) (by decide) (by decide) (by decide) (by decide) (by decide) (by decide) (by decide) (by decide)]; exact hp.2.2.1.1
  have e46 : ∀ A K T : Nat → Nat → Int32, cplR I A K T → T 81 46 = zI np := fun A K T hT => by rw [hT.2.2.1 46 (by decide) (by decide) (by decide)]; exact hp.2.2.1.2.1
  intro d
  induction d with
  | zero =>
    intro j K hj wd e42
    have : j = np := by omega
    subst this
    have fx := wd.1
    have hst := wd.2.1
    have same : ∀ k, k < j → ((chn I p k ∧ una K k) ↔ (chn I p k ∧ ∃ f, K 42 k = zI f ∧ f ≤ 6 ∧ 2 ≤ f ∧ f ≤ 2)) := fun k hk => by
      constructor
      · rintro ⟨h1, h2⟩
        have nw := hnw k hk h1
        rw [← e42] at nw
        refine ⟨h1, 2, ?_, by omega, by omega, by omega⟩
        rcases h2 with h2 | h2 | h2
        · exact absurd (Or.inl h2) nw
        · exact absurd (Or.inr h2) nw
        · exact h2
      · rintro ⟨h1, f, h2, h3, h4, h5⟩
        refine ⟨h1, Or.inr (Or.inr ?_)⟩
        rw [h2, show f = 2 from by omega]; rfl
    refine ⟨rw2 K 42 (setR j (fun k => chn I p k ∧ una K k) (zI 5) (K 42)), ?_, ?_, ?_⟩
    · obtain ⟨h1, h2, h3, h4, h5', h6, h7⟩ := wd
      refine ⟨fixC_r h1, sta_r h2 (by omega) (fun k hk => hk.1), by rw [rw2_n _ _ _ _ (by decide)]; exact h3, by rw [rw2_n _ _ _ _ (by decide), rw2_n _ _ _ _ (by decide)]; exact h4, by rw [rw2_n _ _ _ _ (by decide)]; exact h5', by rw [rw2_n _ _ _ _ (by decide)]; exact h6, ?_⟩
      have nb := nBd_set (r := K 42) (P := fun k => chn I p k ∧ una K k) (np := j) (fun k hk => una_n hk.2) j (Nat.le_refl _)
      have cc : cN (fun k => pB (chn I p k ∧ una K k)) j = cN (fun k => pB (chn I p k ∧ r0 k = 2)) j := cN_congr (fun k hk => by
        have iff : (chn I p k ∧ una K k) ↔ (chn I p k ∧ r0 k = 2) := by
          rw [same k hk]
          constructor
          · rintro ⟨a, f, b, c, d, e⟩
            refine ⟨a, ?_⟩
            rw [← e42, b, show f = 2 from by omega]; rfl
          · rintro ⟨a, b⟩
            exact ⟨a, 2, by rw [e42]; exact b, by omega, by omega, by omega⟩
        rw [propext iff])
      rw [rw2_n _ _ _ _ (by decide), rw2_a]
      have nb' : nBound j (setR j (fun k => chn I p k ∧ una K k) (zI 5) (K 42)) = nBound j (K 42) + cN (fun k => pB (chn I p k ∧ una K k)) j := nb
      rw [nb', cc, ← Nat.add_assoc]
      exact h7
    · intro L J Q hL hQ
      show sm_wp X 36 18 [some (.ref 45), some (.int (zI p)), some (.int (zI j))] [] (sM mo G L J) Q
      rw [lp_36_18, if_pos (by rw [e31 K L fx hL, zI_le (by omega) (by omega)]; exact Nat.le_refl _)]
      refine c_35 (w := 5) hp fx hpn hpo L J _ hL ?_
      intro L' J' a b
      simp only [tl_none]
      rw [lp_36_107]
      exact hQ L' J' a b
    · intro A T J Q hT hc hQ
      show sm_wp X 264 142 [some (.ref 81), none, none, none, some (.int (zI j)), none] [] (sM mo G T J) Q
      rw [lp_264_142, if_pos (by rw [e46 A K T hT, zI_le (by omega) (by omega)]; exact Nat.le_refl _)]
      refine r_266 (lo := 2) (hi := 2) (w := 5) hp (by omega) (by omega) hT hc hst ?_
      intro T' hT'
      simp only [tl_none]
      rw [lp_264_268]
      rw [← setR_c same] at hT'
      exact hQ T' J hT' (fun _ _ => rfl)
  | succ d ih =>
    intro j K hj wd e42
    have fx := wd.1
    by_cases mj : chn I p j ∧ r0 j = 2
    · have mB : (fun k => pB (chn I p k ∧ r0 k = 2)) j = true := pB_t.mpr mj
      obtain ⟨⟨fr, hfr, ef⟩, to, hto, et⟩ := hp.2.2.2.2.2.2.2.2.2.1 j (by omega)
      obtain ⟨o1, o2, o3, o4, o5, -⟩ := (hp.2.2.2.2.2.2.2.2.2.2 j (by omega)).resolve_left (fun e => mj.1.1 e.1)
      have bg : ∀ l, bt (I 37 j) l = true → l < n := fun l hl => by
        by_cases g : l < n
        · exact g
        · rw [o3 l (by omega)] at hl; cases hl
      have bt' : ∀ l, bt (I 38 j) l = true → l < n := fun l hl => by
        by_cases g : l < n
        · exact g
        · rw [o4 l (by omega)] at hl; cases hl
      have w80 : ∀ l, ∃ w, K 6 l = zI w ∧ w < 80 := fun l => by
        obtain ⟨v, v1, v2⟩ := wd.2.2.2.2.2.2 l
        have a := nBd_m (r := K 42) (S := fun k => pB (chn I p k ∧ r0 k = 2)) (fun k hk e => by
          have := (pB_t.mp hk).2
          rw [e42, this] at e
          exact absurd e (by decide)) np
        have b := cN_lt (P := fun k => pB (chn I p k ∧ r0 k = 2)) (show j < np by omega) mB
        exact ⟨v, v1, by omega⟩
      have wd' : wdM n m np t0 ch0 (bd + 24 * (j + 1)) (cN (fun k => pB (chn I p k ∧ r0 k = 2)) (j + 1)) I (h2 K (I 37 j) (I 38 j) n to fr j) := by
        rw [cN_p mB]
        exact wdM_b (wdM_s wd o5 n12 bg bt' hto hfr) (by omega)
      have e42' : h2 K (I 37 j) (I 38 j) n to fr j 42 = r0 := by
        unfold h2
        rw [hv_d (by decide) (by decide) (by decide) (by decide) (by decide) (by decide), hv_d (by decide) (by decide) (by decide) (by decide) (by decide) (by decide)]
        exact e42
      obtain ⟨K', w', c', r'⟩ := ih (j + 1) _ (by omega) wd' e42'
      refine ⟨K', w', ?_, ?_⟩
      · intro L J Q hL hQ
        have ic := ioc hp fx hL hpn hpo (show j < np by omega)
        have e31L := e31 K L fx hL
        have hpj : ∀ L : Nat → Nat → Int32, L 31 0 = zI np → hPap L (zI j) := fun L h => by rw [hPap_vp h np60, zI_sIn (by omega) (by omega)]; omega
        have ap : ∀ (L : Nat → Nat → Int32) (c : Nat) (d : Int32), L 31 0 = zI np → aPap L c d (zI j) = L c j := fun L c d h => by
          unfold aPap
          rw [if_pos (hpj L h), zI_cn (by omega)]
        have kf : ∀ d, d = 32 ∨ d = 33 ∨ d = 37 ∨ d = 38 → K d = I d := fun d h => fx.1 d (by omega) (by omega) (by omega) (by omega) (by omega) (by omega) (by omega) (by omega) (by omega)
        show sm_wp X 36 18 [some (.ref 45), some (.int (zI p)), some (.int (zI j))] [] (sM mo G L J) Q
        rw [lp_36_18, if_neg (by rw [e31L, zI_le (by omega) (by omega)]; omega), if_neg (fun e => e (ic.mpr mj.1)), if_neg (fun e => e (by rw [ap L 42 _ e31L, hL 42 (by decide), e42]; exact mj.2)), ap L 37 _ e31L, ap L 33 _ e31L, hL 37 (by decide), hL 33 (by decide), kf 37 (by decide), kf 33 (by decide), et]
        refine c_38 (K := K) (n := n) (by rw [fx.2 0 (by decide) (by decide)]; exact hp.1.1) n12 bg (fun l _ => w80 l) L J _ hL ?_
        intro L1 J1 hL1 j1
        have e31L1 : L1 31 0 = zI np := by rw [hL1 31 (by decide), hv_d (by decide) (by decide) (by decide) (by decide) (by decide) (by decide), fx.1 31 (by decide) (by decide) (by decide) (by decide) (by decide) (by decide) (by decide) (by decide) (by decide)]; exact hp.2.2.1.1
        simp only [tl_none]
        rw [lp_36_74, ap L1 38 _ e31L1, ap L1 32 _ e31L1, hL1 38 (by decide), hL1 32 (by decide), hv_d (by decide) (by decide) (by decide) (by decide) (by decide) (by decide), hv_d (by decide) (by decide) (by decide) (by decide) (by decide) (by decide), kf 38 (by decide), kf 32 (by decide), ef]
        refine c_38 (n := n) (by rw [hv_1, if_neg (by decide), fx.2 0 (by decide) (by decide)]; exact hp.1.1) n12 bt' (fun l hl => ?_) L1 J1 _ hL1 ?_
        · rw [hv_6, if_neg (fun e => bt_dis o5 l ⟨e, hl⟩)]
          exact w80 l
        intro L2 J2 hL2 j2
        simp only [tl_none]
        rw [lp_36_95, show zI j + 1 = zI (j + 1) from zIr_add 1 j]
        exact c' L2 J2 Q hL2 (fun L3 J3 a b => hQ L3 J3 a (jD_t j1 (jD_t j2 b)))
      · intro A T J Q hT hc hQ
        have z1 := (hc.2 j (by omega)).mpr mj.1
        show sm_wp X 264 142 [some (.ref 81), none, none, none, some (.int (zI j)), none] [] (sM mo G T J) Q
        rw [lp_264_142, if_neg (by rw [e46 A K T hT, zI_le (by omega) (by omega)]; omega), zI_cn (by omega), if_neg (by rw [z1]; decide), if_pos (by rw [hT.2.2.2.2.2.2.1, e42]; exact mj.2)]
        refine ⟨Eq.mpr (zI_vp (a := j) (n := 60) (by omega)) (by omega), ?_⟩
        refine r_178 hp (by omega) et ef o5 bg bt' (fun l _ => w80 l) hT ?_
        intro T' hT' h122
        exact r' A T' J Q hT' (cRw_c hc h122) hQ
    · have mB : ¬ (fun k => pB (chn I p k ∧ r0 k = 2)) j = true := fun e => mj (pB_t.mp e)
      have wd' : wdM n m np t0 ch0 (bd + 24 * (j + 1)) (cN (fun k => pB (chn I p k ∧ r0 k = 2)) (j + 1)) I K := by
        rw [cN_q mB]
        exact wdM_b wd (by omega)
      obtain ⟨K', w', c', r'⟩ := ih (j + 1) K (by omega) wd' e42
      refine ⟨K', w', ?_, ?_⟩
      · intro L J Q hL hQ
        have ic := ioc hp fx hL hpn hpo (show j < np by omega)
        have e31L := e31 K L fx hL
        show sm_wp X 36 18 [some (.ref 45), some (.int (zI p)), some (.int (zI j))] [] (sM mo G L J) Q
        rw [lp_36_18, if_neg (by rw [e31L, zI_le (by omega) (by omega)]; omega), show zI j + 1 = zI (j + 1) from zIr_add 1 j]
        by_cases g : chn I p j
        · have e42L : aPap L 42 (-1) (zI j) = r0 j := by
            unfold aPap
            rw [if_pos (by rw [hPap_vp e31L np60, zI_sIn (by omega) (by omega)]; omega), zI_cn (by omega), hL 42 (by decide), e42]
          rw [if_neg (fun e => e (ic.mpr g)), if_pos (by rw [e42L]; exact fun e => mj ⟨g, e⟩)]
          exact c' L J Q hL hQ
        · rw [if_pos (fun e => g (ic.mp e))]
          exact c' L J Q hL hQ
      · intro A T J Q hT hc hQ
        show sm_wp X 264 142 [some (.ref 81), none, none, none, some (.int (zI j)), none] [] (sM mo G T J) Q
        rw [lp_264_142, if_neg (by rw [e46 A K T hT, zI_le (by omega) (by omega)]; omega), zI_cn (by omega), show zI j + 1 = zI (j + 1) from zIr_add 1 j]
        refine ⟨Eq.mpr (zI_vp (a := j) (n := 60) (by omega)) (by omega), ?_⟩
        by_cases z : T 122 j = 0
        · rw [if_pos z]
          exact r' A T J Q hT hc hQ
        · have g := (hc.2 j (by omega)).mp ((hc.1 j (by omega)).resolve_left z)
          rw [if_neg z, if_neg (by rw [hT.2.2.2.2.2.2.1, e42]; exact fun e => mj ⟨g, e⟩)]
          exact r' A T J Q hT hc hQ
/-- a chain ends -/
theorem ech {n m np p t0 ch0 bd : Nat} (hp : ppS n m np I) (wd : wdC n m np t0 ch0 bd I K) (hpn : p < np) (hpo : ¬ I 42 p = -1) : ∃ K', wdC n m np t0 ch0 (bd + 1440) I K' ∧
    cRun mo G (fun M Q => sm_wp X 34 0 [some (.ref 45), some (.int (zI p)), none, none, none, none] [] M Q) K K' ∧ rRun mo G I (fun M Q => sm_wp X 264 0 [some (.ref 81), some (.int (zI p)), none, none, none, none] [] M Q) K K' := by
  have np60 := hp.2.2.1.2.2
  have fx := wd.1
  have hst := wd.2.1
  -- the reference up to the flags
  have rf : ∀ A T J (Q : Option Value → sm_M → Prop), cplR I A K T → (∀ T', cplR I A K T' → cRw np p I T' → ∀ x y : Int32, flg (brk I K p) np x → flg (wai I K p) np y → (if x = 0 then (if y = 0 then (sm_wp X 267 0 [some (.ref 81), none, none, none] [] (sM mo G T' J) (fun v M => sm_wp X 264 127 [some (.ref 81), none, some (.int x), some (.int y), some (.int (zI np)), none] (v.toList ++ []) M Q)) else (Q none (sM mo G T' J))) else (sm_wp X 266 0 [some (.ref 81), some (.int 0), some (.int 2), some (.int 6), none] [] (sM mo G T' J) (fun v M => sm_wp X 264 117 [some (.ref 81), none, some (.int x), some (.int y), some (.int (zI np)), none] (v.toList ++ []) M Q)))) → sm_wp X 264 0 [some (.ref 81), some (.int (zI p)), none, none, none, none] [] (sM mo G T J) Q := fun A T J Q hT h => by
    rw [lp_264_0]
    refine r_265 hp hT hpn hpo ?_
    intro T' f1 f2 f3
    simp only [tl_none]
    rw [lp_264_5]
    have hT' := cpl_122 hT f1
    exact r_264f hp hst hT' ⟨f2, f3⟩ (h T' hT' ⟨f2, f3⟩)
  have unq : ∀ (P : Nat → Prop) (x y : Int32), flg P np x → flg P np y → x = y := fun P x y h1 h2 => by
    rcases h1 with ⟨h1, i, a, b⟩ | ⟨h1, a⟩ <;> rcases h2 with ⟨h2, j, c, d⟩ | ⟨h2, c⟩
    · rw [h1, h2]
    · exact absurd b (c i a)
    · exact absurd d (a j c)
    · rw [h1, h2]
  by_cases hb : ∃ i, i < np ∧ brk I K p i
  · -- broken
    have f1 : flg (brk I K p) np 1 := Or.inl ⟨rfl, hb⟩
    have same : ∀ k, k < np → ((chn I p k ∧ una K k) ↔ (chn I p k ∧ ∃ f, K 42 k = zI f ∧ f ≤ 6 ∧ 0 ≤ f ∧ f ≤ 2)) := fun k hk => by
      constructor
      · rintro ⟨h1, h2⟩
        rcases h2 with h2 | h2 | h2
        · exact ⟨h1, 0, h2, by omega, by omega, by omega⟩
        · exact ⟨h1, 1, h2, by omega, by omega, by omega⟩
        · exact ⟨h1, 2, h2, by omega, by omega, by omega⟩
      · rintro ⟨h1, f, h2, h3, h4, h5⟩
        have : f = 0 ∨ f = 1 ∨ f = 2 := by omega
        rcases this with rfl | rfl | rfl
        · exact ⟨h1, Or.inl h2⟩
        · exact ⟨h1, Or.inr (Or.inl h2)⟩
        · exact ⟨h1, Or.inr (Or.inr h2)⟩
    refine ⟨rw2 K 42 (setR np (fun k => chn I p k ∧ una K k) (zI 6) (K 42)), wdC_b (wd_set wd (by omega) (by omega) (fun k hk => ⟨hk.1, una_n hk.2⟩)) (by omega), ?_, ?_⟩
    · intro L J Q hL hQ
      show sm_wp X 34 0 [some (.ref 45), some (.int (zI p)), none, none, none, none] [] (sM mo G L J) Q
      refine c_34f hp fx hst hpn hpo hL ?_
      intro x y hx hy
      rw [unq _ x 1 hx f1, if_neg (by decide)]
      refine c_35 (w := 6) hp fx hpn hpo L J _ hL ?_
      intro L' J' a b
      simp only [tl_none]
      rw [lp_34_110]
      exact hQ L' J' a b
    · intro A T J Q hT hQ
      refine rf A T J Q hT ?_
      intro T' hT' hc x y hx hy
      rw [unq _ x 1 hx f1, if_neg (by decide)]
      refine r_266 (lo := 0) (hi := 2) (w := 6) hp (by omega) (by omega) hT' hc hst ?_
      intro T2 hT2
      simp only [tl_none]
      rw [lp_264_117]
      rw [← setR_c same] at hT2
      exact hQ T2 J hT2 (fun _ _ => rfl)
  have f0 : flg (brk I K p) np 0 := Or.inr ⟨rfl, fun i hi e => hb ⟨i, hi, e⟩⟩
  by_cases hw : ∃ i, i < np ∧ wai I K p i
  · -- it waits
    have f1 : flg (wai I K p) np 1 := Or.inl ⟨rfl, hw⟩
    refine ⟨K, wdC_b wd (by omega), ?_, ?_⟩
    · intro L J Q hL hQ
      show sm_wp X 34 0 [some (.ref 45), some (.int (zI p)), none, none, none, none] [] (sM mo G L J) Q
      refine c_34f hp fx hst hpn hpo hL ?_
      intro x y hx hy
      rw [unq _ x 0 hx f0, unq _ y 1 hy f1, if_pos rfl, if_pos (by decide)]
      exact hQ L J hL (fun _ _ _ => rfl)
    · intro A T J Q hT hQ
      refine rf A T J Q hT ?_
      intro T' hT' hc x y hx hy
      rw [unq _ x 0 hx f0, unq _ y 1 hy f1, if_pos rfl, if_neg (by decide)]
      exact hQ T' J hT' (fun _ _ => rfl)
  have g0 : flg (wai I K p) np 0 := Or.inr ⟨rfl, fun i hi e => hw ⟨i, hi, e⟩⟩
  have nw : ∀ k, k < np → chn I p k → ¬ (K 42 k = 0 ∨ K 42 k = 1) := fun k hk h1 h2 => hw ⟨k, hk, h1, h2⟩
  by_cases hcan : canP n I K p np
  · -- carried out
    obtain ⟨K', w', c', r'⟩ := crl (X := X) (mo := mo) (G := G) (n := n) (m := m) (t0 := t0) (ch0 := ch0) (bd := bd) hp hpn hpo (K 42) nw np 0 K (by omega) (wdM_0 wd) rfl
    refine ⟨K', wdC_b w' (by omega), ?_, ?_⟩
    · intro L J Q hL hQ
      show sm_wp X 34 0 [some (.ref 45), some (.int (zI p)), none, none, none, none] [] (sM mo G L J) Q
      refine c_34f hp fx hst hpn hpo hL ?_
      intro x y hx hy
      rw [unq _ x 0 hx f0, unq _ y 0 hy g0, if_pos rfl, if_neg (fun e => e rfl), lp_36_0]
      refine c_37 hp fx hpn hpo hL (fun _ => ?_) (fun e => absurd hcan e)
      simp only [tl_some]
      rw [lp_36_5, if_pos (by decide)]
      refine c' L J _ hL ?_
      intro L' J' a b
      simp only [tl_none]
      rw [lp_34_122]
      exact hQ L' J' a b
    · intro A T J Q hT hQ
      refine rf A T J Q hT ?_
      intro T' hT' hc x y hx hy
      rw [unq _ x 0 hx f0, unq _ y 0 hy g0, if_pos rfl, if_pos rfl]
      refine r_267 hp hT' hc (fun _ => ?_) (fun e => absurd hcan e)
      simp only [tl_some]
      rw [lp_264_127, if_pos (by decide)]
      exact r' A T' J Q hT' hc hQ
  · -- it can't be
    have same : ∀ k, k < np → ((chn I p k ∧ una K k) ↔ (chn I p k ∧ ∃ f, K 42 k = zI f ∧ f ≤ 6 ∧ 2 ≤ f ∧ f ≤ 2)) := fun k hk => by
      constructor
      · rintro ⟨h1, h2⟩
        have n1 := nw k hk h1
        rcases h2 with h2 | h2 | h2
        · exact absurd (Or.inl h2) n1
        · exact absurd (Or.inr h2) n1
        · exact ⟨h1, 2, h2, by omega, by omega, by omega⟩
      · rintro ⟨h1, f, h2, h3, h4, h5⟩
        refine ⟨h1, Or.inr (Or.inr ?_)⟩
        rw [h2, show f = 2 from by omega]; rfl
    refine ⟨rw2 K 42 (setR np (fun k => chn I p k ∧ una K k) (zI 6) (K 42)), wdC_b (wd_set wd (by omega) (by omega) (fun k hk => ⟨hk.1, una_n hk.2⟩)) (by omega), ?_, ?_⟩
    · intro L J Q hL hQ
      show sm_wp X 34 0 [some (.ref 45), some (.int (zI p)), none, none, none, none] [] (sM mo G L J) Q
      refine c_34f hp fx hst hpn hpo hL ?_
      intro x y hx hy
      rw [unq _ x 0 hx f0, unq _ y 0 hy g0, if_pos rfl, if_neg (fun e => e rfl), lp_36_0]
      refine c_37 hp fx hpn hpo hL (fun e => absurd e hcan) (fun _ => ?_)
      simp only [tl_some]
      rw [lp_36_5, if_neg (fun e => e rfl)]
      refine c_35 (w := 6) hp fx hpn hpo L J _ hL ?_
      intro L' J' a b
      simp only [tl_none]
      rw [lp_36_15]
      simp only [tl_none]
      rw [lp_34_122]
      exact hQ L' J' a b
    · intro A T J Q hT hQ
      refine rf A T J Q hT ?_
      intro T' hT' hc x y hx hy
      rw [unq _ x 0 hx f0, unq _ y 0 hy g0, if_pos rfl, if_pos rfl]
      refine r_267 hp hT' hc (fun e => absurd e hcan) (fun _ => ?_)
      simp only [tl_some]
      rw [lp_264_127, if_neg (fun e => e rfl)]
      refine r_266 (lo := 2) (hi := 2) (w := 6) hp (by omega) (by omega) hT' hc hst ?_
      intro T2 hT2
      simp only [tl_none]
      rw [lp_264_138]
      rw [← setR_c same] at hT2
      exact hQ T2 J hT2 (fun _ _ => rfl)
end E1
end
section
/-! A day, and days. -/
section F1
variable {X : (Nat → Int32) × Nat} {mo : Bool} {G : Nat × Nat} {I : Nat → Nat → Int32}
theorem wd_np {n m np t0 ch0 bd : Nat} {K L : Nat → Nat → Int32} (hp : ppS n m np I) (wd : wdC n m np t0 ch0 bd I K) (hL : eqC K L) : L 31 0 = zI np := by
  rw [hL 31 (by decide), wd.1.1 31 (by decide) (by decide) (by decide) (by decide) (by decide) (by decide) (by decide) (by decide) (by decide)]; exact hp.2.2.1.1
theorem cp_np {n m np : Nat} {A K T : Nat → Nat → Int32} (hp : ppS n m np I) (hT : cplR I A K T) : T 81 46 = zI np := by
  rw [hT.2.2.1 46 (by decide) (by decide) (by decide)]; exact hp.2.2.1.2.1
theorem wd_a {n m np t0 ch0 bd j : Nat} {K L : Nat → Nat → Int32} (hp : ppS n m np I) (wd : wdC n m np t0 ch0 bd I K) (hL : eqC K L) (hj : j < np) : aPap L 42 (-1) (zI j) = K 42 j := by
  have np60 := hp.2.2.1.2.2
  unfold aPap
  rw [if_pos (by rw [hPap_vp (wd_np hp wd hL) np60, zI_sIn (by omega) (by omega)]; omega), zI_cn (by omega), hL 42 (by decide)]
/-- the day's answers -/
theorem dy1 {n m np t0 ch0 bd : Nat} (hp : ppS n m np I) : ∀ d j K, j + d = np → wdC n m np t0 ch0 bd I K → ∃ K', wdC n m np t0 ch0 bd I K' ∧
    (∀ L J (Q : Option Value → sm_M → Prop), eqC K L → (∀ L' J', eqC K' L' → jD J J' → sm_wp X 22 57 [some (.ref 45), some (.int 0), none] [] (sM mo G L' J') Q) → sm_wp X 22 15 [some (.ref 45), some (.int (zI j)), none] [] (sM mo G L J) Q) ∧
    (∀ A T J (Q : Option Value → sm_M → Prop) (x1 x2 : Int32), cplR I A K T → (∀ T' J', cplR I A K' T' → jR J J' → sm_wp X 251 77 [some (.ref 81), some (.int x1), some (.int x2), some (.int 0)] [] (sM mo G T' J') Q) → sm_wp X 251 48 [some (.ref 81), some (.int x1), some (.int x2), some (.int (zI j))] [] (sM mo G T J) Q) := by
  have np60 := hp.2.2.1.2.2
  intro d
  induction d with
  | zero =>
    intro j K hj wd
    refine ⟨K, wd, ?_, ?_⟩
    · intro L J Q hL hQ
      rw [lp_22_15, wd_np hp wd hL, if_pos (by rw [zI_le (by omega) (by omega)]; omega)]
      exact hQ L J hL (fun _ _ _ => rfl)
    · intro A T J Q x1 x2 hT hQ
      rw [lp_251_48, cp_np hp hT, if_pos (by rw [zI_le (by omega) (by omega)]; omega)]
      exact hQ T J hT (fun _ _ => rfl)
  | succ d ih =>
    intro j K hj wd
    have v60 : vp_in (zI j) 60 := Eq.mpr (zI_vp (a := j) (n := 60) (by omega)) (by omega)
    have q107 : ∀ A T : Nat → Nat → Int32, cplR I A K T → T 107 = I 107 := fun A T hT => hT.2.1 107 (by decide) (by decide) (by decide) (by decide) (by decide) (by decide) (by decide) (by decide) (by decide)
    have e1 : zI j + 1 = zI (j + 1) := zIr_add 1 j
    rcases Classical.em (∃ f, f ≤ 1 ∧ K 42 j = zI f ∧ ¬ I 42 j = -1) with ⟨f, hf1, hf, ofr⟩ | no
    · obtain ⟨K1, w1, c1, r1⟩ := ans (X := X) (mo := mo) (G := G) hp wd (show j < np by omega) ofr hf1 hf
      obtain ⟨K', w', c', r'⟩ := ih (j + 1) K1 (by omega) w1
      have o107 : I 107 j = 0 := by
        rcases hp.2.2.2.2.2.2.2.2.2.2 j (by omega) with ⟨a1, -⟩ | ⟨-, a2, -⟩
        · exact absurd a1 ofr
        · exact a2
      refine ⟨K', w', ?_, ?_⟩
      · intro L J Q hL hQ
        rw [lp_22_15, wd_np hp wd hL, if_neg (by rw [zI_le (by omega) (by omega)]; omega), wd_a hp wd hL (by omega), hf]
        have go : ∀ x : Int32, sm_wp X 23 0 [some (.ref 45), some (.int (zI j))] [] (sM mo G L J) (fun v M => sm_wp X 22 49 [some (.ref 45), some (.int (zI j)), some (.int x)] (v.toList ++ []) M Q) := fun x => by
          refine c1 L J _ hL ?_
          intro L' J' a b
          simp only [tl_none]
          rw [lp_22_49, e1]
          exact c' L' J' Q a (fun L2 J2 x y => hQ L2 J2 x (jD_t b y))
        have : f = 0 ∨ f = 1 := by omega
        rcases this with rfl | rfl
        · rw [if_pos (by decide)]; exact go _
        · rw [if_neg (by decide), if_neg (fun e => e (by decide))]; exact go _
      · intro A T J Q x1 x2 hT hQ
        rw [lp_251_48, cp_np hp hT, if_neg (by rw [zI_le (by omega) (by omega)]; omega)]
        refine ⟨⟨v60, fun _ => v60⟩, ?_⟩
        rw [if_neg (fun e => e ⟨by rw [q107 A T hT, zI_cn (by omega)]; exact o107, by
          rw [zI_cn (by omega), hT.2.2.2.2.2.2.1, hf, zIl_le (c := 2) (by decide) (by omega)]
          show ¬ 2 ≤ f
          omega⟩)]
        refine r1 A T J _ hT ?_
        intro T' J' a b
        simp only [tl_none]
        rw [lp_251_69, e1]
        exact r' A T' J' Q x1 x2 a (fun T2 J2 x y => hQ T2 J2 x (jR_t b y))
    · obtain ⟨K', w', c', r'⟩ := ih (j + 1) K (by omega) wd
      have n01 : ¬ K 42 j = 0 ∧ ¬ K 42 j = 1 ∧ (I 107 j = 1 ∨ 2 ≤ K 42 j) := by
        rcases wd.2.1 j (by omega) with ⟨a1, a2⟩ | ⟨a1, f, hf6, a2⟩
        · rw [a2]
          rcases hp.2.2.2.2.2.2.2.2.2.2 j (by omega) with ⟨-, b2, -⟩ | ⟨b1, -⟩
          · exact ⟨by decide, by decide, Or.inl b2⟩
          · exact absurd a1 b1
        · have f2 : ¬ f ≤ 1 := fun e => no ⟨f, e, a2, a1⟩
          rw [a2]
          refine ⟨fun e => f2 ?_, fun e => f2 ?_, Or.inr ?_⟩
          · rw [zIr_eq (c := 0) (by decide) (by omega)] at e
            have : f = 0 := e
            omega
          · rw [zIr_eq (c := 1) (by decide) (by omega)] at e
            have : f = 1 := e
            omega
          · rw [zIl_le (c := 2) (by decide) (by omega)]
            show 2 ≤ f
            omega
      refine ⟨K', w', ?_, ?_⟩
      · intro L J Q hL hQ
        rw [lp_22_15, wd_np hp wd hL, if_neg (by rw [zI_le (by omega) (by omega)]; omega), wd_a hp wd hL (by omega), if_neg n01.1, if_pos n01.2.1, e1]
        exact c' L J Q hL hQ
      · intro A T J Q x1 x2 hT hQ
        rw [lp_251_48, cp_np hp hT, if_neg (by rw [zI_le (by omega) (by omega)]; omega)]
        refine ⟨⟨v60, fun _ => v60⟩, ?_⟩
        rw [if_pos (fun e => by
          have g1 := e.1
          have g2 := e.2
          rw [q107 A T hT, zI_cn (by omega)] at g1
          rw [zI_cn (by omega), hT.2.2.2.2.2.2.1] at g2
          rcases n01.2.2 with h | h
          · rw [h] at g1; exact absurd g1 (by decide)
          · exact g2 h), e1]
        exact r' A T J Q x1 x2 hT hQ
/-- the day's ends -/
theorem dy2 {n m np t0 ch0 bd : Nat} (hp : ppS n m np I) : ∀ d j K, j + d = np → wdC n m np t0 ch0 (bd + 1440 * j) I K → ∃ K', wdC n m np t0 ch0 (bd + 1440 * np) I K' ∧
    (∀ L J (Q : Option Value → sm_M → Prop), eqC K L → (∀ L' J', eqC K' L' → jD J J' → Q none (sM mo G L' J')) → sm_wp X 22 57 [some (.ref 45), some (.int (zI j)), none] [] (sM mo G L J) Q) ∧
    (∀ A T J (Q : Option Value → sm_M → Prop) (x1 x2 : Int32), cplR I A K T → (∀ T' J', cplR I A K' T' → jR J J' → sm_wp X 251 31 [some (.ref 81), some (.int x1), some (.int (x2 + 1)), none] [] (sM mo G T' J') Q) → sm_wp X 251 77 [some (.ref 81), some (.int x1), some (.int x2), some (.int (zI j))] [] (sM mo G T J) Q) := by
  have np60 := hp.2.2.1.2.2
  intro d
  induction d with
  | zero =>
    intro j K hj wd
    have : j = np := by omega
    subst this
    refine ⟨K, wd, ?_, ?_⟩
    · intro L J Q hL hQ
      rw [lp_22_57, wd_np hp wd hL, if_pos (by rw [zI_le (by omega) (by omega)]; omega)]
      exact hQ L J hL (fun _ _ _ => rfl)
    · intro A T J Q x1 x2 hT hQ
      rw [lp_251_77, cp_np hp hT, if_pos (by rw [zI_le (by omega) (by omega)]; omega)]
      exact hQ T J hT (fun _ _ => rfl)
  | succ d ih =>
    intro j K hj wd
    have v60 : vp_in (zI j) 60 := Eq.mpr (zI_vp (a := j) (n := 60) (by omega)) (by omega)
    have q107 : ∀ A T : Nat → Nat → Int32, cplR I A K T → T 107 = I 107 := fun A T hT => hT.2.1 107 (by decide) (by decide) (by decide) (by decide) (by decide) (by decide) (by decide) (by decide) (by decide)
    have e1 : zI j + 1 = zI (j + 1) := zIr_add 1 j
    have e2 : bd + 1440 * (j + 1) = bd + 1440 * j + 1440 := by omega
    rcases Classical.em (K 42 j = 2) with hf | no
    · have oo : ¬ I 42 j = -1 ∧ I 107 j = 0 := by
        rcases wd.2.1 j (by omega) with ⟨a1, a2⟩ | ⟨a1, -⟩
        · rw [hf] at a2; exact absurd a2 (by decide)
        · rcases hp.2.2.2.2.2.2.2.2.2.2 j (by omega) with ⟨b1, -⟩ | ⟨-, b2, -⟩
          · exact absurd b1 a1
          · exact ⟨a1, b2⟩
      obtain ⟨K1, w1, c1, r1⟩ := ech (X := X) (mo := mo) (G := G) hp wd (show j < np by omega) oo.1
      obtain ⟨K', w', c', r'⟩ := ih (j + 1) K1 (by omega) (by rw [e2]; exact w1)
      refine ⟨K', w', ?_, ?_⟩
      · intro L J Q hL hQ
        rw [lp_22_57, wd_np hp wd hL, if_neg (by rw [zI_le (by omega) (by omega)]; omega), wd_a hp wd hL (by omega), if_neg (fun e => e hf)]
        refine c1 L J _ hL ?_
        intro L' J' a b
        simp only [tl_none]
        rw [lp_22_85, e1]
        exact c' L' J' Q a (fun L2 J2 x y => hQ L2 J2 x (jD_t b y))
      · intro A T J Q x1 x2 hT hQ
        rw [lp_251_77, cp_np hp hT, if_neg (by rw [zI_le (by omega) (by omega)]; omega)]
        refine ⟨v60, ?_⟩
        rw [zI_cn (by omega), q107 A T hT, hT.2.2.2.2.2.2.1, if_neg (fun e => e oo.2), if_neg (fun e => e hf)]
        refine r1 A T J _ hT ?_
        intro T' J' a b
        simp only [tl_none]
        rw [lp_251_109, e1]
        exact r' A T' J' Q x1 x2 a (fun T2 J2 x y => hQ T2 J2 x (jR_t b y))
    · obtain ⟨K', w', c', r'⟩ := ih (j + 1) K (by omega) (wdC_b wd (by omega))
      refine ⟨K', w', ?_, ?_⟩
      · intro L J Q hL hQ
        rw [lp_22_57, wd_np hp wd hL, if_neg (by rw [zI_le (by omega) (by omega)]; omega), wd_a hp wd hL (by omega), if_pos no, e1]
        exact c' L J Q hL hQ
      · intro A T J Q x1 x2 hT hQ
        rw [lp_251_77, cp_np hp hT, if_neg (by rw [zI_le (by omega) (by omega)]; omega)]
        refine ⟨v60, ?_⟩
        rw [zI_cn (by omega), q107 A T hT, hT.2.2.2.2.2.2.1, if_pos no, e1]
        split
        · exact r' A T J Q x1 x2 hT hQ
        · exact r' A T J Q x1 x2 hT hQ
theorem cpl_13 {A K T : Nat → Nat → Int32} (h : cplR I A K T) (v : Int32) : cplR I A (up2 K 1 3 v) (up2 T 81 16 v) := by
  obtain ⟨h1, h2, h3, h4, h5, h6, h7, h8, h9⟩ := h
  refine ⟨fun d a => by rw [up2_rn _ _ _ _ _ (by omega)]; exact h1 d a, fun d x y a b c d' e f g => by rw [up2_rn _ _ _ _ _ (by omega)]; exact h2 d x y a b c d' e f g, fun j a b c => by rw [up2_ra, va_ap, if_neg b]; exact h3 j a b c, ?_, ?_, ?_, ?_, ?_, ?_⟩
  · rw [up2_ra, up2_ra, va_ap, va_ap, if_pos rfl, if_pos rfl]
  · rw [up2_rn _ _ _ _ _ (by decide), up2_rn _ _ _ _ _ (by decide)]; exact h5
  · rw [up2_rn _ _ _ _ _ (by decide), up2_rn _ _ _ _ _ (by decide)]; exact h6
  · rw [up2_rn _ _ _ _ _ (by decide), up2_rn _ _ _ _ _ (by decide)]; exact h7
  · rw [up2_rn _ _ _ _ _ (by decide), up2_rn _ _ _ _ _ (by decide)]; exact h8
  · rw [up2_rn _ _ _ _ _ (by decide), up2_rn _ _ _ _ _ (by decide), up2_rn _ _ _ _ _ (by decide), up2_rn _ _ _ _ _ (by decide)]; exact h9
theorem wd_13 {n m np t ch0 bd : Nat} {K : Nat → Nat → Int32} (h : wdC n m np t ch0 bd I K) (ht : t < 300) : wdC n m np (t + 1) ch0 bd I (up2 K 1 3 (zI (t + 1))) := by
  obtain ⟨h1, h2, h3, h4, h5, h6, h7⟩ := h
  refine ⟨⟨fun d a b c e f g h i j => by rw [up2_rn _ _ _ _ _ a]; exact h1.1 d a b c e f g h i j, fun j a b => by rw [up2_ra, va_ap, if_neg a]; exact h1.2 j a b⟩, fun k hk => ?_, ⟨t + 1, by omega, rfl, by rw [up2_ra, va_ap, if_pos rfl]⟩, ?_, ?_, ?_, ?_⟩
  · rw [up2_rn _ _ _ _ _ (by decide)]; exact h2 k hk
  · rw [up2_ra, va_ap, if_neg (by decide), up2_rn _ _ _ _ _ (by decide)]; exact h4
  · rw [up2_rn _ _ _ _ _ (by decide)]; exact h5
  · rw [up2_rn _ _ _ _ _ (by decide)]; exact h6
  · rw [up2_rn _ _ _ _ _ (by decide), up2_rn _ _ _ _ _ (by decide)]; exact h7
/-- a day -/
theorem dst {n m np t ch0 bd : Nat} {K : Nat → Nat → Int32} (hp : ppS n m np I) (wd : wdC n m np t ch0 bd I K) (ht : t < 300) : ∃ K', wdC n m np (t + 1) ch0 (bd + 86400) I K' ∧
    cRun mo G (fun M Q => sm_wp X 22 0 [some (.ref 45), none, none] [] M Q) K K' ∧
    (∀ A T J (Q : Option Value → sm_M → Prop) (x1 x2 : Int32), ¬ x1 ≤ x2 → cplR I A K T → (∀ T' J', cplR I A K' T' → jR J J' → sm_wp X 251 31 [some (.ref 81), some (.int x1), some (.int (x2 + 1)), none] [] (sM mo G T' J') Q) → sm_wp X 251 31 [some (.ref 81), some (.int x1), some (.int x2), none] [] (sM mo G T J) Q) := by
  have np60 := hp.2.2.1.2.2
  have e13 : K 1 3 = zI t := by
    obtain ⟨t', -, rfl, e⟩ := wd.2.2.1
    exact e
  obtain ⟨K1, w1, c1, r1⟩ := dy1 (X := X) (mo := mo) (G := G) hp np 0 _ (by omega) (wd_13 wd ht)
  obtain ⟨K2, w2, c2, r2⟩ := dy2 (X := X) (mo := mo) (G := G) (bd := bd) hp np 0 K1 (by omega) (wdC_b w1 (by omega))
  refine ⟨K2, wdC_b w2 (by omega), ?_, ?_⟩
  · intro L J Q hL hQ
    show sm_wp X 22 0 [some (.ref 45), none, none] [] (sM mo G L J) Q
    rw [lp_22_0, hL 1 (by decide), e13, show zI t + 1 = zI (t + 1) from zIr_add 1 t]
    refine c1 _ J Q (eqC_u hL 1 3 _) ?_
    intro L' J' a b
    exact c2 L' J' Q a (fun L2 J2 x y => hQ L2 J2 x (jD_t b y))
  · intro A T J Q x1 x2 hx hT hQ
    rw [lp_251_31, if_neg hx, hT.2.2.2.1, e13, show zI t + 1 = zI (t + 1) from zIr_add 1 t]
    refine r1 A _ J Q x1 x2 (cpl_13 hT _) ?_
    intro T' J' a b
    exact r2 A T' J' Q x1 x2 a (fun T2 J2 x y => hQ T2 J2 x (jR_t b y))
/-- days -/
theorem dys {n m np ch0 nd : Nat} (hp : ppS n m np I) (hnd : nd ≤ 50) : ∀ d j t bd K, j + d = nd → t + d ≤ 300 → wdC n m np t ch0 bd I K → ∃ K', wdC n m np (t + d) ch0 (bd + 86400 * d) I K' ∧
    (∀ L J (Q : Option Value → sm_M → Prop), eqC K L → (∀ L' J', eqC K' L' → jD J J' → Q (some (.int (zI (t + d)))) (sM mo G L' J')) → sm_wp X 182 30 [some (.ref 0), some (.int (zI nd)), some (.int (zI j))] [] (sM mo G L J) Q) ∧
    (∀ A T J (Q : Option Value → sm_M → Prop), cplR I A K T → (∀ T' J', cplR I A K' T' → jR J J' → Q (some (.int (zI (t + d)))) (sM mo G T' J')) → sm_wp X 251 31 [some (.ref 81), some (.int (zI nd)), some (.int (zI j)), none] [] (sM mo G T J) Q) := by
  intro d
  induction d with
  | zero =>
    intro j t bd K hj ht wd
    have e13 : K 1 3 = zI t := by
      obtain ⟨t', -, rfl, e⟩ := wd.2.2.1
      exact e
    refine ⟨K, wdC_b wd (by omega), ?_, ?_⟩
    · intro L J Q hL hQ
      rw [lp_182_30, if_pos (by rw [zI_le (by omega) (by omega)]; omega), hL 1 (by decide), e13]
      exact hQ L J hL (fun _ _ _ => rfl)
    · intro A T J Q hT hQ
      rw [lp_251_31, if_pos (by rw [zI_le (by omega) (by omega)]; omega), hT.2.2.2.1, e13]
      exact hQ T J hT (fun _ _ => rfl)
  | succ d ih =>
    intro j t bd K hj ht wd
    have e1 : zI j + 1 = zI (j + 1) := zIr_add 1 j
    have nx : ¬ zI nd ≤ zI j := by rw [zI_le (by omega) (by omega)]; omega
    obtain ⟨K1, w1, c1, r1⟩ := dst (X := X) (mo := mo) (G := G) hp wd (by omega)
    obtain ⟨K', w', c', r'⟩ := ih (j + 1) (t + 1) (bd + 86400) K1 (by omega) (by omega) w1
    have e2 : t + 1 + d = t + (d + 1) := by omega
    have e3 : bd + 86400 + 86400 * d = bd + 86400 * (d + 1) := by omega
    rw [e2, e3] at w'
    rw [e2] at c' r'
    refine ⟨K', w', ?_, ?_⟩
    · intro L J Q hL hQ
      rw [lp_182_30, if_neg nx]
      refine c1 L J _ hL ?_
      intro L' J' a b
      simp only [tl_none]
      rw [lp_182_42, e1]
      exact c' L' J' Q a (fun L2 J2 x y => hQ L2 J2 x (jD_t b y))
    · intro A T J Q hT hQ
      refine r1 A T J Q (zI nd) (zI j) nx hT ?_
      intro T' J' a b
      rw [e1]
      exact r' A T' J' Q a (fun T2 J2 x y => hQ T2 J2 x (jR_t b y))
end F1
end
section
/-! The call: days. -/
theorem ivC_m {n m n' m' : Nat} {pr pr' : Int32} {r4 r5 r12 r13 r4' r5' r12' r13' r48 r49 r50 r143 r68 r69 r70 : Nat → Int32} {mo : Bool} {ch : Nat} (h : ivC ch n m pr r4 r5 r12 r13 mo r48 r49 r50 r143 r68 r69 r70) : ∀ k, ivC (ch + (k + 1)) n' m' pr' r4' r5' r12' r13' mo r48 r49 r50 r143 r68 r69 r70 := by
  intro k
  induction k with
  | zero => exact ivC_u h
  | succ k ih => exact ivC_u ih
theorem ivD_m {w : Bool} {n m n' m' : Nat} {pr pr' : Int32} {r4 r5 r12 r13 r4' r5' r12' r13' r52 r53 r54 r55 r56 r57 r58 r59 : Nat → Int32} {j52 : Nat → Int64} {ch : Nat} (h : ivD w ch n m pr r4 r5 r12 r13 r52 r53 r54 r55 r56 r57 r58 r59 j52) : ∀ k, ivD w (ch + (k + 1)) n' m' pr' r4' r5' r12' r13' r52 r53 r54 r55 r56 r57 r58 r59 j52 := by
  intro k
  induction k with
  | zero => exact ivD_u h
  | succ k ih => exact ivD_u ih
section F2
variable {X : (Nat → Int32) × Nat} {c : Nat} {mo : Bool} {G : Nat × Nat} {I : Nat → Nat → Int32} {J : Nat → Nat → Int64}
theorem inv_dy {n m t p q r ch ln nd : Nat} {K T : Nat → Nat → Int32} {J' : Nat → Nat → Int64}
    (hN : ivN n m t (I 1 0) (I 1 1) (I 1 2) (I 1 3) (I 81 3) (I 81 10) (I 81 15) (I 81 16))
    (hE : ivE (I 2) (I 4) (I 5) (I 6) (I 10) (I 11) (I 12) (I 13) (I 83) (I 85) (I 86) (I 87) (I 89) (I 90) (I 92) (I 91))
    (hV : ivV n m (I 2) (I 4) (I 5) (I 10) (I 11) (I 12) (I 13)) (hG : ivG (I 3) (I 84))
    (hP : ivP p n m t (I 31 0) (I 81 46) (I 32) (I 33) (I 34) (I 35) (I 36) (I 37) (I 38) (I 39) (I 40) (I 41) (I 42) (I 43) (I 44) (I 107) (I 108) (I 109) (I 110) (I 111) (I 112) (I 113) (I 114) (I 115) (I 116) (I 117) (I 118) (I 119))
    (hS : ivS q (I 26 0) (I 81 60) (I 27) (I 28) (I 29) (I 30) (I 120))
    (hA : ivA r (I 71 0) (I 81 81) (I 72) (I 73) (I 74) (I 75) (I 135) (I 136) (I 137) (I 138))
    (hT : ivT ln (I 14 0) (I 81 1) (I 15) (I 82)) (hF : ivF (I 16 0) (I 16 1) (I 81 18) (I 81 19))
    (hB : ivB (I 22) (I 23) (I 24) (I 25) (I 94) (I 95) (I 96) (I 97) (I 98) (I 99) (I 100) (I 101) (I 102))
    (hC : ivC ch n m (I 1 2) (I 4) (I 5) (I 12) (I 13) mo (I 48) (I 49) (I 50) (I 143) (I 68) (I 69) (I 70))
    (hD : ivD true ch n m (I 1 2) (I 4) (I 5) (I 12) (I 13) (I 52) (I 53) (I 54) (I 55) (I 56) (I 57) (I 58) (I 59) (J 52))
    (hD2 : ivD false ch n m (I 1 2) (I 4) (I 5) (I 12) (I 13) (I 60) (I 61) (I 62) (I 63) (I 64) (I 65) (I 66) (I 67) (J 60))
    (hX : ivX (I 93)) (hZ : ivZ c G) (h300 : t + nd ≤ 300) (wd : wdC n m p (t + nd) ch (c + 86400 * t + 86400 * nd) I K)
    (kc : ∀ d, (d < 81 ∨ 142 < d) → ¬ d = 45 → ¬ d = 1 → ¬ d = 4 → ¬ d = 6 → ¬ d = 7 → ¬ d = 8 → ¬ d = 9 → ¬ d = 42 → ¬ d = 43 → ¬ d = 44 → T d = I d)
    (kr : ∀ d, 81 < d → d ≤ 142 → ¬ d = 85 → ¬ d = 87 → ¬ d = 88 → ¬ d = 117 → ¬ d = 118 → ¬ d = 119 → ¬ d = 122 → T d = I d)
    (k1 : ∀ j, ¬ j = 3 → ¬ j = 4 → T 1 j = I 1 j) (k81 : ∀ j, ¬ j = 2 → ¬ j = 16 → ¬ j = 63 → T 81 j = I 81 j)
    (t3 : T 1 3 = K 1 3) (t16 : T 81 16 = K 1 3) (t14 : T 1 4 = K 1 4) (t4 : T 4 = K 4) (t6 : T 6 = K 6) (t7 : T 7 = K 7) (t8 : T 8 = K 8) (t9 : T 9 = K 9) (t42 : T 42 = K 42) (t44 : T 44 = K 44)
    (t85 : T 85 = K 4) (t87 : T 87 = K 6) (t117 : T 117 = K 42) (t119 : T 119 = K 44) (wy : wyE (K 7) (K 8) (K 9) (T 88)) (j52 : J' 52 = J 52) (j60 : J' 60 = J 60) : inv (c + 1) mo G T J' := by
  obtain ⟨w1, w2, ⟨t', -, rfl, w3⟩, ⟨ch', w4, w5, w6⟩, w7, w8, w9⟩ := wd
  obtain ⟨n1, n2, n3, n4, n5, n6, n7, n8, n9, n10, n11⟩ := hN
  obtain ⟨e1, e2, e3, e4, e5, e6, e7, e8⟩ := hE
  obtain ⟨v1, v2, v3, v4, v5, v6, v7, v8, v9⟩ := hV
  obtain ⟨p1, p2, p3, ⟨q1, q2, q3, q4, q5, q6, q7, q8, q9, q10, q11⟩, p4, p5, p6⟩ := hP
  have hch : ch' = ch ∧ K 4 = I 4 ∨ ch < ch' := w6
  have hCC : ivC ch' n m (I 1 2) (K 4) (I 5) (I 12) (I 13) mo (I 48) (I 49) (I 50) (I 143) (I 68) (I 69) (I 70) := by
    rcases hch with ⟨a, b⟩ | a
    · rw [a, b]; exact hC
    · have := ivC_m (n' := n) (m' := m) (pr' := I 1 2) (r4' := K 4) (r5' := I 5) (r12' := I 12) (r13' := I 13) hC (ch' - ch - 1)
      rw [show ch + (ch' - ch - 1 + 1) = ch' from by omega] at this
      exact this
  have hDD : ivD true ch' n m (I 1 2) (K 4) (I 5) (I 12) (I 13) (I 52) (I 53) (I 54) (I 55) (I 56) (I 57) (I 58) (I 59) (J 52) := by
    rcases hch with ⟨a, b⟩ | a
    · rw [a, b]; exact hD
    · have := ivD_m (n' := n) (m' := m) (pr' := I 1 2) (r4' := K 4) (r5' := I 5) (r12' := I 12) (r13' := I 13) hD (ch' - ch - 1)
      rw [show ch + (ch' - ch - 1 + 1) = ch' from by omega] at this
      exact this
  have hDE : ivD false ch' n m (I 1 2) (K 4) (I 5) (I 12) (I 13) (I 60) (I 61) (I 62) (I 63) (I 64) (I 65) (I 66) (I 67) (J 60) := by
    rcases hch with ⟨a, b⟩ | a
    · rw [a, b]; exact hD2
    · have := ivD_m (n' := n) (m' := m) (pr' := I 1 2) (r4' := K 4) (r5' := I 5) (r12' := I 12) (r13' := I 13) hD2 (ch' - ch - 1)
      rw [show ch + (ch' - ch - 1 + 1) = ch' from by omega] at this
      exact this
  refine ⟨n, m, t + nd, p, q, r, ch', ln, ?_⟩
  simp (decide := true) only [kc, kr, k1, k81, t3, t16, t14, t4, t6, t7, t8, t9, t42, t44, t85, t87, t117, t119, j52, j60]
  refine ⟨⟨n1, n2, n3, n4, n5, n6, n7, n8, w3, w3, h300⟩, ⟨e1, rfl, e3, rfl, e5, e6, e7, e8⟩, ⟨w7, v2, v3, v4, v5, v6, v7, v8, v9⟩, ⟨w8, fun l => ?_, wy⟩, hG, ⟨w4, by omega⟩, ?_, hS, hA, hT, hF, hB, hCC, hDD, hDE, hX, ivZ_s hZ⟩
  · obtain ⟨v, h1, h2⟩ := w9 l
    exact ⟨v, h1, h2⟩
  · refine ⟨p1, p2, p3, ⟨q1, q2, q3, q4, q5, q6, q7, q8, rfl, trivial, rfl⟩, p4, fun k hk => ?_, fun k hk => ?_⟩
    · obtain ⟨a, b, dd, d1, d2⟩ := p5 k hk
      exact ⟨a, b, dd, by omega, d2⟩
    · rcases p6 k hk with ⟨a1, a2, a3, a4⟩ | ⟨a1, ⟨f, hf, ef⟩, a3, a4, a5, a6, a7, a8, a9, a10, a11⟩
      · refine Or.inl ⟨?_, a2, a3, a4⟩
        rcases w2 k hk with ⟨-, b⟩ | ⟨b, -⟩
        · exact b
        · exact absurd a1 b
      · refine Or.inr ⟨a1, ?_, a3, a4, a5, a6, a7, a8, a9, ?_, a11⟩
        · rcases w2 k hk with ⟨b, -⟩ | ⟨-, b⟩
          · rw [ef, zI_m1 (by omega)] at b
            exact b.elim
          · exact b
        · rcases a10 with b | ⟨j, j1, j2, j3, j4⟩
          · exact Or.inl b
          · refine Or.inr ⟨j, j1, j2, ?_, j4⟩
            rcases w2 j (by omega) with ⟨b, -⟩ | ⟨-, g, hg, b⟩
            · exact absurd b j3
            · rw [b, zI_m1 (by omega)]; exact fun e => e
theorem op_days (h : inv c mo G I J) (x : Int32) : Agr X 182 [some (.ref 0), some (.int x), none] 251 [some (.ref 81), some (.int x), none, none] (sM mo G I J) (Inv (c + 1)) := by
  have hv := inv_t 0 h
  have h' := h
  obtain ⟨n, m, t, p, q, r, ch, ln, hN, hE, hV, hY, hG, hK, hP, hS, hA, hT, hF, hB, hC, hD, hD2, hX, hZ⟩ := h
  have e13 : I 1 3 = zI t := hN.2.2.2.2.2.2.2.2.1
  have e16 : I 81 16 = zI t := hN.2.2.2.2.2.2.2.2.2.1
  have t300 : t ≤ 300 := hN.2.2.2.2.2.2.2.2.2.2
  have u16 : up2 I 81 2 0 81 16 = zI t := by rw [up2_ra, va_ap, if_neg (by decide)]; exact e16
  unfold Agr
  rw [lp_182_0]
  by_cases g1 : x < 1
  · rw [if_pos g1, lp_251_0, if_pos (fun e => e.1 g1)]
    exact ⟨rfl, hv⟩
  rw [if_neg g1]
  by_cases g2 : (50 : Int32) < x
  · rw [if_pos g2, lp_251_0, if_pos (fun e => e.2 g2)]
    exact ⟨rfl, hv⟩
  rw [if_neg g2]
  have gi : ¬ ¬ vf_Model_isIn x 1 50 := fun e => e ⟨g1, g2⟩
  have x0 : ¬ x < 0 := fun e => g1 (Int32.lt_trans e (by decide))
  obtain ⟨nd, hnd, rfl⟩ := zI_in (c := 50) (by decide) x0 g2
  rw [e13, show zI t + zI nd = zI (t + nd) from zI_add t nd]
  by_cases g3 : zI (t + nd) ≤ 300
  case neg =>
    rw [if_neg g3, lp_251_0, if_neg gi, e16, show zI t + zI nd = zI (t + nd) from zI_add t nd, if_neg g3]
    exact ⟨rfl, hv⟩
  have h300 : t + nd ≤ 300 := by
    rw [zIr_le (c := 300) (by decide) (by omega)] at g3
    exact g3
  rw [if_pos g3]
  have hp : ppS n m p I := ppS_h (c := c) (mo := mo) (G := G) (J := J) (q := q) (r := r) (ch := ch) (ln := ln) hN hE hV hG hP hB
  have sta0 : sta I I p := fun k hk => by
    rcases hP.2.2.2.2.2.2 k hk with ⟨a1, -⟩ | ⟨-, ⟨f, hf, ef⟩, -⟩
    · exact Or.inl ⟨a1, a1⟩
    · exact Or.inr ⟨by rw [ef, zI_m1 (by omega)]; exact fun e => e, f, hf, ef⟩
  have wd0 : wdC n m p t ch (c + 86400 * t) I I := ⟨⟨fun _ _ _ _ _ _ _ _ _ _ => rfl, fun _ _ _ => rfl⟩, sta0, ⟨t, t300, rfl, e13⟩, ⟨ch, hK.1, hK.2, Or.inl ⟨rfl, rfl⟩⟩, hV.1, hY.1, hY.2.1⟩
  obtain ⟨K, wd, cR, rR⟩ := dys (X := X) (mo := mo) (G := G) hp hnd nd 0 t _ I (by omega) h300 wd0
  refine cR I J _ (fun _ _ => rfl) ?_
  intro L J1 hL hJ
  have fx := wd.1
  have lA : ∀ d, ¬ d = 45 → ¬ d = 1 → ¬ d = 4 → ¬ d = 6 → ¬ d = 7 → ¬ d = 8 → ¬ d = 9 → ¬ d = 42 → ¬ d = 43 → ¬ d = 44 → L d = I d := fun d z a b c d' e f g h i => by rw [hL d z]; exact fx.1 d a b c d' e f g h i
  have l81 : L 81 = I 81 := lA 81 (by decide) (by decide) (by decide) (by decide) (by decide) (by decide) (by decide) (by decide) (by decide) (by decide)
  have lo : ∀ d, 81 < d → d ≤ 142 → L d = I d := fun d a b => lA d (by omega) (by omega) (by omega) (by omega) (by omega) (by omega) (by omega) (by omega) (by omega) (by omega)
  rw [lp_251_0, if_neg gi, l81, e16, show zI t + zI nd = zI (t + nd) from zI_add t nd, if_pos g3]
  obtain ⟨e1, e2, e3, e4, e5, e6, e7, e8⟩ := hE
  have hP' := hP
  obtain ⟨p1, p2, p3, ⟨q1, q2, q3, q4, q5, q6, q7, q8, q9, q10, q11⟩, p4, p5, p6⟩ := hP'
  have cp : cplR I L I (up2 L 81 2 0) := by
    refine ⟨fun d a => up2_rn _ _ _ _ _ (by omega), fun d a b _ _ _ _ _ _ _ => by rw [up2_rn _ _ _ _ _ (by omega)]; exact lo d a b, fun j a _ _ => by rw [up2_ra, va_ap, if_neg a, l81], ?_, ?_, ?_, ?_, ?_, ?_⟩
    · rw [up2_ra, va_ap, if_neg (by decide), l81, e16, e13]
    · rw [up2_rn _ _ _ _ _ (by decide), lo 85 (by decide) (by decide)]; exact e2
    · rw [up2_rn _ _ _ _ _ (by decide), lo 87 (by decide) (by decide)]; exact e4
    · rw [up2_rn _ _ _ _ _ (by decide), lo 117 (by decide) (by decide)]; exact q9
    · rw [up2_rn _ _ _ _ _ (by decide), lo 119 (by decide) (by decide)]; exact q11
    · rw [up2_rn _ _ _ _ _ (by decide), lo 88 (by decide) (by decide)]; exact hY.2.2
  refine rR L _ J1 _ cp ?_
  intro T J2 hT2 hJ2
  obtain ⟨c1, c2, c3, c4, c5, c6, c7, c8, c9⟩ := hT2
  have tc : ∀ d, (d < 81 ∨ 142 < d) → ¬ d = 45 → T d = K d := fun d a b => by rw [c1 d a]; exact hL d b
  refine ⟨rfl, mo, G, T, J2, rfl, ?_⟩
  refine inv_dy (nd := nd) (K := K) hN ⟨e1, e2, e3, e4, e5, e6, e7, e8⟩ hV hG hP hS hA hT hF hB hC hD hD2 hX hZ h300 wd ?_ c2 ?_ c3 ?_ c4 ?_ ?_ ?_ ?_ ?_ ?_ ?_ ?_ c5 c6 c7 c8 c9 ?_ ?_
  · intro d x a b c d' e f g h i j
    rw [tc d x a]; exact fx.1 d b c d' e f g h i j
  · intro j a b
    rw [tc 1 (by decide) (by decide)]; exact fx.2 j a b
  · rw [tc 1 (by decide) (by decide)]
  · rw [tc 1 (by decide) (by decide)]
  · exact tc 4 (by decide) (by decide)
  · exact tc 6 (by decide) (by decide)
  · exact tc 7 (by decide) (by decide)
  · exact tc 8 (by decide) (by decide)
  · exact tc 9 (by decide) (by decide)
  · exact tc 42 (by decide) (by decide)
  · exact tc 44 (by decide) (by decide)
  · rw [hJ2 52 (by decide), hJ 52 (by decide) (by decide)]
  · rw [hJ2 60 (by decide), hJ 60 (by decide) (by decide)]
end F2
end
