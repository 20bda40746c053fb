/-! Calls on settlements: best, without. -/
def basM (n m : Nat) (pr : Int32) (r4 r5 r12 W : Nat → Int32) (I : Nat → Nat → Int32) : Prop := (I 81 3 = zI n ∧ n ≤ 12 ∧ I 81 10 = zI m ∧ m ≤ 6 ∧ I 81 15 = pr) ∧ (∀ k, m ≤ k → bt pr k = false) ∧ (I 85 = r4 ∧ I 86 = r5 ∧ I 92 = r12 ∧ I 91 = W) ∧
  (∀ l, l < n → r4 l = -1 ∨ ∃ s, s < m ∧ r4 l = zI s) ∧ (∀ l k, 6 ≤ k → bt (r5 l) k = false) ∧ (∀ l, pc6 (r5 l) ≤ 3) ∧ okW W ∧ ∀ j, ∃ w, w ≤ 999 ∧ r12 j = zI w
theorem basM_fr {n m : Nat} {pr : Int32} {r4 r5 r12 W : Nat → Int32} {I K : Nat → Nat → Int32} (h : basM n m pr r4 r5 r12 W I) (f : Fr I K) : basM n m pr r4 r5 r12 W K := by
  obtain ⟨f1, f2, f3, f4, f5⟩ := f
  unfold basM
  simp (decide := true) only [f1, f5]
  exact h
/-- gathered, and the table of shares stands -/
def MS (n m : Nat) (r4 r5 W : Nat → Int32) (pr : Int32) (L : Nat → Nat → Int32) : Prop := MI n r4 r5 W pr (L 81) (L 123) (L 124) (L 125) (L 126) (L 127) ∧ ∀ c d, c < m → d < m → lvP r4 W pr (L 130) n c d
def lsM (m : Nat) (r12 : Nat → Int32) (pr : Int32) (g : Nat → Nat) (k : Nat) : Nat := up (fun s a => if bt pr s = true then (if g s - bdN m r12 s < a then g s - bdN m r12 s else a) else a) k 100000
theorem lsM_s (m : Nat) (r12 : Nat → Int32) (pr : Int32) (g : Nat → Nat) (k : Nat) : lsM m r12 pr g (k + 1) = if bt pr k = true then (if g k - bdN m r12 k < lsM m r12 pr g k then g k - bdN m r12 k else lsM m r12 pr g k) else lsM m r12 pr g k := rfl
theorem lsG_s (m : Nat) (r12 : Nat → Int32) (pr : Int32) (g : Nat → Nat) (k : Nat) : lsG m r12 pr g (k + 1) = if bt pr k = true then (if g k - bdN m r12 k < lsG m r12 pr g k then g k - bdN m r12 k else lsG m r12 pr g k) else lsG m r12 pr g k := rfl
theorem lsM_b {m : Nat} {r12 : Nat → Int32} {pr : Int32} {g : Nat → Nat} : ∀ k, lsM m r12 pr g k ≤ 100000 := by
  intro k
  induction k with
  | zero => exact Nat.le_refl _
  | succ k ih =>
    rw [lsM_s]
    split
    · split <;> omega
    · exact ih
theorem lsM_e {m : Nat} {r12 : Nat → Int32} {pr : Int32} {g : Nat → Nat} (gb : ∀ s, g s ≤ 1188) : ∀ k, (lsM m r12 pr g k ≤ 1188 ∧ lsM m r12 pr g k = lsG m r12 pr g k) ∨ (lsM m r12 pr g k = 100000 ∧ lsG m r12 pr g k = 1188 ∧ ∀ t, t < k → bt pr t = false) := by
  intro k
  induction k with
  | zero => exact Or.inr ⟨rfl, rfl, fun t ht => absurd ht (Nat.not_lt_zero _)⟩
  | succ k ih =>
    have := gb k
    rw [lsM_s, lsG_s]
    cases c : bt pr k with
    | true =>
      left
      simp only [if_true]
      rcases ih with ⟨a, b⟩ | ⟨a, b, -⟩
      · rw [b]
        rw [b] at a
        split <;> omega
      · rw [a, b]
        rw [if_pos (by omega)]
        split <;> omega
    | false =>
      simp only [Bool.false_eq_true, if_false]
      rcases ih with h | ⟨a, b, d⟩
      · exact Or.inl h
      · refine Or.inr ⟨a, b, fun t ht => ?_⟩
        by_cases e : t = k
        · rw [e]; exact c
        · exact d t (by omega)
theorem lsM_ls {m : Nat} {r12 : Nat → Int32} {pr : Int32} {g : Nat → Nat} (gb : ∀ s, g s ≤ 1188) (h6 : m ≤ 6) (hp : ∀ k, m ≤ k → bt pr k = false) (h0 : ¬ pr = 0) : lsM m r12 pr g m = lsG m r12 pr g 6 := by
  have e : ∀ d, m + d ≤ 6 → lsG m r12 pr g (m + d) = lsG m r12 pr g m := by
    intro d
    induction d with
    | zero => intro _; rfl
    | succ d ih =>
      intro hd
      rw [← Nat.add_assoc, lsG_s, hp (m + d) (by omega)]
      simp only [Bool.false_eq_true, if_false]
      exact ih (by omega)
  have e6 := e (6 - m) (by omega)
  rw [show m + (6 - m) = 6 from by omega] at e6
  rw [e6]
  rcases lsM_e (m := m) (r12 := r12) (pr := pr) gb m with ⟨-, b⟩ | ⟨-, -, d⟩
  · exact b
  · exfalso
    apply h0
    apply bt_ext
    intro k _
    rw [bt_0]
    rcases Nat.lt_or_ge k m with c | c
    · exact d k c
    · exact hp k c
theorem smG_6 {m : Nat} {pr : Int32} {g : Nat → Nat} (h6 : m ≤ 6) (hp : ∀ k, m ≤ k → bt pr k = false) : smG pr g m = smG pr g 6 := by
  have e : ∀ d, m + d ≤ 6 → smG pr g (m + d) = smG pr g m := by
    intro d
    induction d with
    | zero => intro _; rfl
    | succ d ih =>
      intro hd
      have s : smG pr g (m + d + 1) = if bt pr (m + d) = true then smG pr g (m + d) + g (m + d) else smG pr g (m + d) := rfl
      rw [← Nat.add_assoc, s, hp (m + d) (by omega)]
      simp only [Bool.false_eq_true, if_false]
      exact ih (by omega)
  have e6 := e (6 - m) (by omega)
  rw [show m + (6 - m) = 6 from by omega] at e6
  exact e6.symm
/-- who has a land in the best -/
def bsH (n : Nat) (r4 r5 : Nat → Int32) (pr : Int32) (u l : Nat) : Int32 := if stD r5 pr l = true then zI (sv n r5 pr u (cN (stD r5 pr) l)) else r4 l
def bsM (n m : Nat) (r4 r5 r12 W : Nat → Int32) (pr : Int32) (o : Option Nat) (x1 : Int32) (L : Nat → Nat → Int32) : Prop := match o with
  | none => x1 = 0
  | some u => x1 = 1 ∧ L 81 76 = zI (lsG m r12 pr (gv n r4 r5 W pr u) 6) ∧ L 81 77 = zI (smG pr (gv n r4 r5 W pr u) 6) ∧ ∀ l, l < n → L 131 l = bsH n r4 r5 pr u l
section V2
variable {X : (Nat → Int32) × Nat} {mo : Bool} {G : Nat × Nat} {I : Nat → Nat → Int32} {J : Nat → Nat → Int64} {Q : Option Value → sm_M → Prop} {c : Nat}
/-- the best is written down -/
theorem mf_t {n m v : Nat} {pr : Int32} {r4 r5 r12 W : Nat → Int32} (h8 : dK n r5 pr ≤ 8) (hb : basM n m pr r4 r5 r12 W I) (hS : MS n m r4 r5 W pr I) (h129 : ∀ j, j < dK n r5 pr → I 129 j = svC n r5 pr v j)
    (hQ : ∀ L, Fr I L → MS n m r4 r5 W pr L → L 81 = I 81 → (∀ l, l < n → L 131 l = bsH n r4 r5 pr v l) → sm_wp X 283 28 [some (.ref 81), some (.int 1), some (.int (zI (v + 1))), none, none, none] [] (sM mo G L J) Q) :
    sm_wp X 283 194 [some (.ref 81), some (.int 1), some (.int (zI v)), none, none, some (.int 0)] [] (sM mo G I J) Q := by
  obtain ⟨⟨c1, c2, c3, c4, c5⟩, b1, ⟨d1, d2, d3, d4⟩, b2, b3, b4, b5, b6⟩ := hb
  have ok : ∀ q, Fr I (rw2 I 131 q) := fun q => Fr_w (Fr_r I) rfl (by decide) (by decide) (by decide) q
  have mS : ∀ q, MS n m r4 r5 W pr (rw2 I 131 q) := fun q => by
    unfold MS
    rw [rw2_n _ _ _ _ (by decide), rw2_n _ _ _ _ (by decide), rw2_n _ _ _ _ (by decide), rw2_n _ _ _ _ (by decide), rw2_n _ _ _ _ (by decide), rw2_n _ _ _ _ (by decide), rw2_n _ _ _ _ (by decide)]
    exact hS
  have two : ∀ d k, k + d = dK n r5 pr → ∀ q : Nat → Int32, (∀ l, l < n → q l = if stD r5 pr l = true ∧ cN (stD r5 pr) l < k then zI (sv n r5 pr v (cN (stD r5 pr) l)) else r4 l) → sm_wp X 283 226 [some (.ref 81), some (.int 1), some (.int (zI v)), none, none, some (.int (zI k))] [] (sM mo G (rw2 I 131 q) J) Q := by
    intro d
    induction d with
    | zero =>
      intro k hk q hq
      rw [lp_283_226, if_pos (by rw [rw2_n _ _ _ _ (by decide), hS.1.1, zI_le (by omega) (by omega)]; omega), show zI v + 1 = zI (v + 1) from zIr_add 1 v]
      refine hQ _ (ok q) (mS q) (rw2_n _ _ _ _ (by decide)) (fun l hl => ?_)
      rw [rw2_a, hq l hl]
      unfold bsH
      by_cases g : stD r5 pr l = true
      · rw [if_pos g, if_pos ⟨g, by have := cN_lt hl g; show cN (stD r5 pr) l < k; unfold dK at hk; omega⟩]
      · rw [if_neg g, if_neg (fun e => g e.1)]
    | succ d ih =>
      intro k hk q hq
      have kD : k < dK n r5 pr := by omega
      have np := nt_p (P := stD r5 pr) (n := n) kD
      have dn : dl n r5 pr k < n := np.2.1
      rw [lp_283_226, if_neg (by rw [rw2_n _ _ _ _ (by decide), hS.1.1, zI_le (by omega) (by omega)]; omega), zI_vp (by omega), zI_vp (by omega), zI_cn (by omega), rw2_n _ _ _ 123 (by decide), hS.1.2.1 k kD, zI_vp (by omega), zI_cn (by omega), rw2_n _ _ _ 129 (by decide), h129 k kD, show zI k + 1 = zI (k + 1) from zIr_add 1 k, up2_rw, rw2_a, rw2_rw]
      refine ⟨by omega, by omega, by omega, ih (k + 1) (by omega) _ (fun l hl => ?_)⟩
      rw [va_ap]
      by_cases g : l = dl n r5 pr k
      · have e1 : stD r5 pr l = true := by rw [g]; exact np.1
        have e2 : cN (stD r5 pr) l = k := by rw [g]; exact np.2.2
        rw [if_pos g, if_pos ⟨e1, by omega⟩, e2]
        rfl
      · rw [if_neg g, hq l hl]
        have e : (stD r5 pr l = true ∧ cN (stD r5 pr) l < k) ↔ (stD r5 pr l = true ∧ cN (stD r5 pr) l < k + 1) := by
          constructor
          · exact fun e => ⟨e.1, by omega⟩
          · rintro ⟨e1, e2⟩
            refine ⟨e1, ?_⟩
            by_cases e3 : cN (stD r5 pr) l = k
            · exact absurd (by rw [← e3]; exact (nt_c hl e1).symm) g
            · omega
        by_cases g2 : stD r5 pr l = true ∧ cN (stD r5 pr) l < k
        · rw [if_pos g2, if_pos (e.mp g2)]
        · rw [if_neg g2, if_neg (fun x => g2 (e.mpr x))]
  have one : ∀ d l, l + d = n → ∀ q : Nat → Int32, (∀ j, j < l → q j = r4 j) → sm_wp X 283 194 [some (.ref 81), some (.int 1), some (.int (zI v)), none, none, some (.int (zI l))] [] (sM mo G (rw2 I 131 q) J) Q := by
    intro d
    induction d with
    | zero =>
      intro l hl q hq
      rw [lp_283_194, if_pos (by rw [rw2_n _ _ _ _ (by decide), c1, zI_le (by omega) (by omega)]; omega)]
      refine two (dK n r5 pr) 0 (by omega) q (fun j hj => ?_)
      rw [if_neg (fun e => absurd e.2 (Nat.not_lt_zero _))]
      exact hq j (by omega)
    | succ d ih =>
      intro l hl q hq
      rw [lp_283_194, if_neg (by rw [rw2_n _ _ _ _ (by decide), c1, zI_le (by omega) (by omega)]; omega), zI_vp (by omega), zI_cn (by omega), rw2_n _ _ _ 85 (by decide), d1, show zI l + 1 = zI (l + 1) from zIr_add 1 l, up2_rw, rw2_a, rw2_rw]
      refine ⟨by omega, ih (l + 1) (by omega) _ (fun j hj => ?_)⟩
      rw [va_ap]
      by_cases g : j = l
      · rw [if_pos g, g]
      · rw [if_neg g]; exact hq j (by omega)
  have q := one n 0 (by omega) (I 131) (fun j hj => absurd hj (Nat.not_lt_zero _))
  rw [rw2_self] at q
  exact q
theorem mf_l {n m : Nat} {pr : Int32} {r4 r5 r12 W : Nat → Int32} (h8 : dK n r5 pr ≤ 8) (h0 : ¬ pr = 0) (hb : basM n m pr r4 r5 r12 W I)
    (hQ : ∀ L z, Fr I L → bsM n m r4 r5 r12 W pr (bstS n m r4 r5 r12 W pr (rws n r5 pr)) z L → Q (some (.int z)) (sM mo G L J)) :
    ∀ d v, v + d = rws n r5 pr → ∀ L x1, Fr I L → MS n m r4 r5 W pr L → bsM n m r4 r5 r12 W pr (bstS n m r4 r5 r12 W pr v) x1 L → sm_wp X 283 28 [some (.ref 81), some (.int x1), some (.int (zI v)), none, none, none] [] (sM mo G L J) Q := by
  have hb0 := hb
  obtain ⟨⟨c1, c2, c3, c4, c5⟩, b1, ⟨d1, d2, d3, d4⟩, b2, b3, b4, b5, b6⟩ := hb
  have rb := rws_b (n := n) (pr := pr) b4 h8
  intro d
  induction d with
  | zero =>
    intro v hv L x1 f hS hM
    have : v = rws n r5 pr := by omega
    subst this
    rw [lp_283_28, if_pos (by rw [hS.1.2.2.2.1 h8, zI_le (by omega) (by omega)]; exact Nat.le_refl _)]
    refine ⟨?_, hQ L x1 f hM⟩
    unfold bsM at hM
    split at hM
    · exact Or.inl hM
    · exact Or.inr hM.1
  | succ d ih =>
    intro v hv L x1 f hS hM
    obtain ⟨⟨k1, k2, k3, k4, k5⟩, -, ⟨e1, e2, e3, e4⟩, -⟩ := basM_fr hb0 f
    rw [lp_283_28, if_neg (by rw [hS.1.2.2.2.1 h8, zI_le (by omega) (by omega)]; omega)]
    refine ct_278 (I := L) (n := n) (v := v) (pr := pr) (r4 := r4) (r5 := r5) c2 (by rw [e4]; exact b5) b4 h8 (by omega) (by rw [e4]; exact hS.1) ?_
    intro N fN n129 n128
    rw [e4] at n128
    have gb : ∀ s, gv n r4 r5 W pr v s ≤ 1188 := fun s => gtC_b b5 c2 s
    have fIN : Fr I N := Fr_t f (Fr_R fN)
    have n81 : N 81 = L 81 := fN 81 (by decide) (by decide)
    have hSN : MS n m r4 r5 W pr N := by
      unfold MS
      rw [n81, fN 123 (by decide) (by decide), fN 124 (by decide) (by decide), fN 125 (by decide) (by decide), fN 126 (by decide) (by decide), fN 127 (by decide) (by decide), fN 130 (by decide) (by decide)]
      exact hS
    have hMN : bsM n m r4 r5 r12 W pr (bstS n m r4 r5 r12 W pr v) x1 N := by
      unfold bsM at hM ⊢
      rw [n81, fN 131 (by decide) (by decide)]
      exact hM
    have eb : bstS n m r4 r5 r12 W pr (v + 1) = if pB (isB n m r4 r5 r12 W pr v ∧ bttr (fun u => lsG m r12 pr (gv n r4 r5 W pr u) 6) (fun u => smG pr (gv n r4 r5 W pr u) 6) (bstS n m r4 r5 r12 W pr v) v) = true then some v else bstS n m r4 r5 r12 W pr v := rfl
    have skip : ∀ N', Fr I N' → MS n m r4 r5 W pr N' → bsM n m r4 r5 r12 W pr (bstS n m r4 r5 r12 W pr v) x1 N' → ¬ (isB n m r4 r5 r12 W pr v ∧ bttr (fun u => lsG m r12 pr (gv n r4 r5 W pr u) 6) (fun u => smG pr (gv n r4 r5 W pr u) 6) (bstS n m r4 r5 r12 W pr v) v) → sm_wp X 283 28 [some (.ref 81), some (.int x1), some (.int (zI v + 1)), none, none, none] [] (sM mo G N' J) Q := by
      intro N' f1 f2 f3 hno
      rw [show zI v + 1 = zI (v + 1) from zIr_add 1 v]
      refine ih (v + 1) (by omega) N' x1 f1 f2 ?_
      rw [eb, if_neg (fun e => hno (pB_t.mp e))]
      exact f3
    simp only [tl_none]
    rw [lp_283_41]
    obtain ⟨⟨j1, j2, j3, j4, j5⟩, -, ⟨g1, g2, g3, g4⟩, -⟩ := basM_fr hb0 fIN
    refine ct_279 (I := N) (m := m) (pr := pr) (g := gv n r4 r5 W pr v) j3 c4 j5 b1 (by rw [g3]; exact b6) n128 gb ?_
    intro z hz
    rw [g3] at hz
    simp only [tl_some]
    rw [lp_283_45]
    rcases hz with ⟨rfl, hz⟩ | ⟨rfl, hz⟩
    · rw [if_neg (by decide)]
      refine ct_280 (I := N) (n := n) (m := m) (pr := pr) (r4 := r4) (g := gv n r4 r5 W pr v) c2 j3 c4 j5 b1 (by rw [g4]; exact b5) n128 gb (fun s hs => by rw [g4]; exact (hSN.1.2.2.2.2 s hs).2) (by rw [g4]; exact hSN.2) ?_
      intro z2 hz2
      rw [g4] at hz2
      simp only [tl_some]
      rw [lp_283_52]
      rcases hz2 with ⟨rfl, hz2⟩ | ⟨rfl, hz2⟩
      · rw [if_pos (by decide)]
        have hB : isB n m r4 r5 r12 W pr v := ⟨h0, hz, hz2⟩
        have lbv := lsG_b m r12 pr (gv n r4 r5 W pr v) 6
        have sbv := smG_b (pr := pr) (g := gv n r4 r5 W pr v) gb 6
        have take : bttr (fun u => lsG m r12 pr (gv n r4 r5 W pr u) 6) (fun u => smG pr (gv n r4 r5 W pr u) 6) (bstS n m r4 r5 r12 W pr v) v → sm_wp X 283 194 [some (.ref 81), some (.int 1), some (.int (zI v)), none, none, some (.int 0)] [] (sM mo G (up2 (up2 N 81 76 (zI (lsG m r12 pr (gv n r4 r5 W pr v) 6))) 81 77 (zI (smG pr (gv n r4 r5 W pr v) 6))) J) Q := by
          intro hbt
          have f2 : Fr I (up2 (up2 N 81 76 (zI (lsG m r12 pr (gv n r4 r5 W pr v) 6))) 81 77 (zI (smG pr (gv n r4 r5 W pr v) 6))) := Fr_m (Fr_m fIN rfl _) rfl _
          refine mf_t (n := n) (m := m) (v := v) (pr := pr) h8 (basM_fr hb0 f2) ?_ (fun j hj => ?_) ?_
          · unfold MS MI
            simp (decide := true) only [up2_ra, up2_rn, va_ap, ne_eq, if_false, if_true, not_false_eq_true]
            exact hSN
          · rw [up2_rn _ _ _ _ _ (by decide), up2_rn _ _ _ _ _ (by decide)]; exact n129 j hj
          · intro P fP hP p81 p131
            refine ih (v + 1) (by omega) P 1 (Fr_t f2 fP) hP ?_
            rw [eb, if_pos (pB_t.mpr ⟨hB, hbt⟩)]
            refine ⟨rfl, ?_, ?_, p131⟩
            · rw [p81]; simp (decide := true) only [up2_ra, up2_rn, va_ap, ne_eq, if_false, if_true, not_false_eq_true]
            · rw [p81]; simp (decide := true) only [up2_ra, up2_rn, va_ap, ne_eq, if_false, if_true, not_false_eq_true]
        have loop : ∀ d s, s + d = m → sm_wp X 283 68 [some (.ref 81), some (.int x1), some (.int (zI v)), some (.int (zI (lsM m r12 pr (gv n r4 r5 W pr v) s))), some (.int (zI (smG pr (gv n r4 r5 W pr v) s))), some (.int (zI s))] [] (sM mo G N J) Q := by
          intro d
          induction d with
          | zero =>
            intro s hs
            have : s = m := by omega
            subst this
            rw [lp_283_68, if_pos (by rw [j3, zI_le (by omega) (by omega)]; exact Nat.le_refl _), lsM_ls gb c4 b1 h0, smG_6 c4 b1]
            unfold bsM at hMN
            cases eo : bstS n s r4 r5 r12 W pr v with
            | none =>
              rw [eo] at hMN
              rw [if_pos hMN]
              refine take ?_
              rw [eo]
              trivial
            | some u =>
              rw [eo] at hMN
              obtain ⟨m1, m2, m3, m4⟩ := hMN
              have lbu := lsG_b s r12 pr (gv n r4 r5 W pr u) 6
              have sbu := smG_b (pr := pr) (g := gv n r4 r5 W pr u) (fun s => gtC_b b5 c2 s) 6
              have hbv : bttr (fun u => lsG s r12 pr (gv n r4 r5 W pr u) 6) (fun u => smG pr (gv n r4 r5 W pr u) 6) (bstS n s r4 r5 r12 W pr v) v ↔ (lsG s r12 pr (gv n r4 r5 W pr u) 6 < lsG s r12 pr (gv n r4 r5 W pr v) 6 ∨ (lsG s r12 pr (gv n r4 r5 W pr v) 6 = lsG s r12 pr (gv n r4 r5 W pr u) 6 ∧ smG pr (gv n r4 r5 W pr u) 6 < smG pr (gv n r4 r5 W pr v) 6)) := by
                rw [eo]
                exact Iff.rfl
              have sk : ¬ bttr (fun u => lsG s r12 pr (gv n r4 r5 W pr u) 6) (fun u => smG pr (gv n r4 r5 W pr u) 6) (bstS n s r4 r5 r12 W pr v) v → sm_wp X 283 28 [some (.ref 81), some (.int x1), some (.int (zI v + 1)), none, none, none] [] (sM mo G N J) Q := fun hno => skip N fIN hSN (by unfold bsM; rw [eo]; exact ⟨m1, m2, m3, m4⟩) (fun e => hno e.2)
              rw [if_neg (by rw [m1]; decide), m2, m3]
              by_cases q1 : lsG s r12 pr (gv n r4 r5 W pr v) 6 < lsG s r12 pr (gv n r4 r5 W pr u) 6
              · rw [if_pos (by rw [zI_lt (by omega) (by omega)]; exact q1)]
                exact sk (fun e => by have := hbv.mp e; omega)
              · rw [if_neg (by rw [zI_lt (by omega) (by omega)]; exact q1)]
                by_cases q2 : lsG s r12 pr (gv n r4 r5 W pr v) 6 = lsG s r12 pr (gv n r4 r5 W pr u) 6
                · rw [if_neg (fun e => e (by rw [q2]))]
                  by_cases q3 : smG pr (gv n r4 r5 W pr u) 6 < smG pr (gv n r4 r5 W pr v) 6
                  · rw [if_pos (by rw [zI_lt (by omega) (by omega)]; exact q3)]
                    exact take (hbv.mpr (Or.inr ⟨q2, q3⟩))
                  · rw [if_neg (by rw [zI_lt (by omega) (by omega)]; exact q3)]
                    exact sk (fun e => by have := hbv.mp e; omega)
                · rw [if_pos (by rw [zI_eq (by omega) (by omega)]; exact q2)]
                  exact take (hbv.mpr (Or.inl (by omega)))
          | succ d ih2 =>
            intro s hs
            have sm' : s < m := by omega
            have ps : vf_Model_isPresent N (zI s) ↔ bt pr s = true := by
              rw [mPres_vp j3 c4, zI_sIn (by omega) (by omega), zI_cn (by omega), j5]
              exact ⟨fun e => e.2, fun e => ⟨sm', e⟩⟩
            have ss : smG pr (gv n r4 r5 W pr v) (s + 1) = if bt pr s = true then smG pr (gv n r4 r5 W pr v) s + gv n r4 r5 W pr v s else smG pr (gv n r4 r5 W pr v) s := rfl
            have ls := lsM_s m r12 pr (gv n r4 r5 W pr v) s
            have lb' := lsM_b (m := m) (r12 := r12) (pr := pr) (g := gv n r4 r5 W pr v) s
            rw [lp_283_68, if_neg (by rw [j3, zI_le (by omega) (by omega)]; omega)]
            by_cases q1 : bt pr s = true
            · obtain ⟨w, hw, ew⟩ := b6 s
              have ebd : bdN m r12 s = w := by unfold bdN; rw [if_pos sm', ew, zI_cn (by omega)]
              have fr := hz s (by omega) q1
              have gs := gb s
              rw [if_pos q1] at ss ls
              rw [ebd] at fr ls
              rw [if_pos (ps.mpr q1), zI_vp (by omega), zI_cn (by omega), n128 s (by omega), g3, ew, zI_sub fr, zI_add, ← ss, show zI s + 1 = zI (s + 1) from zIr_add 1 s]
              refine ⟨by omega, ?_⟩
              by_cases q2 : lsM m r12 pr (gv n r4 r5 W pr v) s ≤ gv n r4 r5 W pr v s - w
              · rw [if_neg (by omega)] at ls
                rw [if_pos (by rw [zI_le (by omega) (by omega)]; exact q2), ← ls]
                exact ih2 (s + 1) (by omega)
              · rw [if_pos (by omega)] at ls
                rw [if_neg (by rw [zI_le (by omega) (by omega)]; exact q2), ← ls]
                exact ih2 (s + 1) (by omega)
            · rw [if_neg q1] at ss ls
              rw [if_neg (fun e => q1 (ps.mp e)), ← ss, ← ls, show zI s + 1 = zI (s + 1) from zIr_add 1 s]
              exact ih2 (s + 1) (by omega)
        exact loop m 0 (by omega)
      · rw [if_neg (fun e => e rfl)]
        exact skip N fIN hSN hMN (fun e => hz2 e.1.2.2)
    · rw [if_pos rfl]
      exact skip N fIN hSN hMN (fun e => hz e.1.2.1)
/-- finds -/
theorem ct_283 {n m : Nat} {pr : Int32} {r4 r5 r12 W : Nat → Int32} (hb : basM n m pr r4 r5 r12 W I)
    (hQ : ∀ L z, Fr I L → (z = 0 ∧ (8 < dK n r5 pr ∨ bstS n m r4 r5 r12 W pr (rws n r5 pr) = none) ∨ (dK n r5 pr ≤ 8 ∧ z = 1 ∧ bsM n m r4 r5 r12 W pr (bstS n m r4 r5 r12 W pr (rws n r5 pr)) 1 L ∧ ¬ bstS n m r4 r5 r12 W pr (rws n r5 pr) = none)) → Q (some (.int z)) (sM mo G L J)) :
    sm_wp X 283 0 [some (.ref 81), none, none, none, none, none] [] (sM mo G I J) Q := by
  have hb0 := hb
  obtain ⟨⟨c1, c2, c3, c4, c5⟩, b1, ⟨d1, d2, d3, d4⟩, b2, b3, b4, b5, b6⟩ := hb
  have d12 : dK n r5 pr ≤ 12 := Nat.le_trans (cN_le _ _) c2
  rw [lp_283_0]
  refine ct_275 (n := n) (m := m) c1 c2 c3 c4 (by rw [c5]; exact b1) (by rw [d2]; exact b3) (by rw [d2]; exact b4) (by rw [d1]; exact b2) (by rw [d4]; exact b5) ?_
  intro K fK hM
  rw [d1, d2, d4, c5] at hM
  have frK : Fr I K := Fr_M fK
  obtain ⟨⟨k1, k2, k3, k4, k5⟩, -, ⟨e1, e2, e3, e4⟩, -⟩ := basM_fr hb0 frK
  have sp : vf_Model_isSpent K ↔ 8 < dK n r5 pr := by
    unfold vf_Model_isSpent
    rw [hM.1]
    rw [zIr_le (c := 8) (by decide) (by omega)]
    show ¬ dK n r5 pr ≤ 8 ↔ _
    omega
  simp only [tl_none]
  rw [lp_283_4]
  by_cases g8 : 8 < dK n r5 pr
  · rw [if_pos (sp.mpr g8)]
    exact hQ K 0 frK (Or.inl ⟨rfl, Or.inl g8⟩)
  · rw [if_neg (fun e => g8 (sp.mp e)), k5]
    by_cases g0 : pr = 0
    · rw [if_neg (fun e => e g0)]
      refine hQ K 0 frK (Or.inl ⟨rfl, Or.inr ?_⟩)
      cases e : bstS n m r4 r5 r12 W pr (rws n r5 pr) with
      | none => rfl
      | some u => exact absurd g0 (bst_p e).2.1
    · rw [if_pos g0]
      refine ct_277 (I := K) (n := n) (m := m) k1 c2 k3 c4 (by rw [e4]; exact b5) ?_
      intro q130 hq
      rw [e1, e4, k5] at hq
      simp only [tl_none]
      rw [lp_283_24]
      have f130 : Fr I (rw2 K 130 q130) := Fr_w frK rfl (by decide) (by decide) (by decide) q130
      refine mf_l (by omega) g0 hb0 ?_ (rws n r5 pr) 0 (by omega) _ 0 f130 ⟨?_, by rw [rw2_a]; exact hq⟩ rfl
      · intro L z fL hL
        unfold bsM at hL
        cases e : bstS n m r4 r5 r12 W pr (rws n r5 pr) with
        | none =>
          rw [e] at hL
          have hL' : z = 0 := hL
          exact hQ L z fL (Or.inl ⟨hL', Or.inr e⟩)
        | some u =>
          rw [e] at hL
          refine hQ L z fL (Or.inr ⟨by omega, hL.1, ?_, by rw [e]; exact fun x => by cases x⟩)
          rw [e]
          exact ⟨rfl, hL.2⟩
      · rw [rw2_n _ _ _ _ (by decide), rw2_n _ _ _ _ (by decide), rw2_n _ _ _ _ (by decide), rw2_n _ _ _ _ (by decide), rw2_n _ _ _ _ (by decide), rw2_n _ _ _ _ (by decide)]
        exact hM
/-- what best answers -/
noncomputable def bstV (n m : Nat) (r4 r5 r12 W : Nat → Int32) (pr x : Int32) : Int32 := if 8 < dK n r5 pr then -1 else match bstS n m r4 r5 r12 W pr (rws n r5 pr) with
  | none => -1
  | some u => if x = 12 then zI (lsG m r12 pr (gv n r4 r5 W pr u) 6) else if x = 13 then zI (smG pr (gv n r4 r5 W pr u) 6) else if sIn x n then bsH n r4 r5 pr u x.toNatClampNeg else -1
theorem ct_282 {n m : Nat} {pr : Int32} {r4 r5 r12 W : Nat → Int32} (hb : basM n m pr r4 r5 r12 W I) {x : Int32} (hQ : ∀ L, Fr I L → Q (some (.int (bstV n m r4 r5 r12 W pr x))) (sM mo G L J)) :
    sm_wp X 282 0 [some (.ref 81), some (.int x)] [] (sM mo G I J) Q := by
  have c1 := hb.1.1
  have c2 := hb.1.2.1
  have lnd : vf_Model_isLand I x = sIn x n := mLand_vp c1 c2 x
  have n12 : ∀ x : Int32, sIn x n → ¬ (12 : Int32) ≤ x := by
    intro x h
    obtain ⟨k, hk, hk2, rfl⟩ := sIn_ex h
    rw [zIl_le (c := 12) (by decide) (by omega)]
    show ¬ 12 ≤ k
    omega
  -- no answer
  have no : ¬ x = 12 → ¬ x = 13 → ¬ sIn x n → Q (some (.int (-1))) (sM mo G I J) := by
    intro a1 a2 a3
    have q := hQ I (Fr_r I)
    unfold bstV at q
    by_cases g8 : 8 < dK n r5 pr
    · rw [if_pos g8] at q; exact q
    · rw [if_neg g8] at q
      cases e : bstS n m r4 r5 r12 W pr (rws n r5 pr) with
      | none => rw [e] at q; exact q
      | some u =>
        rw [e] at q
        simp only [if_neg a1, if_neg a2, if_neg a3] at q
        exact q
  have go : (x = 12 ∨ x = 13 ∨ sIn x n) → sm_wp X 283 0 [some (.ref 81), none, none, none, none, none] [] (sM mo G I J) (fun v M => sm_wp X 282 28 [some (.ref 81), some (.int x)] (v.toList ++ []) M Q) := by
    intro hx
    refine ct_283 hb (fun L z fL hz => ?_)
    simp only [tl_some]
    have q := hQ L fL
    unfold bstV at q
    rw [lp_282_28]
    rcases hz with ⟨rfl, hz⟩ | ⟨h8, rfl, hz, hne⟩
    · rw [if_neg (fun e => e rfl)]
      rcases hz with hz | hz
      · rw [if_pos hz] at q; exact q
      · rw [hz] at q
        rw [ite_self] at q
        exact q
    · rw [if_pos (by decide)]
      rw [if_neg (by omega)] at q
      cases e : bstS n m r4 r5 r12 W pr (rws n r5 pr) with
      | none => exact absurd e hne
      | some u =>
        rw [e] at q hz
        obtain ⟨-, z1, z2, z3⟩ := hz
        rcases hx with rfl | rfl | hx
        · rw [if_pos (by decide), if_neg (fun e => e rfl), z1]
          simp only [if_true] at q
          exact q
        · rw [if_pos (by decide), if_pos (by decide), z2]
          simp (decide := true) only [if_true, if_false] at q
          exact q
        · have nx := n12 x hx
          rw [if_neg nx]
          have a1 : ¬ x = 12 := fun e => nx (by rw [e]; decide)
          have a2 : ¬ x = 13 := fun e => nx (by rw [e]; decide)
          simp only [if_neg a1, if_neg a2, if_pos hx] at q
          obtain ⟨k, hk, hk2, rfl⟩ := sIn_ex hx
          rw [zI_cn hk2] at q ⊢
          rw [zI_vp hk2, z3 k hk]
          exact ⟨by omega, q⟩
  rw [lp_282_0]
  by_cases i13 : vf_Model_isIn x 0 13
  · rw [if_neg (fun e => e i13)]
    obtain ⟨j1, j2⟩ := i13
    by_cases g12 : (12 : Int32) ≤ x
    · rw [if_pos g12]
      refine go ?_
      obtain ⟨k, hk, rfl⟩ := zI_of j1
      rw [zIl_le (c := 12) (by decide) (by omega)] at g12
      rw [zIl_lt (c := 13) (by decide) (by omega)] at j2
      have g12' : 12 ≤ k := g12
      have j2' : ¬ 13 < k := j2
      rcases (by omega : k = 12 ∨ k = 13) with rfl | rfl
      · exact Or.inl rfl
      · exact Or.inr (Or.inl rfl)
    · rw [if_neg g12]
      by_cases gl : sIn x n
      · rw [if_neg (by rw [lnd]; exact fun e => e gl)]
        exact go (Or.inr (Or.inr gl))
      · rw [if_pos (by rw [lnd]; exact gl)]
        exact no (fun e => g12 (by rw [e]; decide)) (fun e => g12 (by rw [e]; decide)) gl
  · rw [if_pos i13]
    refine no (fun e => i13 (by rw [e]; exact ⟨by decide, by decide⟩)) (fun e => i13 (by rw [e]; exact ⟨by decide, by decide⟩)) (fun e => i13 ?_)
    refine ⟨e.1, fun e2 => n12 x e ?_⟩
    obtain ⟨k, hk, hk2, rfl⟩ := sIn_ex e
    rw [zIl_lt (c := 13) (by decide) (by omega)] at e2
    rw [zIl_le (c := 12) (by decide) (by omega)]
    have e2' : 13 < k := e2
    show 12 ≤ k
    omega
theorem cs_139 {n m : Nat} {pr : Int32} (hn : I 1 0 = zI n) (h12 : n ≤ 12) {x : Int32} (hr : srD n m (I 4) (I 5) (I 12) (I 13) pr (I 52) (I 53) (I 59) (J 52 16)) : sm_wp X 139 0 [some (.ref 52), some (.int x)] [] (sM mo G I J) Q = Q (some (.int (bstV n m (I 4) (I 5) (I 12) (I 13) pr x))) (sM mo G I J) := by
  obtain ⟨r1, r2, r3, r4, r5⟩ := hr
  have d12 : dK n (I 5) pr ≤ 12 := Nat.le_trans (cN_le _ _) h12
  rw [lp_139_0]
  unfold bstV
  by_cases g8 : 8 < dK n (I 5) pr
  · rw [if_pos g8, if_neg (fun e => e (r4 g8).2)]
  · rw [if_neg g8]
    have R := (r5 (by omega)).2.2.2.2
    unfold bsI at R
    cases e : bstS n m (I 4) (I 5) (I 12) (I 13) pr (rws n (I 5) pr) with
    | none =>
      rw [e] at R
      rw [if_neg (fun e => e R)]
    | some u =>
      rw [e] at R
      obtain ⟨R1, R2, R3⟩ := R
      have lb' := lsG_b m (I 12) pr (gv n (I 4) (I 5) (I 13) pr u) 6
      rw [if_pos (by rw [R1, zI_m1 (by omega)]; exact id)]
      by_cases a1 : x = 12
      · rw [if_neg (fun e => e a1), R1]
        simp only [if_pos a1]
      · rw [if_pos a1]
        simp only [if_neg a1]
        by_cases a2 : x = 13
        · rw [if_neg (fun e => e a2), R2]
          simp only [if_pos a2]
        · rw [if_pos a2]
          simp only [if_neg a2]
          rw [lp_140_0]
          have key : ∀ d k, k + d = dK n (I 5) pr → (∀ j, j < k → ¬ zI (dl n (I 5) pr j) = x) → sm_wp X 140 2 [some (.ref 52), some (.int x), some (.int (zI k))] [] (sM mo G I J) (fun v M => sm_wp X 139 39 [some (.ref 52), some (.int x)] (v.toList ++ []) M Q) = Q (some (.int (if sIn x n then bsH n (I 4) (I 5) pr u x.toNatClampNeg else -1))) (sM mo G I J) := by
            intro d
            induction d with
            | zero =>
              intro k hk hno
              have : k = dK n (I 5) pr := by omega
              subst this
              rw [lp_140_2, if_pos (by rw [r2, zI_le (by omega) (by omega)]; exact Nat.le_refl _)]
              simp only [tl_some]
              rw [lp_139_39]
              have ea : aLand I 4 (-1) x = if sIn x n then bsH n (I 4) (I 5) pr u x.toNatClampNeg else -1 := by
                unfold aLand
                have hl := hLand_vp hn h12 x
                by_cases g : sIn x n
                · rw [if_pos (by rw [hl]; exact g), if_pos g]
                  obtain ⟨l, hl2, hl3, rfl⟩ := sIn_ex g
                  rw [zI_cn hl3]
                  unfold bsH
                  rw [if_neg]
                  intro e
                  have c1 := cN_lt hl2 e
                  exact hno _ c1 (by rw [show dl n (I 5) pr (cN (stD (I 5) pr) l) = l from nt_c hl2 e])
                · rw [if_neg (by rw [hl]; exact g), if_neg g]
              rw [ea]
            | succ d ih =>
              intro k hk hno
              have kD : k < dK n (I 5) pr := by omega
              have np := nt_p (P := stD (I 5) pr) (n := n) kD
              have dn : dl n (I 5) pr k < n := np.2.1
              rw [lp_140_2, if_neg (by rw [r2, zI_le (by omega) (by omega)]; omega), if_neg (by rw [zIl_le (c := 8) (by decide) (by omega)]; show ¬ 8 ≤ k; omega), zI_vp (by omega), zI_cn (by omega), r3 k (by omega) kD, eq_true (by omega : k < 8), true_and, R3 k kD, show zI k + 1 = zI (k + 1) from zIr_add 1 k]
              by_cases g : zI (dl n (I 5) pr k) = x
              · rw [if_neg (fun e => e g)]
                simp only [tl_some]
                rw [lp_139_39, ← g, if_pos (by rw [zI_sIn (by omega) (by omega)]; exact dn), zI_cn (by omega)]
                unfold bsH
                rw [if_pos (show stD (I 5) pr (dl n (I 5) pr k) = true from np.1), show cN (stD (I 5) pr) (dl n (I 5) pr k) = k from np.2.2]
                rfl
              · rw [if_pos g]
                refine ih (k + 1) (by omega) (fun j hj => ?_)
                by_cases e2 : j = k
                · rw [e2]; exact g
                · exact hno j (by omega)
          exact key (dK n (I 5) pr) 0 (by omega) (fun j hj => absurd hj (Nat.not_lt_zero _))
theorem cw_139 {n m : Nat} {pr : Int32} (hn : I 1 0 = zI n) (h12 : n ≤ 12) {x : Int32} (hr : srD n m (I 4) (I 5) (I 12) (I 13) pr (I 60) (I 61) (I 67) (J 60 16)) : sm_wp X 139 0 [some (.ref 60), some (.int x)] [] (sM mo G I J) Q = Q (some (.int (bstV n m (I 4) (I 5) (I 12) (I 13) pr x))) (sM mo G I J) := by
  obtain ⟨r1, r2, r3, r4, r5⟩ := hr
  have d12 : dK n (I 5) pr ≤ 12 := Nat.le_trans (cN_le _ _) h12
  rw [lpw_139_0]
  unfold bstV
  by_cases g8 : 8 < dK n (I 5) pr
  · rw [if_pos g8, if_neg (fun e => e (r4 g8).2)]
  · rw [if_neg g8]
    have R := (r5 (by omega)).2.2.2.2
    unfold bsI at R
    cases e : bstS n m (I 4) (I 5) (I 12) (I 13) pr (rws n (I 5) pr) with
    | none =>
      rw [e] at R
      rw [if_neg (fun e => e R)]
    | some u =>
      rw [e] at R
      obtain ⟨R1, R2, R3⟩ := R
      have lb' := lsG_b m (I 12) pr (gv n (I 4) (I 5) (I 13) pr u) 6
      rw [if_pos (by rw [R1, zI_m1 (by omega)]; exact id)]
      by_cases a1 : x = 12
      · rw [if_neg (fun e => e a1), R1]
        simp only [if_pos a1]
      · rw [if_pos a1]
        simp only [if_neg a1]
        by_cases a2 : x = 13
        · rw [if_neg (fun e => e a2), R2]
          simp only [if_pos a2]
        · rw [if_pos a2]
          simp only [if_neg a2]
          rw [lpw_140_0]
          have key : ∀ d k, k + d = dK n (I 5) pr → (∀ j, j < k → ¬ zI (dl n (I 5) pr j) = x) → sm_wp X 140 2 [some (.ref 60), some (.int x), some (.int (zI k))] [] (sM mo G I J) (fun v M => sm_wp X 139 39 [some (.ref 60), some (.int x)] (v.toList ++ []) M Q) = Q (some (.int (if sIn x n then bsH n (I 4) (I 5) pr u x.toNatClampNeg else -1))) (sM mo G I J) := by
            intro d
            induction d with
            | zero =>
              intro k hk hno
              have : k = dK n (I 5) pr := by omega
              subst this
              rw [lpw_140_2, if_pos (by rw [r2, zI_le (by omega) (by omega)]; exact Nat.le_refl _)]
              simp only [tl_some]
              rw [lpw_139_39]
              have ea : aLand I 4 (-1) x = if sIn x n then bsH n (I 4) (I 5) pr u x.toNatClampNeg else -1 := by
                unfold aLand
                have hl := hLand_vp hn h12 x
                by_cases g : sIn x n
                · rw [if_pos (by rw [hl]; exact g), if_pos g]
                  obtain ⟨l, hl2, hl3, rfl⟩ := sIn_ex g
                  rw [zI_cn hl3]
                  unfold bsH
                  rw [if_neg]
                  intro e
                  have c1 := cN_lt hl2 e
                  exact hno _ c1 (by rw [show dl n (I 5) pr (cN (stD (I 5) pr) l) = l from nt_c hl2 e])
                · rw [if_neg (by rw [hl]; exact g), if_neg g]
              rw [ea]
            | succ d ih =>
              intro k hk hno
              have kD : k < dK n (I 5) pr := by omega
              have np := nt_p (P := stD (I 5) pr) (n := n) kD
              have dn : dl n (I 5) pr k < n := np.2.1
              rw [lpw_140_2, if_neg (by rw [r2, zI_le (by omega) (by omega)]; omega), if_neg (by rw [zIl_le (c := 8) (by decide) (by omega)]; show ¬ 8 ≤ k; omega), zI_vp (by omega), zI_cn (by omega), r3 k (by omega) kD, eq_true (by omega : k < 8), true_and, R3 k kD, show zI k + 1 = zI (k + 1) from zIr_add 1 k]
              by_cases g : zI (dl n (I 5) pr k) = x
              · rw [if_neg (fun e => e g)]
                simp only [tl_some]
                rw [lpw_139_39, ← g, if_pos (by rw [zI_sIn (by omega) (by omega)]; exact dn), zI_cn (by omega)]
                unfold bsH
                rw [if_pos (show stD (I 5) pr (dl n (I 5) pr k) = true from np.1), show cN (stD (I 5) pr) (dl n (I 5) pr k) = k from np.2.2]
                rfl
              · rw [if_pos g]
                refine ih (k + 1) (by omega) (fun j hj => ?_)
                by_cases e2 : j = k
                · rw [e2]; exact g
                · exact hno j (by omega)
          exact key (dK n (I 5) pr) 0 (by omega) (fun j hj => absurd hj (Nat.not_lt_zero _))
theorem bas_M {n m : Nat} (h : bas n m I) : basM n m (I 1 2) (I 4) (I 5) (I 12) (I 13) I := by
  obtain ⟨b1, b2, b3, b4, b5, ⟨c1, c2, c3, c4, c5, c6, c7⟩, b7, b8, b9, b10, b11⟩ := h
  exact ⟨⟨c1, b2, c2, b4, c3⟩, b5, ⟨c4, c5, c6, c7⟩, b7, b8, b9, b10, b11⟩
theorem op_best (h : inv c mo G I J) (hc : c ≤ 1000) (x : Int32) : Agr X 190 [some (.ref 0), some (.int x)] 281 [some (.ref 81), some (.int x)] (sM mo G I J) (Inv (c + 1)) := by
  obtain ⟨n, m, hb⟩ := inv_bas h
  unfold Agr
  rw [lp_190_0]
  refine c_52 h hc hb (fun mo' K J' hK bK k4 k5 k12 k13 k1 hr => ?_)
  simp only [tl_none]
  rw [← k4, ← k5, ← k12, ← k13, ← k1] at hr
  rw [lp_190_14, cs_139 bK.1 bK.2.1 hr]
  simp only [tl_some]
  rw [lp_190_22, lp_281_0]
  have f0 : Fr K (up2 K 81 2 0) := Fr_m (Fr_r K) rfl 0
  refine ct_282 (basM_fr (bas_M bK) f0) (fun L fL => ?_)
  simp only [tl_some]
  rw [lp_281_10]
  exact ⟨rfl, inv_fr hK (Fr_t f0 fL) rfl rfl⟩
theorem op_without (h : inv c mo G I J) (hc : c ≤ 1000) (y x : Int32) : Agr X 191 [some (.ref 0), some (.int y), some (.int x)] 284 [some (.ref 81), some (.int y), some (.int x), none] (sM mo G I J) (Inv (c + 1)) := by
  obtain ⟨n, m, hb⟩ := inv_bas h
  unfold Agr
  rw [lp_191_0]
  have hp : hPres I y = (sIn y m ∧ bt (I 1 2) y.toNatClampNeg = true) := hPres_vp hb.2.2.1 hb.2.2.2.1 y
  have mp : ∀ K, bas n m K → vf_Model_isPresent (up2 K 81 2 0) y = (sIn y m ∧ bt (K 1 2) y.toNatClampNeg = true) := fun K bK => by rw [mP0 bK.2.2.2.2.2.1.2.1 bK.2.2.2.1, bK.2.2.2.2.2.1.2.2.1]
  by_cases g : sIn y m ∧ bt (I 1 2) y.toNatClampNeg = true
  · rw [if_pos (by rw [hp]; exact g)]
    obtain ⟨s, hs, hs2, rfl⟩ := sIn_ex g.1
    have gb := g.2
    rw [zI_cn hs2] at gb
    have s6 : s < 6 := by have := hb.2.2.2.1; omega
    have pe : I 1 2 &&& ((1 : Int32) <<< (zI s &&& 31) ^^^ (-1)) = I 1 2 ^^^ b1 s := by
      show I 1 2 &&& (b1 s ^^^ (-1)) = _
      apply bt_ext
      intro k hk
      rw [bt_and, bt_xor, bt_xor, bt_m1 hk, bt_b1 s k (by omega) hk, Bool.xor_true]
      by_cases e : k = s
      · subst e; rw [decide_eq_true rfl, gb]; rfl
      · rw [decide_eq_false e]; cases bt (I 1 2) k <;> rfl
    rw [pe]
    have pb : ∀ k, m ≤ k → bt (I 1 2 ^^^ b1 s) k = false := by
      intro k hk
      by_cases k32 : k < 32
      · rw [bt_xor, hb.2.2.2.2.1 k hk, bt_b1 s k (by omega) k32, decide_eq_false (by omega)]; rfl
      · exact bt_big _ _ (by omega)
    refine c_60 h hc hb pb (fun mo' K J' hK bK k4 k5 k12 k13 k1 hr => ?_)
    simp only [tl_none]
    rw [← k4, ← k5, ← k12, ← k13] at hr
    rw [lp_191_33, cw_139 bK.1 bK.2.1 hr]
    simp only [tl_some]
    rw [lp_191_41, lp_284_0, if_pos (by rw [mp K bK, k1]; exact g)]
    have e15 : K 81 15 = I 1 2 := by rw [bK.2.2.2.2.2.1.2.2.1, k1]
    rw [e15, show I 1 2 ^^^ ((1 : Int32) <<< (zI s &&& 31)) = I 1 2 ^^^ b1 s from rfl]
    have bM : basM n m (I 1 2 ^^^ b1 s) (K 4) (K 5) (K 12) (K 13) (up2 (up2 K 81 2 0) 81 15 (I 1 2 ^^^ b1 s)) := by
      obtain ⟨⟨a1, a2, a3, a4, a5⟩, a6, ⟨a7, a8, a9, a10⟩, a11⟩ := bas_M bK
      unfold basM
      simp (decide := true) only [up2_ra, up2_rn, va_ap, ne_eq, if_false, if_true, not_false_eq_true]
      exact ⟨⟨a1, a2, a3, a4, trivial⟩, pb, ⟨a7, a8, a9, a10⟩, a11⟩
    refine ct_282 bM (fun L fL => ?_)
    simp only [tl_some]
    rw [lp_284_32]
    refine ⟨rfl, inv_fr hK ⟨fun c hc => ?_, ?_, ?_, ?_, fun j hj => ?_⟩ rfl rfl⟩
    · have : c ≠ 81 := fun e => by rw [e] at hc; cases hc
      rw [up2_rn _ _ _ _ _ this, fL.1 c hc, up2_rn _ _ _ _ _ this, up2_rn _ _ _ _ _ this]
    · rw [up2_rn _ _ _ _ _ (by decide), fL.2.1, up2_rn _ _ _ _ _ (by decide), up2_rn _ _ _ _ _ (by decide)]
    · rw [up2_rn _ _ _ _ _ (by decide), fL.2.2.1, up2_rn _ _ _ _ _ (by decide), up2_rn _ _ _ _ _ (by decide)]
    · rw [up2_rn _ _ _ _ _ (by decide), fL.2.2.2.1, up2_rn _ _ _ _ _ (by decide), up2_rn _ _ _ _ _ (by decide)]
    · rw [up2_ra, va_ap]
      have l15 : L 81 15 = I 1 2 ^^^ b1 s := by rw [fL.2.2.2.2 15 rfl]; simp (decide := true) only [up2_ra, up2_rn, va_ap, ne_eq, if_false, if_true, not_false_eq_true]
      by_cases e : j = 15
      · rw [if_pos e, l15, e, e15, show (1 : Int32) <<< (zI s &&& 31) = b1 s from rfl, Int32.xor_assoc, Int32.xor_self, Int32.xor_zero]
      · rw [if_neg e, fL.2.2.2.2 j hj, up2_ra, va_ap, if_neg e, up2_ra, va_ap, if_neg (fun e => by rw [e] at hj; cases hj)]
  · rw [if_neg (by rw [hp]; exact g), lp_284_0, if_neg (by rw [mp I hb]; exact g)]
    exact ⟨rfl, inv_t 0 h⟩
end V2
