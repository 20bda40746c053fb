/-! Calls on settlements: what they rest on; settle. -/
def bas (n m : Nat) (I : Nat → Nat → Int32) : Prop := I 1 0 = zI n ∧ n ≤ 12 ∧ I 1 1 = zI m ∧ m ≤ 6 ∧ (∀ k, m ≤ k → bt (I 1 2) k = false) ∧ (I 81 3 = zI n ∧ I 81 10 = zI m ∧ I 81 15 = I 1 2 ∧ I 85 = I 4 ∧ I 86 = I 5 ∧ I 92 = I 12 ∧ I 91 = I 13) ∧
  (∀ l, l < n → I 4 l = -1 ∨ ∃ s, s < m ∧ I 4 l = zI s) ∧ (∀ l k, 6 ≤ k → bt (I 5 l) k = false) ∧ (∀ l, pc6 (I 5 l) ≤ 3) ∧ okW (I 13) ∧ ∀ j, ∃ w, w ≤ 999 ∧ I 12 j = zI w
theorem inv_bas {c : Nat} {mo : Bool} {G : Nat × Nat} {I : Nat → Nat → Int32} {J : Nat → Nat → Int64} (h : inv c mo G I J) : ∃ n m, bas n m I := by
  obtain ⟨n, m, t, p, q, r, ch, ln, hN, hE, hV, -⟩ := h
  obtain ⟨a1, a2, a3, a4, a5, a6, a7, a8, -⟩ := hN
  obtain ⟨b1, b2, b3, b4, b5, b6, b7, b8⟩ := hE
  obtain ⟨v1, v2, v3, v4, v5, v6, v7, v8, v9⟩ := hV
  exact ⟨n, m, a1, a3, a4, a6, a8, ⟨a2, a5, a7, b2, b3, b7, b8⟩, v1, fun l k hk => v2 l k (by omega), v3, v9, v8⟩
theorem bas_fr {n m : Nat} {I K : Nat → Nat → Int32} (h : bas n m I) (f : Fr I K) : bas n m K := by
  obtain ⟨f1, f2, f3, f4, f5⟩ := f
  unfold bas
  simp (decide := true) only [f1, f5]
  exact h
theorem bas_x {n m lo hi : Nat} {I K : Nat → Nat → Int32} (h : bas n m I) (f : FrX I K lo hi) (hl : 48 ≤ lo) (hh : hi ≤ 67) : bas n m K := by
  have e : ∀ c, c < 48 ∨ (67 < c ∧ c < 143) → K c = I c := fun c hc => f.1 c (by omega) (by omega) (by omega) (by omega) (by omega)
  unfold bas
  rw [e 1 (by decide), e 81 (by decide), e 85 (by decide), e 86 (by decide), e 91 (by decide), e 92 (by decide), e 4 (by decide), e 5 (by decide), e 12 (by decide), e 13 (by decide)]
  exact h
theorem Fr_M {I K : Nat → Nat → Int32} (f : FrM I K) : Fr I K := by
  refine ⟨fun c hc => f.1 c (fun e => by rw [e] at hc; cases hc) ?_, by rw [f.1 14 (by decide) (by decide)], by rw [f.1 16 (by decide) (by decide)], by rw [f.1 16 (by decide) (by decide)], fun j hj => f.2 j (fun e => by rw [e] at hj; cases hj) (fun e => by rw [e] at hj; cases hj)⟩
  rcases Nat.lt_or_ge c 123 with g | g
  · exact Or.inl g
  · rcases Nat.lt_or_ge 127 c with g2 | g2
    · exact Or.inr g2
    · exfalso
      rcases (by omega : c = 123 ∨ c = 124 ∨ c = 125 ∨ c = 126 ∨ c = 127) with rfl | rfl | rfl | rfl | rfl <;> cases hc
theorem Fr_R {I K : Nat → Nat → Int32} (f : FrR I K) : Fr I K := ⟨fun c hc => f c (fun e => by rw [e] at hc; cases hc) (fun e => by rw [e] at hc; cases hc), by rw [f 14 (by decide) (by decide)], by rw [f 16 (by decide) (by decide)], by rw [f 16 (by decide) (by decide)], fun j _ => by rw [f 81 (by decide) (by decide)]⟩
def sx52 (c : Nat) : Bool := (decide (48 ≤ c) && decide (c ≤ 59)) || decide (143 ≤ c)
def sx60 (c : Nat) : Bool := (decide (48 ≤ c) && decide (c ≤ 50)) || (decide (60 ≤ c) && decide (c ≤ 67)) || decide (143 ≤ c)
theorem inv_x52 {c : Nat} {mo mo' : Bool} {G : Nat × Nat} {I K : Nat → Nat → Int32} {J J' : Nat → Nat → Int64} {n m : Nat} (e : ∀ c, sx52 c = false → K c = I c) (eJ : J' 60 = J 60) (h : inv c mo G I J) (hc : c ≤ 1000) (hb : bas n m I)
    (hC0 : ∀ ch, ch < 100000000 → I 1 4 = zI ch → ivC ch n m (I 1 2) (I 4) (I 5) (I 12) (I 13) mo (I 48) (I 49) (I 50) (I 143) (I 68) (I 69) (I 70) → ivC ch n m (I 1 2) (I 4) (I 5) (I 12) (I 13) mo' (K 48) (K 49) (K 50) (K 143) (I 68) (I 69) (I 70))
    (hD0 : ∀ ch, ch < 100000000 → I 1 4 = zI ch → ivD true ch n m (I 1 2) (I 4) (I 5) (I 12) (I 13) (K 52) (K 53) (K 54) (K 55) (K 56) (K 57) (K 58) (K 59) (J' 52)) : inv c mo' G K J' := by
  obtain ⟨n', m', t', p', q', r', ch', ln', hN', hE, hV, hY, hG, hK, hP, hS, hA, hT, hF, hB, hC', hD', hD2, hX, hZ⟩ := h
  have en : n = n' := by
    have := hb.1.symm.trans hN'.1
    rw [zI_eq (by have := hb.2.1; omega) (by have := hN'.2.2.1; omega)] at this
    exact this
  have em : m = m' := by
    have := hb.2.2.1.symm.trans hN'.2.2.2.1
    rw [zI_eq (by have := hb.2.2.2.1; omega) (by have := hN'.2.2.2.2.2.1; omega)] at this
    exact this
  subst en; subst em
  have t3 := hN'.2.2.2.2.2.2.2.2.2.2
  have cb : ch' < 100000000 := by have := hK.2; omega
  refine ⟨n, m, t', p', q', r', ch', ln', ?_⟩
  simp (decide := true) only [e, eJ]
  exact ⟨hN', hE, hV, hY, hG, hK, hP, hS, hA, hT, hF, hB, hC0 ch' cb hK.1 hC', hD0 ch' cb hK.1, hD2, hX, hZ⟩
theorem inv_x60 {c : Nat} {mo mo' : Bool} {G : Nat × Nat} {I K : Nat → Nat → Int32} {J J' : Nat → Nat → Int64} {n m : Nat} (e : ∀ c, sx60 c = false → K c = I c) (eJ : J' 52 = J 52) (h : inv c mo G I J) (hc : c ≤ 1000) (hb : bas n m I)
    (hC0 : ∀ ch, ch < 100000000 → I 1 4 = zI ch → ivC ch n m (I 1 2) (I 4) (I 5) (I 12) (I 13) mo (I 48) (I 49) (I 50) (I 143) (I 68) (I 69) (I 70) → ivC ch n m (I 1 2) (I 4) (I 5) (I 12) (I 13) mo' (K 48) (K 49) (K 50) (K 143) (I 68) (I 69) (I 70))
    (hD0 : ∀ ch, ch < 100000000 → I 1 4 = zI ch → ivD false ch n m (I 1 2) (I 4) (I 5) (I 12) (I 13) (K 60) (K 61) (K 62) (K 63) (K 64) (K 65) (K 66) (K 67) (J' 60)) : inv c mo' G K J' := by
  obtain ⟨n', m', t', p', q', r', ch', ln', hN', hE, hV, hY, hG, hK, hP, hS, hA, hT, hF, hB, hC', hD', hD2, hX, hZ⟩ := h
  have en : n = n' := by
    have := hb.1.symm.trans hN'.1
    rw [zI_eq (by have := hb.2.1; omega) (by have := hN'.2.2.1; omega)] at this
    exact this
  have em : m = m' := by
    have := hb.2.2.1.symm.trans hN'.2.2.2.1
    rw [zI_eq (by have := hb.2.2.2.1; omega) (by have := hN'.2.2.2.2.2.1; omega)] at this
    exact this
  subst en; subst em
  have t3 := hN'.2.2.2.2.2.2.2.2.2.2
  have cb : ch' < 100000000 := by have := hK.2; omega
  refine ⟨n, m, t', p', q', r', ch', ln', ?_⟩
  simp (decide := true) only [e, eJ]
  exact ⟨hN', hE, hV, hY, hG, hK, hP, hS, hA, hT, hF, hB, hC0 ch' cb hK.1 hC', hD', hD0 ch' cb hK.1, hX, hZ⟩
section V1
variable {X : (Nat → Int32) × Nat} {mo : Bool} {G : Nat × Nat} {I : Nat → Nat → Int32} {J : Nat → Nat → Int64} {Q : Option Value → sm_M → Prop} {c : Nat}
theorem inv_sh {n m : Nat} (h : inv c mo G I J) (hc : c ≤ 1000) (hb : bas n m I) : shOK mo I n m := by
  obtain ⟨n', m', t, p, q, r, ch, ln, hN, hE, hV, hY, hG, hK, hP, hS, hA, hT, hF, hB, hC, hD, hD2, hX, hZ⟩ := h
  have en : n = n' := by
    have := hb.1.symm.trans hN.1
    rw [zI_eq (by have := hb.2.1; omega) (by have := hN.2.2.1; omega)] at this
    exact this
  have em : m = m' := by
    have := hb.2.2.1.symm.trans hN.2.2.2.1
    rw [zI_eq (by have := hb.2.2.2.1; omega) (by have := hN.2.2.2.2.2.1; omega)] at this
    exact this
  subst en; subst em
  intro e
  have t3 := hN.2.2.2.2.2.2.2.2.2.2
  exact hC.2.2.1 (by have := hK.2; omega) (by rw [e, hK.1])
theorem c_52 {n m : Nat} (h : inv c mo G I J) (hc : c ≤ 1000) (hb : bas n m I) 
    (hQ : ∀ mo' K J', inv c mo' G K J' → bas n m K → K 4 = I 4 → K 5 = I 5 → K 12 = I 12 → K 13 = I 13 → K 1 = I 1 → srD n m (I 4) (I 5) (I 12) (I 13) (I 1 2) (K 52) (K 53) (K 59) (J' 52 16) → Q none (sM mo' G K J')) :
    sm_wp X 128 0 [some (.ref 52), some (.int (I 1 2)), none, none] [] (sM mo G I J) Q := by
  have hsh := inv_sh h hc hb
  have h0 := h
  obtain ⟨n', m', t, p, q, r, ch, ln, hN, hE, hV, hY, hG, hK, hP, hS, hA, hT, hF, hB, hC, hD, hD2, hX, hZ⟩ := h
  have en : n = n' := by
    have := hb.1.symm.trans hN.1
    rw [zI_eq (by have := hb.2.1; omega) (by have := hN.2.2.1; omega)] at this
    exact this
  have em : m = m' := by
    have := hb.2.2.1.symm.trans hN.2.2.2.1
    rw [zI_eq (by have := hb.2.2.2.1; omega) (by have := hN.2.2.2.2.2.1; omega)] at this
    exact this
  subst en; subst em
  have t3 := hN.2.2.2.2.2.2.2.2.2.2
  have cb : ch < 100000000 := by have := hK.2; omega
  have hb0 := hb
  obtain ⟨b1, b2, b3, b4, b5, -, b7, b8, b9, b10, b11⟩ := hb
  refine cs_128 (n := n) (m := m) b1 b2 b3 b4 b5 b8 b9 b10 b11 hsh (fun e1 e2 => ?_) ?_
  · have q := hD.2.1 cb (by rw [e2, hK.1])
    rw [e1] at q
    exact q
  · intro mo' K J' f fJ hs k3 k4 hr
    have e : ∀ c, sx52 c = false → K c = I c := fun c hc => by
      unfold sx52 at hc
      simp only [Bool.or_eq_false_iff, Bool.and_eq_false_iff, decide_eq_false_iff_not] at hc
      exact f.1 c (by omega) (by omega) (by omega) (by omega) (by omega)
    unfold shOK at hs
    rw [e 1 rfl, e 4 rfl, e 13 rfl] at hs
    refine hQ mo' K J' ?_ (bas_x hb0 f (by decide) (by decide)) (e 4 rfl) (e 5 rfl) (e 12 rfl) (e 13 rfl) (e 1 rfl) hr
    refine inv_x52 e (fJ 60 (by decide)) h0 hc hb0 (fun ch' cb' hk hC' => ⟨?_, hC'.2.1, fun _ e1 => hs (by rw [hk]; exact e1), hC'.2.2.2⟩) (fun ch' cb' hk => ⟨Or.inr ⟨ch', Nat.le_refl _, k4.trans hk⟩, fun _ _ => by rw [k3]; exact hr, fun _ _ _ => k3⟩)
    rcases f.2 with e1 | e1
    · rw [e1]; exact hC'.1
    · rw [e1]; exact Or.inr ⟨ch', Nat.le_refl _, hk⟩
theorem c_60 {n m : Nat} {pr : Int32} (h : inv c mo G I J) (hc : c ≤ 1000) (hb : bas n m I) (hpr : ∀ k, m ≤ k → bt pr k = false)
    (hQ : ∀ mo' K J', inv c mo' G K J' → bas n m K → K 4 = I 4 → K 5 = I 5 → K 12 = I 12 → K 13 = I 13 → K 1 = I 1 → srD n m (I 4) (I 5) (I 12) (I 13) pr (K 60) (K 61) (K 67) (J' 60 16) → Q none (sM mo' G K J')) :
    sm_wp X 128 0 [some (.ref 60), some (.int pr), none, none] [] (sM mo G I J) Q := by
  have hsh := inv_sh h hc hb
  have h0 := h
  obtain ⟨n', m', t, p, q, r, ch, ln, hN, hE, hV, hY, hG, hK, hP, hS, hA, hT, hF, hB, hC, hD, hD2, hX, hZ⟩ := h
  have en : n = n' := by
    have := hb.1.symm.trans hN.1
    rw [zI_eq (by have := hb.2.1; omega) (by have := hN.2.2.1; omega)] at this
    exact this
  have em : m = m' := by
    have := hb.2.2.1.symm.trans hN.2.2.2.1
    rw [zI_eq (by have := hb.2.2.2.1; omega) (by have := hN.2.2.2.2.2.1; omega)] at this
    exact this
  subst en; subst em
  have t3 := hN.2.2.2.2.2.2.2.2.2.2
  have cb : ch < 100000000 := by have := hK.2; omega
  have hb0 := hb
  obtain ⟨b1, b2, b3, b4, b5, -, b7, b8, b9, b10, b11⟩ := hb
  refine cw_128 (n := n) (m := m) b1 b2 b3 b4 hpr b8 b9 b10 b11 hsh (fun e1 e2 => ?_) ?_
  · have q := hD2.2.1 cb (by rw [e2, hK.1])
    rw [e1] at q
    exact q
  · intro mo' K J' f fJ hs k3 k4 hr
    have e : ∀ c, sx60 c = false → K c = I c := fun c hc => by
      unfold sx60 at hc
      simp only [Bool.or_eq_false_iff, Bool.and_eq_false_iff, decide_eq_false_iff_not] at hc
      exact f.1 c (by omega) (by omega) (by omega) (by omega) (by omega)
    unfold shOK at hs
    rw [e 1 rfl, e 4 rfl, e 13 rfl] at hs
    refine hQ mo' K J' ?_ (bas_x hb0 f (by decide) (by decide)) (e 4 rfl) (e 5 rfl) (e 12 rfl) (e 13 rfl) (e 1 rfl) hr
    refine inv_x60 e (fJ 52 (by decide)) h0 hc hb0 (fun ch' cb' hk hC' => ⟨?_, hC'.2.1, fun _ e1 => hs (by rw [hk]; exact e1), hC'.2.2.2⟩) (fun ch' cb' hk => ⟨Or.inr ⟨ch', Nat.le_refl _, k4.trans hk⟩, fun _ _ => by rw [k3]; exact hr, fun _ w => by cases w⟩)
    rcases f.2 with e1 | e1
    · rw [e1]; exact hC'.1
    · rw [e1]; exact Or.inr ⟨ch', Nat.le_refl _, hk⟩
/-- what settle answers -/
noncomputable def setV (n m : Nat) (r4 r5 r12 W : Nat → Int32) (pr x : Int32) : Int32 := if x = 0 then zI (dK n r5 pr) else if 8 < dK n r5 pr then -1 else if x = 1 then zI (rws n r5 pr) else if x = 2 then zI (nFr n m r4 r5 r12 W pr (rws n r5 pr)) else zI (nSt n m r4 r5 r12 W pr (rws n r5 pr))
theorem ct_112 {n : Nat} {pr : Int32} (hn : I 1 0 = zI n) (h12 : n ≤ 12) (h6 : ∀ l k, 6 ≤ k → bt (I 5 l) k = false) : sm_wp X 112 0 [some (.ref 1), some (.int pr), none, none] [] (sM mo G I J) Q = Q (some (.int (zI (dK n (I 5) pr)))) (sM mo G I J) := by
  have key : ∀ d l, l + d = n → sm_wp X 112 4 [some (.ref 1), some (.int pr), some (.int (zI (cN (stD (I 5) pr) l))), some (.int (zI l))] [] (sM mo G I J) Q = Q (some (.int (zI (dK n (I 5) pr)))) (sM mo G I J) := by
    intro d
    induction d with
    | zero =>
      intro l hl
      have : l = n := by omega
      subst this
      rw [lp_112_4, if_pos (by rw [hn, zI_le (by omega) (by omega)]; exact Nat.le_refl _)]
      rfl
    | succ d ih =>
      intro l hl
      have de := (dsp_e (I := I) (pr := pr) hn h12 (show l < n by omega) h6).1
      rw [lp_112_4, if_neg (by rw [hn, zI_le (by omega) (by omega)]; omega), show zI l + 1 = zI (l + 1) from zIr_add 1 l]
      by_cases g : stD (I 5) pr l = true
      · rw [if_neg (fun e => e (de.mpr g)), show zI (cN (stD (I 5) pr) l) + 1 = zI (cN (stD (I 5) pr) (l + 1)) from by rw [cN_p g]; exact zIr_add 1 _]
        exact ih (l + 1) (by omega)
      · rw [if_pos (fun e => g (de.mp e))]
        have q := ih (l + 1) (by omega)
        rw [cN_q g] at q
        exact q
  rw [lp_112_0]
  exact key n 0 (by omega)
theorem h_settle {n m : Nat} (h : inv c mo G I J) (hc : c ≤ 1000) (hb : bas n m I) {x : Int32} (h0 : ¬ x < 0) (h3 : x ≤ 3)
    (hQ : ∀ mo' K J', inv c mo' G K J' → bas n m K → K 4 = I 4 → K 5 = I 5 → K 12 = I 12 → K 13 = I 13 → K 1 = I 1 → Q (some (.int (setV n m (I 4) (I 5) (I 12) (I 13) (I 1 2) x))) (sM mo' G K J')) :
    sm_wp X 189 0 [some (.ref 0), some (.int x)] [] (sM mo G I J) Q := by
  have d12 : dK n (I 5) (I 1 2) ≤ 12 := Nat.le_trans (cN_le _ _) hb.2.1
  rw [lp_189_0, if_neg h0, if_pos h3]
  by_cases g0 : x = 0
  · rw [if_neg (fun e => e g0), ct_112 hb.1 hb.2.1 hb.2.2.2.2.2.2.2.1]
    simp only [tl_some]
    rw [lp_189_29]
    have q := hQ mo I J h hb rfl rfl rfl rfl rfl
    unfold setV at q
    rw [if_pos g0] at q
    exact q
  · rw [if_pos g0]
    refine c_52 h hc hb (fun mo' K J' hK bK k4 k5 k12 k13 k1 hr => ?_)
    simp only [tl_none]
    have q := hQ mo' K J' hK bK k4 k5 k12 k13 k1
    unfold setV at q
    rw [if_neg g0] at q
    rw [lp_189_44, lp_138_0, lp_131_0, hr.2.1]
    by_cases g8 : dK n (I 5) (I 1 2) ≤ 8
    · have r := hr.2.2.2.2 g8
      rw [if_neg (by omega)] at q
      rw [if_pos (by rw [zIr_le (c := 8) (by decide) (by omega)]; exact g8)]
      simp only [tl_some]
      rw [lp_138_4, if_pos rfl]
      by_cases g1 : x = 1
      · rw [if_pos g1] at q ⊢
        simp only [tl_some]
        rw [lp_189_52, r.1]
        exact q
      · rw [if_neg g1] at q ⊢
        by_cases g2 : x = 2
        · rw [if_pos g2] at q ⊢
          simp only [tl_some]
          rw [lp_189_52, r.2.1]
          exact q
        · rw [if_neg g2] at q ⊢
          have g3 : x = 3 := by
            obtain ⟨k, hk, rfl⟩ := zI_of h0
            rw [zIr_le (c := 3) (by decide) (by omega)] at h3
            rw [zIr_eq (c := 0) (by decide) (by omega)] at g0
            rw [zIr_eq (c := 1) (by decide) (by omega)] at g1
            rw [zIr_eq (c := 2) (by decide) (by omega)] at g2
            have h3' : k ≤ 3 := h3
            have g0' : ¬ k = 0 := g0
            have g1' : ¬ k = 1 := g1
            have g2' : ¬ k = 2 := g2
            have : k = 3 := by omega
            rw [this]; rfl
          rw [if_pos g3]
          simp only [tl_some]
          rw [lp_189_52, r.2.2.1]
          exact q
    · rw [if_pos (by omega)] at q
      rw [if_neg (by rw [zIr_le (c := 8) (by decide) (by omega)]; exact g8)]
      simp only [tl_some]
      rw [lp_138_4, if_neg (by decide)]
      simp only [tl_some]
      rw [lp_189_52]
      exact q
theorem m_settle {n m : Nat} (hb : bas n m I) {x : Int32} (h0 : ¬ x < 0) (h3 : x ≤ 3) (hQ : ∀ K, Fr I K → Q (some (.int (setV n m (I 4) (I 5) (I 12) (I 13) (I 1 2) x))) (sM mo G K J)) :
    sm_wp X 274 0 [some (.ref 81), some (.int x), none, none] [] (sM mo G I J) Q := by
  have fT : Fr I (up2 I 81 2 0) := Fr_m (Fr_r I) rfl 0
  have bT := bas_fr hb fT
  obtain ⟨b1, b2, b3, b4, b5, ⟨c1, c2, c3, c4, c5, c6, c7⟩, b7, b8, b9, b10, b11⟩ := hb
  have d12 : dK n (I 5) (I 1 2) ≤ 12 := Nat.le_trans (cN_le _ _) b2
  have t85 : up2 I 81 2 0 85 = I 4 := by rw [up2_rn _ _ _ _ _ (by decide)]; exact c4
  have t86 : up2 I 81 2 0 86 = I 5 := by rw [up2_rn _ _ _ _ _ (by decide)]; exact c5
  have t91 : up2 I 81 2 0 91 = I 13 := by rw [up2_rn _ _ _ _ _ (by decide)]; exact c7
  have t92 : up2 I 81 2 0 92 = I 12 := by rw [up2_rn _ _ _ _ _ (by decide)]; exact c6
  have t15 : up2 I 81 2 0 81 15 = I 1 2 := by rw [up2_ra, va_ap, if_neg (by decide)]; exact c3
  have t3 : up2 I 81 2 0 81 3 = zI n := by rw [up2_ra, va_ap, if_neg (by decide)]; exact c1
  have t10 : up2 I 81 2 0 81 10 = zI m := by rw [up2_ra, va_ap, if_neg (by decide)]; exact c2
  rw [lp_274_0, if_pos (by
    unfold vf_Model_isIn
    exact ⟨h0, Int32.not_lt.mpr h3⟩)]
  refine ct_275 (n := n) (m := m) t3 b2 t10 b4 (by rw [t15]; exact b5) (by rw [t86]; exact b8) (by rw [t86]; exact b9) (by rw [t85]; exact b7) (by rw [t91]; exact b10) ?_
  intro K fK hM
  rw [t85, t86, t91, t15] at hM
  have frK : Fr I K := Fr_t fT (Fr_M fK)
  have k15 : K 81 15 = I 1 2 := (fK.2 15 (by decide) (by decide)).trans t15
  have k10 : K 81 10 = zI m := (fK.2 10 (by decide) (by decide)).trans t10
  have k3 : K 81 3 = zI n := (fK.2 3 (by decide) (by decide)).trans t3
  have k85 : K 85 = I 4 := (fK.1 85 (by decide) (by decide)).trans t85
  have k91 : K 91 = I 13 := (fK.1 91 (by decide) (by decide)).trans t91
  have k92 : K 92 = I 12 := (fK.1 92 (by decide) (by decide)).trans t92
  simp only [tl_none]
  rw [lp_274_20]
  by_cases g0 : x = 0
  · rw [if_neg (fun e => e g0), hM.1]
    have q := hQ K frK
    unfold setV at q
    rw [if_pos g0] at q
    exact q
  · rw [if_pos g0]
    have sp : vf_Model_isSpent K ↔ 8 < dK n (I 5) (I 1 2) := by
      unfold vf_Model_isSpent
      rw [hM.1]
      rw [zIr_le (c := 8) (by decide) (by omega)]
      show ¬ dK n (I 5) (I 1 2) ≤ 8 ↔ _
      omega
    by_cases g8 : 8 < dK n (I 5) (I 1 2)
    · rw [if_neg (fun e => e (sp.mpr g8))]
      have q := hQ K frK
      unfold setV at q
      rw [if_neg g0, if_pos g8] at q
      exact q
    · rw [if_pos (fun e => g8 (sp.mp e))]
      have h8 : dK n (I 5) (I 1 2) ≤ 8 := by omega
      have rb := rws_b (n := n) (pr := I 1 2) b9 h8
      have e69 := hM.2.2.2.1 h8
      by_cases g1 : x = 1
      · rw [if_neg (fun e => e g1), e69]
        have q := hQ K frK
        unfold setV at q
        rw [if_neg g0, if_neg g8, if_pos g1] at q
        exact q
      · rw [if_pos g1]
        -- the loop over all rows
        have loop : ∀ (P : Nat → Bool), (∀ v, P v = if x = 2 then pB (frC m (I 12) (I 1 2) (gv n (I 4) (I 5) (I 13) (I 1 2) v)) else pB (frC m (I 12) (I 1 2) (gv n (I 4) (I 5) (I 13) (I 1 2) v) ∧ stbC n (I 4) (I 13) (I 1 2) (gv n (I 4) (I 5) (I 13) (I 1 2) v))) → (∀ K, Fr I K → Q (some (.int (zI (cN P (rws n (I 5) (I 1 2)))))) (sM mo G K J)) → ∀ d v, v + d = rws n (I 5) (I 1 2) → ∀ L, FrR K L ∨ (∃ q130, ¬ x = 2 ∧ FrR (rw2 K 130 q130) L ∧ ∀ c d, c < m → d < m → lvP (I 4) (I 13) (I 1 2) q130 n c d) → (¬ x = 2 → ∀ c d, c < m → d < m → lvP (I 4) (I 13) (I 1 2) (L 130) n c d) → sm_wp X 274 61 [some (.ref 81), some (.int x), some (.int (zI (cN P v))), some (.int (zI v))] [] (sM mo G L J) Q := by
          intro P hP hQ2 d
          induction d with
          | zero =>
            intro v hv L hL hlv
            have : v = rws n (I 5) (I 1 2) := by omega
            subst this
            have lo : ∀ c, c ≠ 128 → c ≠ 129 → c ≠ 130 → L c = K c := by
              intro c a1 a2 a3
              rcases hL with f | ⟨q130, -, f, -⟩
              · exact f c a1 a2
              · rw [f c a1 a2, rw2_n _ _ _ _ a3]
            have frL : Fr I L := by
              refine Fr_t frK ⟨fun c hc => lo c (fun e => by rw [e] at hc; cases hc) (fun e => by rw [e] at hc; cases hc) (fun e => by rw [e] at hc; cases hc), by rw [lo 14 (by decide) (by decide) (by decide)], by rw [lo 16 (by decide) (by decide) (by decide)], by rw [lo 16 (by decide) (by decide) (by decide)], fun j _ => by rw [lo 81 (by decide) (by decide) (by decide)]⟩
            rw [lp_274_61, if_pos (by rw [lo 81 (by decide) (by decide) (by decide), e69, zI_le (by omega) (by omega)]; exact Nat.le_refl _)]
            exact hQ2 L frL
          | succ d ih =>
            intro v hv L hL hlv
            have lo : ∀ c, c ≠ 128 → c ≠ 129 → c ≠ 130 → L c = K c := by
              intro c a1 a2 a3
              rcases hL with f | ⟨q130, -, f, -⟩
              · exact f c a1 a2
              · rw [f c a1 a2, rw2_n _ _ _ _ a3]
            have l81 := lo 81 (by decide) (by decide) (by decide)
            have l91 : L 91 = I 13 := (lo 91 (by decide) (by decide) (by decide)).trans k91
            have l92 : L 92 = I 12 := (lo 92 (by decide) (by decide) (by decide)).trans k92
            rw [lp_274_61, if_neg (by rw [l81, e69, zI_le (by omega) (by omega)]; omega)]
            refine ct_278 (I := L) (n := n) (v := v) (pr := I 1 2) (r4 := I 4) (r5 := I 5) b2 (by rw [l91]; exact b10) b9 h8 (by omega) (by rw [l91, l81, lo 123 (by decide) (by decide) (by decide), lo 124 (by decide) (by decide) (by decide), lo 125 (by decide) (by decide) (by decide), lo 126 (by decide) (by decide) (by decide), lo 127 (by decide) (by decide) (by decide)]; exact hM) ?_
            intro N fN n129 n128
            rw [l91] at n128
            have gb : ∀ s, gv n (I 4) (I 5) (I 13) (I 1 2) v s ≤ 1188 := fun s => gtC_b b10 b2 s
            have n81 : N 81 = K 81 := (fN 81 (by decide) (by decide)).trans l81
            have n91 : N 91 = I 13 := (fN 91 (by decide) (by decide)).trans l91
            have n92 : N 92 = I 12 := (fN 92 (by decide) (by decide)).trans l92
            have hLN : FrR K N ∨ (∃ q130, ¬ x = 2 ∧ FrR (rw2 K 130 q130) N ∧ ∀ c d, c < m → d < m → lvP (I 4) (I 13) (I 1 2) q130 n c d) := by
              rcases hL with f | ⟨q130, e, f, g⟩
              · exact Or.inl (fun c a1 a2 => (fN c a1 a2).trans (f c a1 a2))
              · exact Or.inr ⟨q130, e, fun c a1 a2 => (fN c a1 a2).trans (f c a1 a2), g⟩
            have hlN : ¬ x = 2 → ∀ c d, c < m → d < m → lvP (I 4) (I 13) (I 1 2) (N 130) n c d := fun e => by rw [fN 130 (by decide) (by decide)]; exact hlv e
            have yes : P v = true → sm_wp X 274 61 [some (.ref 81), some (.int x), some (.int (zI (cN P v) + 1)), some (.int (zI v + 1))] [] (sM mo G N J) Q := by
              intro e
              rw [show zI (cN P v) + 1 = zI (cN P (v + 1)) from by rw [cN_p e]; exact zIr_add 1 _, show zI v + 1 = zI (v + 1) from zIr_add 1 v]
              exact ih (v + 1) (by omega) N hLN hlN
            have no : ¬ P v = true → sm_wp X 274 61 [some (.ref 81), some (.int x), some (.int (zI (cN P v) + 0)), some (.int (zI v + 1))] [] (sM mo G N J) Q := by
              intro e
              rw [Int32.add_zero, show zI (cN P v) = zI (cN P (v + 1)) from by rw [cN_q e], show zI v + 1 = zI (v + 1) from zIr_add 1 v]
              exact ih (v + 1) (by omega) N hLN hlN
            simp only [tl_none]
            rw [lp_274_74]
            refine ct_279 (I := N) (m := m) (pr := I 1 2) (g := gv n (I 4) (I 5) (I 13) (I 1 2) v) (by rw [n81]; exact k10) b4 (by rw [n81]; exact k15) b5 (by rw [n92]; exact b11) n128 gb ?_
            intro z hz
            rw [n92] at hz
            simp only [tl_some]
            rw [lp_274_79]
            rcases hz with ⟨rfl, hz⟩ | ⟨rfl, hz⟩
            · rw [if_neg (by decide)]
              by_cases g2 : x = 2
              · rw [if_pos g2]
                refine yes ?_
                rw [hP v, if_pos g2]
                exact pB_t.mpr hz
              · rw [if_neg g2]
                refine ct_280 (I := N) (n := n) (m := m) (pr := I 1 2) (r4 := I 4) (g := gv n (I 4) (I 5) (I 13) (I 1 2) v) b2 (by rw [n81]; exact k10) b4 (by rw [n81]; exact k15) b5 (by rw [n91]; exact b10) n128 gb (fun s hs => ?_) (by rw [n91]; exact hlN g2) ?_
                · rw [fN 127 (by decide) (by decide), lo 127 (by decide) (by decide) (by decide), n91]
                  exact (hM.2.2.2.2 s hs).2
                · intro z2 hz2
                  rw [n91] at hz2
                  simp only [tl_some]
                  rw [lp_274_91]
                  rcases hz2 with ⟨rfl, hz2⟩ | ⟨rfl, hz2⟩
                  · rw [if_neg (by decide)]
                    refine yes ?_
                    rw [hP v, if_neg g2]
                    exact pB_t.mpr ⟨hz, hz2⟩
                  · rw [if_pos rfl]
                    refine no ?_
                    rw [hP v, if_neg g2]
                    exact fun e => hz2 (pB_t.mp e).2
            · rw [if_pos rfl]
              refine no ?_
              rw [hP v]
              by_cases g2 : x = 2
              · rw [if_pos g2]; exact fun e => hz (pB_t.mp e)
              · rw [if_neg g2]; exact fun e => hz (pB_t.mp e).1
        by_cases g2 : x = 2
        · rw [if_pos (by rw [g2]; decide)]
          refine loop (fun u => pB (frC m (I 12) (I 1 2) (gv n (I 4) (I 5) (I 13) (I 1 2) u))) (fun v => by rw [if_pos g2]) (fun L fL => ?_) (rws n (I 5) (I 1 2)) 0 (by omega) K (Or.inl (fun _ _ _ => rfl)) (fun e => absurd g2 e)
          have q := hQ L fL
          unfold setV at q
          rw [if_neg g0, if_neg g8, if_neg g1, if_pos g2] at q
          exact q
        · have g3 : x = 3 := by
            obtain ⟨k, hk, rfl⟩ := zI_of h0
            rw [zIr_le (c := 3) (by decide) (by omega)] at h3
            rw [zIr_eq (c := 0) (by decide) (by omega)] at g0
            rw [zIr_eq (c := 1) (by decide) (by omega)] at g1
            rw [zIr_eq (c := 2) (by decide) (by omega)] at g2
            have h3' : k ≤ 3 := h3
            have g0' : ¬ k = 0 := g0
            have g1' : ¬ k = 1 := g1
            have g2' : ¬ k = 2 := g2
            have : k = 3 := by omega
            rw [this]; rfl
          rw [if_neg (fun e => e g3)]
          refine ct_277 (I := K) (n := n) (m := m) k3 b2 k10 b4 (by rw [k91]; exact b10) ?_
          intro q130 hq
          rw [k85, k91, k15] at hq
          simp only [tl_none]
          rw [lp_274_57]
          refine loop (fun u => pB (frC m (I 12) (I 1 2) (gv n (I 4) (I 5) (I 13) (I 1 2) u) ∧ stbC n (I 4) (I 13) (I 1 2) (gv n (I 4) (I 5) (I 13) (I 1 2) u))) (fun v => by rw [if_neg g2]) (fun L fL => ?_) (rws n (I 5) (I 1 2)) 0 (by omega) _ (Or.inr ⟨q130, g2, fun _ _ _ => rfl, hq⟩) (fun _ => by rw [rw2_a]; exact hq)
          have q := hQ L fL
          unfold setV at q
          rw [if_neg g0, if_neg g8, if_neg g1, if_neg g2] at q
          exact q
theorem op_settle (h : inv c mo G I J) (hc : c ≤ 1000) (x : Int32) : Agr X 189 [some (.ref 0), some (.int x)] 274 [some (.ref 81), some (.int x), none, none] (sM mo G I J) (Inv (c + 1)) := by
  obtain ⟨n, m, hb⟩ := inv_bas h
  unfold Agr
  by_cases g : ¬ x < 0 ∧ x ≤ 3
  · refine h_settle h hc hb g.1 g.2 (fun mo' K J' hK bK k4 k5 k12 k13 k1 => ?_)
    refine m_settle bK g.1 g.2 (fun L fL => ?_)
    rw [k4, k5, k12, k13, k1]
    exact ⟨rfl, inv_fr hK fL rfl rfl⟩
  · have e : sm_wp X 274 0 [some (.ref 81), some (.int x), none, none] [] (sM mo G I J) (fun w M2 => w = some (.int (-1)) ∧ Inv (c + 1) M2) := by
      rw [lp_274_0, if_neg (by
        unfold vf_Model_isIn
        exact fun e => g ⟨e.1, Int32.not_lt.mp e.2⟩)]
      exact ⟨rfl, inv_t 0 h⟩
    rw [lp_189_0]
    by_cases g1 : x < 0
    · rw [if_pos g1]; exact e
    · rw [if_neg g1, if_neg (fun e => g ⟨g1, e⟩)]; exact e
end V1
