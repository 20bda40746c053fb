/-! A day, and days. -/
section F1
variable {X : (Nat → Int32) × Nat} {mo : Bool} {G : Nat × Nat} {I : Nat → Nat → Int32}
theorem wd_np {n m np t0 ch0 bd : Nat} {K L : Nat → Nat → Int32} (hp : ppS n m np I) (wd : wdC n m np t0 ch0 bd I K) (hL : eqC K L) : L 31 0 = zI np := by
  rw [hL 31 (by decide), wd.1.1 31 (by decide) (by decide) (by decide) (by decide) (by decide) (by decide) (by decide) (by decide) (by decide)]; exact hp.2.2.1.1
theorem cp_np {n m np : Nat} {A K T : Nat → Nat → Int32} (hp : ppS n m np I) (hT : cplR I A K T) : T 81 46 = zI np := by
  rw [hT.2.2.1 46 (by decide) (by decide) (by decide)]; exact hp.2.2.1.2.1
theorem wd_a {n m np t0 ch0 bd j : Nat} {K L : Nat → Nat → Int32} (hp : ppS n m np I) (wd : wdC n m np t0 ch0 bd I K) (hL : eqC K L) (hj : j < np) : aPap L 42 (-1) (zI j) = K 42 j := by
  have np60 := hp.2.2.1.2.2
  unfold aPap
  rw [if_pos (by rw [hPap_vp (wd_np hp wd hL) np60, zI_sIn (by omega) (by omega)]; omega), zI_cn (by omega), hL 42 (by decide)]
/-- the day's answers -/
theorem dy1 {n m np t0 ch0 bd : Nat} (hp : ppS n m np I) : ∀ d j K, j + d = np → wdC n m np t0 ch0 bd I K → ∃ K', wdC n m np t0 ch0 bd I K' ∧
    (∀ L J (Q : Option Value → sm_M → Prop), eqC K L → (∀ L' J', eqC K' L' → jD J J' → sm_wp X 22 57 [some (.ref 45), some (.int 0), none] [] (sM mo G L' J') Q) → sm_wp X 22 15 [some (.ref 45), some (.int (zI j)), none] [] (sM mo G L J) Q) ∧
    (∀ A T J (Q : Option Value → sm_M → Prop) (x1 x2 : Int32), cplR I A K T → (∀ T' J', cplR I A K' T' → jR J J' → sm_wp X 251 77 [some (.ref 81), some (.int x1), some (.int x2), some (.int 0)] [] (sM mo G T' J') Q) → sm_wp X 251 48 [some (.ref 81), some (.int x1), some (.int x2), some (.int (zI j))] [] (sM mo G T J) Q) := by
  have np60 := hp.2.2.1.2.2
  intro d
  induction d with
  | zero =>
    intro j K hj wd
    refine ⟨K, wd, ?_, ?_⟩
    · intro L J Q hL hQ
      rw [lp_22_15, wd_np hp wd hL, if_pos (by rw [zI_le (by omega) (by omega)]; omega)]
      exact hQ L J hL (fun _ _ _ => rfl)
    · intro A T J Q x1 x2 hT hQ
      rw [lp_251_48, cp_np hp hT, if_pos (by rw [zI_le (by omega) (by omega)]; omega)]
      exact hQ T J hT (fun _ _ => rfl)
  | succ d ih =>
    intro j K hj wd
    have v60 : vp_in (zI j) 60 := Eq.mpr (zI_vp (a := j) (n := 60) (by omega)) (by omega)
    have q107 : ∀ A T : Nat → Nat → Int32, cplR I A K T → T 107 = I 107 := fun A T hT => hT.2.1 107 (by decide) (by decide) (by decide) (by decide) (by decide) (by decide) (by decide) (by decide) (by decide)
    have e1 : zI j + 1 = zI (j + 1) := zIr_add 1 j
    rcases Classical.em (∃ f, f ≤ 1 ∧ K 42 j = zI f ∧ ¬ I 42 j = -1) with ⟨f, hf1, hf, ofr⟩ | no
    · obtain ⟨K1, w1, c1, r1⟩ := ans (X := X) (mo := mo) (G := G) hp wd (show j < np by omega) ofr hf1 hf
      obtain ⟨K', w', c', r'⟩ := ih (j + 1) K1 (by omega) w1
      have o107 : I 107 j = 0 := by
        rcases hp.2.2.2.2.2.2.2.2.2.2 j (by omega) with ⟨a1, -⟩ | ⟨-, a2, -⟩
        · exact absurd a1 ofr
        · exact a2
      refine ⟨K', w', ?_, ?_⟩
      · intro L J Q hL hQ
        rw [lp_22_15, wd_np hp wd hL, if_neg (by rw [zI_le (by omega) (by omega)]; omega), wd_a hp wd hL (by omega), hf]
        have go : ∀ x : Int32, sm_wp X 23 0 [some (.ref 45), some (.int (zI j))] [] (sM mo G L J) (fun v M => sm_wp X 22 49 [some (.ref 45), some (.int (zI j)), some (.int x)] (v.toList ++ []) M Q) := fun x => by
          refine c1 L J _ hL ?_
          intro L' J' a b
          simp only [tl_none]
          rw [lp_22_49, e1]
          exact c' L' J' Q a (fun L2 J2 x y => hQ L2 J2 x (jD_t b y))
        have : f = 0 ∨ f = 1 := by omega
        rcases this with rfl | rfl
        · rw [if_pos (by decide)]; exact go _
        · rw [if_neg (by decide), if_neg (fun e => e (by decide))]; exact go _
      · intro A T J Q x1 x2 hT hQ
        rw [lp_251_48, cp_np hp hT, if_neg (by rw [zI_le (by omega) (by omega)]; omega)]
        refine ⟨⟨v60, fun _ => v60⟩, ?_⟩
        rw [if_neg (fun e => e ⟨by rw [q107 A T hT, zI_cn (by omega)]; exact o107, by
          rw [zI_cn (by omega), hT.2.2.2.2.2.2.1, hf, zIl_le (c := 2) (by decide) (by omega)]
          show ¬ 2 ≤ f
          omega⟩)]
        refine r1 A T J _ hT ?_
        intro T' J' a b
        simp only [tl_none]
        rw [lp_251_69, e1]
        exact r' A T' J' Q x1 x2 a (fun T2 J2 x y => hQ T2 J2 x (jR_t b y))
    · obtain ⟨K', w', c', r'⟩ := ih (j + 1) K (by omega) wd
      have n01 : ¬ K 42 j = 0 ∧ ¬ K 42 j = 1 ∧ (I 107 j = 1 ∨ 2 ≤ K 42 j) := by
        rcases wd.2.1 j (by omega) with ⟨a1, a2⟩ | ⟨a1, f, hf6, a2⟩
        · rw [a2]
          rcases hp.2.2.2.2.2.2.2.2.2.2 j (by omega) with ⟨-, b2, -⟩ | ⟨b1, -⟩
          · exact ⟨by decide, by decide, Or.inl b2⟩
          · exact absurd a1 b1
        · have f2 : ¬ f ≤ 1 := fun e => no ⟨f, e, a2, a1⟩
          rw [a2]
          refine ⟨fun e => f2 ?_, fun e => f2 ?_, Or.inr ?_⟩
          · rw [zIr_eq (c := 0) (by decide) (by omega)] at e
            have : f = 0 := e
            omega
          · rw [zIr_eq (c := 1) (by decide) (by omega)] at e
            have : f = 1 := e
            omega
          · rw [zIl_le (c := 2) (by decide) (by omega)]
            show 2 ≤ f
            omega
      refine ⟨K', w', ?_, ?_⟩
      · intro L J Q hL hQ
        rw [lp_22_15, wd_np hp wd hL, if_neg (by rw [zI_le (by omega) (by omega)]; omega), wd_a hp wd hL (by omega), if_neg n01.1, if_pos n01.2.1, e1]
        exact c' L J Q hL hQ
      · intro A T J Q x1 x2 hT hQ
        rw [lp_251_48, cp_np hp hT, if_neg (by rw [zI_le (by omega) (by omega)]; omega)]
        refine ⟨⟨v60, fun _ => v60⟩, ?_⟩
        rw [if_pos (fun e => by
          have g1 := e.1
          have g2 := e.2
          rw [q107 A T hT, zI_cn (by omega)] at g1
          rw [zI_cn (by omega), hT.2.2.2.2.2.2.1] at g2
          rcases n01.2.2 with h | h
          · rw [h] at g1; exact absurd g1 (by decide)
          · exact g2 h), e1]
        exact r' A T J Q x1 x2 hT hQ
/-- the day's ends -/
theorem dy2 {n m np t0 ch0 bd : Nat} (hp : ppS n m np I) : ∀ d j K, j + d = np → wdC n m np t0 ch0 (bd + 1440 * j) I K → ∃ K', wdC n m np t0 ch0 (bd + 1440 * np) I K' ∧
    (∀ L J (Q : Option Value → sm_M → Prop), eqC K L → (∀ L' J', eqC K' L' → jD J J' → Q none (sM mo G L' J')) → sm_wp X 22 57 [some (.ref 45), some (.int (zI j)), none] [] (sM mo G L J) Q) ∧
    (∀ A T J (Q : Option Value → sm_M → Prop) (x1 x2 : Int32), cplR I A K T → (∀ T' J', cplR I A K' T' → jR J J' → sm_wp X 251 31 [some (.ref 81), some (.int x1), some (.int (x2 + 1)), none] [] (sM mo G T' J') Q) → sm_wp X 251 77 [some (.ref 81), some (.int x1), some (.int x2), some (.int (zI j))] [] (sM mo G T J) Q) := by
  have np60 := hp.2.2.1.2.2
  intro d
  induction d with
  | zero =>
    intro j K hj wd
    have : j = np := by omega
    subst this
    refine ⟨K, wd, ?_, ?_⟩
    · intro L J Q hL hQ
      rw [lp_22_57, wd_np hp wd hL, if_pos (by rw [zI_le (by omega) (by omega)]; omega)]
      exact hQ L J hL (fun _ _ _ => rfl)
    · intro A T J Q x1 x2 hT hQ
      rw [lp_251_77, cp_np hp hT, if_pos (by rw [zI_le (by omega) (by omega)]; omega)]
      exact hQ T J hT (fun _ _ => rfl)
  | succ d ih =>
    intro j K hj wd
    have v60 : vp_in (zI j) 60 := Eq.mpr (zI_vp (a := j) (n := 60) (by omega)) (by omega)
    have q107 : ∀ A T : Nat → Nat → Int32, cplR I A K T → T 107 = I 107 := fun A T hT => hT.2.1 107 (by decide) (by decide) (by decide) (by decide) (by decide) (by decide) (by decide) (by decide) (by decide)
    have e1 : zI j + 1 = zI (j + 1) := zIr_add 1 j
    have e2 : bd + 1440 * (j + 1) = bd + 1440 * j + 1440 := by omega
    rcases Classical.em (K 42 j = 2) with hf | no
    · have oo : ¬ I 42 j = -1 ∧ I 107 j = 0 := by
        rcases wd.2.1 j (by omega) with ⟨a1, a2⟩ | ⟨a1, -⟩
        · rw [hf] at a2; exact absurd a2 (by decide)
        · rcases hp.2.2.2.2.2.2.2.2.2.2 j (by omega) with ⟨b1, -⟩ | ⟨-, b2, -⟩
          · exact absurd b1 a1
          · exact ⟨a1, b2⟩
      obtain ⟨K1, w1, c1, r1⟩ := ech (X := X) (mo := mo) (G := G) hp wd (show j < np by omega) oo.1
      obtain ⟨K', w', c', r'⟩ := ih (j + 1) K1 (by omega) (by rw [e2]; exact w1)
      refine ⟨K', w', ?_, ?_⟩
      · intro L J Q hL hQ
        rw [lp_22_57, wd_np hp wd hL, if_neg (by rw [zI_le (by omega) (by omega)]; omega), wd_a hp wd hL (by omega), if_neg (fun e => e hf)]
        refine c1 L J _ hL ?_
        intro L' J' a b
        simp only [tl_none]
        rw [lp_22_85, e1]
        exact c' L' J' Q a (fun L2 J2 x y => hQ L2 J2 x (jD_t b y))
      · intro A T J Q x1 x2 hT hQ
        rw [lp_251_77, cp_np hp hT, if_neg (by rw [zI_le (by omega) (by omega)]; omega)]
        refine ⟨v60, ?_⟩
        rw [zI_cn (by omega), q107 A T hT, hT.2.2.2.2.2.2.1, if_neg (fun e => e oo.2), if_neg (fun e => e hf)]
        refine r1 A T J _ hT ?_
        intro T' J' a b
        simp only [tl_none]
        rw [lp_251_109, e1]
        exact r' A T' J' Q x1 x2 a (fun T2 J2 x y => hQ T2 J2 x (jR_t b y))
    · obtain ⟨K', w', c', r'⟩ := ih (j + 1) K (by omega) (wdC_b wd (by omega))
      refine ⟨K', w', ?_, ?_⟩
      · intro L J Q hL hQ
        rw [lp_22_57, wd_np hp wd hL, if_neg (by rw [zI_le (by omega) (by omega)]; omega), wd_a hp wd hL (by omega), if_pos no, e1]
        exact c' L J Q hL hQ
      · intro A T J Q x1 x2 hT hQ
        rw [lp_251_77, cp_np hp hT, if_neg (by rw [zI_le (by omega) (by omega)]; omega)]
        refine ⟨v60, ?_⟩
        rw [zI_cn (by omega), q107 A T hT, hT.2.2.2.2.2.2.1, if_pos no, e1]
        split
        · exact r' A T J Q x1 x2 hT hQ
        · exact r' A T J Q x1 x2 hT hQ
theorem cpl_13 {A K T : Nat → Nat → Int32} (h : cplR I A K T) (v : Int32) : cplR I A (up2 K 1 3 v) (up2 T 81 16 v) := by
  obtain ⟨h1, h2, h3, h4, h5, h6, h7, h8, h9⟩ := h
  refine ⟨fun d a => by rw [up2_rn _ _ _ _ _ (by omega)]; exact h1 d a, fun d x y a b c d' e f g => by rw [up2_rn _ _ _ _ _ (by omega)]; exact h2 d x y a b c d' e f g, fun j a b c => by rw [up2_ra, va_ap, if_neg b]; exact h3 j a b c, ?_, ?_, ?_, ?_, ?_, ?_⟩
  · rw [up2_ra, up2_ra, va_ap, va_ap, if_pos rfl, if_pos rfl]
  · rw [up2_rn _ _ _ _ _ (by decide), up2_rn _ _ _ _ _ (by decide)]; exact h5
  · rw [up2_rn _ _ _ _ _ (by decide), up2_rn _ _ _ _ _ (by decide)]; exact h6
  · rw [up2_rn _ _ _ _ _ (by decide), up2_rn _ _ _ _ _ (by decide)]; exact h7
  · rw [up2_rn _ _ _ _ _ (by decide), up2_rn _ _ _ _ _ (by decide)]; exact h8
  · rw [up2_rn _ _ _ _ _ (by decide), up2_rn _ _ _ _ _ (by decide), up2_rn _ _ _ _ _ (by decide), up2_rn _ _ _ _ _ (by decide)]; exact h9
theorem wd_13 {n m np t ch0 bd : Nat} {K : Nat → Nat → Int32} (h : wdC n m np t ch0 bd I K) (ht : t < 300) : wdC n m np (t + 1) ch0 bd I (up2 K 1 3 (zI (t + 1))) := by
  obtain ⟨h1, h2, h3, h4, h5, h6, h7⟩ := h
  refine ⟨⟨fun d a b c e f g h i j => by rw [up2_rn _ _ _ _ _ a]; exact h1.1 d a b c e f g h i j, fun j a b => by rw [up2_ra, va_ap, if_neg a]; exact h1.2 j a b⟩, fun k hk => ?_, ⟨t + 1, by omega, rfl, by rw [up2_ra, va_ap, if_pos rfl]⟩, ?_, ?_, ?_, ?_⟩
  · rw [up2_rn _ _ _ _ _ (by decide)]; exact h2 k hk
  · rw [up2_ra, va_ap, if_neg (by decide), up2_rn _ _ _ _ _ (by decide)]; exact h4
  · rw [up2_rn _ _ _ _ _ (by decide)]; exact h5
  · rw [up2_rn _ _ _ _ _ (by decide)]; exact h6
  · rw [up2_rn _ _ _ _ _ (by decide), up2_rn _ _ _ _ _ (by decide)]; exact h7
/-- a day -/
theorem dst {n m np t ch0 bd : Nat} {K : Nat → Nat → Int32} (hp : ppS n m np I) (wd : wdC n m np t ch0 bd I K) (ht : t < 300) : ∃ K', wdC n m np (t + 1) ch0 (bd + 86400) I K' ∧
    cRun mo G (fun M Q => sm_wp X 22 0 [some (.ref 45), none, none] [] M Q) K K' ∧
    (∀ A T J (Q : Option Value → sm_M → Prop) (x1 x2 : Int32), ¬ x1 ≤ x2 → cplR I A K T → (∀ T' J', cplR I A K' T' → jR J J' → sm_wp X 251 31 [some (.ref 81), some (.int x1), some (.int (x2 + 1)), none] [] (sM mo G T' J') Q) → sm_wp X 251 31 [some (.ref 81), some (.int x1), some (.int x2), none] [] (sM mo G T J) Q) := by
  have np60 := hp.2.2.1.2.2
  have e13 : K 1 3 = zI t := by
    obtain ⟨t', -, rfl, e⟩ := wd.2.2.1
    exact e
  obtain ⟨K1, w1, c1, r1⟩ := dy1 (X := X) (mo := mo) (G := G) hp np 0 _ (by omega) (wd_13 wd ht)
  obtain ⟨K2, w2, c2, r2⟩ := dy2 (X := X) (mo := mo) (G := G) (bd := bd) hp np 0 K1 (by omega) (wdC_b w1 (by omega))
  refine ⟨K2, wdC_b w2 (by omega), ?_, ?_⟩
  · intro L J Q hL hQ
    show sm_wp X 22 0 [some (.ref 45), none, none] [] (sM mo G L J) Q
    rw [lp_22_0, hL 1 (by decide), e13, show zI t + 1 = zI (t + 1) from zIr_add 1 t]
    refine c1 _ J Q (eqC_u hL 1 3 _) ?_
    intro L' J' a b
    exact c2 L' J' Q a (fun L2 J2 x y => hQ L2 J2 x (jD_t b y))
  · intro A T J Q x1 x2 hx hT hQ
    rw [lp_251_31, if_neg hx, hT.2.2.2.1, e13, show zI t + 1 = zI (t + 1) from zIr_add 1 t]
    refine r1 A _ J Q x1 x2 (cpl_13 hT _) ?_
    intro T' J' a b
    exact r2 A T' J' Q x1 x2 a (fun T2 J2 x y => hQ T2 J2 x (jR_t b y))
/-- days -/
theorem dys {n m np ch0 nd : Nat} (hp : ppS n m np I) (hnd : nd ≤ 50) : ∀ d j t bd K, j + d = nd → t + d ≤ 300 → wdC n m np t ch0 bd I K → ∃ K', wdC n m np (t + d) ch0 (bd + 86400 * d) I K' ∧
    (∀ L J (Q : Option Value → sm_M → Prop), eqC K L → (∀ L' J', eqC K' L' → jD J J' → Q (some (.int (zI (t + d)))) (sM mo G L' J')) → sm_wp X 182 30 [some (.ref 0), some (.int (zI nd)), some (.int (zI j))] [] (sM mo G L J) Q) ∧
    (∀ A T J (Q : Option Value → sm_M → Prop), cplR I A K T → (∀ T' J', cplR I A K' T' → jR J J' → Q (some (.int (zI (t + d)))) (sM mo G T' J')) → sm_wp X 251 31 [some (.ref 81), some (.int (zI nd)), some (.int (zI j)), none] [] (sM mo G T J) Q) := by
  intro d
  induction d with
  | zero =>
    intro j t bd K hj ht wd
    have e13 : K 1 3 = zI t := by
      obtain ⟨t', -, rfl, e⟩ := wd.2.2.1
      exact e
    refine ⟨K, wdC_b wd (by omega), ?_, ?_⟩
    · intro L J Q hL hQ
      rw [lp_182_30, if_pos (by rw [zI_le (by omega) (by omega)]; omega), hL 1 (by decide), e13]
      exact hQ L J hL (fun _ _ _ => rfl)
    · intro A T J Q hT hQ
      rw [lp_251_31, if_pos (by rw [zI_le (by omega) (by omega)]; omega), hT.2.2.2.1, e13]
      exact hQ T J hT (fun _ _ => rfl)
  | succ d ih =>
    intro j t bd K hj ht wd
    have e1 : zI j + 1 = zI (j + 1) := zIr_add 1 j
    have nx : ¬ zI nd ≤ zI j := by rw [zI_le (by omega) (by omega)]; omega
    obtain ⟨K1, w1, c1, r1⟩ := dst (X := X) (mo := mo) (G := G) hp wd (by omega)
    obtain ⟨K', w', c', r'⟩ := ih (j + 1) (t + 1) (bd + 86400) K1 (by omega) (by omega) w1
    have e2 : t + 1 + d = t + (d + 1) := by omega
    have e3 : bd + 86400 + 86400 * d = bd + 86400 * (d + 1) := by omega
    rw [e2, e3] at w'
    rw [e2] at c' r'
    refine ⟨K', w', ?_, ?_⟩
    · intro L J Q hL hQ
      rw [lp_182_30, if_neg nx]
      refine c1 L J _ hL ?_
      intro L' J' a b
      simp only [tl_none]
      rw [lp_182_42, e1]
      exact c' L' J' Q a (fun L2 J2 x y => hQ L2 J2 x (jD_t b y))
    · intro A T J Q hT hQ
      refine r1 A T J Q (zI nd) (zI j) nx hT ?_
      intro T' J' a b
      rw [e1]
      exact r' A T' J' Q a (fun T2 J2 x y => hQ T2 J2 x (jR_t b y))
end F1
