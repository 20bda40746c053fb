/-! An offer is answered, on both sides: the whole. -/
section D3
variable {X : (Nat → Int32) × Nat} {mo : Bool} {G : Nat × Nat} {I K : Nat → Nat → Int32}
/-- the answer from home -/
theorem crt {n m np t0 ch0 bd k : Nat} (hp : ppS n m np I) (wd : wdC n m np t0 ch0 bd I K) (hk : k < np) (ofr : ¬ I 42 k = -1) (h1 : K 42 k = 1) : ∃ K', wdC n m np t0 ch0 bd I K' ∧
    (∀ L J (Q : Option Value → sm_M → Prop), eqC K L → (∀ L' J', eqC K' L' → jD J J' → Q none (sM mo G L' J')) → sm_wp X 24 0 [some (.ref 45), some (.int (zI k)), some (.int 1), none, none, none, none, none] [] (sM mo G L J) (fun v M => sm_wp X 23 124 [some (.ref 45), some (.int (zI k))] (v.toList ++ [.int (zI k), .ref 45]) M Q)) ∧
    (∀ A T J (Q : Option Value → sm_M → Prop), cplR I A K T → (∀ T' J', cplR I A K' T' → jR J J' → Q none (sM mo G T' J')) → sm_wp X 254 0 [some (.ref 81), some (.int (zI k)), some (.int 1), none, none] [] (sM mo G T J) (fun v M => sm_wp X 253 180 [some (.ref 81), some (.int (zI k)), none, none] (v.toList ++ [.int (zI k), .ref 118]) M Q) ∧ ∀ x2 x3 : Int32, sm_wp X 254 0 [some (.ref 81), some (.int (zI k)), some (.int 1), none, none] [] (sM mo G T J) (fun v M => sm_wp X 253 180 [some (.ref 81), some (.int (zI k)), some (.int x2), some (.int x3)] (v.toList ++ [.int (zI k), .ref 118]) M Q)) := by
  have k60 : k < 60 := by have := hp.2.2.1.2.2; omega
  have v60 : vp_in (zI k) 60 := Eq.mpr (zI_vp (a := k) (n := 60) (by omega)) k60
  have fx := wd.1
  have np60 := hp.2.2.1.2.2
  obtain ⟨to, fr, ml, cc, gb, vb, le, r, -, -, -, -, hb, hr, hC, hR⟩ := fln (X := X) (mo := mo) (G := G) true hp wd hk ofr
  have hpp : ∀ L : Nat → Nat → Int32, L 31 = K 31 → hPap L (zI k) := fun L hL => by
    have e31 : K 31 0 = zI np := by rw [fx.1 31 (by decide) (by decide) (by decide) (by decide) (by decide) (by decide) (by decide) (by decide) (by decide)]; exact hp.2.2.1.1
    rw [hPap_vp (n := np) (by rw [hL]; exact e31) np60, zI_sIn (by omega) (by omega)]
    exact hk
  have k5 : ¬ K 42 k = 5 := by rw [h1]; decide
  by_cases rn : r = -1
  · -- none holds
    refine ⟨up2 K 42 k (zI 3), wd_42 wd ofr (by omega) (by omega) k5, ?_, ?_⟩
    · intro L J Q hL hQ
      refine hC L J _ hL ?_
      intro L' J' e1 e2
      simp only [tl_some]
      rw [lp_23_124, if_neg (fun e => e rn), if_neg (fun e => e (hpp L' (e1 31 (by decide)))), zI_cn (by omega)]
      exact ⟨v60, hQ _ _ (eqC_u e1 42 k (zI 3)) e2⟩
    · intro A T J Q hT hQ
      have fin : ∀ T' J', frL T T' J J' → (∀ b : Int32, b = zI 3 → Q none (sM mo G (up2 (up2 T' 118 k r) 117 k b) J')) := fun T' J' hf b hb2 => by
        rw [hb2]
        refine hQ _ _ (cpl_42 (cpl_118 (cpl_L hT hf) k r) k (zI 3)) hf.2.2
      refine ⟨hR A T J _ hT (fun T' J' hf => ?_), fun x2 x3 => hR A T J _ hT (fun T' J' hf => ?_)⟩
      · simp only [tl_some]
        rw [lp_253_180, zI_cn (by omega), if_pos (by rw [up2_ra, va_ap, if_pos rfl, rn]; decide)]
        exact ⟨v60, v60, fin T' J' hf 3 rfl⟩
      · simp only [tl_some]
        rw [bkx_253_180, zI_cn (by omega), if_pos (by rw [up2_ra, va_ap, if_pos rfl, rn]; decide), bkx_253_199, zI_cn (by omega)]
        exact ⟨v60, v60, v60, trivial, fin T' J' hf 3 rfl⟩
  · obtain ⟨i, hi, rfl, -⟩ := hr.resolve_left rn
    have im := hb.2.2.1
    refine ⟨up2 (up2 K 42 k (zI 2)) 43 k (zI i), wd_34 (wd_42 wd ofr (by omega) (by omega) k5) (Or.inl rfl), ?_, ?_⟩
    · intro L J Q hL hQ
      refine hC L J _ hL ?_
      intro L' J' e1 e2
      simp only [tl_some]
      rw [lp_23_124, if_pos rn, if_neg (fun e => e (hpp L' (e1 31 (by decide)))), if_neg (fun e => e (hpp _ (by rw [up2_rn _ _ _ _ _ (by decide)]; exact e1 31 (by decide)))), zI_cn (by omega)]
      exact ⟨v60, hQ _ _ (eqC_u (eqC_u e1 42 k (zI 2)) 43 k (zI i)) e2⟩
    · intro A T J Q hT hQ
      have fin : ∀ T' J', frL T T' J J' → (∀ b : Int32, b = zI 2 → Q none (sM mo G (up2 (up2 T' 118 k (zI i)) 117 k b) J')) := fun T' J' hf b hb2 => by
        rw [hb2]
        have c1 := cpl_43 (cpl_42 (cpl_118 (cpl_L hT hf) k (zI i)) k (zI 2)) k k (zI i) (zI i)
        have c2 : up2 (up2 (up2 T' 118 k (zI i)) 117 k (zI 2)) 118 k (zI i) = up2 (up2 T' 118 k (zI i)) 117 k (zI 2) := by
          funext d j
          by_cases g : d = 118
          · subst g
            rw [up2_ra, va_ap, up2_rn _ _ _ _ _ (by decide), up2_ra, va_ap]
            by_cases g2 : j = k
            · rw [if_pos g2, if_pos g2]
            · rw [if_neg g2]
          · rw [up2_rn _ _ _ _ _ g]
        rw [c2] at c1
        exact hQ _ _ c1 hf.2.2
      have nn : ∀ T' : Nat → Nat → Int32, ¬ (up2 T' 118 k (zI i)) 118 k < 0 := fun T' => by
        rw [up2_ra, va_ap, if_pos rfl, zIr_lt (c := 0) (by decide) (by omega)]
        exact Nat.not_lt_zero _
      refine ⟨hR A T J _ hT (fun T' J' hf => ?_), fun x2 x3 => hR A T J _ hT (fun T' J' hf => ?_)⟩
      · simp only [tl_some]
        rw [lp_253_180, zI_cn (by omega), if_neg (nn T')]
        exact ⟨v60, v60, fin T' J' hf 2 rfl⟩
      · simp only [tl_some]
        rw [bkx_253_180, zI_cn (by omega), if_neg (nn T'), bkx_253_200, zI_cn (by omega)]
        exact ⟨v60, v60, v60, trivial, fin T' J' hf 2 rfl⟩
theorem nltx {a b : Int32} : (a < b) = ¬ b ≤ a := propext Int32.not_le.symm
theorem ans {n m np t0 ch0 bd k f : Nat} (hp : ppS n m np I) (wd : wdC n m np t0 ch0 bd I K) (hk : k < np) (ofr : ¬ I 42 k = -1) (hf1 : f ≤ 1) (hf : K 42 k = zI f) : ∃ K', wdC n m np t0 ch0 bd I K' ∧
    cRun mo G (fun M Q => sm_wp X 23 0 [some (.ref 45), some (.int (zI k))] [] M Q) K K' ∧ rRun mo G I (fun M Q => sm_wp X 253 0 [some (.ref 81), some (.int (zI k)), none, none] [] M Q) K K' := by
  have np60 := hp.2.2.1.2.2
  have k60 : k < 60 := by omega
  have v60 : vp_in (zI k) 60 := Eq.mpr (zI_vp (a := k) (n := 60) (by omega)) k60
  have fx := wd.1
  have m6 : m ≤ 6 := hp.2.1.2.2
  obtain ⟨to, fr, ml, cc, gb, vb, le, r, hto, htm, hfr, hfm, hb, hr, hC, hR⟩ := fln (X := X) (mo := mo) (G := G) false hp wd hk ofr
  have im := hb.2.2.1
  obtain ⟨t, t300, t0', et⟩ := wd.2.2.1
  have e31 : K 31 0 = zI np := by rw [fx.1 31 (by decide) (by decide) (by decide) (by decide) (by decide) (by decide) (by decide) (by decide) (by decide)]; exact hp.2.2.1.1
  have kf : ∀ d, d = 11 ∨ d = 22 ∨ d = 24 ∨ d = 31 ∨ d = 32 ∨ d = 33 ∨ d = 39 → K d = I d := fun d h => fx.1 d (by omega) (by omega) (by omega) (by omega) (by omega) (by omega) (by omega) (by omega) (by omega)
  have hpp : ∀ L : Nat → Nat → Int32, L 31 = K 31 → hPap L (zI k) := fun L hL => by
    rw [hPap_vp (n := np) (by rw [hL]; exact e31) np60, zI_sIn (by omega) (by omega)]
    exact hk
  have apk : ∀ (L : Nat → Nat → Int32) (c : Nat) (d : Int32), L 31 = K 31 → aPap L c d (zI k) = L c k := fun L c d hL => by
    unfold aPap
    rw [if_pos (hpp L hL), zI_cn (by omega)]
  have f5 : ¬ K 42 k = 5 := by rw [hf, zIr_eq (c := 5) (by decide) (by omega)]; show ¬ f = 5; omega
  -- who is here
  have prC : ∀ L : Nat → Nat → Int32, eqC K L → ∀ s, s < m → (hPres L (zI s) ↔ bt (I 1 2) s = true) := fun L hL s hs => by
    rw [hPres_vp (n := m) (by rw [hL 1 (by decide), fx.2 1 (by decide) (by decide)]; exact hp.2.1.1) m6, zI_sIn (by omega) (by omega), zI_cn (by omega), hL 1 (by decide), fx.2 2 (by decide) (by decide)]
    exact ⟨fun h => h.2, fun h => ⟨hs, h⟩⟩
  have prR : ∀ A T : Nat → Nat → Int32, cplR I A K T → ∀ s, s < m → (vf_Model_isPresent T (zI s) ↔ bt (I 1 2) s = true) := fun A T hT s hs => by
    rw [mPres_vp (n := m) (by rw [hT.2.2.1 10 (by decide) (by decide) (by decide)]; exact hp.2.1.2.1) m6, zI_sIn (by omega) (by omega), zI_cn (by omega), hT.2.2.1 15 (by decide) (by decide) (by decide), hp.2.2.2.1]
    exact ⟨fun h => h.2, fun h => ⟨hs, h⟩⟩
  have rT : ∀ A T : Nat → Nat → Int32, cplR I A K T → T 113 k = K 39 k ∧ T 108 k = zI fr ∧ T 109 k = zI to ∧ T 81 16 = zI t ∧ T 117 k = zI f ∧ T 119 k = K 44 k ∧ T 90 = I 11 ∧ (∀ j, T 99 j = I 99 j) := fun A T hT => by
    have q := hp.2.2.2.2.2.1
    refine ⟨?_, ?_, ?_, ?_, ?_, ?_, ?_, ?_⟩
    · rw [hT.2.1 113 (by decide) (by decide) (by decide) (by decide) (by decide) (by decide) (by decide) (by decide) (by decide), q.2.2.2.2, kf 39 (by decide)]
    · rw [hT.2.1 108 (by decide) (by decide) (by decide) (by decide) (by decide) (by decide) (by decide) (by decide) (by decide), q.2.1]; exact hfr
    · rw [hT.2.1 109 (by decide) (by decide) (by decide) (by decide) (by decide) (by decide) (by decide) (by decide) (by decide), q.1]; exact hto
    · rw [hT.2.2.2.1]; exact et
    · rw [hT.2.2.2.2.2.2.1]; exact hf
    · rw [hT.2.2.2.2.2.2.2.1]
    · rw [hT.2.1 90 (by decide) (by decide) (by decide) (by decide) (by decide) (by decide) (by decide) (by decide) (by decide)]; exact hp.2.2.2.2.1.2.2.2.2
    · intro j; rw [hT.2.1 99 (by decide) (by decide) (by decide) (by decide) (by decide) (by decide) (by decide) (by decide) (by decide)]
  by_cases lap : K 39 k < zI t ∨ ¬ bt (I 1 2) fr = true ∨ ¬ bt (I 1 2) to = true
  · -- lapsed
    refine ⟨up2 K 42 k (zI 4), wd_42 wd ofr (by omega) (by omega) f5, ?_, ?_⟩
    · intro L J Q hL hQ
      have l31 : L 31 = K 31 := hL 31 (by decide)
      have e1 : L 1 3 = zI t := by rw [hL 1 (by decide)]; exact et
      have q := hQ _ J (eqC_u hL 42 k (zI 4)) (fun _ _ _ => rfl)
      show sm_wp X 23 0 [some (.ref 45), some (.int (zI k))] [] (sM mo G L J) Q
      rw [lp_23_0, apk L 39 _ l31, apk L 32 _ l31, apk L 33 _ l31, hL 39 (by decide), hL 32 (by decide), hL 33 (by decide), kf 32 (by decide), kf 33 (by decide), hfr, hto, e1, zI_cn (by omega)]
      by_cases a : K 39 k < zI t
      · rw [if_pos a, if_neg (fun e => e (hpp L l31))]
        exact ⟨v60, q⟩
      · rw [if_neg a]
        by_cases b : bt (I 1 2) fr = true
        · rw [if_neg (fun e => e ((prC L hL fr hfm).mpr b)), if_neg (fun e => (by
            rcases lap with h | h | h
            · exact a h
            · exact h b
            · exact h ((prC L hL to htm).mp e))), if_neg (fun e => e (hpp L l31))]
          exact ⟨v60, q⟩
        · rw [if_pos (fun e => b ((prC L hL fr hfm).mp e)), if_neg (fun e => e (hpp L l31))]
          exact ⟨v60, q⟩
    · intro A T J Q hT hQ
      obtain ⟨r1, r2, r3, r4, r5, r6, r7, r8⟩ := rT A T hT
      have q := hQ _ J (cpl_42 hT k (zI 4)) (fun _ _ => rfl)
      show sm_wp X 253 0 [some (.ref 81), some (.int (zI k)), none, none] [] (sM mo G T J) Q
      rw [lp_253_0, zI_cn (by omega), r1, r2, r3, r4]
      refine ⟨v60, ?_⟩
      by_cases a : K 39 k < zI t
      · rw [if_pos a]; exact q
      · rw [if_neg a]
        by_cases b : bt (I 1 2) fr = true
        · rw [if_neg (fun e => e ((prR A T hT fr hfm).mpr b)), if_neg (fun e => (by
            rcases lap with h | h | h
            · exact a h
            · exact h b
            · exact h ((prR A T hT to htm).mp e)))]
          exact q
        · rw [if_pos (fun e => b ((prR A T hT fr hfm).mp e))]
          exact q
  have nl1 : ¬ K 39 k < zI t := fun e => lap (Or.inl e)
  have nl2 : bt (I 1 2) fr = true := Classical.not_not.mp (fun e => lap (Or.inr (Or.inl e)))
  have nl3 : bt (I 1 2) to = true := Classical.not_not.mp (fun e => lap (Or.inr (Or.inr e)))
  have cst : ∀ L J (Q : Option Value → sm_M → Prop), eqC K L → (if ¬ zI f = 0 then (if ¬ zI f = 1 then (Q none (sM mo G L J)) else (if zI t < L 44 k then (Q none (sM mo G L J)) else (sm_wp X 24 0 [some (.ref 45), some (.int (zI k)), some (.int 1), none, none, none, none, none] [] (sM mo G L J) (fun v M => sm_wp X 23 124 [some (.ref 45), some (.int (zI k))] (v.toList ++ [.int (zI k), .ref 45]) M Q)))) else (sm_wp X 24 0 [some (.ref 45), some (.int (zI k)), some (.int 0), none, none, none, none, none] [] (sM mo G L J) (fun v M => sm_wp X 23 83 [some (.ref 45), some (.int (zI k))] (v.toList ++ [.int (zI k), .ref 45]) M Q))) → sm_wp X 23 0 [some (.ref 45), some (.int (zI k))] [] (sM mo G L J) Q := fun L J Q hL h => by
    have l31 : L 31 = K 31 := hL 31 (by decide)
    have e1 : L 1 3 = zI t := by rw [hL 1 (by decide)]; exact et
    rw [lp_23_0, apk L 39 _ l31, apk L 32 _ l31, apk L 33 _ l31, apk L 42 _ l31, apk L 44 _ l31, hL 39 (by decide), hL 32 (by decide), hL 33 (by decide), hL 42 (by decide), hf, kf 32 (by decide), kf 33 (by decide), hfr, hto, e1, if_neg nl1, if_neg (fun e => e ((prC L hL fr hfm).mpr nl2)), if_pos ((prC L hL to htm).mpr nl3)]
    exact h
  have rst' : ∀ A T J (Q : Option Value → sm_M → Prop), cplR I A K T → (if ¬ zI f = 0 then (if ¬ zI f = 1 then (Q none (sM mo G T J)) else (if T 119 k ≤ zI t then (sm_wp X 254 0 [some (.ref 81), some (.int (zI k)), some (.int 1), none, none] [] (sM mo G T J) (fun v M => sm_wp X 253 180 [some (.ref 81), some (.int (zI k)), none, none] (v.toList ++ [.int (zI k), .ref 118]) M Q)) else (Q none (sM mo G T J)))) else (sm_wp X 254 0 [some (.ref 81), some (.int (zI k)), some (.int 0), none, none] [] (sM mo G T J) (fun v M => sm_wp X 253 62 [some (.ref 81), some (.int (zI k)), none, none] (v.toList ++ []) M Q))) → sm_wp X 253 0 [some (.ref 81), some (.int (zI k)), none, none] [] (sM mo G T J) Q := fun A T J Q hT h => by
    obtain ⟨r1, r2, r3, r4, r5, r6, r7, r8⟩ := rT A T hT
    rw [lp_253_0, zI_cn (by omega), r1, r2, r3, r4, r5, if_neg nl1, if_neg (fun e => e ((prR A T hT fr hfm).mpr nl2)), if_pos ((prR A T hT to htm).mpr nl3)]
    exact ⟨v60, h⟩
  by_cases f1 : f = 1
  · -- asked
    subst f1
    by_cases due : zI t < K 44 k
    · refine ⟨K, wd, ?_, ?_⟩
      · intro L J Q hL hQ
        refine cst L J Q hL ?_
        rw [if_pos (by decide), if_neg (fun e => e rfl), hL 44 (by decide), if_pos due]
        exact hQ L J hL (fun _ _ _ => rfl)
      · intro A T J Q hT hQ
        refine rst' A T J Q hT ?_
        rw [if_pos (by decide), if_neg (fun e => e rfl), (rT A T hT).2.2.2.2.2.1, if_neg (by rw [nltx] at due; exact due)]
        exact hQ T J hT (fun _ _ => rfl)
    · obtain ⟨K', w', c', r'⟩ := crt (X := X) (mo := mo) (G := G) hp wd hk ofr hf
      refine ⟨K', w', ?_, ?_⟩
      · intro L J Q hL hQ
        refine cst L J Q hL ?_
        rw [if_pos (by decide), if_neg (fun e => e rfl), hL 44 (by decide), if_neg due]
        exact c' L J Q hL hQ
      · intro A T J Q hT hQ
        refine rst' A T J Q hT ?_
        rw [if_pos (by decide), if_neg (fun e => e rfl), (rT A T hT).2.2.2.2.2.1, if_pos (by rw [nltx] at due; exact Classical.not_not.mp due)]
        exact (r' A T J Q hT hQ).1
  have f0 : f = 0 := by omega
  subst f0
  -- pending
  by_cases rn : r = -1
  · refine ⟨K, wd, ?_, ?_⟩
    · intro L J Q hL hQ
      refine cst L J Q hL ?_
      rw [if_neg (fun e => e rfl)]
      refine hC L J _ hL ?_
      intro L' J' e1 e2
      have l31 : L' 31 = K 31 := e1 31 (by decide)
      simp only [tl_some]
      rw [lp_23_83, if_neg (by rw [rn]; exact fun e => e.1 (by decide)), apk L' 42 _ l31, e1 42 (by decide), hf, if_pos (by decide)]
      exact hQ L' J' e1 e2
    · intro A T J Q hT hQ
      refine rst' A T J Q hT ?_
      rw [if_neg (fun e => e rfl)]
      refine hR A T J _ hT ?_
      intro T' J' hfl
      simp only [tl_some]
      rw [lp_253_62, if_neg (by rw [rn]; decide)]
      exact hQ T' J' (cpl_L hT hfl) hfl.2.2
  obtain ⟨i, hi, rfl, hv3⟩ := hr.resolve_left rn
  have hL24 := hb.2.2.2.2 i hi
  have vb3 : ¬ vb i = 3 := by
    intro e
    rw [decide_eq_true e] at hv3
    cases hv3
  have vb4 := hL24.2.2.1
  obtain ⟨hm, hm9, eh⟩ := hp.2.2.2.2.2.2.2.2.1 to
  -- the class behind the first line
  have c83 : ∀ L J (Q : Option Value → sm_M → Prop), eqC K L → (if vb i = 2 then (if zI t < zI (t + 2 * hm) then (Q none (sM mo G (up2 (up2 (up2 L 43 k (zI i)) 42 k (zI 1)) 44 k (zI (t + 2 * hm))) J)) else (sm_wp X 24 0 [some (.ref 45), some (.int (zI k)), some (.int 1), none, none, none, none, none] [] (sM mo G (up2 (up2 (up2 L 43 k (zI i)) 42 k (zI 1)) 44 k (zI (t + 2 * hm))) J) (fun v M => sm_wp X 23 124 [some (.ref 45), some (.int (zI k))] (v.toList ++ [.int (zI k), .ref 45]) M Q))) else Q none (sM mo G (up2 (up2 L 43 k (zI i)) 42 k (zI (if vb i = 0 then 2 else 3))) J)) → sm_wp X 23 83 [some (.ref 45), some (.int (zI k))] [.int (zI i), .int (zI k), .ref 45] (sM mo G L J) Q := by
    intro L J Q hL h
    have l31 : L 31 = K 31 := hL 31 (by decide)
    have e1 : L 1 3 = zI t := by rw [hL 1 (by decide)]; exact et
    have l33 : L 33 k = zI to := by rw [hL 33 (by decide), kf 33 (by decide)]; exact hto
    have l22 : L 22 to = zI ml := by rw [hL 22 (by decide), kf 22 (by decide)]; exact hb.1
    have l24 : L 24 (16 * to + i) = zI (vb i) := by rw [hL 24 (by decide), kf 24 (by decide)]; exact hL24.1
    have p43 : hPap (up2 L 43 k (zI i)) (zI k) := hpp _ (by rw [up2_rn _ _ _ _ _ (by decide)]; exact l31)
    have p42 : ∀ v, hPap (up2 (up2 L 43 k (zI i)) 42 k v) (zI k) := fun v => hpp _ (by rw [up2_rn _ _ _ _ _ (by decide), up2_rn _ _ _ _ _ (by decide)]; exact l31)
    have vv : vf_Book_verbOf (up2 L 43 k (zI i)) (zI to) (zI i) = zI (vb i) := vrb_e (show to < 6 by omega) (m := ml) (by rw [up2_rn _ _ _ _ _ (by decide)]; exact l22) im hi (by rw [up2_rn _ _ _ _ _ (by decide)]; exact l24)
    have a42 : ∀ v, aPap (up2 (up2 L 43 k (zI i)) 42 k v) 42 (-1) (zI k) = v := fun v => by
      rw [apk _ 42 _ (by rw [up2_rn _ _ _ _ _ (by decide), up2_rn _ _ _ _ _ (by decide)]; exact l31), up2_ra, va_ap, if_pos rfl]
    have as : aState (up2 (up2 L 43 k (zI i)) 42 k 1) 11 0 (zI to) = zI hm := by
      rw [aS_e (m := m) (by rw [up2_rn _ _ _ _ _ (by decide), up2_rn _ _ _ _ _ (by decide), hL 1 (by decide), fx.2 1 (by decide) (by decide)]; exact hp.2.1.1) m6 htm, up2_rn _ _ _ _ _ (by decide), up2_rn _ _ _ _ _ (by decide), hL 11 (by decide), kf 11 (by decide)]
      exact eh
    rw [lp_23_83, apk L 33 _ l31, l33, if_pos (isl_e (show to < 6 by omega) l22 im hi), if_neg (fun e => e (hpp L l31)), zI_cn (by omega), vv]
    refine ⟨v60, ?_⟩
    have hvb : vb i = 0 ∨ vb i = 1 ∨ vb i = 2 := by omega
    rcases hvb with g | g | g
    · rw [if_neg (show ¬ vb i = 2 by omega), if_pos g] at h
      rw [g, if_neg (fun e => e rfl), if_neg (fun e => e p43), a42 2, if_pos (by decide)]
      exact h
    · rw [if_neg (show ¬ vb i = 2 by omega), if_neg (show ¬ vb i = 0 by omega)] at h
      rw [g, if_pos (by decide), if_neg (fun e => e rfl), if_neg (fun e => e p43), a42 3, if_pos (by decide)]
      exact h
    · rw [if_pos g] at h
      have a44 : ∀ v, aPap (up2 (up2 (up2 L 43 k (zI i)) 42 k 1) 44 k v) 42 (-1) (zI k) = 1 ∧ aPap (up2 (up2 (up2 L 43 k (zI i)) 42 k 1) 44 k v) 44 (-1) (zI k) = v := fun v => by
        have e31' : up2 (up2 (up2 L 43 k (zI i)) 42 k 1) 44 k v 31 = K 31 := by rw [up2_rn _ _ _ _ _ (by decide), up2_rn _ _ _ _ _ (by decide), up2_rn _ _ _ _ _ (by decide)]; exact l31
        rw [apk _ 42 _ e31', apk _ 44 _ e31', up2_rn _ _ _ _ _ (by decide), up2_ra, va_ap, if_pos rfl, up2_ra, va_ap, if_pos rfl]
        exact ⟨rfl, rfl⟩
      have e2 : zI t + 2 * zI hm = zI (t + 2 * hm) := by rw [show (2 : Int32) * zI hm = zI (2 * hm) from zIl_mul 2 hm, zI_add]
      rw [g, if_pos (by decide), if_pos (by decide), if_neg (fun e => e rfl), if_neg (fun e => e p43), if_neg (fun e => e (p42 1)), as, e1, e2, (a44 _).1, (a44 _).2, if_neg (fun e => e rfl)]
      exact h
  have r62 : ∀ A T J (Q : Option Value → sm_M → Prop), cplR I A K T → (if vb i = 2 then (if zI (t + 2 * hm) ≤ zI t then (sm_wp X 254 0 [some (.ref 81), some (.int (zI k)), some (.int 1), none, none] [] (sM mo G (up2 (up2 (up2 T 118 k (zI i)) 117 k (zI 1)) 119 k (zI (t + 2 * hm))) J) (fun v M => sm_wp X 253 180 [some (.ref 81), some (.int (zI k)), some (.int (zI i)), some (.int 2)] (v.toList ++ [.int (zI k), .ref 118]) M Q)) else Q none (sM mo G (up2 (up2 (up2 T 118 k (zI i)) 117 k (zI 1)) 119 k (zI (t + 2 * hm))) J)) else Q none (sM mo G (up2 (up2 T 118 k (zI i)) 117 k (zI (if vb i = 0 then 2 else 3))) J)) → sm_wp X 253 62 [some (.ref 81), some (.int (zI k)), none, none] [.int (zI i)] (sM mo G T J) Q := by
    intro A T J Q hT h
    obtain ⟨r1, r2, r3, r4, r5, r6, r7, r8⟩ := rT A T hT
    have to6 : vp_in (zI to) 6 := Eq.mpr (zI_vp (a := to) (n := 6) (by omega)) (by omega)
    rw [lp_253_62, if_pos (by rw [zIl_le (c := 0) (by decide) (by omega)]; exact Nat.zero_le _), zI_cn (by omega), r3, show (16 : Int32) * zI to = zI (16 * to) from zIl_mul 16 to, zI_add, zI_vp (by omega), zI_vp (by omega), zI_cn (by omega), r8, hL24.2.1]
    refine ⟨k60, by omega, ?_⟩
    have hvb : vb i = 0 ∨ vb i = 1 ∨ vb i = 2 := by omega
    have u117 : ∀ v, (up2 (up2 T 118 k (zI i)) 117 k v) 117 k = v := fun v => by rw [up2_ra, va_ap, if_pos rfl]
    rcases hvb with g | g | g
    · rw [if_neg (show ¬ vb i = 2 by omega), if_pos g] at h
      rw [g, if_neg (fun e => e rfl), if_pos (by decide), u117, if_pos (by decide)]
      exact h
    · rw [if_neg (show ¬ vb i = 2 by omega), if_neg (show ¬ vb i = 0 by omega)] at h
      rw [g, if_pos (by decide), if_neg (fun e => e rfl), if_pos (by decide), u117, if_pos (by decide)]
      exact h
    · rw [if_pos g] at h
      have e2 : zI t + 2 * zI hm = zI (t + 2 * hm) := by rw [show (2 : Int32) * zI hm = zI (2 * hm) from zIl_mul 2 hm, zI_add]
      have u119 : ∀ v, (up2 (up2 (up2 T 118 k (zI i)) 117 k 1) 119 k v) 119 k = v := fun v => by rw [up2_ra, va_ap, if_pos rfl]
      rw [g, if_pos (by decide), if_pos (by decide), if_neg (fun e => e rfl), u117, if_neg (fun e => e rfl), r7, zI_cn (by omega), eh, r4, e2, u119]
      exact ⟨to6, h⟩
  have wd1 : wdC n m np t0 ch0 bd I (up2 K 43 k (zI i)) := wd_34 wd (Or.inl rfl)
  have f51 : ¬ up2 K 43 k (zI i) 42 k = 5 := by rw [up2_rn _ _ _ _ _ (by decide)]; exact f5
  have cp1 : ∀ A T, cplR I A K T → cplR I A (up2 K 43 k (zI i)) (up2 T 118 k (zI i)) := fun A T hT => cpl_43 hT k k (zI i) (zI i)
  have g2 := Classical.em (vb i = 2)
  rcases g2 with g2 | g2
  case inr =>
    refine ⟨up2 (up2 K 43 k (zI i)) 42 k (zI (if vb i = 0 then 2 else 3)), wd_42 wd1 ofr (by split <;> omega) (by split <;> omega) f51, ?_, ?_⟩
    · intro L J Q hL hQ
      refine cst L J Q hL ?_
      rw [if_neg (fun e => e rfl)]
      refine hC L J _ hL ?_
      intro L' J' e1 e2
      simp only [tl_some]
      refine c83 L' J' Q e1 ?_
      rw [if_neg g2]
      exact hQ _ _ (eqC_u (eqC_u e1 43 k (zI i)) 42 k _) e2
    · intro A T J Q hT hQ
      refine rst' A T J Q hT ?_
      rw [if_neg (fun e => e rfl)]
      refine hR A T J _ hT ?_
      intro T' J' hfl
      simp only [tl_some]
      refine r62 A T' J' Q (cpl_L hT hfl) ?_
      rw [if_neg g2]
      exact hQ _ _ (cpl_42 (cp1 A T' (cpl_L hT hfl)) k _) hfl.2.2
  have wd2 : wdC n m np t0 ch0 bd I (up2 (up2 (up2 K 43 k (zI i)) 42 k (zI 1)) 44 k (zI (t + 2 * hm))) := wd_34 (wd_42 wd1 ofr (by omega) (by omega) f51) (Or.inr rfl)
  have cp2 : ∀ A T, cplR I A K T → cplR I A (up2 (up2 (up2 K 43 k (zI i)) 42 k (zI 1)) 44 k (zI (t + 2 * hm))) (up2 (up2 (up2 T 118 k (zI i)) 117 k (zI 1)) 119 k (zI (t + 2 * hm))) := fun A T hT => cpl_44 (cpl_42 (cp1 A T hT) k (zI 1)) k _
  by_cases due : zI t < zI (t + 2 * hm)
  · refine ⟨_, wd2, ?_, ?_⟩
    · intro L J Q hL hQ
      refine cst L J Q hL ?_
      rw [if_neg (fun e => e rfl)]
      refine hC L J _ hL ?_
      intro L' J' e1 e2
      simp only [tl_some]
      refine c83 L' J' Q e1 ?_
      rw [if_pos g2, if_pos due]
      exact hQ _ _ (eqC_u (eqC_u (eqC_u e1 43 k (zI i)) 42 k _) 44 k _) e2
    · intro A T J Q hT hQ
      refine rst' A T J Q hT ?_
      rw [if_neg (fun e => e rfl)]
      refine hR A T J _ hT ?_
      intro T' J' hfl
      simp only [tl_some]
      refine r62 A T' J' Q (cpl_L hT hfl) ?_
      rw [if_pos g2, if_neg (by rw [nltx] at due; exact due)]
      exact hQ _ _ (cp2 A T' (cpl_L hT hfl)) hfl.2.2
  · obtain ⟨K', w', c', r'⟩ := crt (X := X) (mo := mo) (G := G) hp wd2 hk ofr (by rw [up2_rn _ _ _ _ _ (by decide), up2_ra, va_ap, if_pos rfl]; rfl)
    refine ⟨K', w', ?_, ?_⟩
    · intro L J Q hL hQ
      refine cst L J Q hL ?_
      rw [if_neg (fun e => e rfl)]
      refine hC L J _ hL ?_
      intro L' J' e1 e2
      simp only [tl_some]
      refine c83 L' J' Q e1 ?_
      rw [if_pos g2, if_neg due]
      exact c' _ J' Q (eqC_u (eqC_u (eqC_u e1 43 k (zI i)) 42 k _) 44 k _) (fun L2 J2 a b => hQ L2 J2 a (fun d x y => by rw [b d x y]; exact e2 d x y))
    · intro A T J Q hT hQ
      refine rst' A T J Q hT ?_
      rw [if_neg (fun e => e rfl)]
      refine hR A T J _ hT ?_
      intro T' J' hfl
      simp only [tl_some]
      refine r62 A T' J' Q (cpl_L hT hfl) ?_
      rw [if_pos g2, if_pos (by rw [nltx] at due; exact Classical.not_not.mp due)]
      exact (r' A _ J' Q (cp2 A T' (cpl_L hT hfl)) (fun T2 J2 a b => hQ T2 J2 a (fun d x => by rw [b d x]; exact hfl.2.2 d x))).2 (zI i) 2
end D3
