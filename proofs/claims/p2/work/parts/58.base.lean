/-! The base of an article, on both sides. -/
/-- what the articles' code leans on -/
def aC (r ms : Nat) (K : Nat → Nat → Int32) : Prop := K 71 0 = zI r ∧ r ≤ 8 ∧ K 1 1 = zI ms ∧ ms ≤ 6 ∧ (∀ j, ∃ w, w ≤ 8 ∧ K 72 j = zI w)
def aM (r ms : Nat) (K : Nat → Nat → Int32) : Prop := K 81 81 = zI r ∧ r ≤ 8 ∧ K 81 10 = zI ms ∧ ms ≤ 6 ∧ (∀ j, ∃ w, w ≤ 8 ∧ K 135 j = zI w)
theorem aC_f {r ms : Nat} {I K : Nat → Nat → Int32} (f : Fr I K) (h : aC r ms I) : aC r ms K := by
  unfold aC
  rw [f.1 71 rfl, f.1 1 rfl, f.1 72 rfl]
  exact h
theorem aM_f {r ms : Nat} {I K : Nat → Nat → Int32} (f : Fr I K) (h : aM r ms I) : aM r ms K := by
  unfold aM
  rw [f.2.2.2.2 81 rfl, f.2.2.2.2 10 rfl, f.1 135 rfl]
  exact h
theorem hpd_v {r ms a s : Nat} {K : Nat → Nat → Int32} (h : aC r ms K) (ha : a < r) (hs : s < 6) : vf_Art_hasPresentDraft K (zI a) (zI s) = (adr (K 1 2) (K 72) ms a s = true) := by
  obtain ⟨h1, h2, h3, h4, h5⟩ := h
  unfold vf_Art_hasPresentDraft adr
  simp only [hPres_vp h3 h4]
  simp (disch := first | omega | decide) only [zI_lt, zI_le, zI_eq, zI_cn, zI_vp, zI_add, zI_mul, zI_sub, zIl_add, zIr_add, zIl_mul, zIr_mul, zIr_sub, zIl_lt, zIr_lt, zIl_le, zIr_le, zIl_eq, zIr_eq, zI_sIn, zI_m1, zI_m1', Int32.add_zero, Int32.or_zero]
  apply propext
  by_cases g : s < ms
  · rw [dl_v K h1 h2 h3 h4 ha g]
    obtain ⟨w, hw, e⟩ := h5 (6 * a + s)
    rw [e]
    simp (disch := first | omega | decide) only [zI_lt, zI_le, zI_eq, zI_cn, zI_vp, zI_add, zI_mul, zI_sub, zIl_add, zIr_add, zIl_mul, zIr_mul, zIr_sub, zIl_lt, zIr_lt, zIl_le, zIr_le, zIl_eq, zIr_eq, zI_sIn, zI_m1, zI_m1', Int32.add_zero, Int32.or_zero, g]
    simp
  · simp [g]
theorem hdr_v {r ms a s : Nat} {K : Nat → Nat → Int32} (h : aM r ms K) (ha : a < r) (hs : s < 6) : vf_Model_hasDraft K (zI a) (zI s) = (adr (K 81 15) (K 135) ms a s = true) ∧ vc_Model_hasDraft K (zI a) (zI s) := by
  obtain ⟨h1, h2, h3, h4, h5⟩ := h
  obtain ⟨w, hw, e⟩ := h5 (6 * a + s)
  have c48 : 6 * a + s < 48 := by omega
  unfold vf_Model_hasDraft vc_Model_hasDraft adr
  simp only [mPres_vp h3 h4]
  simp (disch := first | omega | decide) only [zI_lt, zI_le, zI_eq, zI_cn, zI_vp, zI_add, zI_mul, zI_sub, zIl_add, zIr_add, zIl_mul, zIr_mul, zIr_sub, zIl_lt, zIr_lt, zIl_le, zIr_le, zIl_eq, zIr_eq, zI_sIn, zI_m1, zI_m1', Int32.add_zero, Int32.or_zero, e, c48, implies_true, and_true]
  apply propext
  by_cases g : s < ms
  · simp [g]
  · simp [g]
section O1
variable {X : (Nat → Int32) × Nat} {mo : Bool} {G : Nat × Nat} {J : Nat → Nat → Int64} {Q : Option Value → sm_M → Prop}
theorem stC_f {I : Nat → Nat → Int32} (u v n m : Nat) : Fr I (stC I u v n m) := by
  unfold stC
  exact Fr_w (Fr_w (Fr_w (Fr_r I) rfl (by decide) (by decide) (by decide) _) rfl (by decide) (by decide) (by decide) _) rfl (by decide) (by decide) (by decide) _
/-- the distance, by the class -/
theorem hc_steps {r ms a s o : Nat} {K : Nat → Nat → Int32} (h : aC r ms K) (ha : a < r) (hs : s < ms) (ho : o < ms) : sm_wp X 8 0 [some (.ref 71), some (.int (zI a)), some (.int (zI s)), some (.int (zI o)), none, none, none, none, none, none, none] [] (sM mo G K J) Q = Q (some (.int (zI (adD (K 72) (K 73) a s o)))) (sM mo G (stC K (6 * a + s) (6 * a + o) (adl (K 72) a s) (adl (K 72) a o)) J) := by
  obtain ⟨h1, h2, h3, h4, h5⟩ := h
  obtain ⟨w, hw, e⟩ := h5 (6 * a + s)
  obtain ⟨v, hv, e2⟩ := h5 (6 * a + o)
  have e3 : adl (K 72) a s = w := by unfold adl; rw [e, zI_cn (by omega)]
  have e4 : adl (K 72) a o = v := by unfold adl; rw [e2, zI_cn (by omega)]
  rw [ct_steps _ _ _ _ _ _ h1 h2 h3 h4 ha hs ho e e2 hw hv, e3, e4]
  unfold adD
  rw [e3, e4]
  rfl
theorem hm_far {r ms a s o : Nat} {K : Nat → Nat → Int32} (h : aM r ms K) (ha : a < r) (hs : s < ms) (ho : o < ms) : sm_wp X 297 0 [some (.ref 81), some (.int (zI (6 * a + s))), some (.int (zI (6 * a + o))), none, none, none] [] (sM mo G K J) Q = Q (some (.int (zI (adD (K 135) (K 136) a s o)))) (sM mo G (rw2 K 139 (tb (adw (K 136) a s) (adw (K 136) a o) (adl (K 135) a s) (adl (K 135) a o) (K 139) 0 0)) J) := by
  obtain ⟨h1, h2, h3, h4, h5⟩ := h
  obtain ⟨w, hw, e⟩ := h5 (6 * a + s)
  obtain ⟨v, hv, e2⟩ := h5 (6 * a + o)
  have e3 : adl (K 135) a s = w := by unfold adl; rw [e, zI_cn (by omega)]
  have e4 : adl (K 135) a o = v := by unfold adl; rw [e2, zI_cn (by omega)]
  rw [ct_far _ _ _ _ _ _ (by omega) (by omega) e e2 hw hv, e3, e4]
  unfold adD
  rw [e3, e4]
  rfl
theorem hc_base {r ms a : Nat} {I : Nat → Nat → Int32} (h : aC r ms I) (hR : ∀ j, ∃ w, w ≤ 99 ∧ I 10 j = zI w) (ha : a < r) (hQ : ∀ K, Fr I K → Q (some (.int (enc (abs (I 1 2) (I 72) (I 73) (I 10) ms a)))) (sM mo G K J)) : sm_wp X 10 0 [some (.ref 71), some (.int (zI a)), none, none, none] [] (sM mo G I J) Q := by
  have hL := h.2.2.2.2
  -- the last loop
  have l3 : ∀ K, Fr I K → (∀ s, s < 6 → adr (I 1 2) (I 72) ms a s = true → K 79 s = zI (asm (I 1 2) (I 72) (I 73) ms a s)) → sm_wp X 10 101 [some (.ref 71), some (.int (zI a)), some (.int (-1)), some (.int 0), none] [] (sM mo G K J) Q := by
    intro K f hs
    have e := cnt (fun k (b : Option Nat) => sm_wp X 10 101 [some (.ref 71), some (.int (zI a)), some (.int (enc b)), some (.int (zI k)), none] [] (sM mo G K J) Q) (abF (I 1 2) (I 72) (I 73) (I 10) ms a) none 6 (fun k hk => by
      have hlt := abF_lt (pr := I 1 2) (L := I 72) (W := I 73) (R := I 10) (ms := ms) (a := a) k (by omega)
      generalize up (abF (I 1 2) (I 72) (I 73) (I 10) ms a) k none = b at hlt ⊢
      have c6 : ¬ (6 : Int32) ≤ zI k := by rw [zIl_le (c := 6) (by decide) (by omega)]; show ¬ 6 ≤ k; omega
      rw [lp_10_101, if_neg c6]
      simp only [hpd_v (aC_f f h) ha hk, f.1 1 rfl, f.1 72 rfl]
      rw [show zI k + 1 = zI (k + 1) from zIr_add 1 k]
      unfold abF
      by_cases g : adr (I 1 2) (I 72) ms a k = true
      · simp only [g, not_true_eq_false, if_false, if_true]
        cases b with
        | none =>
          have : vf_Art_isBetterBase K (zI k) (enc none) := by
            unfold vf_Art_isBetterBase enc
            refine Or.inr (Or.inr (Or.inl (by decide)))
          rw [if_neg (fun g => g this)]
          rfl
        | some t =>
          obtain ⟨t1, t2⟩ := hlt t rfl
          have s1 := hs k hk g
          have s2 := hs t (by omega) t2
          have b1 := asm_le (pr := I 1 2) (W := I 73) (ms := ms) (a := a) hL k
          have b2 := asm_le (pr := I 1 2) (W := I 73) (ms := ms) (a := a) hL t
          have km : k < ms := by
            unfold adr at g
            simp at g
            exact g.1.1
          have tm : t < ms := by
            unfold adr at t2
            simp at t2
            exact t2.1.1
          have ib : vf_Art_isBetterBase K (zI k) (zI t) = (asm (I 1 2) (I 72) (I 73) ms a k < asm (I 1 2) (I 72) (I 73) ms a t ∨ (asm (I 1 2) (I 72) (I 73) ms a k = asm (I 1 2) (I 72) (I 73) ms a t ∧ I 10 k < I 10 t)) := by
            obtain ⟨-, -, h3, h4, -⟩ := aC_f f h
            unfold vf_Art_isBetterBase
            simp only [aState, hState_vp h3 h4, f.1 10 rfl]
            obtain ⟨w1, -, hw1⟩ := hR k
            obtain ⟨w2, -, hw2⟩ := hR t
            have n6 : ¬ 6 ≤ k := by omega
            have t6 : t < 6 := by omega
            simp (disch := first | omega | decide) only [zI_lt, zI_le, zI_eq, zI_cn, zI_vp, zI_add, zI_mul, zI_sub, zIl_add, zIr_add, zIl_mul, zIr_mul, zIr_sub, zIl_lt, zIr_lt, zIl_le, zIr_le, zIl_eq, zIr_eq, zI_sIn, zI_m1, zI_m1', Int32.add_zero, Int32.or_zero, s1, s2, km, tm, if_true, Nat.not_lt_zero, n6, t6, not_true_eq_false, false_or]
            apply propext
            have nle : (¬ I 10 t ≤ I 10 k) = (I 10 k < I 10 t) := by grind
            rw [nle]
            grind
          simp only [enc, ib]
          by_cases c : asm (I 1 2) (I 72) (I 73) ms a k < asm (I 1 2) (I 72) (I 73) ms a t ∨ (asm (I 1 2) (I 72) (I 73) ms a k = asm (I 1 2) (I 72) (I 73) ms a t ∧ I 10 k < I 10 t)
          · rw [if_neg (fun g => g c), if_pos c]
          · rw [if_pos c, if_neg c]
      · simp only [g, not_false_eq_true, if_true, if_false]
        rfl)
    refine (show _ = _ from e).mpr ?_
    rw [lp_10_101, if_pos (by decide)]
    exact hQ K f
  -- the pairs
  have l2 : ∀ d b, b + d = 6 → 1 ≤ b → ∀ K, Fr I K → (∀ s, s < 6 → K 79 s = zI (pss (I 1 2) (I 72) (I 73) ms a b 0 s)) → sm_wp X 10 23 [some (.ref 71), some (.int (zI a)), some (.int (zI b)), none, none] [] (sM mo G K J) Q := by
    intro d
    induction d with
    | zero =>
      intro b hb _ K f hs
      have : b = 6 := by omega
      subst this
      rw [lp_10_23, if_pos (by decide)]
      exact l3 K f (fun s h6 hg => by rw [hs s h6, pss_6 h6 hg])
    | succ d ih =>
      intro b hb hb1 K f hs
      have c6 : ¬ (6 : Int32) ≤ zI b := by rw [zIl_le (c := 6) (by decide) (by omega)]; show ¬ 6 ≤ b; omega
      rw [lp_10_23, if_neg c6]
      have inn : ∀ e c, c + e = b → ∀ K, Fr I K → (∀ s, s < 6 → K 79 s = zI (pss (I 1 2) (I 72) (I 73) ms a b c s)) → sm_wp X 10 31 [some (.ref 71), some (.int (zI a)), some (.int (zI b)), some (.int (zI c)), none] [] (sM mo G K J) Q := by
        intro e
        induction e with
        | zero =>
          intro c hc K f hs
          have : c = b := by omega
          subst this
          rw [lp_10_31, if_pos (by rw [zI_le (by omega) (by omega)]; exact Nat.le_refl _), show zI c + 1 = zI (c + 1) from zIr_add 1 c]
          exact ih (c + 1) (by omega) (by omega) K f (fun s h6 => by rw [hs s h6, pss_row h6])
        | succ e ihe =>
          intro c hc K f hs
          rw [lp_10_31, if_neg (by rw [zI_le (by omega) (by omega)]; omega), show zI c + 1 = zI (c + 1) from zIr_add 1 c]
          simp only [hpd_v (aC_f f h) ha (show c < 6 by omega), hpd_v (aC_f f h) ha (show b < 6 by omega), f.1 1 rfl, f.1 72 rfl]
          by_cases g1 : adr (I 1 2) (I 72) ms a c = true
          · by_cases g2 : adr (I 1 2) (I 72) ms a b = true
            · rw [if_neg (fun g => g g1), if_neg (fun g => g g2)]
              have cm : c < ms := by
                unfold adr at g1
                simp at g1
                exact g1.1.1
              have bm : b < ms := by
                unfold adr at g2
                simp at g2
                exact g2.1.1
              rw [hc_steps (aC_f f h) ha cm bm]
              simp only [tl_some]
              rw [lp_10_61, zI_vp (by omega), zI_vp (by omega), zI_cn (by omega), zI_cn (by omega), show zI c + 1 = zI (c + 1) from zIr_add 1 c, f.1 72 rfl, f.1 73 rfl]
              refine ⟨by omega, by omega, ?_⟩
              refine ihe (c + 1) (by omega) _ (Fr_u (Fr_u (Fr_t f (stC_f _ _ _ _)) rfl (by decide) (by decide) (by decide) _ _) rfl (by decide) (by decide) (by decide) _ _) ?_
              intro s h6
              have s79 : ∀ u v n m, stC K u v n m 79 = K 79 := fun u v n m => by unfold stC; simp (decide := true) only [rw2_n, ne_eq, not_false_eq_true]
              simp only [up2_ra, va_ap, s79]
              rw [pss_yes h6 (by omega) (by omega) g1 g2]
              have x1 := hs s h6
              have x2 := hs b (by omega)
              have x3 := hs c (by omega)
              by_cases y1 : s = b
              · subst y1
                have y2 : ¬ s = c := by omega
                simp only [if_true, y2, if_false]
                rw [x2, zI_add]
              · by_cases y2 : s = c
                · subst y2
                  simp only [y1, if_true, if_false]
                  rw [x3, zI_add]
                · simp only [y1, y2, if_false]
                  exact x1
            · rw [if_neg (fun g => g g1), if_pos g2]
              exact ihe (c + 1) (by omega) K f (fun s h6 => by rw [hs s h6, pss_no h6 (by omega) (fun g => g2 g.2)])
          · rw [if_pos g1]
            exact ihe (c + 1) (by omega) K f (fun s h6 => by rw [hs s h6, pss_no h6 (by omega) (fun g => g1 g.1)])
      exact inn b 0 (by omega) K f hs
  -- the first loop
  have l1 : ∀ d k, k + d = 6 → ∀ K, Fr I K → (∀ s, s < k → K 79 s = 0) → sm_wp X 10 2 [some (.ref 71), some (.int (zI a)), some (.int (zI k)), none, none] [] (sM mo G K J) Q := by
    intro d
    induction d with
    | zero =>
      intro k hk K f hs
      have : k = 6 := by omega
      subst this
      rw [lp_10_2, if_pos (by decide)]
      exact l2 5 1 rfl (by decide) K f (fun s h6 => by rw [hs s h6, pss_0]; rfl)
    | succ d ih =>
      intro k hk K f hs
      have c6 : ¬ (6 : Int32) ≤ zI k := by rw [zIl_le (c := 6) (by decide) (by omega)]; show ¬ 6 ≤ k; omega
      rw [lp_10_2, if_neg c6, zI_vp (by omega), zI_cn (by omega), show zI k + 1 = zI (k + 1) from zIr_add 1 k]
      refine ⟨by omega, ih (k + 1) (by omega) _ (Fr_u f rfl (by decide) (by decide) (by decide) _ _) fun s h6 => ?_⟩
      rw [up2_ra, va_ap]
      split
      · rfl
      · exact hs s (by omega)
  rw [lp_10_0]
  exact l1 6 0 rfl I (Fr_r I) (fun s h => absurd h (Nat.not_lt_zero _))
end O1
