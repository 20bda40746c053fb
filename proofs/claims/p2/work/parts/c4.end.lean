/-! A chain ends, on both sides. -/
theorem jD_t {J J1 J2 : Nat → Nat → Int64} (a : jD J J1) (b : jD J1 J2) : jD J J2 := fun d x y => (b d x y).trans (a d x y)
theorem jR_t {J J1 J2 : Nat → Nat → Int64} (a : jR J J1) (b : jR J1 J2) : jR J J2 := fun d x => (b d x).trans (a d x)
theorem wdM_b {n m np t0 ch0 bd bd' q : Nat} {I K : Nat → Nat → Int32} (h : wdM n m np t0 ch0 bd q I K) (hb : bd ≤ bd') : wdM n m np t0 ch0 bd' q I K := by
  obtain ⟨h1, h2, h3, ⟨ch, c1, c2, c3⟩, h5⟩ := h
  exact ⟨h1, h2, h3, ⟨ch, c1, by omega, c3⟩, h5⟩
theorem wdC_b {n m np t0 ch0 bd bd' : Nat} {I K : Nat → Nat → Int32} (h : wdC n m np t0 ch0 bd I K) (hb : bd ≤ bd') : wdC n m np t0 ch0 bd' I K := wdM_b (q := 0) h hb
theorem fixC_r {I K : Nat → Nat → Int32} {r : Nat → Int32} (h : fixC I K) : fixC I (rw2 K 42 r) := ⟨fun e a1 a2 a3 a4 a5 a6 a7 a8 a9 => by rw [rw2_n _ _ _ _ a7]; exact h.1 e a1 a2 a3 a4 a5 a6 a7 a8 a9, fun i a b => by rw [rw2_n _ _ _ _ (by decide)]; exact h.2 i a b⟩
theorem sta_r {I K : Nat → Nat → Int32} {np p w : Nat} {P : Nat → Prop} (h : sta I K np) (hw : w ≤ 6) (hP : ∀ k, P k → chn I p k) : sta I (rw2 K 42 (setR np P (zI w) (K 42))) np := fun k hk => by
  rw [rw2_a]
  by_cases g : P k
  · rw [setR_y hk g]; exact Or.inr ⟨(hP k g).1, w, hw, rfl⟩
  · rw [setR_n (fun e => g e.2)]; exact h k hk
/-- set to an end that isn't bound -/
theorem wd_set {n m np p w t0 ch0 bd : Nat} {P : Nat → Prop} {I K : Nat → Nat → Int32} (h : wdC n m np t0 ch0 bd I K) (hw : w ≤ 6) (h5 : ¬ w = 5) (hP : ∀ k, P k → chn I p k ∧ ¬ K 42 k = 5) : wdC n m np t0 ch0 bd I (rw2 K 42 (setR np P (zI w) (K 42))) := by
  obtain ⟨h1, h2, h3, h4, h5', h6, h7⟩ := h
  refine ⟨fixC_r h1, sta_r h2 hw (fun k hk => (hP k hk).1), by rw [rw2_n _ _ _ _ (by decide)]; exact h3, by rw [rw2_n _ _ _ _ (by decide), rw2_n _ _ _ _ (by decide)]; exact h4, by rw [rw2_n _ _ _ _ (by decide)]; exact h5', by rw [rw2_n _ _ _ _ (by decide)]; exact h6, ?_⟩
  rw [rw2_n _ _ _ _ (by decide), rw2_a, nBd_c np (r := K 42) (fun k hk => ?_)]
  · exact h7
  · by_cases g : P k
    · rw [setR_y hk g, zIr_eq (c := 5) (by decide) (by omega)]
      exact ⟨fun e => absurd e h5, fun e => absurd e (hP k g).2⟩
    · rw [setR_n (fun e => g e.2)]
section E1
variable {X : (Nat → Int32) × Nat} {mo : Bool} {G : Nat × Nat} {I K : Nat → Nat → Int32}
def rRunC (mo : Bool) (G : Nat × Nat) (np p : Nat) (I : Nat → Nat → Int32) (pg : sm_M → (Option Value → sm_M → Prop) → Prop) (K K' : Nat → Nat → Int32) : Prop := ∀ A T J (Q : Option Value → sm_M → Prop), cplR I A K T → cRw np p I T → (∀ T' J', cplR I A K' T' → jR J J' → Q none (sM mo G T' J')) → pg (sM mo G T J) Q
theorem una_n {k : Nat} (h : una K k) : ¬ K 42 k = 5 := by
  rcases h with h | h | h <;> rw [h] <;> decide
theorem crl {n m np p t0 ch0 bd : Nat} (hp : ppS n m np I) (hpn : p < np) (hpo : ¬ I 42 p = -1) (r0 : Nat → Int32) (hnw : ∀ k, k < np → chn I p k → ¬ (r0 k = 0 ∨ r0 k = 1)) : ∀ d j K, j + d = np → wdM n m np t0 ch0 (bd + 24 * j) (cN (fun k => pB (chn I p k ∧ r0 k = 2)) j) I K → K 42 = r0 → ∃ K', wdC n m np t0 ch0 (bd + 24 * np) I K' ∧
    cRun mo G (fun M Q => sm_wp X 36 18 [some (.ref 45), some (.int (zI p)), some (.int (zI j))] [] M Q) K K' ∧ rRunC mo G np p I (fun M Q => sm_wp X 264 142 [some (.ref 81), none, none, none, some (.int (zI j)), none] [] M Q) K K' := by
  have np60 := hp.2.2.1.2.2
  have n12 := hp.1.2.2
  have e31 : ∀ K L : Nat → Nat → Int32, fixC I K → eqC K L → L 31 0 = zI np := fun K L hf hL => by rw [hL 31 (by decide), hf.1 31 (by decide) (by decide) (by decide) (by decide) (by decide) (by decide) (by decide) (by decide) (by decide)]; exact hp.2.2.1.1
  have e46 : ∀ A K T : Nat → Nat → Int32, cplR I A K T → T 81 46 = zI np := fun A K T hT => by rw [hT.2.2.1 46 (by decide) (by decide) (by decide)]; exact hp.2.2.1.2.1
  intro d
  induction d with
  | zero =>
    intro j K hj wd e42
    have : j = np := by omega
    subst this
    have fx := wd.1
    have hst := wd.2.1
    have same : ∀ k, k < j → ((chn I p k ∧ una K k) ↔ (chn I p k ∧ ∃ f, K 42 k = zI f ∧ f ≤ 6 ∧ 2 ≤ f ∧ f ≤ 2)) := fun k hk => by
      constructor
      · rintro ⟨h1, h2⟩
        have nw := hnw k hk h1
        rw [← e42] at nw
        refine ⟨h1, 2, ?_, by omega, by omega, by omega⟩
        rcases h2 with h2 | h2 | h2
        · exact absurd (Or.inl h2) nw
        · exact absurd (Or.inr h2) nw
        · exact h2
      · rintro ⟨h1, f, h2, h3, h4, h5⟩
        refine ⟨h1, Or.inr (Or.inr ?_)⟩
        rw [h2, show f = 2 from by omega]; rfl
    refine ⟨rw2 K 42 (setR j (fun k => chn I p k ∧ una K k) (zI 5) (K 42)), ?_, ?_, ?_⟩
    · obtain ⟨h1, h2, h3, h4, h5', h6, h7⟩ := wd
      refine ⟨fixC_r h1, sta_r h2 (by omega) (fun k hk => hk.1), by rw [rw2_n _ _ _ _ (by decide)]; exact h3, by rw [rw2_n _ _ _ _ (by decide), rw2_n _ _ _ _ (by decide)]; exact h4, by rw [rw2_n _ _ _ _ (by decide)]; exact h5', by rw [rw2_n _ _ _ _ (by decide)]; exact h6, ?_⟩
      have nb := nBd_set (r := K 42) (P := fun k => chn I p k ∧ una K k) (np := j) (fun k hk => una_n hk.2) j (Nat.le_refl _)
      have cc : cN (fun k => pB (chn I p k ∧ una K k)) j = cN (fun k => pB (chn I p k ∧ r0 k = 2)) j := cN_congr (fun k hk => by
        have iff : (chn I p k ∧ una K k) ↔ (chn I p k ∧ r0 k = 2) := by
          rw [same k hk]
          constructor
          · rintro ⟨a, f, b, c, d, e⟩
            refine ⟨a, ?_⟩
            rw [← e42, b, show f = 2 from by omega]; rfl
          · rintro ⟨a, b⟩
            exact ⟨a, 2, by rw [e42]; exact b, by omega, by omega, by omega⟩
        rw [propext iff])
      rw [rw2_n _ _ _ _ (by decide), rw2_a]
      have nb' : nBound j (setR j (fun k => chn I p k ∧ una K k) (zI 5) (K 42)) = nBound j (K 42) + cN (fun k => pB (chn I p k ∧ una K k)) j := nb
      rw [nb', cc, ← Nat.add_assoc]
      exact h7
    · intro L J Q hL hQ
      show sm_wp X 36 18 [some (.ref 45), some (.int (zI p)), some (.int (zI j))] [] (sM mo G L J) Q
      rw [lp_36_18, if_pos (by rw [e31 K L fx hL, zI_le (by omega) (by omega)]; exact Nat.le_refl _)]
      refine c_35 (w := 5) hp fx hpn hpo L J _ hL ?_
      intro L' J' a b
      simp only [tl_none]
      rw [lp_36_107]
      exact hQ L' J' a b
    · intro A T J Q hT hc hQ
      show sm_wp X 264 142 [some (.ref 81), none, none, none, some (.int (zI j)), none] [] (sM mo G T J) Q
      rw [lp_264_142, if_pos (by rw [e46 A K T hT, zI_le (by omega) (by omega)]; exact Nat.le_refl _)]
      refine r_266 (lo := 2) (hi := 2) (w := 5) hp (by omega) (by omega) hT hc hst ?_
      intro T' hT'
      simp only [tl_none]
      rw [lp_264_268]
      rw [← setR_c same] at hT'
      exact hQ T' J hT' (fun _ _ => rfl)
  | succ d ih =>
    intro j K hj wd e42
    have fx := wd.1
    by_cases mj : chn I p j ∧ r0 j = 2
    · have mB : (fun k => pB (chn I p k ∧ r0 k = 2)) j = true := pB_t.mpr mj
      obtain ⟨⟨fr, hfr, ef⟩, to, hto, et⟩ := hp.2.2.2.2.2.2.2.2.2.1 j (by omega)
      obtain ⟨o1, o2, o3, o4, o5, -⟩ := (hp.2.2.2.2.2.2.2.2.2.2 j (by omega)).resolve_left (fun e => mj.1.1 e.1)
      have bg : ∀ l, bt (I 37 j) l = true → l < n := fun l hl => by
        by_cases g : l < n
        · exact g
        · rw [o3 l (by omega)] at hl; cases hl
      have bt' : ∀ l, bt (I 38 j) l = true → l < n := fun l hl => by
        by_cases g : l < n
        · exact g
        · rw [o4 l (by omega)] at hl; cases hl
      have w80 : ∀ l, ∃ w, K 6 l = zI w ∧ w < 80 := fun l => by
        obtain ⟨v, v1, v2⟩ := wd.2.2.2.2.2.2 l
        have a := nBd_m (r := K 42) (S := fun k => pB (chn I p k ∧ r0 k = 2)) (fun k hk e => by
          have := (pB_t.mp hk).2
          rw [e42, this] at e
          exact absurd e (by decide)) np
        have b := cN_lt (P := fun k => pB (chn I p k ∧ r0 k = 2)) (show j < np by omega) mB
        exact ⟨v, v1, by omega⟩
      have wd' : wdM n m np t0 ch0 (bd + 24 * (j + 1)) (cN (fun k => pB (chn I p k ∧ r0 k = 2)) (j + 1)) I (h2 K (I 37 j) (I 38 j) n to fr j) := by
        rw [cN_p mB]
        exact wdM_b (wdM_s wd o5 n12 bg bt' hto hfr) (by omega)
      have e42' : h2 K (I 37 j) (I 38 j) n to fr j 42 = r0 := by
        unfold h2
        rw [hv_d (by decide) (by decide) (by decide) (by decide) (by decide) (by decide), hv_d (by decide) (by decide) (by decide) (by decide) (by decide) (by decide)]
        exact e42
      obtain ⟨K', w', c', r'⟩ := ih (j + 1) _ (by omega) wd' e42'
      refine ⟨K', w', ?_, ?_⟩
      · intro L J Q hL hQ
        have ic := ioc hp fx hL hpn hpo (show j < np by omega)
        have e31L := e31 K L fx hL
        have hpj : ∀ L : Nat → Nat → Int32, L 31 0 = zI np → hPap L (zI j) := fun L h => by rw [hPap_vp h np60, zI_sIn (by omega) (by omega)]; omega
        have ap : ∀ (L : Nat → Nat → Int32) (c : Nat) (d : Int32), L 31 0 = zI np → aPap L c d (zI j) = L c j := fun L c d h => by
          unfold aPap
          rw [if_pos (hpj L h), zI_cn (by omega)]
        have kf : ∀ d, d = 32 ∨ d = 33 ∨ d = 37 ∨ d = 38 → K d = I d := fun d h => fx.1 d (by omega) (by omega) (by omega) (by omega) (by omega) (by omega) (by omega) (by omega) (by omega)
        show sm_wp X 36 18 [some (.ref 45), some (.int (zI p)), some (.int (zI j))] [] (sM mo G L J) Q
        rw [lp_36_18, if_neg (by rw [e31L, zI_le (by omega) (by omega)]; omega), if_neg (fun e => e (ic.mpr mj.1)), if_neg (fun e => e (by rw [ap L 42 _ e31L, hL 42 (by decide), e42]; exact mj.2)), ap L 37 _ e31L, ap L 33 _ e31L, hL 37 (by decide), hL 33 (by decide), kf 37 (by decide), kf 33 (by decide), et]
        refine c_38 (K := K) (n := n) (by rw [fx.2 0 (by decide) (by decide)]; exact hp.1.1) n12 bg (fun l _ => w80 l) L J _ hL ?_
        intro L1 J1 hL1 j1
        have e31L1 : L1 31 0 = zI np := by rw [hL1 31 (by decide), hv_d (by decide) (by decide) (by decide) (by decide) (by decide) (by decide), fx.1 31 (by decide) (by decide) (by decide) (by decide) (by decide) (by decide) (by decide) (by decide) (by decide)]; exact hp.2.2.1.1
        simp only [tl_none]
        rw [lp_36_74, ap L1 38 _ e31L1, ap L1 32 _ e31L1, hL1 38 (by decide), hL1 32 (by decide), hv_d (by decide) (by decide) (by decide) (by decide) (by decide) (by decide), hv_d (by decide) (by decide) (by decide) (by decide) (by decide) (by decide), kf 38 (by decide), kf 32 (by decide), ef]
        refine c_38 (n := n) (by rw [hv_1, if_neg (by decide), fx.2 0 (by decide) (by decide)]; exact hp.1.1) n12 bt' (fun l hl => ?_) L1 J1 _ hL1 ?_
        · rw [hv_6, if_neg (fun e => bt_dis o5 l ⟨e, hl⟩)]
          exact w80 l
        intro L2 J2 hL2 j2
        simp only [tl_none]
        rw [lp_36_95, show zI j + 1 = zI (j + 1) from zIr_add 1 j]
        exact c' L2 J2 Q hL2 (fun L3 J3 a b => hQ L3 J3 a (jD_t j1 (jD_t j2 b)))
      · intro A T J Q hT hc hQ
        have z1 := (hc.2 j (by omega)).mpr mj.1
        show sm_wp X 264 142 [some (.ref 81), none, none, none, some (.int (zI j)), none] [] (sM mo G T J) Q
        rw [lp_264_142, if_neg (by rw [e46 A K T hT, zI_le (by omega) (by omega)]; omega), zI_cn (by omega), if_neg (by rw [z1]; decide), if_pos (by rw [hT.2.2.2.2.2.2.1, e42]; exact mj.2)]
        refine ⟨Eq.mpr (zI_vp (a := j) (n := 60) (by omega)) (by omega), ?_⟩
        refine r_178 hp (by omega) et ef o5 bg bt' (fun l _ => w80 l) hT ?_
        intro T' hT' h122
        exact r' A T' J Q hT' (cRw_c hc h122) hQ
    · have mB : ¬ (fun k => pB (chn I p k ∧ r0 k = 2)) j = true := fun e => mj (pB_t.mp e)
      have wd' : wdM n m np t0 ch0 (bd + 24 * (j + 1)) (cN (fun k => pB (chn I p k ∧ r0 k = 2)) (j + 1)) I K := by
        rw [cN_q mB]
        exact wdM_b wd (by omega)
      obtain ⟨K', w', c', r'⟩ := ih (j + 1) K (by omega) wd' e42
      refine ⟨K', w', ?_, ?_⟩
      · intro L J Q hL hQ
        have ic := ioc hp fx hL hpn hpo (show j < np by omega)
        have e31L := e31 K L fx hL
        show sm_wp X 36 18 [some (.ref 45), some (.int (zI p)), some (.int (zI j))] [] (sM mo G L J) Q
        rw [lp_36_18, if_neg (by rw [e31L, zI_le (by omega) (by omega)]; omega), show zI j + 1 = zI (j + 1) from zIr_add 1 j]
        by_cases g : chn I p j
        · have e42L : aPap L 42 (-1) (zI j) = r0 j := by
            unfold aPap
            rw [if_pos (by rw [hPap_vp e31L np60, zI_sIn (by omega) (by omega)]; omega), zI_cn (by omega), hL 42 (by decide), e42]
          rw [if_neg (fun e => e (ic.mpr g)), if_pos (by rw [e42L]; exact fun e => mj ⟨g, e⟩)]
          exact c' L J Q hL hQ
        · rw [if_pos (fun e => g (ic.mp e))]
          exact c' L J Q hL hQ
      · intro A T J Q hT hc hQ
        show sm_wp X 264 142 [some (.ref 81), none, none, none, some (.int (zI j)), none] [] (sM mo G T J) Q
        rw [lp_264_142, if_neg (by rw [e46 A K T hT, zI_le (by omega) (by omega)]; omega), zI_cn (by omega), show zI j + 1 = zI (j + 1) from zIr_add 1 j]
        refine ⟨Eq.mpr (zI_vp (a := j) (n := 60) (by omega)) (by omega), ?_⟩
        by_cases z : T 122 j = 0
        · rw [if_pos z]
          exact r' A T J Q hT hc hQ
        · have g := (hc.2 j (by omega)).mp ((hc.1 j (by omega)).resolve_left z)
          rw [if_neg z, if_neg (by rw [hT.2.2.2.2.2.2.1, e42]; exact fun e => mj ⟨g, e⟩)]
          exact r' A T J Q hT hc hQ
/-- a chain ends -/
theorem ech {n m np p t0 ch0 bd : Nat} (hp : ppS n m np I) (wd : wdC n m np t0 ch0 bd I K) (hpn : p < np) (hpo : ¬ I 42 p = -1) : ∃ K', wdC n m np t0 ch0 (bd + 1440) I K' ∧
    cRun mo G (fun M Q => sm_wp X 34 0 [some (.ref 45), some (.int (zI p)), none, none, none, none] [] M Q) K K' ∧ rRun mo G I (fun M Q => sm_wp X 264 0 [some (.ref 81), some (.int (zI p)), none, none, none, none] [] M Q) K K' := by
  have np60 := hp.2.2.1.2.2
  have fx := wd.1
  have hst := wd.2.1
  -- the reference up to the flags
  have rf : ∀ A T J (Q : Option Value → sm_M → Prop), cplR I A K T → (∀ T', cplR I A K T' → cRw np p I T' → ∀ x y : Int32, flg (brk I K p) np x → flg (wai I K p) np y → (if x = 0 then (if y = 0 then (sm_wp X 267 0 [some (.ref 81), none, none, none] [] (sM mo G T' J) (fun v M => sm_wp X 264 127 [some (.ref 81), none, some (.int x), some (.int y), some (.int (zI np)), none] (v.toList ++ []) M Q)) else (Q none (sM mo G T' J))) else (sm_wp X 266 0 [some (.ref 81), some (.int 0), some (.int 2), some (.int 6), none] [] (sM mo G T' J) (fun v M => sm_wp X 264 117 [some (.ref 81), none, some (.int x), some (.int y), some (.int (zI np)), none] (v.toList ++ []) M Q)))) → sm_wp X 264 0 [some (.ref 81), some (.int (zI p)), none, none, none, none] [] (sM mo G T J) Q := fun A T J Q hT h => by
    rw [lp_264_0]
    refine r_265 hp hT hpn hpo ?_
    intro T' f1 f2 f3
    simp only [tl_none]
    rw [lp_264_5]
    have hT' := cpl_122 hT f1
    exact r_264f hp hst hT' ⟨f2, f3⟩ (h T' hT' ⟨f2, f3⟩)
  have unq : ∀ (P : Nat → Prop) (x y : Int32), flg P np x → flg P np y → x = y := fun P x y h1 h2 => by
    rcases h1 with ⟨h1, i, a, b⟩ | ⟨h1, a⟩ <;> rcases h2 with ⟨h2, j, c, d⟩ | ⟨h2, c⟩
    · rw [h1, h2]
    · exact absurd b (c i a)
    · exact absurd d (a j c)
    · rw [h1, h2]
  by_cases hb : ∃ i, i < np ∧ brk I K p i
  · -- broken
    have f1 : flg (brk I K p) np 1 := Or.inl ⟨rfl, hb⟩
    have same : ∀ k, k < np → ((chn I p k ∧ una K k) ↔ (chn I p k ∧ ∃ f, K 42 k = zI f ∧ f ≤ 6 ∧ 0 ≤ f ∧ f ≤ 2)) := fun k hk => by
      constructor
      · rintro ⟨h1, h2⟩
        rcases h2 with h2 | h2 | h2
        · exact ⟨h1, 0, h2, by omega, by omega, by omega⟩
        · exact ⟨h1, 1, h2, by omega, by omega, by omega⟩
        · exact ⟨h1, 2, h2, by omega, by omega, by omega⟩
      · rintro ⟨h1, f, h2, h3, h4, h5⟩
        have : f = 0 ∨ f = 1 ∨ f = 2 := by omega
        rcases this with rfl | rfl | rfl
        · exact ⟨h1, Or.inl h2⟩
        · exact ⟨h1, Or.inr (Or.inl h2)⟩
        · exact ⟨h1, Or.inr (Or.inr h2)⟩
    refine ⟨rw2 K 42 (setR np (fun k => chn I p k ∧ una K k) (zI 6) (K 42)), wdC_b (wd_set wd (by omega) (by omega) (fun k hk => ⟨hk.1, una_n hk.2⟩)) (by omega), ?_, ?_⟩
    · intro L J Q hL hQ
      show sm_wp X 34 0 [some (.ref 45), some (.int (zI p)), none, none, none, none] [] (sM mo G L J) Q
      refine c_34f hp fx hst hpn hpo hL ?_
      intro x y hx hy
      rw [unq _ x 1 hx f1, if_neg (by decide)]
      refine c_35 (w := 6) hp fx hpn hpo L J _ hL ?_
      intro L' J' a b
      simp only [tl_none]
      rw [lp_34_110]
      exact hQ L' J' a b
    · intro A T J Q hT hQ
      refine rf A T J Q hT ?_
      intro T' hT' hc x y hx hy
      rw [unq _ x 1 hx f1, if_neg (by decide)]
      refine r_266 (lo := 0) (hi := 2) (w := 6) hp (by omega) (by omega) hT' hc hst ?_
      intro T2 hT2
      simp only [tl_none]
      rw [lp_264_117]
      rw [← setR_c same] at hT2
      exact hQ T2 J hT2 (fun _ _ => rfl)
  have f0 : flg (brk I K p) np 0 := Or.inr ⟨rfl, fun i hi e => hb ⟨i, hi, e⟩⟩
  by_cases hw : ∃ i, i < np ∧ wai I K p i
  · -- it waits
    have f1 : flg (wai I K p) np 1 := Or.inl ⟨rfl, hw⟩
    refine ⟨K, wdC_b wd (by omega), ?_, ?_⟩
    · intro L J Q hL hQ
      show sm_wp X 34 0 [some (.ref 45), some (.int (zI p)), none, none, none, none] [] (sM mo G L J) Q
      refine c_34f hp fx hst hpn hpo hL ?_
      intro x y hx hy
      rw [unq _ x 0 hx f0, unq _ y 1 hy f1, if_pos rfl, if_pos (by decide)]
      exact hQ L J hL (fun _ _ _ => rfl)
    · intro A T J Q hT hQ
      refine rf A T J Q hT ?_
      intro T' hT' hc x y hx hy
      rw [unq _ x 0 hx f0, unq _ y 1 hy f1, if_pos rfl, if_neg (by decide)]
      exact hQ T' J hT' (fun _ _ => rfl)
  have g0 : flg (wai I K p) np 0 := Or.inr ⟨rfl, fun i hi e => hw ⟨i, hi, e⟩⟩
  have nw : ∀ k, k < np → chn I p k → ¬ (K 42 k = 0 ∨ K 42 k = 1) := fun k hk h1 h2 => hw ⟨k, hk, h1, h2⟩
  by_cases hcan : canP n I K p np
  · -- carried out
    obtain ⟨K', w', c', r'⟩ := crl (X := X) (mo := mo) (G := G) (n := n) (m := m) (t0 := t0) (ch0 := ch0) (bd := bd) hp hpn hpo (K 42) nw np 0 K (by omega) (wdM_0 wd) rfl
    refine ⟨K', wdC_b w' (by omega), ?_, ?_⟩
    · intro L J Q hL hQ
      show sm_wp X 34 0 [some (.ref 45), some (.int (zI p)), none, none, none, none] [] (sM mo G L J) Q
      refine c_34f hp fx hst hpn hpo hL ?_
      intro x y hx hy
      rw [unq _ x 0 hx f0, unq _ y 0 hy g0, if_pos rfl, if_neg (fun e => e rfl), lp_36_0]
      refine c_37 hp fx hpn hpo hL (fun _ => ?_) (fun e => absurd hcan e)
      simp only [tl_some]
      rw [lp_36_5, if_pos (by decide)]
      refine c' L J _ hL ?_
      intro L' J' a b
      simp only [tl_none]
      rw [lp_34_122]
      exact hQ L' J' a b
    · intro A T J Q hT hQ
      refine rf A T J Q hT ?_
      intro T' hT' hc x y hx hy
      rw [unq _ x 0 hx f0, unq _ y 0 hy g0, if_pos rfl, if_pos rfl]
      refine r_267 hp hT' hc (fun _ => ?_) (fun e => absurd hcan e)
      simp only [tl_some]
      rw [lp_264_127, if_pos (by decide)]
      exact r' A T' J Q hT' hc hQ
  · -- it can't be
    have same : ∀ k, k < np → ((chn I p k ∧ una K k) ↔ (chn I p k ∧ ∃ f, K 42 k = zI f ∧ f ≤ 6 ∧ 2 ≤ f ∧ f ≤ 2)) := fun k hk => by
      constructor
      · rintro ⟨h1, h2⟩
        have n1 := nw k hk h1
        rcases h2 with h2 | h2 | h2
        · exact absurd (Or.inl h2) n1
        · exact absurd (Or.inr h2) n1
        · exact ⟨h1, 2, h2, by omega, by omega, by omega⟩
      · rintro ⟨h1, f, h2, h3, h4, h5⟩
        refine ⟨h1, Or.inr (Or.inr ?_)⟩
        rw [h2, show f = 2 from by omega]; rfl
    refine ⟨rw2 K 42 (setR np (fun k => chn I p k ∧ una K k) (zI 6) (K 42)), wdC_b (wd_set wd (by omega) (by omega) (fun k hk => ⟨hk.1, una_n hk.2⟩)) (by omega), ?_, ?_⟩
    · intro L J Q hL hQ
      show sm_wp X 34 0 [some (.ref 45), some (.int (zI p)), none, none, none, none] [] (sM mo G L J) Q
      refine c_34f hp fx hst hpn hpo hL ?_
      intro x y hx hy
      rw [unq _ x 0 hx f0, unq _ y 0 hy g0, if_pos rfl, if_neg (fun e => e rfl), lp_36_0]
      refine c_37 hp fx hpn hpo hL (fun e => absurd e hcan) (fun _ => ?_)
      simp only [tl_some]
      rw [lp_36_5, if_neg (fun e => e rfl)]
      refine c_35 (w := 6) hp fx hpn hpo L J _ hL ?_
      intro L' J' a b
      simp only [tl_none]
      rw [lp_36_15]
      simp only [tl_none]
      rw [lp_34_122]
      exact hQ L' J' a b
    · intro A T J Q hT hQ
      refine rf A T J Q hT ?_
      intro T' hT' hc x y hx hy
      rw [unq _ x 0 hx f0, unq _ y 0 hy g0, if_pos rfl, if_pos rfl]
      refine r_267 hp hT' hc (fun e => absurd e hcan) (fun _ => ?_)
      simp only [tl_some]
      rw [lp_264_127, if_neg (fun e => e rfl)]
      refine r_266 (lo := 2) (hi := 2) (w := 6) hp (by omega) (by omega) hT' hc hst ?_
      intro T2 hT2
      simp only [tl_none]
      rw [lp_264_138]
      rw [← setR_c same] at hT2
      exact hQ T2 J hT2 (fun _ _ => rfl)
end E1
