/-! What the names stand for. -/
def nmv (I : Nat → Nat → Int32) (n t fr p a : Nat) : Int32 :=
  if a = 0 then wsum (I 13) (zI t) (I 37 p) n - wsum (I 13) (zI t) (I 38 p) n
  else if a = 1 then wsum (I 13) (zI t) (I 37 p) n
  else if a = 2 then wsum (I 13) (zI t) (I 38 p) n
  else if a = 3 then ssum (I 2) (I 37 p) n - ssum (I 2) (I 38 p) n
  else if a = 4 then cnear (I 3) (I 37 p) (hlds (I 4) (zI t) n &&& (I 38 p ^^^ (-1))) n
  else if a = 5 then wsum (I 13) (zI t) (hlds (I 4) (zI t) n) n
  else if a = 6 then I 12 t
  else if a = 7 then I 10 t
  else if a = 8 then I 10 fr
  else if a = 9 then I 1 3
  else if a = 10 then I 39 p - I 1 3
  else if I 40 p = -1 then 0 else 1
theorem v12 (a : Nat) (h : a < 12) : vp_in (zI a) 12 := Eq.mpr (zI_vp (a := a) (n := 12) (by omega)) h
section N1
variable {X : (Nat → Int32) × Nat} {mo : Bool} {G : Nat × Nat} {I : Nat → Nat → Int32} {J : Nat → Nat → Int64} {Q : Option Value → sm_M → Prop}
theorem aP_e {np p : Nat} (hp : I 31 0 = zI np) (h60 : np ≤ 60) (hlt : p < np) (c : Nat) (d : Int32) : aPap I c d (zI p) = I c p := by
  unfold aPap
  rw [if_pos (by rw [hPap_vp hp h60, zI_sIn (by omega) (by omega)]; exact hlt), zI_cn (by omega)]
theorem aS_e {m s : Nat} (hm : I 1 1 = zI m) (h6 : m ≤ 6) (hlt : s < m) (c : Nat) (d : Int32) : aState I c d (zI s) = I c s := by
  unfold aState
  rw [if_pos (by rw [hState_vp hm h6, zI_sIn (by omega) (by omega)]; exact hlt), zI_cn (by omega)]
theorem c_25 {n m np p t fr : Nat} (hn : I 1 0 = zI n) (h12 : n ≤ 12) (hm : I 1 1 = zI m) (h6 : m ≤ 6) (hp : I 31 0 = zI np) (h60 : np ≤ 60) (hlt : p < np) (ht : I 33 p = zI t) (htm : t < m) (hf : I 32 p = zI fr) (hfm : fr < m)
    (hQ : ∀ J', (∀ d, ¬ d = 46 → J' d = J d) → (∀ a, a < 12 → J' 46 a = (nmv I n t fr p a).toInt64) → Q none (sM mo G I J')) : sm_wp X 25 0 [some (.ref 45), some (.int (zI p)), none, none, none, none, none, none] [] (sM mo G I J) Q := by
  have e0 : (0 : Int32).toNatClampNeg = 0 := rfl
  have e1 : (1 : Int32).toNatClampNeg = 1 := rfl
  have e2 : (2 : Int32).toNatClampNeg = 2 := rfl
  have e3 : (3 : Int32).toNatClampNeg = 3 := rfl
  have e4 : (4 : Int32).toNatClampNeg = 4 := rfl
  have e5 : (5 : Int32).toNatClampNeg = 5 := rfl
  have e6 : (6 : Int32).toNatClampNeg = 6 := rfl
  have e7 : (7 : Int32).toNatClampNeg = 7 := rfl
  have e8 : (8 : Int32).toNatClampNeg = 8 := rfl
  have e9 : (9 : Int32).toNatClampNeg = 9 := rfl
  have e10 : (10 : Int32).toNatClampNeg = 10 := rfl
  have e11 : (11 : Int32).toNatClampNeg = 11 := rfl
  have lk : vf_Pap_isLinked I (zI p) ↔ ¬ I 40 p = -1 := by
    constructor
    · intro h
      have := h.2
      rw [zI_cn (by omega)] at this
      exact this
    · intro h
      exact ⟨by rw [hPap_vp hp h60, zI_sIn (by omega) (by omega)]; exact hlt, by rw [zI_cn (by omega)]; exact h⟩
  rw [lp_25_0, aP_e hp h60 hlt, aP_e hp h60 hlt, aP_e hp h60 hlt, ht, ct_worthOfLands _ _ _ _ _ _ hn h12]
  simp only [tl_some]
  rw [lp_25_37, ct_worthOfLands _ _ _ _ _ _ hn h12]
  simp only [tl_some]
  rw [lp_25_49, ct_landsHeld _ _ _ _ _ _ hn h12]
  simp only [tl_some]
  rw [lp_25_59, e0, e1, e2, ct_soulsOfLands _ _ _ _ _ _ hn h12]
  refine ⟨v12 0 (by decide), v12 1 (by decide), v12 2 (by decide), ?_⟩
  simp only [tl_some]
  rw [lp_25_104, ct_soulsOfLands _ _ _ _ _ _ hn h12]
  simp only [tl_some]
  rw [lp_25_113, e3, ct_countNear _ _ _ _ _ _ hn h12]
  refine ⟨v12 3 (by decide), ?_⟩
  simp only [tl_some]
  rw [lp_25_136, e4, ct_worthOfLands _ _ _ _ _ _ hn h12]
  refine ⟨v12 4 (by decide), ?_⟩
  simp only [tl_some]
  rw [lp_25_153, e5, e6, e7, e8, e9, e10, e11, aS_e hm h6 htm, aS_e hm h6 htm, aP_e hp h60 hlt, hf, aS_e hm h6 hfm, aP_e hp h60 hlt]
  refine ⟨v12 5 (by decide), v12 6 (by decide), v12 7 (by decide), v12 8 (by decide), v12 9 (by decide), v12 10 (by decide), ?_⟩
  have z0 : (0 : Int64) = (0 : Int32).toInt64 := by decide
  have z1 : (1 : Int64) = (1 : Int32).toInt64 := by decide
  by_cases g : I 40 p = -1
  · rw [if_pos (fun e => lk.mp e g)]
    refine ⟨v12 11 (by decide), hQ _ (fun d hd => by simp only [up2_rn, ne_eq, hd, not_false_eq_true]) (fun a ha => ?_)⟩
    have hc : a = 0 ∨ a = 1 ∨ a = 2 ∨ a = 3 ∨ a = 4 ∨ a = 5 ∨ a = 6 ∨ a = 7 ∨ a = 8 ∨ a = 9 ∨ a = 10 ∨ a = 11 := by omega
    rcases hc with rfl | rfl | rfl | rfl | rfl | rfl | rfl | rfl | rfl | rfl | rfl | rfl
    all_goals simp (decide := true) only [up2_ra, up2_rn, va_ap, ne_eq, if_false, if_true, not_false_eq_true, nmv, g, z0]
  · rw [if_neg (fun e => e (lk.mpr g))]
    refine ⟨v12 11 (by decide), hQ _ (fun d hd => by simp only [up2_rn, ne_eq, hd, not_false_eq_true]) (fun a ha => ?_)⟩
    have hc : a = 0 ∨ a = 1 ∨ a = 2 ∨ a = 3 ∨ a = 4 ∨ a = 5 ∨ a = 6 ∨ a = 7 ∨ a = 8 ∨ a = 9 ∨ a = 10 ∨ a = 11 := by omega
    rcases hc with rfl | rfl | rfl | rfl | rfl | rfl | rfl | rfl | rfl | rfl | rfl | rfl
    all_goals simp (decide := true) only [up2_ra, up2_rn, va_ap, ne_eq, if_false, if_true, not_false_eq_true, nmv, g, z1]
/-- near, by the reference -/
theorem r_259 {n : Nat} {N : Nat → Int32} {gets keeps : Int32} (hn : I 81 3 = zI n) (h12 : n ≤ 12) (hg : ivG N (I 84)) (hk : ∀ k, bt keeps k = true → k < n)
    (hQ : Q (some (.int (cnear N gets keeps n))) (sM mo G I J)) : sm_wp X 259 0 [some (.ref 81), some (.int gets), some (.int keeps), none, none, none, none] [] (sM mo G I J) Q := by
  have cs : ∀ l, cnear N gets keeps (l + 1) = if bt gets l = true then (if N l &&& keeps = 0 then cnear N gets keeps l else cnear N gets keeps l + 1) else cnear N gets keeps l := fun _ => rfl
  have inner : ∀ l, l < n → ∀ d k, k + d = n → ∀ is : Int32, (is = 1 ∧ (∃ j, j < k ∧ bt keeps j = true ∧ I 84 (12 * l + j) = 1)) ∨ (is = 0 ∧ ∀ j, j < k → ¬ (bt keeps j = true ∧ I 84 (12 * l + j) = 1)) → sm_wp X 259 5 [some (.ref 81), some (.int gets), some (.int keeps), some (.int (cnear N gets keeps (l + 1))), some (.int (zI (l + 1))), none, none] [] (sM mo G I J) Q → sm_wp X 259 20 [some (.ref 81), some (.int gets), some (.int keeps), some (.int (cnear N gets keeps l)), some (.int (zI l)), some (.int is), some (.int (zI k))] [] (sM mo G I J) Q := by
    intro l hl d
    induction d with
    | zero =>
      intro k hk' is his hnext
      have e : k = n := by omega
      subst e
      rw [lp_259_20, hn, if_pos (by rw [zI_le (by omega) (by omega)]; exact Nat.le_refl _), show zI l + 1 = zI (l + 1) from zIr_add 1 l, Int32.add_zero]
      rw [cs] at hnext
      have key : (∃ j, j < k ∧ bt keeps j = true ∧ I 84 (12 * l + j) = 1) ↔ ¬ N l &&& keeps = 0 := by
        rw [bt_eq0]
        constructor
        · rintro ⟨j, h1, h2, h3⟩ h
          have := h j (by omega)
          rw [bt_and, h2, (hg.2 l (by omega) j (by omega)).mpr h3] at this
          exact absurd this (by decide)
        · intro h
          apply Classical.byContradiction
          intro hh
          apply h
          intro j hj
          rw [bt_and]
          cases h1 : bt keeps j with
          | false => rw [Bool.and_false]
          | true =>
            cases h2 : bt (N l) j with
            | false => rfl
            | true => exact absurd ⟨j, hk j h1, h1, (hg.2 l (by omega) j (by have := hk j h1; omega)).mp h2⟩ hh
      rcases his with ⟨rfl, h⟩ | ⟨rfl, h⟩
      · rw [if_neg (by decide)]
        have kk := key.mp h
        rw [if_neg kk] at hnext
        by_cases g : bt gets l = true
        · rw [if_pos g] at hnext
          rw [if_neg (fun e => e (by rw [sb_1 _ _ (by omega)]; exact g))]
          exact hnext
        · rw [if_neg g] at hnext
          rw [if_pos (by rw [sb_1 _ _ (by omega)]; exact g)]
          exact hnext
      · rw [if_pos rfl]
        have kk : N l &&& keeps = 0 := Classical.byContradiction fun e => by
          obtain ⟨j, h1, h2⟩ := key.mpr e
          exact h j h1 h2
        rw [if_pos kk, ite_self] at hnext
        exact hnext
    | succ d ih =>
      intro k hk' is his hnext
      rw [lp_259_20, hn, if_neg (by rw [zI_le (by omega) (by omega)]; omega), show zI k + 1 = zI (k + 1) from zIr_add 1 k]
      rcases his with ⟨rfl, j, h1, h2⟩ | ⟨rfl, h⟩
      · rw [if_pos (by decide)]
        exact ih (k + 1) (by omega) 1 (Or.inl ⟨rfl, j, by omega, h2⟩) hnext
      · rw [if_neg (fun e => e rfl), show (12 : Int32) * zI l = zI (12 * l) from zIl_mul 12 l, zI_add, zI_vp (by omega), zI_cn (by omega)]
        by_cases g : bt keeps k = true
        · rw [if_neg (fun e => e (by rw [sb_1 _ _ (by omega)]; exact g))]
          refine ⟨by omega, ?_⟩
          rcases hg.1 (12 * l + k) with z | z
          · rw [if_pos z]
            refine ih (k + 1) (by omega) 0 (Or.inr ⟨rfl, fun j hj e => ?_⟩) hnext
            by_cases ej : j = k
            · rw [ej, z] at e
              exact absurd e.2 (by decide)
            · exact h j (by omega) e
          · rw [if_neg (by rw [z]; decide)]
            exact ih (k + 1) (by omega) 1 (Or.inl ⟨rfl, k, by omega, g, z⟩) hnext
        · rw [if_pos (by rw [sb_1 _ _ (by omega)]; exact g)]
          refine ih (k + 1) (by omega) 0 (Or.inr ⟨rfl, fun j hj e => ?_⟩) hnext
          by_cases ej : j = k
          · rw [ej] at e; exact g e.1
          · exact h j (by omega) e
  have outer : ∀ d l, l + d = n → sm_wp X 259 5 [some (.ref 81), some (.int gets), some (.int keeps), some (.int (cnear N gets keeps l)), some (.int (zI l)), none, none] [] (sM mo G I J) Q := by
    intro d
    induction d with
    | zero =>
      intro l hl
      have e : l = n := by omega
      subst e
      rw [lp_259_5, hn, if_pos (by rw [zI_le (by omega) (by omega)]; exact Nat.le_refl _)]
      exact hQ
    | succ d ih =>
      intro l hl
      rw [lp_259_5, hn, if_neg (by rw [zI_le (by omega) (by omega)]; omega)]
      exact inner l (by omega) n 0 (by omega) 0 (Or.inr ⟨rfl, fun j hj => absurd hj (Nat.not_lt_zero _)⟩) (ih (l + 1) (by omega))
  rw [lp_259_0]
  exact outer n 0 (by omega)
/-- the two sides' data that names need -/
def nmC (n m np : Nat) (I : Nat → Nat → Int32) : Prop := (I 1 0 = zI n ∧ I 81 3 = zI n ∧ n ≤ 12) ∧ (I 1 1 = zI m ∧ m ≤ 6) ∧ (I 31 0 = zI np ∧ np ≤ 60) ∧ (I 91 = I 13 ∧ I 85 = I 4 ∧ I 83 = I 2 ∧ I 92 = I 12 ∧ I 89 = I 10 ∧ I 81 16 = I 1 3) ∧ (I 109 = I 33 ∧ I 108 = I 32 ∧ I 111 = I 37 ∧ I 112 = I 38 ∧ I 113 = I 39) ∧ ivG (I 3) (I 84)
theorem r_257 {n m np p t fr a : Nat} (hC : nmC n m np I) (hlt : p < np) (ht : I 33 p = zI t) (htm : t < m) (hf : I 32 p = zI fr) (hfm : fr < m) (h114 : I 114 p = I 40 p) {K : Nat → Nat → Int32} (k1 : ∀ d, 81 < d → K d = I d) (k2 : ∀ j, ¬ j = 63 → K 81 j = I 81 j) (ha : a < 12)
    (hQ : Q (some (.int (nmv I n t fr p a))) (sM mo G K J)) : sm_wp X 257 0 [some (.ref 81), some (.int (zI a)), some (.int (zI p)), none] [] (sM mo G K J) Q := by
  obtain ⟨⟨n1, n2, n12⟩, ⟨m1, m6⟩, ⟨p1, p60⟩, ⟨e91, e85, e83, e92, e89, e16⟩, ⟨e109, e108, e111, e112, e113⟩, hG⟩ := hC
  have f81 : K 81 3 = zI n := by rw [k2 3 (by decide)]; exact n2
  have f16 : K 81 16 = I 1 3 := by rw [k2 16 (by decide)]; exact e16
  have f109 : K 109 p = zI t := by rw [k1 109 (by decide), e109]; exact ht
  have f108 : K 108 p = zI fr := by rw [k1 108 (by decide), e108]; exact hf
  have f111 : K 111 p = I 37 p := by rw [k1 111 (by decide), e111]
  have f112 : K 112 p = I 38 p := by rw [k1 112 (by decide), e112]
  have f113 : K 113 p = I 39 p := by rw [k1 113 (by decide), e113]
  have f114 : K 114 p = I 40 p := by rw [k1 114 (by decide)]; exact h114
  have f91 : K 91 = I 13 := by rw [k1 91 (by decide), e91]
  have f85 : K 85 = I 4 := by rw [k1 85 (by decide), e85]
  have f83 : K 83 = I 2 := by rw [k1 83 (by decide), e83]
  have f92 : K 92 = I 12 := by rw [k1 92 (by decide), e92]
  have f89 : K 89 = I 10 := by rw [k1 89 (by decide), e89]
  have f84 : K 84 = I 84 := k1 84 (by decide)
  have v6 : ∀ s, s < 6 → vp_in (zI s) 6 := fun s h => Eq.mpr (zI_vp (a := s) (n := 6) (by omega)) h
  have v60 : vp_in (zI p) 60 := Eq.mpr (zI_vp (a := p) (n := 60) (by omega)) (by omega)
  have hc : a = 0 ∨ a = 1 ∨ a = 2 ∨ a = 3 ∨ a = 4 ∨ a = 5 ∨ a = 6 ∨ a = 7 ∨ a = 8 ∨ a = 9 ∨ a = 10 ∨ a = 11 := by omega
  rw [lp_257_0, zI_cn (by omega), f109, f111, f112, f16, f108, f113, f114]
  refine ⟨v60, ?_⟩
  rcases hc with rfl | rfl | rfl | rfl | rfl | rfl | rfl | rfl | rfl | rfl | rfl | rfl
  · rw [if_pos (show zI 0 = 0 from rfl), ct_MworthOf _ _ _ _ _ _ f81 n12 (by omega)]
    simp only [tl_some]
    rw [lp_257_79, zI_cn (by omega), f112, ct_MworthOf _ _ _ _ _ _ f81 n12 (by omega), f91]
    refine ⟨v60, ?_⟩
    simp only [tl_some]
    rw [lp_257_90]
    exact hQ
  · rw [if_neg (by decide), if_pos (show zI 1 = 1 from rfl), ct_MworthOf _ _ _ _ _ _ f81 n12 (by omega), f91]
    simp only [tl_some]
    rw [lp_257_103]
    exact hQ
  · rw [if_neg (by decide), if_neg (by decide), if_pos (show zI 2 = 2 from rfl), ct_MworthOf _ _ _ _ _ _ f81 n12 (by omega), f91]
    simp only [tl_some]
    rw [lp_257_115]
    exact hQ
  · rw [if_neg (by decide), if_neg (by decide), if_neg (by decide), if_pos (show zI 3 = 3 from rfl), ct_MsoulsOf _ _ _ _ _ _ f81 n12, f83]
    simp only [tl_some]
    rw [lp_257_126, zI_cn (by omega), f112, ct_MsoulsOf _ _ _ _ _ _ f81 n12, f83]
    refine ⟨v60, ?_⟩
    simp only [tl_some]
    rw [lp_257_136]
    exact hQ
  · rw [if_neg (by decide), if_neg (by decide), if_neg (by decide), if_neg (by decide), if_pos (show zI 4 = 4 from rfl), ct_Mholdings _ _ _ _ _ _ f81 n12, f85]
    simp only [tl_some]
    rw [lp_257_150, zI_cn (by omega), f112]
    refine ⟨v60, ?_⟩
    refine r_259 (N := I 3) f81 n12 (by rw [f84]; exact hG) (fun k hk => ?_) ?_
    · rw [bt_and, bt_hl (I 4) (zI t) n n12 k] at hk
      have := (Bool.and_eq_true _ _).mp hk
      exact (decide_eq_true_iff.mp this.1).1
    · simp only [tl_some]
      rw [lp_257_162]
      exact hQ
  · rw [if_neg (by decide), if_neg (by decide), if_neg (by decide), if_neg (by decide), if_neg (by decide), if_pos (show zI 5 = 5 from rfl), ct_Mholdings _ _ _ _ _ _ f81 n12, f85]
    simp only [tl_some]
    rw [lp_257_170, ct_MworthOf _ _ _ _ _ _ f81 n12 (by omega), f91]
    simp only [tl_some]
    rw [lp_257_173]
    exact hQ
  · rw [if_neg (by decide), if_neg (by decide), if_neg (by decide), if_neg (by decide), if_neg (by decide), if_neg (by decide), if_pos (show zI 6 = 6 from rfl), f92, zI_cn (by omega)]
    exact ⟨v6 t (by omega), hQ⟩
  · rw [if_neg (by decide), if_neg (by decide), if_neg (by decide), if_neg (by decide), if_neg (by decide), if_neg (by decide), if_neg (by decide), if_pos (show zI 7 = 7 from rfl), f89, zI_cn (by omega)]
    exact ⟨v6 t (by omega), hQ⟩
  · rw [if_neg (by decide), if_neg (by decide), if_neg (by decide), if_neg (by decide), if_neg (by decide), if_neg (by decide), if_neg (by decide), if_neg (by decide), if_pos (show zI 8 = 8 from rfl), f89, zI_cn (by omega)]
    exact ⟨v6 fr (by omega), hQ⟩
  · rw [if_neg (by decide), if_neg (by decide), if_neg (by decide), if_neg (by decide), if_neg (by decide), if_neg (by decide), if_neg (by decide), if_neg (by decide), if_neg (by decide), if_pos (show zI 9 = 9 from rfl)]
    exact hQ
  · rw [if_neg (by decide), if_neg (by decide), if_neg (by decide), if_neg (by decide), if_neg (by decide), if_neg (by decide), if_neg (by decide), if_neg (by decide), if_neg (by decide), if_neg (by decide), if_pos (show zI 10 = 10 from rfl)]
    exact hQ
  · rw [if_neg (by decide), if_neg (by decide), if_neg (by decide), if_neg (by decide), if_neg (by decide), if_neg (by decide), if_neg (by decide), if_neg (by decide), if_neg (by decide), if_neg (by decide), if_neg (by decide)]
    have q : Q (some (.int (if I 40 p = -1 then 0 else 1))) (sM mo G K J) := hQ
    by_cases g : I 40 p = -1
    · rw [if_pos g] at q
      rw [if_neg (fun e => e g)]
      exact q
    · rw [if_neg g] at q
      rw [if_pos g]
      exact q
end N1
