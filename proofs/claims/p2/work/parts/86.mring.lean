/-! The reference's ring. -/
theorem dg_q {c : Nat → Nat} {K v k : Nat} (hk : k < K) : v / rp c K (k + 1) = v / rp c K k * c k + dg c K v k := by
  have e := Nat.div_add_mod (v / rp c K (k + 1)) (c k)
  rw [Nat.div_div_eq_div_mul, ← rp_s c hk, Nat.mul_comm] at e
  exact e.symm
theorem dg_lx {c : Nat → Nat} {K u v : Nat} (hu : u < rp c K 0) (hv : v < rp c K 0) (h : lxL K (dg c K u) (dg c K v)) : u < v := by
  obtain ⟨i, hi, h1, h2⟩ := h
  have e : ∀ k, k ≤ i → u / rp c K k = v / rp c K k := by
    intro k
    induction k with
    | zero => intro _; rw [Nat.div_eq_of_lt hu, Nat.div_eq_of_lt hv]
    | succ k ih =>
      intro hk
      rw [dg_q (by omega), dg_q (by omega), ih (by omega), h1 k (by omega)]
  have q : u / rp c K (i + 1) < v / rp c K (i + 1) := by
    rw [dg_q hi, dg_q hi, e i (Nat.le_refl _)]
    omega
  rcases Nat.lt_or_ge u v with g | g
  · exact g
  · have := Nat.div_le_div_right (c := rp c K (i + 1)) g
    omega
theorem dg_ex {c : Nat → Nat} {K : Nat} {x : Nat → Nat} (hx : ∀ i, i < K → x i < c i) : ∀ d k, k + d = K → ∃ T, T < rp c K k ∧ ∀ i, k ≤ i → i < K → dg c K T i = x i := by
  have hc : ∀ j, j < K → 0 < c j := fun j hj => by have := hx j hj; omega
  intro d
  induction d with
  | zero =>
    intro k hk
    exact ⟨0, rp_pos hc 0 k hk, fun i a b => absurd b (by omega)⟩
  | succ d ih =>
    intro k hk
    obtain ⟨T, hT, hd⟩ := ih (k + 1) (by omega)
    have kK : k < K := by omega
    have xk := hx k kK
    have pk := rp_pos hc (K - (k + 1)) (k + 1) (by omega)
    refine ⟨T + x k * rp c K (k + 1), ?_, fun i hi hiK => ?_⟩
    · rw [rp_s c kK, Nat.mul_comm (rp c K (k + 1))]
      have : (x k + 1) * rp c K (k + 1) ≤ c k * rp c K (k + 1) := Nat.mul_le_mul_right _ xk
      rw [Nat.add_mul, Nat.one_mul] at this
      omega
    · by_cases e : i = k
      · subst e
        unfold dg
        rw [Nat.add_mul_div_right _ _ pk, Nat.div_eq_of_lt hT, Nat.zero_add, Nat.mod_eq_of_lt xk]
      · have d1 := rp_dvd c (K := K) (i - (k + 1)) (k + 1) (by omega)
        rw [show k + 1 + (i - (k + 1)) = i from by omega] at d1
        obtain ⟨t, ht⟩ := d1
        rw [← hd i (by omega) hiK]
        unfold dg
        rw [ht, rp_s c hiK, show x k * (rp c K (i + 1) * c i * t) = (x k * t * c i) * rp c K (i + 1) from by
          rw [Nat.mul_comm (rp c K (i + 1)) (c i), Nat.mul_assoc, Nat.mul_comm (rp c K (i + 1)) t, ← Nat.mul_assoc, ← Nat.mul_assoc, Nat.mul_assoc (x k) (c i) t, Nat.mul_comm (c i) t, ← Nat.mul_assoc],
          Nat.add_mul_div_right _ _ (rp_pos hc (K - (i + 1)) (i + 1) (by omega)), Nat.add_mul_mod_self_right]
theorem rgM_c {pr : Int32} {N : Nat} {M M' : Nat → Nat} (h : ∀ i, i < N → M i = M' i) (k : rgM pr N M) : rgM pr N M' := by
  obtain ⟨k1, k2, k3⟩ := k
  refine ⟨fun i hi => by rw [← h i hi]; exact k1 i hi, fun i hi i0 => by rw [← h i hi, ← h 0 (by omega)]; exact k2 i hi i0, fun i j hi hj => by rw [← h i hi, ← h j (by omega)]; exact k3 i j hi hj⟩
theorem rgL_c {n : Nat} {r4 W : Nat → Int32} {N : Nat} (hN : 1 ≤ N) {M M' L L' : Nat → Nat} (h : ∀ i, i < N → M i = M' i) (g : ∀ i, i < N → L i = L' i) (k : rgL n r4 W N M L) : rgL n r4 W N M' L' := by
  obtain ⟨k1, k2, k3⟩ := k
  refine ⟨fun i hi => by rw [← h i hi, ← g i hi]; exact k1 i hi, fun i hi i0 => by rw [← h i hi, ← g i hi, ← g (i - 1) (by omega)]; exact k2 i hi i0, ?_⟩
  rw [← h 0 (by omega), ← g 0 (by omega), ← g (N - 1) (by omega)]
  exact k3
theorem lx_c {N : Nat} {x x' y : Nat → Nat} (h : ∀ i, i < N → x i = x' i) (k : lxL N x y) : lxL N x' y := by
  obtain ⟨i, hi, h1, h2⟩ := k
  exact ⟨i, hi, fun j hj => by rw [← h j (by omega)]; exact h1 j hj, by rw [← h i hi]; exact h2⟩
abbrev cst (b : Nat) : Nat → Nat := fun _ => b
theorem rp_cst (b N : Nat) : rp (cst b) N 0 = b ^ N := by
  rw [← pF_K]
  have : ∀ k, pF (cst b) k = b ^ k := by
    intro k
    induction k with
    | zero => rfl
    | succ k ih => rw [pF_s, ih, Nat.pow_succ]
  exact this N
section Y2
variable {X : (Nat → Int32) × Nat} {mo : Bool} {G : Nat × Nat} {I : Nat → Nat → Int32} {J : Nat → Nat → Int64} {Q : Option Value → sm_M → Prop}
theorem ct_289 {m N : Nat} {pr : Int32} {M : Nat → Nat} (hm : I 81 10 = zI m) (h6 : m ≤ 6) (hpr : I 81 15 = pr) (hp : ∀ k, m ≤ k → bt pr k = false) (hN : N ≤ 4) (hM : ∀ j, j < N → I 133 j = zI (M j) ∧ M j < 6)
    (hQ : ∀ z : Int32, (z = 1 ∧ rgM pr N M ∨ z = 0 ∧ ¬ rgM pr N M) → Q (some (.int z)) (sM mo G I J)) : sm_wp X 289 0 [some (.ref 81), some (.int (zI N)), none, none] [] (sM mo G I J) Q := by
  have key : ∀ d i, i + d = N → rgM pr i M → sm_wp X 289 2 [some (.ref 81), some (.int (zI N)), some (.int (zI i)), none] [] (sM mo G I J) Q := by
    intro d
    induction d with
    | zero =>
      intro i hi h
      rw [lp_289_2, if_pos (by rw [zI_le (by omega) (by omega)]; omega)]
      have : i = N := by omega
      subst this
      exact hQ 1 (Or.inl ⟨rfl, h⟩)
    | succ d ih =>
      intro i hi h
      have Mi := hM i (by omega)
      have ps : vf_Model_isPresent I (I 133 i) ↔ bt pr (M i) = true := by
        rw [Mi.1, mPres_vp hm h6, zI_sIn (by omega) (by omega), zI_cn (by omega), hpr]
        refine ⟨fun e => e.2, fun e => ⟨?_, e⟩⟩
        rcases Nat.lt_or_ge (M i) m with g | g
        · exact g
        · rw [hp _ g] at e; cases e
      have inner : bt pr (M i) = true → (0 < i → M 0 < M i) → ∀ d j, j + d = i → (∀ j', j' < j → ¬ M i = M j') → sm_wp X 289 43 [some (.ref 81), some (.int (zI N)), some (.int (zI i)), some (.int (zI j))] [] (sM mo G I J) Q := by
        intro p1 p2 d
        induction d with
        | zero =>
          intro j hj hh
          rw [lp_289_43, if_pos (by rw [zI_le (by omega) (by omega)]; omega), show zI i + 1 = zI (i + 1) from zIr_add 1 i]
          refine ih (i + 1) (by omega) ⟨fun i' hi' => ?_, fun i' hi' i0 => ?_, fun i' j' hi' hj' => ?_⟩
          · by_cases e : i' = i
            · rw [e]; exact ⟨Mi.2, p1⟩
            · exact h.1 i' (by omega)
          · by_cases e : i' = i
            · rw [e] at i0 ⊢; exact p2 i0
            · exact h.2.1 i' (by omega) i0
          · by_cases e : i' = i
            · rw [e] at hj' ⊢; exact hh j' (by omega)
            · exact h.2.2 i' j' (by omega) hj'
        | succ d ih2 =>
          intro j hj hh
          have Mj := hM j (by omega)
          rw [lp_289_43, if_neg (by rw [zI_le (by omega) (by omega)]; omega), zI_vp (by omega), zI_vp (by omega), zI_cn (by omega), zI_cn (by omega), Mi.1, Mj.1, show zI j + 1 = zI (j + 1) from zIr_add 1 j]
          refine ⟨by omega, by omega, ?_⟩
          by_cases g : M i = M j
          · rw [if_neg (fun e => e (by rw [g]))]
            exact hQ 0 (Or.inr ⟨rfl, fun e => e.2.2 i j (by omega) (by omega) g⟩)
          · rw [if_pos (by rw [zI_eq (by omega) (by omega)]; exact g)]
            refine ih2 (j + 1) (by omega) (fun j' hj' => ?_)
            by_cases e : j' = j
            · rw [e]; exact g
            · exact hh j' (by omega)
      rw [lp_289_2, if_neg (by rw [zI_le (by omega) (by omega)]; omega), zI_vp (by omega), zI_cn (by omega)]
      refine ⟨by omega, ?_⟩
      by_cases g1 : bt pr (M i) = true
      · rw [if_neg (fun e => e (ps.mpr g1))]
        by_cases i0 : i = 0
        · rw [if_pos (by rw [i0]; decide)]
          exact inner g1 (fun e => absurd e (by omega)) i 0 (by omega) (fun j' hj' => absurd hj' (Nat.not_lt_zero _))
        · have M0 := hM 0 (by omega)
          rw [if_neg (by rw [zIr_le (c := 0) (by decide) (by omega)]; show ¬ i ≤ 0; omega), show Int32.toNatClampNeg 0 = 0 from by decide, M0.1, Mi.1]
          refine ⟨vp04, ?_⟩
          by_cases g2 : M 0 < M i
          · rw [if_pos (by rw [zI_lt (by omega) (by omega)]; exact g2)]
            exact inner g1 (fun _ => g2) i 0 (by omega) (fun j' hj' => absurd hj' (Nat.not_lt_zero _))
          · rw [if_neg (by rw [zI_lt (by omega) (by omega)]; exact g2)]
            exact hQ 0 (Or.inr ⟨rfl, fun e => g2 (e.2.1 i (by omega) (by omega))⟩)
      · rw [if_pos (fun e => g1 (ps.mp e))]
        exact hQ 0 (Or.inr ⟨rfl, fun e => g1 (e.1 i (by omega)).2⟩)
  rw [lp_289_0]
  exact key N 0 (by omega) ⟨fun i hi => absurd hi (Nat.not_lt_zero _), fun i hi => absurd hi (Nat.not_lt_zero _), fun i j hi => absurd hi (Nat.not_lt_zero _)⟩
theorem ct_290 {n N : Nat} {M L : Nat → Nat} (h12 : n ≤ 12) (hW : okW (I 91)) (hN : N ≤ 4) (hN2 : 1 ≤ N) (hM : ∀ j, j < N → I 133 j = zI (M j) ∧ M j < 6) (hL : ∀ j, j < N → I 134 j = zI (L j) ∧ L j < n)
    (hQ : ∀ z : Int32, (z = 1 ∧ rgL n (I 85) (I 91) N M L ∨ z = 0 ∧ ¬ rgL n (I 85) (I 91) N M L) → Q (some (.int z)) (sM mo G I J)) : sm_wp X 290 0 [some (.ref 81), some (.int (zI N)), none, none, none] [] (sM mo G I J) Q := by
  have wz : ∀ s l, I 91 (12 * s + l) = zI (ww (I 91) s l) := by
    intro s l
    obtain ⟨w, hw, e⟩ := hW (12 * s + l)
    unfold ww
    rw [e, zI_cn (by omega)]
  have key : ∀ d i, i + d = N → (∀ j, j < i → I 85 (L j) = zI (M j) ∧ (0 < j → ww (I 91) (M j) (L j) < ww (I 91) (M j) (L (j - 1))) ∧ (j = 0 → ww (I 91) (M 0) (L 0) < ww (I 91) (M 0) (L (N - 1)))) → sm_wp X 290 2 [some (.ref 81), some (.int (zI N)), some (.int (zI i)), none, none] [] (sM mo G I J) Q := by
    intro d
    induction d with
    | zero =>
      intro i hi h
      have : i = N := by omega
      subst this
      rw [lp_290_2, if_pos (by rw [zI_le (by omega) (by omega)]; exact Nat.le_refl _)]
      exact hQ 1 (Or.inl ⟨rfl, fun j hj => ⟨(hL j hj).2, (h j hj).1⟩, fun j hj j0 => (h j hj).2.1 j0, (h 0 (by omega)).2.2 rfl⟩)
    | succ d ih =>
      intro i hi h
      have Mi := hM i (by omega)
      have Li := hL i (by omega)
      obtain ⟨p, hp, ep⟩ : ∃ p, p < N ∧ (i + N - 1) % N = p ∧ (0 < i → p = i - 1) ∧ (i = 0 → p = N - 1) := by
        by_cases i0 : i = 0
        · subst i0
          exact ⟨N - 1, by omega, by rw [Nat.mod_eq_of_lt (by omega)]; omega, fun e => absurd e (by omega), fun _ => rfl⟩
        · refine ⟨i - 1, by omega, ?_, fun _ => rfl, fun e => absurd e i0⟩
          rw [show i + N - 1 = (i - 1) + N from by omega, Nat.add_mod_right, Nat.mod_eq_of_lt (by omega)]
      have Lp := hL p hp
      have a := ww_le hW (M i) (L i)
      have b := ww_le hW (M i) (L p)
      rw [lp_290_2, if_neg (by rw [zI_le (by omega) (by omega)]; omega), zI_vp (by omega), zI_cn (by omega), zI_add, show zI (i + N) - 1 = zI (i + N - 1) from zIr_sub (c := 1) (by show 1 ≤ i + N; omega), zI_rem (by omega) (by omega), ep.1, zI_vp (by omega), zI_cn (by omega), Li.1, Mi.1, Lp.1, zI_vp (by omega), zI_cn (by omega), show (12 : Int32) * zI (M i) = zI (12 * M i) from zIl_mul 12 _, zI_add, zI_add, zI_vp (by omega), zI_vp (by omega), zI_cn (by omega), zI_cn (by omega), wz, wz, show zI i + 1 = zI (i + 1) from zIr_add 1 i]
      refine ⟨by omega, by rw [zIr_eq (c := 0) (by decide) (by omega)]; show ¬ N = 0; omega, by omega, by omega, ?_⟩
      by_cases g1 : I 85 (L i) = zI (M i)
      · rw [if_neg (fun e => e g1)]
        refine ⟨by omega, by omega, ?_⟩
        by_cases g2 : ww (I 91) (M i) (L i) < ww (I 91) (M i) (L p)
        · rw [if_pos (by rw [zI_lt (by omega) (by omega)]; exact g2)]
          refine ih (i + 1) (by omega) (fun j hj => ?_)
          by_cases e : j = i
          · subst e
            refine ⟨g1, fun j0 => by rw [← ep.2.1 j0]; exact g2, fun j0 => ?_⟩
            rw [← ep.2.2 j0]
            rw [j0] at g2
            exact g2
          · exact h j (by omega)
        · rw [if_neg (by rw [zI_lt (by omega) (by omega)]; exact g2)]
          refine hQ 0 (Or.inr ⟨rfl, fun e => g2 ?_⟩)
          by_cases i0 : i = 0
          · rw [ep.2.2 i0, i0]; exact e.2.2
          · rw [ep.2.1 (by omega)]; exact e.2.1 i (by omega) (by omega)
      · rw [if_pos g1]
        exact hQ 0 (Or.inr ⟨rfl, fun e => g1 (e.1 i (by omega)).2⟩)
  rw [lp_290_0]
  exact key N 0 (by omega) (fun j hj => absurd hj (Nat.not_lt_zero _))
def mgK (I : Nat → Nat → Int32) (r133 r134 : Nat → Int32) : Nat → Nat → Int32 := rw2 (rw2 I 133 r133) 134 r134
theorem mgK_o {r133 r134 : Nat → Int32} {c : Nat} (h : c ≠ 133 ∧ c ≠ 134) : mgK I r133 r134 c = I c := by
  unfold mgK
  rw [rw2_n _ _ _ _ h.2, rw2_n _ _ _ _ h.1]
theorem mgK_3 {r133 r134 : Nat → Int32} : mgK I r133 r134 133 = r133 := by
  unfold mgK
  rw [rw2_n _ _ _ _ (by decide), rw2_a]
theorem mgK_4 {r133 r134 : Nat → Int32} : mgK I r133 r134 134 = r134 := by
  unfold mgK
  rw [rw2_a]
theorem mgK_w {r133 r134 q : Nat → Int32} : rw2 (mgK I r133 r134) 133 q = mgK I q r134 := by
  unfold mgK
  funext c
  by_cases h1 : c = 134
  · subst h1; rw [rw2_n _ _ _ _ (by decide), rw2_a, rw2_a]
  · rw [rw2_n _ _ _ _ h1]
    by_cases h2 : c = 133
    · subst h2; rw [rw2_a, rw2_a]
    · rw [rw2_n _ _ _ _ h2, rw2_n _ _ _ _ h1, rw2_n _ _ _ _ h2, rw2_n _ _ _ _ h2]
theorem mgK_l {r133 r134 q : Nat → Int32} : rw2 (mgK I r133 r134) 134 q = mgK I r133 q := by
  unfold mgK
  rw [rw2_rw]
theorem ct_288 {n m N : Nat} {pr : Int32} (hn : I 81 3 = zI n) (h12 : n ≤ 12) (hm : I 81 10 = zI m) (h6 : m ≤ 6) (hpr : I 81 15 = pr) (hp : ∀ k, m ≤ k → bt pr k = false) (hW : okW (I 91)) (hN : N ≤ 4) (hN2 : 2 ≤ N)
    (hQ0 : rgN n (I 85) (I 91) pr N → ∀ r q, Q (some (.int 0)) (sM mo G (mgK I r q) J))
    (hQ1 : ∀ M L r q, (∀ j, j < N → r j = zI (M j) ∧ q j = zI (L j)) → rgF n (I 85) (I 91) pr N M L → Q (some (.int 1)) (sM mo G (mgK I r q) J)) :
    sm_wp X 288 0 [some (.ref 81), some (.int (zI N)), none, none, none, none, none, none, none] [] (sM mo G I J) Q := by
  have c6 : rp (cst 6) N 0 ≤ 1296 := by rw [rp_cst]; exact Nat.le_trans (Nat.pow_le_pow_right (by decide) hN) (by decide)
  have cn : rp (cst n) N 0 ≤ 20736 := by rw [rp_cst]; exact Nat.le_trans (Nat.pow_le_pow_left h12 N) (Nat.le_trans (Nat.pow_le_pow_right (by decide) hN) (by decide))
  have h6p : ∀ j, j < N → 0 < cst 6 j := fun _ _ => by show 0 < 6; decide
  -- no solution of a number
  have noS : ∀ v, (∀ u, u < v → u < rp (cst 6) N 0 → rgM pr N (dg (cst 6) N u) → ∀ w, w < rp (cst n) N 0 → ¬ rgL n (I 85) (I 91) N (dg (cst 6) N u) (dg (cst n) N w)) → ∀ M' L', rgM pr N M' → rgL n (I 85) (I 91) N M' L' → ∃ u, u < rp (cst 6) N 0 ∧ (∀ i, i < N → dg (cst 6) N u i = M' i) ∧ ¬ u < v := by
    intro v h M' L' hM' hL'
    obtain ⟨u, hu, eu⟩ := dg_ex (c := cst 6) (K := N) (x := M') (fun i hi => (hM'.1 i hi).1) N 0 (by omega)
    obtain ⟨w, hw, ew⟩ := dg_ex (c := cst n) (K := N) (x := L') (fun i hi => (hL'.1 i hi).1) N 0 (by omega)
    refine ⟨u, hu, fun i hi => eu i (Nat.zero_le _) hi, fun g => h u g hu (rgM_c (fun i hi => (eu i (Nat.zero_le _) hi).symm) hM') w hw (rgL_c (by omega) (fun i hi => (eu i (Nat.zero_le _) hi).symm) (fun i hi => (ew i (Nat.zero_le _) hi).symm) hL')⟩
  -- the rows of lands
  have rows : ∀ v, v < rp (cst 6) N 0 → rgM pr N (dg (cst 6) N v) → (∀ u, u < v → u < rp (cst 6) N 0 → rgM pr N (dg (cst 6) N u) → ∀ w, w < rp (cst n) N 0 → ¬ rgL n (I 85) (I 91) N (dg (cst 6) N u) (dg (cst n) N w)) →
      ((∀ w, w < rp (cst n) N 0 → ¬ rgL n (I 85) (I 91) N (dg (cst 6) N v) (dg (cst n) N w)) → ∀ r q, sm_wp X 288 34 [some (.ref 81), some (.int (zI N)), some (.int (zI (rp (cst 6) N 0))), some (.int (zI (rp (cst n) N 0))), some (.int (zI (v + 1))), none, none, none, none] [] (sM mo G (mgK I r q) J) Q) →
      ∀ d w, w + d = rp (cst n) N 0 → (∀ w', w' < w → ¬ rgL n (I 85) (I 91) N (dg (cst 6) N v) (dg (cst n) N w')) → ∀ r q : Nat → Int32, (∀ j, j < N → r j = zI (dg (cst 6) N v j)) → sm_wp X 288 93 [some (.ref 81), some (.int (zI N)), some (.int (zI (rp (cst 6) N 0))), some (.int (zI (rp (cst n) N 0))), some (.int (zI v)), none, some (.int (zI w)), none, none] [] (sM mo G (mgK I r q) J) Q := by
    intro v hv hMv hb hnx d
    induction d with
    | zero =>
      intro w hw h r q hr
      rw [lp_288_93, if_pos (by rw [zI_le (by omega) (by omega)]; omega), show zI v + 1 = zI (v + 1) from zIr_add 1 v]
      exact hnx (fun w' hw' => h w' (by omega)) r q
    | succ d ih =>
      intro w hw h r q hr
      have n0 : 0 < n := by
        rcases Nat.eq_zero_or_pos n with e | e
        · subst e
          have : rp (cst 0) N 0 = 0 := by rw [rp_cst]; exact Nat.zero_pow (by omega)
          omega
        · exact e
      have hnp : ∀ j, j < N → 0 < cst n j := fun _ _ => n0
      rw [lp_288_93, if_neg (by rw [zI_le (by omega) (by omega)]; omega)]
      have dig : ∀ k, k ≤ N → ∀ q : Nat → Int32, (∀ j, k ≤ j → j < N → q j = zI (dg (cst n) N w j)) → sm_wp X 288 108 [some (.ref 81), some (.int (zI N)), some (.int (zI (rp (cst 6) N 0))), some (.int (zI (rp (cst n) N 0))), some (.int (zI v)), none, some (.int (zI w)), some (.int (zI (w / rp (cst n) N k))), some (.int (zI k + (-1)))] [] (sM mo G (mgK I r q) J) Q := by
        intro k
        induction k with
        | zero =>
          intro _ q hq
          rw [lp_288_108, if_pos (by decide)]
          have e85 : mgK I r q 85 = I 85 := mgK_o (by decide)
          have e91 : mgK I r q 91 = I 91 := mgK_o (by decide)
          refine ct_290 (I := mgK I r q) (n := n) (N := N) (M := dg (cst 6) N v) (L := dg (cst n) N w) h12 (by rw [e91]; exact hW) hN (by omega) (fun j hj => by rw [mgK_3]; exact ⟨hr j hj, dg_lt (c := cst 6) v (h6p j hj)⟩) (fun j hj => by rw [mgK_4]; exact ⟨hq j (Nat.zero_le _) hj, dg_lt (c := cst n) w (hnp j hj)⟩) ?_
          intro z hz
          rw [e85, e91] at hz
          simp only [tl_some]
          rw [lp_288_147]
          rcases hz with ⟨rfl, hz⟩ | ⟨rfl, hz⟩
          · rw [if_neg (by decide)]
            refine hQ1 (dg (cst 6) N v) (dg (cst n) N w) r q (fun j hj => ⟨hr j hj, hq j (Nat.zero_le _) hj⟩) ⟨hMv, hz, fun M' L' hM' hL' hlx => ?_, fun L' hL' hlx => ?_⟩
            · obtain ⟨u, hu, eu, hnu⟩ := noS v hb M' L' hM' hL'
              exact hnu (dg_lx hu hv (lx_c (fun i hi => (eu i hi).symm) hlx))
            · obtain ⟨w', hw', ew'⟩ := dg_ex (c := cst n) (K := N) (x := L') (fun i hi => (hL'.1 i hi).1) N 0 (by omega)
              have lt := dg_lx hw' (show w < rp (cst n) N 0 by omega) (lx_c (fun i hi => (ew' i (Nat.zero_le _) hi).symm) hlx)
              exact h w' lt (rgL_c (by omega) (fun _ _ => rfl) (fun i hi => (ew' i (Nat.zero_le _) hi).symm) hL')
          · rw [if_pos rfl, show zI w + 1 = zI (w + 1) from zIr_add 1 w]
            refine ih (w + 1) (by omega) (fun w' hw' => ?_) r q hr
            by_cases e : w' = w
            · rw [e]; exact hz
            · exact h w' (by omega)
        | succ k ihk =>
          intro hk q hq
          have wb : w / rp (cst n) N (k + 1) ≤ w := Nat.div_le_self _ _
          have kN : k < N := by omega
          have e81 : mgK I r q 81 = I 81 := mgK_o (by decide)
          rw [zI_p1, lp_288_108, if_neg (by rw [zIr_lt (c := 0) (by decide) (by omega)]; exact Nat.not_lt_zero _), e81, hn, zI_vp (by omega), zI_cn (by omega), zI_rem (by omega) (by omega), zI_div (by omega) (by omega), Nat.div_div_eq_div_mul, show rp (cst n) N (k + 1) * n = rp (cst n) N k from (rp_s (cst n) kN).symm, show w / rp (cst n) N (k + 1) % n = dg (cst n) N w k from rfl, up2_rw, mgK_4, mgK_l]
          refine ⟨by rw [zIr_eq (c := 0) (by decide) (by omega)]; show ¬ n = 0; omega, by omega, ihk (by omega) _ (fun j h1 h2 => ?_)⟩
          rw [va_ap]
          by_cases e : j = k
          · subst e; rw [if_pos rfl]
          · rw [if_neg e]; exact hq j (by omega) h2
      have s1 : zI N - 1 = zI N + (-1) := Int32.sub_eq_add_neg _ _
      rw [s1]
      have q0 := dig N (Nat.le_refl _) q (fun j h1 h2 => absurd h2 (by omega))
      rw [rp_K, Nat.div_one] at q0
      exact q0
  have codes : ∀ d v, v + d = rp (cst 6) N 0 → (∀ u, u < v → u < rp (cst 6) N 0 → rgM pr N (dg (cst 6) N u) → ∀ w, w < rp (cst n) N 0 → ¬ rgL n (I 85) (I 91) N (dg (cst 6) N u) (dg (cst n) N w)) → ∀ r q, sm_wp X 288 34 [some (.ref 81), some (.int (zI N)), some (.int (zI (rp (cst 6) N 0))), some (.int (zI (rp (cst n) N 0))), some (.int (zI v)), none, none, none, none] [] (sM mo G (mgK I r q) J) Q := by
    intro d
    induction d with
    | zero =>
      intro v hv h r q
      rw [lp_288_34, if_pos (by rw [zI_le (by omega) (by omega)]; omega)]
      refine hQ0 (fun M' L' hM' hL' => ?_) r q
      obtain ⟨u, hu, -, hnu⟩ := noS v h M' L' hM' hL'
      exact hnu (by omega)
    | succ d ih =>
      intro v hv h r q
      have nxt : (rgM pr N (dg (cst 6) N v) → ∀ w, w < rp (cst n) N 0 → ¬ rgL n (I 85) (I 91) N (dg (cst 6) N v) (dg (cst n) N w)) → ∀ r q, sm_wp X 288 34 [some (.ref 81), some (.int (zI N)), some (.int (zI (rp (cst 6) N 0))), some (.int (zI (rp (cst n) N 0))), some (.int (zI (v + 1))), none, none, none, none] [] (sM mo G (mgK I r q) J) Q := by
        intro hno r q
        refine ih (v + 1) (by omega) (fun u hu hu2 => ?_) r q
        by_cases e : u = v
        · rw [e]; exact hno
        · exact h u (by omega) hu2
      rw [lp_288_34, if_neg (by rw [zI_le (by omega) (by omega)]; omega)]
      have dig : ∀ k, k ≤ N → ∀ r : Nat → Int32, (∀ j, k ≤ j → j < N → r j = zI (dg (cst 6) N v j)) → sm_wp X 288 49 [some (.ref 81), some (.int (zI N)), some (.int (zI (rp (cst 6) N 0))), some (.int (zI (rp (cst n) N 0))), some (.int (zI v)), some (.int (zI (v / rp (cst 6) N k))), some (.int (zI k + (-1))), none, none] [] (sM mo G (mgK I r q) J) Q := by
        intro k
        induction k with
        | zero =>
          intro _ r hr
          have e81 : mgK I r q 81 = I 81 := mgK_o (by decide)
          rw [lp_288_49, if_pos (by decide)]
          refine ct_289 (I := mgK I r q) (m := m) (N := N) (pr := pr) (M := dg (cst 6) N v) (by rw [e81]; exact hm) h6 (by rw [e81]; exact hpr) hp hN (fun j hj => by rw [mgK_3]; exact ⟨hr j (Nat.zero_le _) hj, dg_lt (c := cst 6) v (h6p j hj)⟩) ?_
          intro z hz
          simp only [tl_some]
          rw [lp_288_84]
          rcases hz with ⟨rfl, hz⟩ | ⟨rfl, hz⟩
          · rw [if_pos (by decide)]
            exact rows v (by omega) hz h (fun hno => nxt (fun _ => hno)) (rp (cst n) N 0) 0 (by omega) (fun w' hw' => absurd hw' (Nat.not_lt_zero _)) r q (fun j hj => hr j (Nat.zero_le _) hj)
          · rw [if_neg (fun e => e rfl), show zI v + 1 = zI (v + 1) from zIr_add 1 v]
            exact nxt (fun e => absurd e hz) r q
        | succ k ihk =>
          intro hk r hr
          have vb : v / rp (cst 6) N (k + 1) ≤ v := Nat.div_le_self _ _
          have kN : k < N := by omega
          rw [zI_p1, lp_288_49, if_neg (by rw [zIr_lt (c := 0) (by decide) (by omega)]; exact Nat.not_lt_zero _), show (6 : Int32) = zI 6 from rfl, zI_vp (by omega), zI_cn (by omega), zI_rem (by omega) (by omega), zI_div (by omega) (by omega), Nat.div_div_eq_div_mul, show rp (cst 6) N (k + 1) * 6 = rp (cst 6) N k from (rp_s (cst 6) kN).symm, show v / rp (cst 6) N (k + 1) % 6 = dg (cst 6) N v k from rfl, up2_rw, mgK_3, mgK_w]
          refine ⟨by decide, by omega, ihk (by omega) _ (fun j h1 h2 => ?_)⟩
          rw [va_ap]
          by_cases e : j = k
          · subst e; rw [if_pos rfl]
          · rw [if_neg e]; exact hr j (by omega) h2
      have s1 : zI N - 1 = zI N + (-1) := Int32.sub_eq_add_neg _ _
      rw [s1]
      have q0 := dig N (Nat.le_refl _) r (fun j h1 h2 => absurd h2 (by omega))
      rw [rp_K, Nat.div_one] at q0
      exact q0
  have prod : ∀ d i, i + d = N → sm_wp X 288 7 [some (.ref 81), some (.int (zI N)), some (.int (zI (pF (cst 6) i))), some (.int (zI (pF (cst n) i))), some (.int (zI i)), none, none, none, none] [] (sM mo G I J) Q := by
    intro d
    induction d with
    | zero =>
      intro i hi
      have : i = N := by omega
      subst this
      rw [lp_288_7, if_pos (by rw [zI_le (by omega) (by omega)]; exact Nat.le_refl _), pF_K, pF_K]
      have q0 := codes (rp (cst 6) i 0) 0 (by omega) (fun u hu => absurd hu (Nat.not_lt_zero _)) (I 133) (I 134)
      have e : mgK I (I 133) (I 134) = I := by unfold mgK; rw [rw2_self, rw2_self]
      rw [e] at q0
      exact q0
    | succ d ih =>
      intro i hi
      rw [lp_288_7, if_neg (by rw [zI_le (by omega) (by omega)]; omega), hn, show (6 : Int32) = zI 6 from rfl, zI_mul, zI_mul, show zI i + 1 = zI (i + 1) from zIr_add 1 i]
      exact ih (i + 1) (by omega)
  rw [lp_288_0]
  exact prod N 0 (by omega)
end Y2
