/-! The class's ring. -/
def rVm (pr : Int32) (k : Nat) (M : Nat → Nat) (s : Nat) : Prop := bt pr s = true ∧ (∀ j, j < k → ¬ s = M j) ∧ (0 < k → M 0 < s)
def rVl (n : Nat) (r4 W : Nat → Int32) (M : Nat → Nat) (k : Nat) (L : Nat → Nat) (l : Nat) : Prop := l < n ∧ r4 l = zI (M k) ∧ (0 < k → ww W (M k) l < ww W (M k) (L (k - 1)))
theorem vp04 : vp_in 0 4 := by rw [vp_in_iff]; decide
section Y1
variable {X : (Nat → Int32) × Nat} {mo : Bool} {G : Nat × Nat} {I : Nat → Nat → Int32} {J : Nat → Nat → Int64} {Q : Option Value → sm_M → Prop}
theorem ct_122 {k : Nat} (hk : k ≤ 4) {x : Int32} (hQ : ∀ z : Int32, (z = 1 ∧ (∃ j, j < k ∧ I 69 j = x) ∨ z = 0 ∧ ∀ j, j < k → ¬ I 69 j = x) → Q (some (.int z)) (sM mo G I J)) : sm_wp X 122 0 [some (.ref 68), some (.int x), some (.int (zI k)), none] [] (sM mo G I J) Q := by
  have key : ∀ d j, j + d = k → (∀ i, i < j → ¬ I 69 i = x) → sm_wp X 122 2 [some (.ref 68), some (.int x), some (.int (zI k)), some (.int (zI j))] [] (sM mo G I J) Q := by
    intro d
    induction d with
    | zero =>
      intro j hj h
      rw [lp_122_2, if_pos (by rw [zI_le (by omega) (by omega)]; omega)]
      exact hQ 0 (Or.inr ⟨rfl, fun i hi => h i (by omega)⟩)
    | succ d ih =>
      intro j hj h
      rw [lp_122_2, if_neg (by rw [zI_le (by omega) (by omega)]; omega), if_neg (by rw [zIl_le (c := 4) (by decide) (by omega)]; show ¬ 4 ≤ j; omega), zI_vp (by omega), zI_cn (by omega), show zI j + 1 = zI (j + 1) from zIr_add 1 j]
      refine ⟨by omega, ?_⟩
      by_cases g : I 69 j = x
      · rw [if_neg (fun e => e g)]
        exact hQ 1 (Or.inl ⟨rfl, j, by omega, g⟩)
      · rw [if_pos g]
        refine ih (j + 1) (by omega) (fun i hi => ?_)
        by_cases e : i = j
        · rw [e]; exact g
        · exact h i (by omega)
  rw [lp_122_0]
  exact key k 0 (by omega) (fun i hi => absurd hi (Nat.not_lt_zero _))
theorem ct_121 {m k t : Nat} {pr : Int32} {M : Nat → Nat} (hm : I 1 1 = zI m) (h6 : m ≤ 6) (hpr : I 1 2 = pr) (hp : ∀ k, m ≤ k → bt pr k = false) (hk : k < 4) (hM : ∀ j, j < k → I 69 j = zI (M j) ∧ M j < 6) (ht : I 69 k + 1 = zI t) (ht6 : t ≤ 6) (h0 : 0 < k → M 0 < t)
    (hQ : ∀ z : Int32, (z = -1 ∧ (∀ s, t ≤ s → s < 6 → ¬ rVm pr k M s) ∨ ∃ s, t ≤ s ∧ s < 6 ∧ rVm pr k M s ∧ (∀ s', t ≤ s' → s' < s → ¬ rVm pr k M s') ∧ z = zI s) → Q (some (.int z)) (sM mo G I J)) :
    sm_wp X 121 0 [some (.ref 68), some (.int (zI k)), none] [] (sM mo G I J) Q := by
  have key : ∀ d s, s + d = 6 → t ≤ s → (∀ s', t ≤ s' → s' < s → ¬ rVm pr k M s') → sm_wp X 121 20 [some (.ref 68), some (.int (zI k)), some (.int (zI s))] [] (sM mo G I J) Q := by
    intro d
    induction d with
    | zero =>
      intro s hs hts h
      have : s = 6 := by omega
      subst this
      rw [lp_121_20, if_pos (by decide)]
      exact hQ (-1) (Or.inl ⟨rfl, h⟩)
    | succ d ih =>
      intro s hs hts h
      have nxt : ¬ rVm pr k M s → sm_wp X 121 20 [some (.ref 68), some (.int (zI k)), some (.int (zI s + 1))] [] (sM mo G I J) Q := by
        intro hn
        rw [show zI s + 1 = zI (s + 1) from zIr_add 1 s]
        refine ih (s + 1) (by omega) (by omega) (fun s' a b => ?_)
        by_cases e : s' = s
        · rw [e]; exact hn
        · exact h s' a (by omega)
      have ps : hPres I (zI s) ↔ bt pr s = true := by
        rw [hPres_vp hm h6, zI_sIn (by omega) (by omega), zI_cn (by omega), hpr]
        refine ⟨fun e => e.2, fun e => ⟨?_, e⟩⟩
        rcases Nat.lt_or_ge s m with g | g
        · exact g
        · rw [hp s g] at e; cases e
      rw [lp_121_20, if_neg (by rw [zIl_le (c := 6) (by decide) (by omega)]; show ¬ 6 ≤ s; omega)]
      by_cases g1 : bt pr s = true
      · rw [if_neg (fun e => e (ps.mpr g1))]
        refine ct_122 (by omega) (fun z hz => ?_)
        simp only [tl_some]
        rw [lp_121_43]
        rcases hz with ⟨rfl, j, hj, e⟩ | ⟨rfl, hz⟩
        · rw [if_pos (by decide)]
          refine nxt (fun v => v.2.1 j hj ?_)
          rw [(hM j hj).1, zI_eq (by have := (hM j hj).2; omega) (by omega)] at e
          exact e.symm
        · rw [if_neg (fun e => e rfl)]
          refine hQ (zI s) (Or.inr ⟨s, hts, by omega, ⟨g1, fun j hj e => hz j hj ?_, fun k0 => by have := h0 k0; omega⟩, h, rfl⟩)
          rw [(hM j hj).1, e]
      · rw [if_pos (fun e => g1 (ps.mp e))]
        exact nxt (fun v => g1 v.1)
  rw [lp_121_0, if_neg (by rw [zIr_lt (c := 0) (by decide) (by omega)]; exact Nat.not_lt_zero _), if_pos (by rw [zIr_lt (c := 4) (by decide) (by omega)]; exact hk), zI_vp (by omega), zI_cn (by omega), ht]
  exact ⟨hk, key (6 - t) t (by omega) (Nat.le_refl _) (fun s' a b => absurd b (by omega))⟩
theorem ct_124 {n k t : Nat} {M L : Nat → Nat} (hn : I 1 0 = zI n) (h12 : n ≤ 12) (hW : okW (I 13)) (hk : k < 4) (hM : I 69 k = zI (M k)) (hM6 : M k < 6) (hL : ∀ j, j < k → I 70 j = zI (L j) ∧ L j < 12) (ht : I 70 k + 1 = zI t) (ht12 : t ≤ 12)
    (hQ : ∀ z : Int32, (z = -1 ∧ (∀ s, t ≤ s → s < 12 → ¬ rVl n (I 4) (I 13) M k L s) ∨ ∃ s, t ≤ s ∧ s < 12 ∧ rVl n (I 4) (I 13) M k L s ∧ (∀ s', t ≤ s' → s' < s → ¬ rVl n (I 4) (I 13) M k L s') ∧ z = zI s) → Q (some (.int z)) (sM mo G I J)) :
    sm_wp X 124 0 [some (.ref 68), some (.int (zI k)), none, none] [] (sM mo G I J) Q := by
  have key : ∀ d s, s + d = 12 → t ≤ s → (∀ s', t ≤ s' → s' < s → ¬ rVl n (I 4) (I 13) M k L s') → sm_wp X 124 34 [some (.ref 68), some (.int (zI k)), some (.int (hlds (I 4) (zI (M k)) n)), some (.int (zI s))] [] (sM mo G I J) Q := by
    intro d
    induction d with
    | zero =>
      intro s hs hts h
      have : s = 12 := by omega
      subst this
      rw [lp_124_34, if_pos (by decide)]
      exact hQ (-1) (Or.inl ⟨rfl, h⟩)
    | succ d ih =>
      intro s hs hts h
      have nxt : ¬ rVl n (I 4) (I 13) M k L s → sm_wp X 124 34 [some (.ref 68), some (.int (zI k)), some (.int (hlds (I 4) (zI (M k)) n)), some (.int (zI s + 1))] [] (sM mo G I J) Q := by
        intro hn
        rw [show zI s + 1 = zI (s + 1) from zIr_add 1 s]
        refine ih (s + 1) (by omega) (by omega) (fun s' a b => ?_)
        by_cases e : s' = s
        · rw [e]; exact hn
        · exact h s' a (by omega)
      have hb : hBit (hlds (I 4) (zI (M k)) n) (zI s) ↔ (s < n ∧ I 4 s = zI (M k)) := by
        rw [hb_bt _ _ (by omega), bt_hl _ _ n h12, decide_eq_true_iff]
      rw [lp_124_34, if_neg (by rw [zIl_le (c := 12) (by decide) (by omega)]; show ¬ 12 ≤ s; omega)]
      by_cases g1 : s < n ∧ I 4 s = zI (M k)
      · rw [if_neg (fun e => e (hb.mpr g1))]
        by_cases k0 : k = 0
        · rw [if_pos (by rw [k0]; rfl)]
          exact hQ (zI s) (Or.inr ⟨s, hts, by omega, ⟨g1.1, g1.2, fun e => absurd e (by omega)⟩, h, rfl⟩)
        · have hl := hL (k - 1) (by omega)
          rw [if_neg (by rw [zIr_eq (c := 0) (by decide) (by omega)]; exact k0), show zI k - 1 = zI (k - 1) from zIr_sub (c := 1) (by show 1 ≤ k; omega), zI_vp (by omega), zI_vp (by omega), zI_cn (by omega), zI_cn (by omega)]
          refine ⟨hk, by omega, ?_⟩
          have ge : vf_Ring_gains I (I 69 k) (I 70 (k - 1)) (zI s) ↔ ww (I 13) (M k) s < ww (I 13) (M k) (L (k - 1)) := by
            unfold vf_Ring_gains
            rw [hM, hl.1, wof_w hW hM6 hl.2, wof_w hW hM6 (by omega)]
            have a := ww_le hW (M k) (L (k - 1))
            have b := ww_le hW (M k) s
            rw [zI_le (by omega) (by omega)]
            omega
          by_cases g2 : ww (I 13) (M k) s < ww (I 13) (M k) (L (k - 1))
          · rw [if_neg (fun e => e (ge.mpr g2))]
            exact hQ (zI s) (Or.inr ⟨s, hts, by omega, ⟨g1.1, g1.2, fun _ => g2⟩, h, rfl⟩)
          · rw [if_pos (fun e => g2 (ge.mp e))]
            exact nxt (fun v => g2 (v.2.2 (by omega)))
      · rw [if_pos (fun e => g1 (hb.mp e))]
        exact nxt (fun v => g1 ⟨v.1, v.2.1⟩)
  rw [lp_124_0, if_neg (by rw [zIr_lt (c := 0) (by decide) (by omega)]; exact Nat.not_lt_zero _), if_pos (by rw [zIr_lt (c := 4) (by decide) (by omega)]; exact hk), zI_vp (by omega), zI_cn (by omega), hM]
  refine ⟨hk, ?_⟩
  rw [ct_landsHeld _ _ _ _ _ _ hn h12]
  simp only [tl_some]
  rw [lp_124_24, zI_vp (by omega), zI_cn (by omega), ht]
  exact ⟨hk, key (12 - t) t (by omega) (Nat.le_refl _) (fun s' a b => absurd b (by omega))⟩
theorem ct_123 {n N : Nat} {M : Nat → Nat} (hn : I 1 0 = zI n) (h12 : n ≤ 12) (hW : okW (I 13)) (hN : N ≤ 4) (hN2 : 2 ≤ N) (hM : ∀ j, j < N → I 69 j = zI (M j) ∧ M j < 6)
    (hQ0 : (∀ L, ¬ rgL n (I 4) (I 13) N M L) → ∀ r, Q (some (.int 0)) (sM mo G (rw2 I 70 r) J))
    (hQ1 : ∀ L r, (∀ j, j < N → r j = zI (L j)) → rgL n (I 4) (I 13) N M L → (∀ L', rgL n (I 4) (I 13) N M L' → ¬ lxL N L' L) → Q (some (.int 1)) (sM mo G (rw2 I 70 r) J)) :
    sm_wp X 123 0 [some (.ref 68), some (.int (zI N)), none, none] [] (sM mo G I J) Q := by
  have key := dfs (N := N) (b := 12) hN (by omega) (by decide) (rVl n (I 4) (I 13) M) (fun _ => 0) (rgL n (I 4) (I 13) N M) (fun L => ww (I 13) (M 0) (L 0) < ww (I 13) (M 0) (L (N - 1))) 100000
    (fun x hx k hk => ⟨by have := (hx.1 k hk).1; omega, (hx.1 k hk).1, (hx.1 k hk).2, fun k0 => hx.2.1 k hk k0⟩)
    (fun k L L' s h v => ⟨v.1, v.2.1, fun k0 => by rw [← h (k - 1) (by omega)]; exact v.2.2 k0⟩)
    (fun x _ k _ _ => Nat.zero_le _) (fun _ _ _ => rfl) (fun _ _ => Nat.zero_le _)
    (fun L hF x hx he => hF (by rw [← he 0 (by omega), ← he (N - 1) (by omega)]; exact hx.2.2))
    (fun k t st L => ∀ r : Nat → Int32, (∀ j, j < k → r j = zI (L j)) → r k + 1 = zI t → sm_wp X 123 11 [some (.ref 68), some (.int (zI N)), some (.int (zI k)), some (.int (zI st))] [] (sM mo G (rw2 I 70 r) J) Q)
    (∀ r, Q (some (.int 0)) (sM mo G (rw2 I 70 r) J)) (fun L => ∀ r : Nat → Int32, (∀ j, j < N → r j = zI (L j)) → Q (some (.int 1)) (sM mo G (rw2 I 70 r) J))
    hQ0 (fun L hF hV hmin r hr => hQ1 L r hr ⟨fun i hi => ⟨(hV i hi).2.1, (hV i hi).2.2.1⟩, fun i hi i0 => (hV i hi).2.2.2 i0, hF⟩ hmin)
    (by
      intro k t st L hk hst ht hL h1 h2 r hr hrt
      have k13 : rw2 I 70 r 13 = I 13 := rw2_n _ _ _ _ (by decide)
      have k4 : rw2 I 70 r 4 = I 4 := rw2_n _ _ _ _ (by decide)
      have k1 : rw2 I 70 r 1 = I 1 := rw2_n _ _ _ _ (by decide)
      have k69 : rw2 I 70 r 69 = I 69 := rw2_n _ _ _ _ (by decide)
      have hMk := hM k hk
      have hM0 := hM 0 (by omega)
      rw [lp_123_11, if_neg (by rw [zIl_le (c := 100000) (by decide) (by omega)]; show ¬ 100000 ≤ st; omega), if_neg (by rw [zIr_lt (c := 0) (by decide) (by omega)]; exact Nat.not_lt_zero _), if_neg (by rw [zIl_le (c := 4) (by decide) (by omega)]; show ¬ 4 ≤ k; omega)]
      refine ct_124 (I := rw2 I 70 r) (n := n) (M := M) (L := L) (by rw [k1]; exact hn) h12 (by rw [k13]; exact hW) (by omega) (by rw [k69]; exact hMk.1) hMk.2 (fun j hj => by rw [rw2_a]; exact ⟨hr j hj, (hL j hj).1⟩) (by rw [rw2_a]; exact hrt) ht ?_
      intro z hz
      rw [k4, k13] at hz
      simp only [tl_some]
      rw [lp_123_36, zI_vp (by omega), zI_cn (by omega), up2_rw, rw2_a, rw2_rw, rw2_a, va_ap, if_pos rfl, show zI st + 1 = zI (st + 1) from zIr_add 1 st]
      refine ⟨by omega, by omega, ?_⟩
      rcases hz with ⟨rfl, hz⟩ | ⟨s, s1, s2, s3, s4, rfl⟩
      · rw [if_neg (fun e => e rfl)]
        have q := h1 hz
        by_cases k0 : k = 0
        · rw [k0, lp_123_11]
          by_cases g : (100000 : Int32) ≤ zI (st + 1)
          · rw [if_pos g]; exact q.1 k0 _
          · rw [if_neg g, if_pos (by decide)]; exact q.1 k0 _
        · obtain ⟨k', rfl⟩ : ∃ k', k = k' + 1 := ⟨k - 1, by omega⟩
          rw [zI_p1]
          refine q.2 k' rfl _ (fun j hj => ?_) ?_
          · rw [va_ap, if_neg (by omega)]; exact hr j (by omega)
          · rw [va_ap, if_neg (by omega), hr k' (by omega)]; exact zIr_add 1 _
      · rw [if_pos (by rw [zI_m1 (by omega)]; exact id)]
        have q := h2 s s1 s2 s3 s4
        have rk : ∀ j, j < k + 1 → va_up r k (zI s) j = zI (va_up L k s j) := by
          intro j hj
          rw [va_ap, va_ap]
          by_cases e : j = k
          · rw [if_pos e, if_pos e]
          · rw [if_neg e, if_neg e]; exact hr j (by omega)
        have L12 : ∀ j, j < k + 1 → va_up L k s j < 12 := by
          intro j hj
          rw [va_ap]
          by_cases e : j = k
          · rw [if_pos e]; exact s2
          · rw [if_neg e]; exact (hL j (by omega)).1
        have ge : k + 1 = N → (vf_Ring_gains (rw2 I 70 (va_up r k (zI s))) (rw2 I 70 r 69 (Int32.toNatClampNeg 0)) (zI s) (va_up r k (zI s) (Int32.toNatClampNeg 0)) ↔ ww (I 13) (M 0) (va_up L k s 0) < ww (I 13) (M 0) (va_up L k s (N - 1))) := by
          intro hkN
          have z0 : Int32.toNatClampNeg 0 = 0 := by decide
          have eL : va_up L k s (N - 1) = s := by rw [va_ap, if_pos (by omega)]
          unfold vf_Ring_gains
          rw [rw2_n _ _ _ 13 (by decide), k69, z0, hM0.1, rk 0 (by omega), wof_w hW hM0.2 s2, wof_w hW hM0.2 (L12 0 (by omega)), eL]
          have a := ww_le hW (M 0) (va_up L k s 0)
          have b := ww_le hW (M 0) s
          rw [zI_le (by omega) (by omega)]
          omega
        by_cases g : k + 1 = N
        · rw [if_pos (by rw [show zI N - 1 = zI (N - 1) from zIr_sub (c := 1) (by show 1 ≤ N; omega), zI_le (by omega) (by omega)]; omega)]
          refine ⟨vp04, ?_⟩
          obtain ⟨q1, q2⟩ := q.2 g
          by_cases hF : ww (I 13) (M 0) (va_up L k s 0) < ww (I 13) (M 0) (va_up L k s (N - 1))
          · rw [if_neg (fun e => e ((ge g).mpr hF))]
            exact q2 hF _ (fun j hj => rk j (by omega))
          · rw [if_pos (fun e => hF ((ge g).mp e))]
            refine q1 hF _ (fun j hj => rk j (by omega)) ?_
            rw [va_ap, if_pos rfl]; exact zIr_add 1 _
        · rw [if_neg (by rw [show zI N - 1 = zI (N - 1) from zIr_sub (c := 1) (by show 1 ≤ N; omega), zI_le (by omega) (by omega)]; omega), show zI k + 1 = zI (k + 1) from zIr_add 1 k, if_neg (by rw [zIl_le (c := 4) (by decide) (by omega)]; show ¬ 4 ≤ k + 1; omega), zI_vp (by omega), zI_cn (by omega), up2_rw, rw2_a, rw2_rw]
          refine ⟨by omega, q.1 (by omega) _ (fun j hj => ?_) ?_⟩
          · rw [va_ap, if_neg (by omega)]; exact rk j hj
          · rw [va_ap, if_pos rfl]; decide)
  rw [lp_123_0]
  refine ⟨vp04, ?_⟩
  rw [show Int32.toNatClampNeg 0 = 0 from by decide, up2_rw]
  refine key 24505 0 0 0 (fun _ => 0) (by omega) (by omega) (fun j hj => absurd hj (Nat.not_lt_zero _)) (fun x hx hl => ?_) (by rw [bS_0]; decide) (by decide) _ (fun j hj => absurd hj (Nat.not_lt_zero _)) ?_
  · rcases hl with ⟨i, hi, -⟩ | ⟨-, h⟩
    · exact absurd hi (Nat.not_lt_zero _)
    · exact absurd h (Nat.not_lt_zero _)
  · rw [va_ap, if_pos rfl]; decide
def rgK (I : Nat → Nat → Int32) (r69 r70 : Nat → Int32) : Nat → Nat → Int32 := rw2 (rw2 I 69 r69) 70 r70
theorem rgK_o {I : Nat → Nat → Int32} {r69 r70 : Nat → Int32} {c : Nat} (h : c ≠ 69 ∧ c ≠ 70) : rgK I r69 r70 c = I c := by
  unfold rgK
  rw [rw2_n _ _ _ _ h.2, rw2_n _ _ _ _ h.1]
theorem rgK_69 {I : Nat → Nat → Int32} {r69 r70 : Nat → Int32} : rgK I r69 r70 69 = r69 := by
  unfold rgK
  rw [rw2_n _ _ _ _ (by decide), rw2_a]
theorem rgK_w {I : Nat → Nat → Int32} {r69 r70 q : Nat → Int32} : rw2 (rgK I r69 r70) 69 q = rgK I q r70 := by
  unfold rgK
  funext c
  by_cases h1 : c = 70
  · subst h1; rw [rw2_n _ _ _ _ (by decide), rw2_a, rw2_a]
  · rw [rw2_n _ _ _ _ h1]
    by_cases h2 : c = 69
    · subst h2; rw [rw2_a, rw2_a]
    · rw [rw2_n _ _ _ _ h2, rw2_n _ _ _ _ h1, rw2_n _ _ _ _ h2, rw2_n _ _ _ _ h2]
theorem rgK_l {I : Nat → Nat → Int32} {r69 r70 q : Nat → Int32} : rw2 (rgK I r69 r70) 70 q = rgK I r69 q := by
  unfold rgK
  rw [rw2_rw]
theorem ct_120 {n m N : Nat} {pr : Int32} (hn : I 1 0 = zI n) (h12 : n ≤ 12) (hm : I 1 1 = zI m) (h6 : m ≤ 6) (hpr : I 1 2 = pr) (hp : ∀ k, m ≤ k → bt pr k = false) (hW : okW (I 13)) (hN : N ≤ 4) (hN2 : 2 ≤ N)
    (hQ0 : rgN n (I 4) (I 13) pr N → ∀ r69 r70, Q (some (.int 0)) (sM mo G (rgK I r69 r70) J))
    (hQ1 : ∀ M L r69 r70, (∀ j, j < N → r69 j = zI (M j) ∧ r70 j = zI (L j)) → rgF n (I 4) (I 13) pr N M L → Q (some (.int 1)) (sM mo G (rgK I r69 r70) J)) :
    sm_wp X 120 0 [some (.ref 68), some (.int (zI N)), none, none] [] (sM mo G I J) Q := by
  have key := dfs (N := N) (b := 6) hN (by omega) (by decide) (rVm pr) (fun M => M 0 + 1) (fun M => rgM pr N M ∧ ∃ L, rgL n (I 4) (I 13) N M L) (fun M => ∃ L, rgL n (I 4) (I 13) N M L) 100000
    (fun x hx k hk => ⟨(hx.1.1 k hk).1, (hx.1.1 k hk).2, fun j hj => hx.1.2.2 k j hk hj, fun k0 => hx.1.2.1 k hk k0⟩)
    (fun k M M' s h v => ⟨v.1, fun j hj => by rw [← h j hj]; exact v.2.1 j hj, fun k0 => by rw [← h 0 k0]; exact v.2.2 k0⟩)
    (fun x hx k k0 hk => hx.1.2.1 k hk k0) (fun M M' h => by rw [h]) (fun M h => h)
    (fun M hF x hx he => hF (by
      obtain ⟨L, hL⟩ := hx.2
      refine ⟨L, fun i hi => ⟨(hL.1 i hi).1, by rw [← he i hi]; exact (hL.1 i hi).2⟩, fun i hi i0 => by rw [← he i hi]; exact hL.2.1 i hi i0, by rw [← he 0 (by omega)]; exact hL.2.2⟩))
    (fun k t st M => (0 < k → M 0 < t) → ∀ r69 r70 : Nat → Int32, (∀ j, j < k → r69 j = zI (M j)) → r69 k + 1 = zI t → sm_wp X 120 11 [some (.ref 68), some (.int (zI N)), some (.int (zI k)), some (.int (zI st))] [] (sM mo G (rgK I r69 r70) J) Q)
    (∀ r69 r70, Q (some (.int 0)) (sM mo G (rgK I r69 r70) J))
    (fun M => ∀ L r69 r70, (∀ j, j < N → r69 j = zI (M j) ∧ r70 j = zI (L j)) → rgL n (I 4) (I 13) N M L → (∀ L', rgL n (I 4) (I 13) N M L' → ¬ lxL N L' L) → Q (some (.int 1)) (sM mo G (rgK I r69 r70) J))
    (fun h => hQ0 (fun M L h1 h2 => h M ⟨h1, L, h2⟩))
    (fun M _ hV hmin L r69 r70 hr hL hLm => hQ1 M L r69 r70 hr ⟨⟨fun i hi => ⟨(hV i hi).1, (hV i hi).2.1⟩, fun i hi i0 => (hV i hi).2.2.2 i0, fun i j hi hj => (hV i hi).2.2.1 j hj⟩, hL, fun M' L' a b => hmin M' ⟨a, L', b⟩, hLm⟩)
    (by
      intro k t st M hk hst ht hM h1 h2 h0 r69 r70 hr hrt
      have k1 : rgK I r69 r70 1 = I 1 := rgK_o (by decide)
      rw [lp_120_11, if_neg (by rw [zIl_le (c := 100000) (by decide) (by omega)]; show ¬ 100000 ≤ st; omega), if_neg (by rw [zIr_lt (c := 0) (by decide) (by omega)]; exact Nat.not_lt_zero _), if_neg (by rw [zIl_le (c := 4) (by decide) (by omega)]; show ¬ 4 ≤ k; omega)]
      refine ct_121 (I := rgK I r69 r70) (m := m) (pr := pr) (M := M) (by rw [k1]; exact hm) h6 (by rw [k1]; exact hpr) hp (by omega) (fun j hj => by rw [rgK_69]; exact ⟨hr j hj, (hM j hj).1⟩) (by rw [rgK_69]; exact hrt) ht h0 ?_
      intro z hz
      simp only [tl_some]
      rw [lp_120_36, zI_vp (by omega), zI_cn (by omega), up2_rw, rgK_69, rgK_w, rgK_69, va_ap, if_pos rfl, show zI st + 1 = zI (st + 1) from zIr_add 1 st]
      refine ⟨by omega, by omega, ?_⟩
      rcases hz with ⟨rfl, hz⟩ | ⟨s, s1, s2, s3, s4, rfl⟩
      · rw [if_neg (fun e => e rfl)]
        have q := h1 hz
        by_cases k0 : k = 0
        · rw [k0, lp_120_11]
          by_cases g : (100000 : Int32) ≤ zI (st + 1)
          · rw [if_pos g]; exact q.1 k0 _ _
          · rw [if_neg g, if_pos (by decide)]; exact q.1 k0 _ _
        · obtain ⟨k', rfl⟩ : ∃ k', k = k' + 1 := ⟨k - 1, by omega⟩
          rw [zI_p1]
          refine q.2 k' rfl (fun k0' => ?_) _ _ (fun j hj => ?_) ?_
          · have := (hM k' (by omega)).2.2.2 k0'
            omega
          · rw [va_ap, if_neg (by omega)]; exact hr j (by omega)
          · rw [va_ap, if_neg (by omega), hr k' (by omega)]; exact zIr_add 1 _
      · rw [if_pos (by rw [zI_m1 (by omega)]; exact id)]
        have q := h2 s s1 s2 s3 s4
        have rk : ∀ j, j < k + 1 → va_up r69 k (zI s) j = zI (va_up M k s j) := by
          intro j hj
          rw [va_ap, va_ap]
          by_cases e : j = k
          · rw [if_pos e, if_pos e]
          · rw [if_neg e, if_neg e]; exact hr j (by omega)
        have M6 : ∀ j, j < k + 1 → va_up M k s j < 6 := by
          intro j hj
          rw [va_ap]
          by_cases e : j = k
          · rw [if_pos e]; exact s2
          · rw [if_neg e]; exact (hM j (by omega)).1
        by_cases g : k + 1 = N
        · rw [if_pos (by rw [show zI N - 1 = zI (N - 1) from zIr_sub (c := 1) (by show 1 ≤ N; omega), zI_le (by omega) (by omega)]; omega)]
          obtain ⟨q1, q2⟩ := q.2 g
          have e4 : rgK I (va_up r69 k (zI s)) r70 4 = I 4 := rgK_o (by decide)
          have e13 : rgK I (va_up r69 k (zI s)) r70 13 = I 13 := rgK_o (by decide)
          have e1 : rgK I (va_up r69 k (zI s)) r70 1 = I 1 := rgK_o (by decide)
          refine ct_123 (I := rgK I (va_up r69 k (zI s)) r70) (n := n) (N := N) (M := va_up M k s) (by rw [e1]; exact hn) h12 (by rw [e13]; exact hW) hN hN2 (fun j hj => by rw [rgK_69]; exact ⟨rk j (by omega), M6 j (by omega)⟩) ?_ ?_
          · intro hno r
            rw [e4, e13] at hno
            rw [rgK_l]
            simp only [tl_some]
            rw [lp_120_90, if_pos rfl, show zI st + 1 = zI (st + 1) from zIr_add 1 st]
            refine q1 (fun e => by
              obtain ⟨L, hL⟩ := e
              exact hno L hL) (fun k0 => ?_) _ _ (fun j hj => rk j (by omega)) ?_
            · rw [va_ap, if_neg (by omega)]
              have := h0 k0
              omega
            · rw [va_ap, if_pos rfl]; exact zIr_add 1 _
          · intro L r hr2 hL hLm
            rw [e4, e13] at hL hLm
            rw [rgK_l]
            simp only [tl_some]
            rw [lp_120_90, if_neg (by decide)]
            exact q2 ⟨L, hL⟩ L _ _ (fun j hj => ⟨rk j (by omega), hr2 j hj⟩) hL hLm
        · rw [if_neg (by rw [show zI N - 1 = zI (N - 1) from zIr_sub (c := 1) (by show 1 ≤ N; omega), zI_le (by omega) (by omega)]; omega), show zI k + 1 = zI (k + 1) from zIr_add 1 k, if_neg (by rw [zIl_le (c := 4) (by decide) (by omega)]; show ¬ 4 ≤ k + 1; omega), zI_vp (by omega), zI_cn (by omega), up2_rw, rgK_69, rgK_w, show Int32.toNatClampNeg 0 = 0 from by decide, rk 0 (by omega)]
          refine ⟨vp04, by omega, q.1 (by omega) (fun _ => by show va_up M k s 0 < va_up M k s 0 + 1; omega) _ _ (fun j hj => ?_) ?_⟩
          · rw [va_ap, if_neg (by omega)]; exact rk j hj
          · rw [va_ap, if_pos rfl]; exact zIr_add 1 _)
  rw [lp_120_0]
  refine ⟨vp04, ?_⟩
  rw [show Int32.toNatClampNeg 0 = 0 from by decide, up2_rw, show rw2 I 69 (va_up (I 69) 0 (-1)) = rgK I (va_up (I 69) 0 (-1)) (I 70) from by
    unfold rgK
    funext c
    by_cases h : c = 70
    · subst h; rw [rw2_a, rw2_n _ _ _ _ (by decide)]
    · rw [rw2_n _ _ _ _ h]]
  refine key 1813 0 0 0 (fun _ => 0) (by omega) (by omega) (fun j hj => absurd hj (Nat.not_lt_zero _)) (fun x hx hl => ?_) (by rw [bS_0]; decide) (by decide) (fun e => absurd e (Nat.lt_irrefl _)) _ _ (fun j hj => absurd hj (Nat.not_lt_zero _)) ?_
  · rcases hl with ⟨i, hi, -⟩ | ⟨-, h⟩
    · exact absurd hi (Nat.not_lt_zero _)
    · exact absurd h (Nat.not_lt_zero _)
  · rw [va_ap, if_pos rfl]; decide
/-- the ring is found, or there is none -/
theorem ct_119 {n m : Nat} {pr : Int32} (hn : I 1 0 = zI n) (h12 : n ≤ 12) (hm : I 1 1 = zI m) (h6 : m ≤ 6) (hpr : I 1 2 = pr) (hp : ∀ k, m ≤ k → bt pr k = false) (hW : okW (I 13))
    (hca : I 68 4 = I 1 4 → ∃ len M L, I 68 3 = zI len ∧ (∀ i, i < len → I 69 i = zI (M i) ∧ I 70 i = zI (L i)) ∧ rgR n (I 4) (I 13) pr len M L)
    (hQ : ∀ K len M L, (∀ c, c ≠ 68 → c ≠ 69 → c ≠ 70 → K c = I c) → K 68 4 = I 1 4 → K 68 3 = zI len → (∀ i, i < len → K 69 i = zI (M i) ∧ K 70 i = zI (L i)) → rgR n (I 4) (I 13) pr len M L → Q none (sM mo G K J)) :
    sm_wp X 119 0 [some (.ref 68), none] [] (sM mo G I J) Q := by
  rw [lp_119_0]
  by_cases c1 : I 68 4 = I 1 4
  · rw [if_neg (fun e => e c1)]
    obtain ⟨len, M, L, a, b, d⟩ := hca c1
    exact hQ I len M L (fun _ _ _ _ => rfl) c1 a b d
  · rw [if_pos c1]
    have key : ∀ d N, N + d = 5 → 2 ≤ N → (∀ N', 2 ≤ N' → N' < N → rgN n (I 4) (I 13) pr N') → ∀ K, (∀ c, c ≠ 68 → c ≠ 69 → c ≠ 70 → K c = I c) → K 68 4 = I 1 4 → K 68 3 = 0 → sm_wp X 119 33 [some (.ref 68), some (.int (zI N))] [] (sM mo G K J) Q := by
      intro d
      induction d with
      | zero =>
        intro N hN hN2 hno K f k4 k3
        rw [lp_119_33, if_pos (by rw [zIl_lt (c := 4) (by decide) (by omega)]; show 4 < N; omega)]
        exact hQ K 0 (fun _ => 0) (fun _ => 0) f k4 k3 (fun i hi => absurd hi (Nat.not_lt_zero _)) (Or.inl ⟨rfl, fun N' a b => hno N' a (by omega)⟩)
      | succ d ih =>
        intro N hN hN2 hno K f k4 k3
        have fo : ∀ c, c < 68 → K c = I c := fun c hc => f c (by omega) (by omega) (by omega)
        rw [lp_119_33, if_neg (by rw [zIl_lt (c := 4) (by decide) (by omega)]; show ¬ 4 < N; omega), if_neg (fun e => e k3)]
        refine ct_120 (I := K) (n := n) (m := m) (N := N) (pr := pr) (by rw [fo 1 (by decide)]; exact hn) h12 (by rw [fo 1 (by decide)]; exact hm) h6 (by rw [fo 1 (by decide)]; exact hpr) hp (by rw [fo 13 (by decide)]; exact hW) (by omega) hN2 ?_ ?_
        · intro hN0 r69 r70
          rw [fo 4 (by decide), fo 13 (by decide)] at hN0
          simp only [tl_some]
          rw [lp_119_50, if_pos rfl, show zI N + 1 = zI (N + 1) from zIr_add 1 N]
          refine ih (N + 1) (by omega) (by omega) (fun N' a b => ?_) _ (fun c a b d => by rw [rgK_o ⟨b, d⟩]; exact f c a b d) (by rw [rgK_o (by decide)]; exact k4) (by rw [rgK_o (by decide)]; exact k3)
          by_cases e : N' = N
          · rw [e]; exact hN0
          · exact hno N' a (by omega)
        · intro M L r69 r70 hr hF
          rw [fo 4 (by decide), fo 13 (by decide)] at hF
          simp only [tl_some]
          rw [lp_119_50, if_neg (by decide), show zI N + 1 = zI (N + 1) from zIr_add 1 N, lp_119_33]
          have fin : Q none (sM mo G (up2 (rgK K r69 r70) 68 3 (zI N)) J) := by
            refine hQ _ N M L (fun c a b d => by rw [up2_rn _ _ _ _ _ a, rgK_o ⟨b, d⟩]; exact f c a b d) ?_ ?_ (fun i hi => ?_) (Or.inr ⟨hN2, by omega, hno, hF⟩)
            · rw [up2_ra, va_ap, if_neg (by decide), rgK_o (by decide)]; exact k4
            · rw [up2_ra, va_ap, if_pos rfl]
            · rw [up2_rn _ _ _ _ _ (by decide), up2_rn _ _ _ _ _ (by decide), rgK_69, show rgK K r69 r70 70 = r70 from by unfold rgK; rw [rw2_a]]
              exact hr i hi
          by_cases g : (4 : Int32) < zI (N + 1)
          · rw [if_pos g]; exact fin
          · rw [if_neg g, if_pos (by rw [up2_ra, va_ap, if_pos rfl, zIr_eq (c := 0) (by decide) (by omega)]; show ¬ N = 0; omega)]
            exact fin
    refine key 3 2 (by omega) (by omega) (fun N' a b => absurd b (by omega)) _ (fun c a b d => by rw [up2_rn _ _ _ _ _ a, up2_rn _ _ _ _ _ a]) ?_ ?_
    · rw [up2_ra, va_ap, if_neg (by decide), up2_ra, va_ap, if_pos rfl]
    · rw [up2_ra, va_ap, if_pos rfl]
end Y1
