/-! What the base's words are held by: the reference; both whole. -/
def hldF (pr : Int32) (L W : Nat → Int32) (ms a t : Nat) (s : Nat) (r : Nat → Int32) : Nat → Int32 := if adr pr L ms a s = true then trc (adw W a t) (adw W a s) (adl L a t) (adl L a s) 16 0 0 r else r
def hld (pr : Int32) (L W : Nat → Int32) (ms a t : Nat) : Nat → Int32 := up (hldF pr L W ms a t) 6 (fun _ => 0)
def ndr (pr : Int32) (L : Nat → Int32) (ms a : Nat) : Nat := up (fun s n => if adr pr L ms a s = true then n + 1 else n) 6 0
theorem adr_lt {pr : Int32} {L : Nat → Int32} {ms a s : Nat} (h : adr pr L ms a s = true) : s < ms := by
  unfold adr at h
  simp at h
  exact h.1.1
theorem adr_ge {pr : Int32} {L : Nat → Int32} {ms a s : Nat} (h : ms ≤ s) : ¬ adr pr L ms a s = true := fun g => by have := adr_lt g; omega
theorem hldF_p {pr : Int32} {L W : Nat → Int32} {ms a t s : Nat} (r : Nat → Int32) (h : adr pr L ms a s = true) : hldF pr L W ms a t s r = trc (adw W a t) (adw W a s) (adl L a t) (adl L a s) 16 0 0 r := if_pos h
theorem hldF_n {pr : Int32} {L W : Nat → Int32} {ms a t s : Nat} (r : Nat → Int32) (h : ¬ adr pr L ms a s = true) : hldF pr L W ms a t s r = r := if_neg h
theorem hld_ag (pr : Int32) (L W : Nat → Int32) (ms a t : Nat) {r q : Nat → Int32} (h : ∀ k, k < 8 → r k = q k) : ∀ n, n ≤ 6 → ∀ k, k < 8 → up (hldF pr L W ms a t) n r k = up (hldF pr L W ms a t) n q k := by
  refine up_rel (fun _ (u v : Nat → Int32) => ∀ k, k < 8 → u k = v k) h ?_
  intro k hk u v ih j hj
  unfold hldF
  by_cases g : adr pr L ms a k = true
  · rw [if_pos g, if_pos g]
    exact trc_ag _ _ _ _ _ _ _ _ _ ih j hj
  · rw [if_neg g, if_neg g]
    exact ih j hj
theorem hld_t {pr : Int32} {L W : Nat → Int32} {ms a t : Nat} (r : Nat → Int32) (k : Nat) : up (hldF pr L W ms a t) (ms + k) r = up (hldF pr L W ms a t) ms r := by
  induction k with
  | zero => rfl
  | succ k ih =>
    rw [← Nat.add_assoc, up_s, ih]
    unfold hldF
    rw [if_neg (adr_ge (by omega))]
theorem ndr_t {pr : Int32} {L : Nat → Int32} {ms a : Nat} (k : Nat) : up (fun s n => if adr pr L ms a s = true then n + 1 else n) (ms + k) 0 = up (fun s n => if adr pr L ms a s = true then n + 1 else n) ms 0 := by
  induction k with
  | zero => rfl
  | succ k ih =>
    rw [← Nat.add_assoc, up_s, ih, if_neg (adr_ge (by omega))]
section O1
variable {X : (Nat → Int32) × Nat} {mo : Bool} {G : Nat × Nat} {J : Nat → Nat → Int64} {Q : Option Value → sm_M → Prop}
theorem hm_tr {u v n m s : Nat} (A B : Nat → Int32) (K : Nat → Nat → Int32) (x : Int32) (hu : u < 48) (hv : v < 48) (hs : s < 48) (hn : K 135 u = zI n) (hm : K 135 v = zI m) (n8 : n ≤ 8) (m8 : m ≤ 8) (hA : ∀ i, i < 8 → K 136 (8 * u + i) = A i) (hB : ∀ i, i < 8 → K 136 (8 * v + i) = B i) (hT : ∀ i j, i ≤ n → j ≤ m → K 139 (9 * i + j) = zI (ed A B n m (n - i) (m - j))) : ∀ d i j f r, (n - i) + (m - j) ≤ d → d ≤ f → i ≤ n → j ≤ m → sm_wp X 303 92 [some (.ref 81), some (.int x), none, some (.int (zI u)), some (.int (zI s)), some (.int (zI v)), none, some (.int (zI i)), some (.int (zI j)), none] [] (sM mo G (rw2 K 140 r) J) Q = sm_wp X 303 36 [some (.ref 81), some (.int x), none, some (.int (zI u)), some (.int (zI (s + 1))), none, none, none, none, none] [] (sM mo G (rw2 K 140 (trc A B n m f i j r)) J) Q := by
  intro d
  induction d with
  | zero =>
    intro i j f r h1 h2 h3 h4
    have c1 : n ≤ i := by omega
    rw [trc_e _ _ _ _ _ _ _ _ (by omega), lp_303_92]
    simp (decide := true) only [rw2_n, ne_eq, not_false_eq_true]
    simp (disch := first | omega | decide) only [hn, zI_vp, zI_cn, zI_le, zIr_add, hu, c1, true_and, if_true]
  | succ d ih =>
    intro i j f r h1 h2 h3 h4
    rw [lp_303_92]
    simp (decide := true) only [rw2_a, rw2_n, ne_eq, not_false_eq_true, up2_rw, rw2_rw]
    by_cases c1 : n ≤ i
    · rw [trc_e _ _ _ _ _ _ _ _ (by omega)]
      simp (disch := first | omega | decide) only [hn, zI_vp, zI_cn, zI_le, zIr_add, hu, c1, true_and, if_true]
    · have y0 : 9 * i + j < 81 := by omega
      have y9 : 9 * i + j + 9 < 81 := by omega
      have t1 := hT i j h3 h4
      have t2 : K 139 (9 * i + j + 9) = _ := (congrArg _ (show 9 * i + j + 9 = 9 * (i + 1) + j by omega)).trans (hT (i + 1) j (by omega) h4)
      have l1 := ed_le A B n m (n - i) (m - j)
      have l2 := ed_le A B n m (n - (i + 1)) (m - j)
      by_cases c2 : m ≤ j
      · have ej : m - j = 0 := by omega
        rw [ej, ed_x] at t1 t2
        have q1 : n - i = n - (i + 1) + 1 := by omega
        have nx := ih (i + 1) j f r (by omega) (by omega) (by omega) h4
        rw [trc_e _ _ _ _ _ _ _ _ (by omega)] at nx
        rw [trc_e _ _ _ _ _ _ _ _ (by omega)]
        simp (disch := first | omega | decide) only [hn, hm, zI_vp, zI_cn, zI_le, zIr_add, zIl_mul, zI_add, zI_eq, hu, hv, c1, c2, y0, y9, t1, t2, true_and, if_true, if_false, ← q1, not_true_eq_false]
        exact nx
      · obtain ⟨f, rfl⟩ : ∃ g, f = g + 1 := ⟨f - 1, by omega⟩
        have t3 : K 139 (9 * i + j + 10) = _ := (congrArg _ (show 9 * i + j + 10 = 9 * (i + 1) + (j + 1) by omega)).trans (hT (i + 1) (j + 1) (by omega) (by omega))
        have l3 := ed_le A B n m (n - (i + 1)) (m - (j + 1))
        have n1 := ih (i + 1) (j + 1) f
        have n2 := ih (i + 1) j f
        have n3 := ih i (j + 1) f
        have y10 : 9 * i + j + 10 < 81 := by omega
        have z1 : 8 * u + i < 384 := by omega
        have z2 : 8 * v + j < 384 := by omega
        have i8 : i < 8 := by omega
        have j8 : j < 8 := by omega
        have ts := trc_s A B n m f i j r
        rw [if_pos (⟨by omega, by omega⟩ : i < n ∧ j < m)] at ts
        rw [ts]
        simp (disch := first | omega | decide) only [hn, hm, zI_vp, zI_cn, zI_le, zIr_add, zIl_mul, zI_add, zI_eq, hu, hv, c1, c2, y0, y9, y10, z1, z2, i8, t1, t2, t3, hA i i8, hB j j8, true_and, if_true, if_false]
        generalize ed A B n m (n - i) (m - j) = e1 at *
        generalize ed A B n m (n - (i + 1)) (m - j) = e2 at *
        generalize ed A B n m (n - (i + 1)) (m - (j + 1)) = e3 at *
        by_cases hc : A i = B j
        · simp only [hc, not_true_eq_false, if_false, if_true]
          by_cases q1 : e1 = e3 + 0
          · rw [if_neg (fun g => g q1), if_pos q1, n1 _ (by omega) (by omega) (by omega) (by omega)]
          · rw [if_pos q1, if_neg q1]
            by_cases q3 : e1 = e2 + 1
            · rw [if_neg (fun g => g q3), if_pos q3, n2 _ (by omega) (by omega) (by omega) (by omega)]
            · rw [if_pos q3, if_neg q3, n3 _ (by omega) (by omega) (by omega) (by omega)]
        · simp only [hc, not_false_eq_true, if_false, if_true]
          by_cases q1 : e1 = e3 + 1
          · rw [if_neg (fun g => g q1), if_pos q1, n1 _ (by omega) (by omega) (by omega) (by omega)]
          · rw [if_pos q1, if_neg q1]
            by_cases q3 : e1 = e2 + 1
            · rw [if_neg (fun g => g q3), if_pos q3, n2 _ (by omega) (by omega) (by omega) (by omega)]
            · rw [if_pos q3, if_neg q3, n3 _ (by omega) (by omega) (by omega) (by omega)]
theorem hc_pd {r ms a : Nat} {K : Nat → Nat → Int32} (h : aC r ms K) (ha : a < r) : sm_wp X 17 0 [some (.ref 71), some (.int (zI a)), none, none] [] (sM mo G K J) Q = Q (some (.int (zI (ndr (K 1 2) (K 72) ms a)))) (sM mo G K J) := by
  rw [lp_17_0]
  refine (cnt (fun k (n : Nat) => sm_wp X 17 4 [some (.ref 71), some (.int (zI a)), some (.int (zI n)), some (.int (zI k))] [] (sM mo G K J) Q) (fun s n => if adr (K 1 2) (K 72) ms a s = true then n + 1 else n) 0 6 ?_).trans ?_
  · intro k hk
    have c6 : ¬ (6 : Int32) ≤ zI k := by rw [zIl_le (c := 6) (by decide) (by omega)]; show ¬ 6 ≤ k; omega
    rw [lp_17_4, if_neg c6]
    simp only [hpd_v h ha hk, show zI k + 1 = zI (k + 1) from zIr_add 1 k, show ∀ n : Nat, zI n + 1 = zI (n + 1) from fun n => zIr_add 1 n]
    by_cases g : adr (K 1 2) (K 72) ms a k = true
    · rw [if_neg (fun e => e g), if_pos g]
    · rw [if_pos g, if_neg g]
  · rw [lp_17_4, if_pos (by decide)]
    rfl
theorem hc_held {r ms a : Nat} {I : Nat → Nat → Int32} {b : Int32} {t : Nat} (h : aC r ms I) (ha : a < r) (hb : (b = zI t ∧ t < ms) ∨ ∀ s, ¬ adr (I 1 2) (I 72) ms a s = true) (hQ : ∀ K, Fr I K → (∀ k, k < 8 → K 80 k = hld (I 1 2) (I 72) (I 73) ms a t k) → Q none (sM mo G K J)) : sm_wp X 15 0 [some (.ref 71), some (.int (zI a)), some (.int b), none] [] (sM mo G I J) Q := by
  have l2 : ∀ d k, k + d = 6 → ∀ K, Fr I K → (∀ j, j < 8 → K 80 j = up (hldF (I 1 2) (I 72) (I 73) ms a t) k (fun _ => 0) j) → sm_wp X 15 23 [some (.ref 71), some (.int (zI a)), some (.int b), some (.int (zI k))] [] (sM mo G K J) Q := by
    intro d
    induction d with
    | zero =>
      intro k hk K f hs
      have : k = 6 := by omega
      subst this
      rw [lp_15_23, if_pos (by decide)]
      exact hQ K f hs
    | succ d ih =>
      intro k hk K f hs
      have c6 : ¬ (6 : Int32) ≤ zI k := by rw [zIl_le (c := 6) (by decide) (by omega)]; show ¬ 6 ≤ k; omega
      rw [lp_15_23, if_neg c6]
      simp only [hpd_v (aC_f f h) ha (show k < 6 by omega), f.1 1 rfl, f.1 72 rfl]
      have nx := ih (k + 1) (by omega)
      rw [up_s] at nx
      by_cases g : adr (I 1 2) (I 72) ms a k = true
      · rw [if_neg (fun e => e g)]
        rcases hb with ⟨rfl, ht⟩ | hb
        · have km := adr_lt g
          rw [hc_steps (aC_f f h) ha ht km]
          simp only [tl_some]
          have f2 := Fr_t f (stC_f (I := K) (6 * a + t) (6 * a + k) (adl (K 72) a t) (adl (K 72) a k))
          have h2 := aC_f f2 h
          rw [lp_15_45, dl_v _ h2.1 h2.2.1 h2.2.2.1 h2.2.2.2.1 ha ht, dl_v _ h2.1 h2.2.1 h2.2.2.1 h2.2.2.2.1 ha km, f2.1 72 rfl]
          obtain ⟨w, hw, e⟩ := h.2.2.2.2 (6 * a + t)
          obtain ⟨v, hv, e2⟩ := h.2.2.2.2 (6 * a + k)
          have e3 : adl (I 72) a t = w := by unfold adl; rw [e, zI_cn (by omega)]
          have e4 : adl (I 72) a k = v := by unfold adl; rw [e2, zI_cn (by omega)]
          have e5 : adl (K 72) a t = w := by rw [f.1 72 rfl]; exact e3
          have e6 : adl (K 72) a k = v := by rw [f.1 72 rfl]; exact e4
          rw [e, e2, lp_16_0, e5, e6]
          have r80 : stC K (6 * a + t) (6 * a + k) w v 80 = K 80 := by unfold stC; simp (decide := true) only [rw2_n, ne_eq, not_false_eq_true]
          have ad := hc_add (X := X) (mo := mo) (G := G) (J := J) (Q := fun v M => sm_wp X 15 62 [some (.ref 71), some (.int (zI a)), some (.int (zI t)), some (.int (zI k))] (v.toList ++ []) M Q) hw hv (adw (I 73) a t) (adw (I 73) a k) (stC K (6 * a + t) (6 * a + k) w v) (fun i hi => by
            unfold stC
            simp (decide := true) only [rw2_n, rw2_a, ne_eq, not_false_eq_true]
            unfold cpr
            rw [if_pos hi]
            unfold dr adw
            rw [f.1 73 rfl]) (fun i hi => by
            unfold stC
            simp (decide := true) only [rw2_n, rw2_a, ne_eq, not_false_eq_true]
            unfold cpr
            rw [if_pos hi]
            unfold dr adw
            rw [f.1 73 rfl]) (fun i j hi hj => by
            unfold stC
            rw [rw2_a, tb_at _ _ _ _ _ _ _ _ _ hi hj hv (Nat.zero_le _) (fun _ => Nat.zero_le _)]
            unfold dr
            rw [f.1 73 rfl]
            rfl) 16 0 rfl 0 0 (K 80) (Nat.zero_le _) (Nat.zero_le _)
          rw [← r80, rw2_self] at ad
          refine (show _ = _ from ad).mpr ?_
          simp only [tl_none]
          rw [lp_15_62, show zI k + 1 = zI (k + 1) from zIr_add 1 k]
          rw [e5, e6] at f2
          refine nx _ (Fr_w f2 rfl (by decide) (by decide) (by decide) _) ?_
          intro j hj
          rw [rw2_a, r80]
          rw [hldF_p _ g, e3, e4]
          exact trc_ag (adw (I 73) a t) (adw (I 73) a k) w v 16 0 0 (K 80) (up (hldF (I 1 2) (I 72) (I 73) ms a t) k fun _ => 0) hs j hj
        · exact absurd g (hb k)
      · rw [if_pos g, show zI k + 1 = zI (k + 1) from zIr_add 1 k]
        refine nx K f ?_
        rw [hldF_n _ g]
        exact hs
  have l1 : ∀ d k, k + d = 8 → ∀ K, Fr I K → (∀ s, s < k → K 80 s = 0) → sm_wp X 15 2 [some (.ref 71), some (.int (zI a)), some (.int b), some (.int (zI k))] [] (sM mo G K J) Q := by
    intro d
    induction d with
    | zero =>
      intro k hk K f hs
      have : k = 8 := by omega
      subst this
      rw [lp_15_2, if_pos (by decide)]
      exact l2 6 0 rfl K f (fun s h6 => by rw [hs s h6]; rfl)
    | succ d ih =>
      intro k hk K f hs
      have c6 : ¬ (8 : Int32) ≤ zI k := by rw [zIl_le (c := 8) (by decide) (by omega)]; show ¬ 8 ≤ k; omega
      rw [lp_15_2, if_neg c6, zI_vp (by omega), zI_cn (by omega), show zI k + 1 = zI (k + 1) from zIr_add 1 k]
      refine ⟨by omega, ih (k + 1) (by omega) _ (Fr_u f rfl (by decide) (by decide) (by decide) _ _) fun s h6 => ?_⟩
      rw [up2_ra, va_ap]
      split
      · rfl
      · exact hs s (by omega)
  rw [lp_15_0]
  exact l1 8 0 rfl I (Fr_r I) (fun s h => absurd h (Nat.not_lt_zero _))
end O1
