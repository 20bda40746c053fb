/-! The distance: the reference's loops; both calls. -/
def dr (I : Nat → Nat → Int32) (c u : Nat) (k : Nat) : Int32 := I c (8 * u + k)
theorem ed_congr {A B A' B' : Nat → Int32} {n m : Nat} (ha : ∀ i, i < n → A i = A' i) (hb : ∀ j, j < m → B j = B' j) : ∀ x y, x ≤ n → y ≤ m → ed A B n m x y = ed A' B' n m x y := by
  intro x
  induction x with
  | zero => intro y _ _; rw [ed_0, ed_0]
  | succ x ih =>
    intro y hx
    induction y with
    | zero => intro _; rw [ed_x, ed_x]
    | succ y ih2 =>
      intro hy
      rw [ed_s, ed_s, ih y (by omega) (by omega), ih (y + 1) (by omega) hy, ih2 (by omega), ha _ (by omega), hb _ (by omega)]
theorem tb_congr {A B A' B' : Nat → Int32} {n m : Nat} (ha : ∀ i, i < n → A i = A' i) (hb : ∀ j, j < m → B j = B' j) (o : Nat → Int32) (i j : Nat) : tb A B n m o i j = tb A' B' n m o i j := by
  funext c
  unfold tb
  rw [ed_congr ha hb _ _ (by omega) (by omega)]
section O1
variable (X : (Nat → Int32) × Nat) (mo : Bool) (G : Nat × Nat) (I : Nat → Nat → Int32) (J : Nat → Nat → Int64) (Q : Option Value → sm_M → Prop)
theorem lp_far {u v n m : Nat} (hu : u < 48) (hv : v < 48) (h1 : I 135 u = zI n) (h2 : I 135 v = zI m) (hn : n ≤ 8) (hm : m ≤ 8) : ∀ i, i ≤ n + 1 → ∀ o : Nat → Int32, sm_wp X 297 7 [some (.ref 81), some (.int (zI u)), some (.int (zI v)), some (.int (zI i + (-1))), none, none] [] (sM mo G (rw2 I 139 (tb (dr I 136 u) (dr I 136 v) n m o i 0)) J) Q = Q (some (.int (zI (ed (dr I 136 u) (dr I 136 v) n m n m)))) (sM mo G (rw2 I 139 (tb (dr I 136 u) (dr I 136 v) n m o 0 0)) J) := by
  intro i
  induction i with
  | zero =>
    intro _ o
    rw [lp_297_7, m1_0, if_pos (by decide), rw2_a]
    have e := tb_at (dr I 136 u) (dr I 136 v) n m o 0 0 0 0 (by omega) (by omega) hm (Nat.le_refl _) (fun _ => Nat.le_refl _)
    have e2 : (0 : Int32).toNatClampNeg = 0 := by decide
    have e3 : vp_in 0 81 := by rw [show (0 : Int32) = zI 0 from rfl, zI_vp (by decide)]; decide
    rw [e2]
    simp only [Nat.mul_zero, Nat.add_zero, Nat.sub_zero] at e
    rw [e]
    simp only [e3, true_and]
  | succ i ih =>
    intro hi o
    rw [lp_297_7, m1_s, if_neg (by rw [zIr_lt (c := 0) (by decide) (by omega)]; exact Nat.not_lt_zero _), zI_vp (show v < 2147483648 by omega), rw2_n _ _ _ _ (show (135 : Nat) ≠ 139 by decide), zI_cn (show v < 2147483648 by omega), h2]
    simp only [hv, true_and]
    have inner : ∀ j, j ≤ m + 1 → sm_wp X 297 19 [some (.ref 81), some (.int (zI u)), some (.int (zI v)), some (.int (zI i)), some (.int (zI j + (-1))), none] [] (sM mo G (rw2 I 139 (tb (dr I 136 u) (dr I 136 v) n m o i j)) J) Q = sm_wp X 297 7 [some (.ref 81), some (.int (zI u)), some (.int (zI v)), some (.int (zI i + (-1))), none, none] [] (sM mo G (rw2 I 139 (tb (dr I 136 u) (dr I 136 v) n m o i 0)) J) Q := by
      intro j
      induction j with
      | zero =>
        intro _
        rw [lp_297_19, m1_0, if_pos (by decide)]
      | succ j ihj =>
        intro hj
        rw [← ihj (by omega), lp_297_19, m1_s, if_neg (by rw [zIr_lt (c := 0) (by decide) (by omega)]; exact Nat.not_lt_zero _)]
        have v1 : 9 * i + j < 81 := by omega
        simp (decide := true) only [rw2_a, rw2_n, ne_eq, not_false_eq_true, up2_rw, rw2_rw]
        simp only [zI_vp (show u < 2147483648 by omega), zI_vp (show v < 2147483648 by omega), zI_cn (show u < 2147483648 by omega), zI_cn (show v < 2147483648 by omega), h1, h2, hu, hv, true_and]
        by_cases hin : i = n
        · subst hin
          have ev : zI m - zI j = zI (m - j) := zI_sub (by omega)
          have ez : (0 : Int32) ≤ zI (m - j) := by rw [zIl_le (c := 0) (by decide) (by omega)]; exact Nat.zero_le _
          have es := tb_set (dr I 136 u) (dr I 136 v) i m o i j (Nat.le_refl _) (by omega) hm
          rw [Nat.sub_self, ed_0] at es
          simp only [not_true_eq_false, if_false, ev, ez, if_true]
          simp (disch := first | omega | decide) only [zIl_mul, zI_add, zI_cn, zI_vp, v1, true_and]
          rw [es]
        · have hin2 : ¬ zI i = zI n := by rw [zI_eq (by omega) (by omega)]; exact hin
          by_cases hjm : j = m
          · subst hjm
            have ev : zI n - zI i = zI (n - i) := zI_sub (by omega)
            have ez : (0 : Int32) ≤ zI (n - i) := by rw [zIl_le (c := 0) (by decide) (by omega)]; exact Nat.zero_le _
            have es := tb_set (dr I 136 u) (dr I 136 v) n j o i j (by omega) (Nat.le_refl _) hm
            rw [Nat.sub_self, ed_x] at es
            simp only [hin2, not_true_eq_false, not_false_eq_true, if_false, ev, ez, if_true]
            simp (disch := first | omega | decide) only [zIl_mul, zI_add, zI_cn, zI_vp, v1, true_and]
            rw [es]
          · have hjm2 : ¬ zI j = zI m := by rw [zI_eq (by omega) (by omega)]; exact hjm
            have t1 : tb (dr I 136 u) (dr I 136 v) n m o i (j + 1) (9 * i + j + 10) = _ := (congrArg _ (show 9 * i + j + 10 = 9 * (i + 1) + (j + 1) by omega)).trans (tb_at (dr I 136 u) (dr I 136 v) n m o i (j + 1) (i + 1) (j + 1) (by omega) (by omega) hm (by omega) (by omega))
            have t2 : tb (dr I 136 u) (dr I 136 v) n m o i (j + 1) (9 * i + j + 9) = _ := (congrArg _ (show 9 * i + j + 9 = 9 * (i + 1) + j by omega)).trans (tb_at (dr I 136 u) (dr I 136 v) n m o i (j + 1) (i + 1) j (by omega) (by omega) hm (by omega) (by omega))
            have t3 : tb (dr I 136 u) (dr I 136 v) n m o i (j + 1) (9 * i + j + 1) = _ := tb_at (dr I 136 u) (dr I 136 v) n m o i (j + 1) i (j + 1) (by omega) (by omega) hm (by omega) (by omega)
            have y1 : 9 * i + j + 10 < 81 := by omega
            have y2 : 9 * i + j + 9 < 81 := by omega
            have y3 : 9 * i + j + 1 < 81 := by omega
            have y4 : 8 * u + i < 384 := by omega
            have y5 : 8 * v + j < 384 := by omega
            obtain ⟨x, hx⟩ : ∃ x, n - i = x + 1 := ⟨n - i - 1, by omega⟩
            obtain ⟨y, hy⟩ : ∃ y, m - j = y + 1 := ⟨m - j - 1, by omega⟩
            have hx2 : n - (i + 1) = x := by omega
            have hy2 : m - (j + 1) = y := by omega
            have l1 := ed_le (dr I 136 u) (dr I 136 v) n m x y
            have l2 := ed_le (dr I 136 u) (dr I 136 v) n m x (y + 1)
            have l3 := ed_le (dr I 136 u) (dr I 136 v) n m (x + 1) y
            have es := tb_set (dr I 136 u) (dr I 136 v) n m o i j (by omega) (by omega) hm
            rw [hx, hy, ed_s, show n - (x + 1) = i by omega, show m - (y + 1) = j by omega] at es
            rw [hx2, hy2] at t1
            rw [hx2, hy] at t2
            rw [hx, hy2] at t3
            generalize ed (dr I 136 u) (dr I 136 v) n m x y = d at *
            generalize ed (dr I 136 u) (dr I 136 v) n m x (y + 1) = qq at *
            generalize ed (dr I 136 u) (dr I 136 v) n m (x + 1) y = pp at *
            simp only [hin2, hjm2, not_false_eq_true, if_true]
            simp (disch := first | omega | decide) only [zIl_mul, zI_add, zIr_add, zI_cn, zI_vp, v1, y1, y2, y3, y4, y5, true_and, t1, t2, t3]
            by_cases hc : I 136 (8 * u + i) = I 136 (8 * v + j)
            · rw [if_neg (fun g => g hc)]
              rw [if_pos (show dr I 136 u i = dr I 136 v j from hc)] at es
              by_cases c1 : d ≤ qq + 1
              · by_cases c2 : d ≤ pp + 1
                · rw [show min (d + 0) (min (qq + 1) (pp + 1)) = d by omega] at es
                  simp (disch := first | omega | decide) only [Nat.add_zero, zI_le, c1, c2, if_true, true_and, es]
                · rw [show min (d + 0) (min (qq + 1) (pp + 1)) = pp + 1 by omega] at es
                  simp (disch := first | omega | decide) only [Nat.add_zero, zI_le, c1, c2, if_true, if_false, true_and, es]
              · by_cases c2 : qq + 1 ≤ pp + 1
                · rw [show min (d + 0) (min (qq + 1) (pp + 1)) = qq + 1 by omega] at es
                  simp (disch := first | omega | decide) only [Nat.add_zero, zI_le, c1, c2, if_true, if_false, true_and, es]
                · rw [show min (d + 0) (min (qq + 1) (pp + 1)) = pp + 1 by omega] at es
                  simp (disch := first | omega | decide) only [Nat.add_zero, zI_le, c1, c2, if_true, if_false, true_and, es]
            · rw [if_pos hc]
              rw [if_neg (show ¬ dr I 136 u i = dr I 136 v j from hc)] at es
              by_cases c1 : d + 1 ≤ qq + 1
              · by_cases c2 : d + 1 ≤ pp + 1
                · rw [show min (d + 1) (min (qq + 1) (pp + 1)) = d + 1 by omega] at es
                  simp (disch := first | omega | decide) only [zI_le, c1, c2, if_true, true_and, es]
                · rw [show min (d + 1) (min (qq + 1) (pp + 1)) = pp + 1 by omega] at es
                  simp (disch := first | omega | decide) only [zI_le, c1, c2, if_true, if_false, true_and, es]
              · by_cases c2 : qq + 1 ≤ pp + 1
                · rw [show min (d + 1) (min (qq + 1) (pp + 1)) = qq + 1 by omega] at es
                  simp (disch := first | omega | decide) only [zI_le, c1, c2, if_true, if_false, true_and, es]
                · rw [show min (d + 1) (min (qq + 1) (pp + 1)) = pp + 1 by omega] at es
                  simp (disch := first | omega | decide) only [zI_le, c1, c2, if_true, if_false, true_and, es]
    have ii := inner (m + 1) (Nat.le_refl _)
    rw [m1_s, tb_row] at ii
    rw [ii]
    exact ih (by omega) o
theorem ct_far {u v n m : Nat} (hu : u < 48) (hv : v < 48) (h1 : I 135 u = zI n) (h2 : I 135 v = zI m) (hn : n ≤ 8) (hm : m ≤ 8) : sm_wp X 297 0 [some (.ref 81), some (.int (zI u)), some (.int (zI v)), none, none, none] [] (sM mo G I J) Q = Q (some (.int (zI (ed (dr I 136 u) (dr I 136 v) n m n m)))) (sM mo G (rw2 I 139 (tb (dr I 136 u) (dr I 136 v) n m (I 139) 0 0)) J) := by
  rw [lp_297_0, zI_vp (show u < 2147483648 by omega), zI_cn (show u < 2147483648 by omega), h1]
  simp only [hu, true_and]
  have e := lp_far X mo G I J Q hu hv h1 h2 hn hm (n + 1) (Nat.le_refl _) (I 139)
  rw [tb_top, rw2_self, m1_s] at e
  exact e
def stC (I : Nat → Nat → Int32) (u v n m : Nat) : Nat → Nat → Int32 := rw2 (rw2 (rw2 I 76 (cpr (I 76) (dr I 73 u) 8)) 77 (cpr (I 77) (dr I 73 v) 8)) 78 (tb (dr I 73 u) (dr I 73 v) n m (I 78) 0 0)
theorem dl_v {r m a s : Nat} (hr : I 71 0 = zI r) (h8 : r ≤ 8) (hm : I 1 1 = zI m) (h6 : m ≤ 6) (ha : a < r) (hs : s < m) : vf_Art_draftLength I (zI a) (zI s) = I 72 (6 * a + s) := by
  unfold vf_Art_draftLength
  simp only [hArt_vp hr h8, hState_vp hm h6]
  have e : a * 6 + s = 6 * a + s := by omega
  simp (disch := first | omega | decide) only [zI_lt, zI_le, zI_eq, zI_cn, zI_vp, zI_add, zI_mul, zI_sub, zIl_add, zIr_add, zIl_mul, zIr_mul, zIr_sub, zIl_lt, zIr_lt, zIl_le, zIr_le, zIl_eq, zIr_eq, zI_sIn, zI_m1, zI_m1', Int32.add_zero, Int32.or_zero, ha, hs, not_true_eq_false, if_true, if_false, e]
theorem wa_v {a s k : Nat} (ha : a < 8) (hs : s < 6) (hk : k < 8) : vf_Art_wordAt I (zI a) (zI s) (zI k) = dr I 73 (6 * a + s) k := by
  unfold vf_Art_wordAt dr
  have e : (a * 6 + s) * 8 + k = 8 * (6 * a + s) + k := by omega
  have c1 : ¬ 8 ≤ a := by omega
  simp (disch := first | omega | decide) only [zI_lt, zI_le, zI_eq, zI_cn, zI_vp, zI_add, zI_mul, zI_sub, zIl_add, zIr_add, zIl_mul, zIr_mul, zIr_sub, zIl_lt, zIr_lt, zIl_le, zIr_le, zIl_eq, zIr_eq, zI_sIn, zI_m1, zI_m1', Int32.add_zero, Int32.or_zero, Nat.not_lt_zero, if_false, hs, hk, if_true, e, c1]
theorem ct_steps {r ms a s o n m : Nat} (hr : I 71 0 = zI r) (h8 : r ≤ 8) (hm : I 1 1 = zI ms) (h6 : ms ≤ 6) (ha : a < r) (hs : s < ms) (ho : o < ms) (h1 : I 72 (6 * a + s) = zI n) (h2 : I 72 (6 * a + o) = zI m) (hn : n ≤ 8) (hm8 : m ≤ 8) : sm_wp X 8 0 [some (.ref 71), some (.int (zI a)), some (.int (zI s)), some (.int (zI o)), none, none, none, none, none, none, none] [] (sM mo G I J) Q = Q (some (.int (zI (ed (dr I 73 (6 * a + s)) (dr I 73 (6 * a + o)) n m n m)))) (sM mo G (stC I (6 * a + s) (6 * a + o) n m) J) := by
  rw [lp_8_0]
  refine Eq.trans ?_ ((cnt (fun k (_ : Unit) => sm_wp X 8 3 [some (.ref 71), some (.int (zI a)), some (.int (zI s)), some (.int (zI o)), some (.int (zI k)), none, none, none, none, none, none] [] (sM mo G (rw2 (rw2 I 76 (cpr (I 76) (dr I 73 (6 * a + s)) k)) 77 (cpr (I 77) (dr I 73 (6 * a + o)) k)) J) Q) (fun _ x => x) () 8 ?_).trans ?_)
  · have e : ∀ q w : Nat → Int32, cpr q w 0 = q := by
      intro q w
      funext k
      unfold cpr
      rw [if_neg (by omega)]
    rw [e, e, rw2_self, rw2_self]
    rfl
  · intro k hk
    have c8 : ¬ 8 ≤ k := by omega
    rw [lp_8_3]
    have w1 : ∀ K : Nat → Nat → Int32, K 73 = I 73 → ∀ s, s < 6 → vf_Art_wordAt K (zI a) (zI s) (zI k) = dr I 73 (6 * a + s) k := by
      intro K hK s hs
      rw [wa_v K (by omega) hs hk]
      unfold dr
      rw [hK]
    rw [w1 _ (by simp (decide := true) only [rw2_n, ne_eq, not_false_eq_true]) s (by omega), w1 _ (by simp (decide := true) only [up2_rn, rw2_n, ne_eq, not_false_eq_true]) o (by omega)]
    simp (disch := first | omega | decide) only [zI_lt, zI_le, zI_eq, zI_cn, zI_vp, zI_add, zI_mul, zI_sub, zIl_add, zIr_add, zIl_mul, zIr_mul, zIr_sub, zIl_lt, zIr_lt, zIl_le, zIr_le, zIl_eq, zIr_eq, zI_sIn, zI_m1, zI_m1', Int32.add_zero, Int32.or_zero, c8, hk, if_false, true_and]
    rw [← cpr_8 (I 76), ← cpr_8 (I 77)]
    have ee : ∀ p q : Nat → Int32, up2 (up2 (rw2 (rw2 I 76 p) 77 q) 76 k (dr I 73 (6 * a + s) k)) 77 k (dr I 73 (6 * a + o) k) = rw2 (rw2 I 76 (va_up p k (dr I 73 (6 * a + s) k))) 77 (va_up q k (dr I 73 (6 * a + o) k)) := by
      intro p q
      funext c
      by_cases h76 : c = 76
      · subst h76
        simp (decide := true) only [up2_ra, up2_rn, va_ap, ne_eq, if_false, if_true, not_false_eq_true, rw2_n, rw2_a]
      · by_cases h77 : c = 77
        · subst h77
          simp (decide := true) only [up2_ra, up2_rn, va_ap, ne_eq, if_false, if_true, not_false_eq_true, rw2_n, rw2_a]
        · simp (disch := assumption) only [up2_rn, rw2_n]
    rw [ee]
  · rw [lp_8_3, if_pos (by decide)]
    have d1 : ∀ K : Nat → Nat → Int32, K 71 = I 71 → K 1 = I 1 → K 72 = I 72 → vf_Art_draftLength K (zI a) (zI s) = zI n ∧ vf_Art_draftLength K (zI a) (zI o) = zI m := by
      intro K k1 k2 k3
      rw [dl_v K (by rw [k1]; exact hr) h8 (by rw [k2]; exact hm) h6 ha hs, dl_v K (by rw [k1]; exact hr) h8 (by rw [k2]; exact hm) h6 ha ho, k3]
      exact ⟨h1, h2⟩
    obtain ⟨q1, q2⟩ := d1 (rw2 (rw2 I 76 (cpr (I 76) (dr I 73 (6 * a + s)) 8)) 77 (cpr (I 77) (dr I 73 (6 * a + o)) 8)) (by simp (decide := true) only [rw2_n, ne_eq, not_false_eq_true]) (by simp (decide := true) only [rw2_n, ne_eq, not_false_eq_true]) (by simp (decide := true) only [rw2_n, ne_eq, not_false_eq_true])
    rw [q1, q2]
    have c1 : ¬ (8 : Int32) < zI n := by rw [zIl_lt (c := 8) (by decide) (by omega)]; show ¬ 8 < n; omega
    have c2 : ¬ (8 : Int32) < zI m := by rw [zIl_lt (c := 8) (by decide) (by omega)]; show ¬ 8 < m; omega
    simp only [c1, c2, if_false]
    have e := lp_stp X mo G (rw2 (rw2 I 76 (cpr (I 76) (dr I 73 (6 * a + s)) 8)) 77 (cpr (I 77) (dr I 73 (6 * a + o)) 8)) J Q hn hm8 (n + 1) (Nat.le_refl _) (I 78)
    rw [tb_top, m1_s] at e
    simp (decide := true) only [rw2_n, rw2_a, ne_eq, not_false_eq_true] at e
    have r1 : ∀ i, i < n → cpr (I 76) (dr I 73 (6 * a + s)) 8 i = dr I 73 (6 * a + s) i := fun i hi => if_pos (by omega)
    have r2 : ∀ i, i < m → cpr (I 77) (dr I 73 (6 * a + o)) 8 i = dr I 73 (6 * a + o) i := fun i hi => if_pos (by omega)
    rw [ed_congr r1 r2 _ _ (Nat.le_refl _) (Nat.le_refl _), tb_congr r1 r2] at e
    have e78 : rw2 (rw2 (rw2 I 76 (cpr (I 76) (dr I 73 (6 * a + s)) 8)) 77 (cpr (I 77) (dr I 73 (6 * a + o)) 8)) 78 (I 78) = rw2 (rw2 I 76 (cpr (I 76) (dr I 73 (6 * a + s)) 8)) 77 (cpr (I 77) (dr I 73 (6 * a + o)) 8) := by
      have := rw2_self (rw2 (rw2 I 76 (cpr (I 76) (dr I 73 (6 * a + s)) 8)) 77 (cpr (I 77) (dr I 73 (6 * a + o)) 8)) 78
      simp (decide := true) only [rw2_n, ne_eq, not_false_eq_true] at this
      exact this
    rw [e78] at e
    exact e
end O1
