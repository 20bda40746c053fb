/-! What is carried out. -/
def h2 (K : Nat → Nat → Int32) (g t : Int32) (n to fr k : Nat) : Nat → Nat → Int32 := hv (hv K (bt g) (fun _ => zI to) (zI k) (cN (bt g) n)) (bt t) (fun _ => zI fr) (zI k) (cN (bt t) n)
def sl2 (g t : Int32) : Nat → Bool := fun l => bt g l || bt t l
def wh2 (g : Int32) (to fr : Nat) : Nat → Int32 := fun l => if bt g l = true then zI to else zI fr
theorem bt_dis {g t : Int32} (h : g &&& t = 0) (l : Nat) : ¬ (bt g l = true ∧ bt t l = true) := by
  rintro ⟨a, b⟩
  have := bt_and g t l
  rw [h, bt_0, a, b] at this
  cases this
theorem h2_6 {K : Nat → Nat → Int32} {g t : Int32} {n to fr k : Nat} (hd : g &&& t = 0) (j : Nat) : h2 K g t n to fr k 6 j = if sl2 g t j = true then K 6 j + 1 else K 6 j := by
  unfold h2 sl2
  rw [hv_6, hv_6]
  have := bt_dis hd j
  by_cases a : bt g j = true
  · have b : ¬ bt t j = true := fun e => this ⟨a, e⟩
    rw [if_neg b, if_pos a, a, Bool.true_or, if_pos rfl]
  · have a' : bt g j = false := by cases h : bt g j with | false => rfl | true => exact absurd h a
    rw [if_neg a, a', Bool.false_or]
theorem h2_4 {K : Nat → Nat → Int32} {g t : Int32} {n to fr k : Nat} (hd : g &&& t = 0) (j : Nat) : h2 K g t n to fr k 4 j = if sl2 g t j = true then wh2 g to fr j else K 4 j := by
  unfold h2 sl2 wh2
  rw [hv_4, hv_4]
  have := bt_dis hd j
  by_cases a : bt g j = true
  · have b : ¬ bt t j = true := fun e => this ⟨a, e⟩
    rw [if_neg b, if_pos a, a, Bool.true_or, if_pos rfl, if_pos rfl]
  · have a' : bt g j = false := by cases h : bt g j with | false => rfl | true => exact absurd h a
    rw [if_neg a, a', Bool.false_or]
    by_cases b : bt t j = true
    · rw [if_pos b, if_pos b, if_neg (by decide)]
    · rw [if_neg b, if_neg b]
theorem h2_w {K : Nat → Nat → Int32} {g t : Int32} {n to k : Nat} (hd : g &&& t = 0) (j : Nat) : hvw (hv K (bt g) (fun _ => zI to) (zI k) (cN (bt g) n)) (bt t) j = hvw K (bt t) j := by
  unfold hvw
  by_cases b : bt t (j / 80) = true
  · have a : ¬ bt g (j / 80) = true := fun e => bt_dis hd _ ⟨e, b⟩
    rw [hv_6, if_neg a]
  · have b' : bt t (j / 80) = false := by cases h : bt t (j / 80) with | false => rfl | true => exact absurd h b
    rw [b', Bool.false_and, Bool.false_and]
theorem sl_w {K : Nat → Nat → Int32} {g t : Int32} (j : Nat) : hvw K (sl2 g t) j = (hvw K (bt g) j || hvw K (bt t) j) := by
  unfold hvw sl2
  cases bt g (j / 80) <;> cases bt t (j / 80) <;> simp
theorem hw_b {K : Nat → Nat → Int32} {S : Nat → Bool} {j : Nat} (h : hvw K S j = true) : S (j / 80) = true := ((Bool.and_eq_true _ _).mp h).1
theorem h2_e {K : Nat → Nat → Int32} {g t : Int32} {n to fr k c : Nat} (hd : g &&& t = 0) : h2 K g t n to fr k 1 3 = hv K (sl2 g t) (wh2 g to fr) (zI k) c 1 3 ∧ ∀ d, d = 4 ∨ d = 6 ∨ d = 7 ∨ d = 8 ∨ d = 9 ∨ d = 42 ∨ d = 44 → h2 K g t n to fr k d = hv K (sl2 g t) (wh2 g to fr) (zI k) c d := by
  refine ⟨?_, ?_⟩
  · unfold h2
    rw [hv_1, if_neg (by decide), hv_1, if_neg (by decide), hv_1, if_neg (by decide)]
  · have both : ∀ j, hvw K (bt g) j = true → hvw K (bt t) j = false := fun j h => by
      cases e : hvw K (bt t) j with
      | false => rfl
      | true => exact absurd ⟨hw_b h, hw_b e⟩ (bt_dis hd _)
    rintro d (rfl | rfl | rfl | rfl | rfl | rfl | rfl)
    · funext j; rw [h2_4 hd, hv_4]
    · funext j; rw [h2_6 hd, hv_6]
    · funext j
      show hv (hv K (bt g) (fun _ => zI to) (zI k) (cN (bt g) n)) (bt t) (fun _ => zI fr) (zI k) (cN (bt t) n) 7 j = _
      rw [hv_7, hv_7, hv_7, h2_w hd, sl_w]
      unfold wh2
      cases a : hvw K (bt g) j with
      | true => rw [both j a, Bool.true_or, if_neg (by decide), if_pos rfl, if_pos rfl, if_pos (hw_b a)]
      | false =>
        rw [Bool.false_or, if_neg (show ¬ false = true by decide)]
        cases b : hvw K (bt t) j with
        | true => rw [if_pos rfl, if_pos rfl, if_neg (fun e => bt_dis hd _ ⟨e, hw_b b⟩)]
        | false => rw [if_neg (by decide), if_neg (by decide)]
    · funext j
      show hv (hv K (bt g) (fun _ => zI to) (zI k) (cN (bt g) n)) (bt t) (fun _ => zI fr) (zI k) (cN (bt t) n) 8 j = _
      rw [hv_8, hv_8, hv_8, h2_w hd, sl_w, hv_1, if_neg (show ¬ 3 = 4 by decide)]
      cases a : hvw K (bt g) j with
      | true => rw [both j a, Bool.true_or, if_neg (by decide), if_pos rfl]
      | false => rw [Bool.false_or, if_neg (show ¬ false = true by decide)]
    · funext j
      show hv (hv K (bt g) (fun _ => zI to) (zI k) (cN (bt g) n)) (bt t) (fun _ => zI fr) (zI k) (cN (bt t) n) 9 j = _
      rw [hv_9, hv_9, hv_9, h2_w hd, sl_w]
      cases a : hvw K (bt g) j with
      | true => rw [both j a, Bool.true_or, if_neg (by decide), if_pos rfl]
      | false => rw [Bool.false_or, if_neg (show ¬ false = true by decide)]
    · unfold h2
      rw [hv_d (by decide) (by decide) (by decide) (by decide) (by decide) (by decide), hv_d (by decide) (by decide) (by decide) (by decide) (by decide) (by decide), hv_d (by decide) (by decide) (by decide) (by decide) (by decide) (by decide)]
    · unfold h2
      rw [hv_d (by decide) (by decide) (by decide) (by decide) (by decide) (by decide), hv_d (by decide) (by decide) (by decide) (by decide) (by decide) (by decide), hv_d (by decide) (by decide) (by decide) (by decide) (by decide) (by decide)]
/-- while it is carried out: q papers are through -/
def wdM (n m np t0 ch0 bd q : Nat) (I K : Nat → Nat → Int32) : Prop := fixC I K ∧ sta I K np ∧ (∃ t, t ≤ 300 ∧ t = t0 ∧ K 1 3 = zI t) ∧ (∃ ch, K 1 4 = zI ch ∧ ch ≤ bd ∧ ((ch = ch0 ∧ K 4 = I 4) ∨ ch0 < ch)) ∧
  (∀ l, l < n → K 4 l = -1 ∨ ∃ s, s < m ∧ K 4 l = zI s) ∧ (∀ l, n ≤ l → K 6 l = 0) ∧ ∀ l, ∃ v, K 6 l = zI v ∧ v ≤ 20 + nBound np (K 42) + q
theorem wdM_0 {n m np t0 ch0 bd : Nat} {I K : Nat → Nat → Int32} (h : wdC n m np t0 ch0 bd I K) : wdM n m np t0 ch0 bd 0 I K := h
theorem cN_0 {S : Nat → Bool} : ∀ n, cN S n = 0 → ∀ l, l < n → S l = false := by
  intro n
  induction n with
  | zero => intro _ l h; exact absurd h (Nat.not_lt_zero _)
  | succ n ih =>
    intro h l hl
    by_cases g : S n = true
    · rw [cN_p g] at h; omega
    · rw [cN_q g] at h
      by_cases e : l = n
      · rw [e]; cases hh : S n with | false => rfl | true => exact absurd hh g
      · exact ih h l (by omega)
theorem wdM_s {n m np t0 ch0 bd q k to fr : Nat} {g t : Int32} {I K : Nat → Nat → Int32} (h : wdM n m np t0 ch0 bd q I K) (hd : g &&& t = 0) (n12 : n ≤ 12) (hg : ∀ l, bt g l = true → l < n) (ht : ∀ l, bt t l = true → l < n) (hto : to < m) (hfr : fr < m) : wdM n m np t0 ch0 (bd + 24) (q + 1) I (h2 K g t n to fr k) := by
  obtain ⟨h1, h2', h3, ⟨ch, c1, c2, c3⟩, h5, h6, h7⟩ := h
  have r1 : ∀ j, ¬ j = 4 → h2 K g t n to fr k 1 j = K 1 j := fun j hj => by unfold h2; rw [hv_1, if_neg hj, hv_1, if_neg hj]
  have rd : ∀ d, ¬ d = 4 → ¬ d = 6 → ¬ d = 7 → ¬ d = 8 → ¬ d = 9 → ¬ d = 1 → h2 K g t n to fr k d = K d := fun d a b c e f i => by unfold h2; rw [hv_d a b c e f i, hv_d a b c e f i]
  have r14 : h2 K g t n to fr k 1 4 = zI (ch + cN (bt g) n + cN (bt t) n) := by
    unfold h2
    rw [hv_1, if_pos rfl, hv_1, if_pos rfl, c1, zI_add, zI_add]
  have g12 := cN_le (bt g) n
  have t12 := cN_le (bt t) n
  have sl : ∀ l, sl2 g t l = true → l < n := fun l hl => by
    unfold sl2 at hl
    rcases (Bool.or_eq_true _ _).mp hl with e | e
    · exact hg l e
    · exact ht l e
  refine ⟨⟨fun d a1 a2 a3 a4 a5 a6 a7 a8 a9 => by rw [rd d a2 a3 a4 a5 a6 a1]; exact h1.1 d a1 a2 a3 a4 a5 a6 a7 a8 a9, fun j a b => by rw [r1 j b]; exact h1.2 j a b⟩, fun j hj => by rw [rd 42 (by decide) (by decide) (by decide) (by decide) (by decide) (by decide)]; exact h2' j hj, by rw [r1 3 (by decide)]; exact h3, ⟨ch + cN (bt g) n + cN (bt t) n, r14, by omega, ?_⟩, fun l hl => ?_, fun l hl => ?_, fun l => ?_⟩
  · by_cases z : cN (bt g) n + cN (bt t) n = 0
    · have no : ∀ l, ¬ sl2 g t l = true := fun l hl => by
        have ln := sl l hl
        have z1 := cN_0 n (show cN (bt g) n = 0 by omega) l ln
        have z2 := cN_0 n (show cN (bt t) n = 0 by omega) l ln
        unfold sl2 at hl
        rw [z1, z2] at hl
        cases hl
      rcases c3 with ⟨c3, c4⟩ | c3
      · left
        refine ⟨by omega, ?_⟩
        rw [← c4]
        funext l
        rw [h2_4 hd, if_neg (no l)]
      · right; omega
    · right
      rcases c3 with ⟨c3, -⟩ | c3 <;> omega
  · rw [h2_4 hd]
    by_cases e : sl2 g t l = true
    · rw [if_pos e]
      right
      unfold wh2
      by_cases e2 : bt g l = true
      · rw [if_pos e2]; exact ⟨to, hto, rfl⟩
      · rw [if_neg e2]; exact ⟨fr, hfr, rfl⟩
    · rw [if_neg e]; exact h5 l hl
  · rw [h2_6 hd, if_neg (fun e => by have := sl l e; omega)]
    exact h6 l hl
  · obtain ⟨v, e1, e2⟩ := h7 l
    rw [h2_6 hd, rd 42 (by decide) (by decide) (by decide) (by decide) (by decide) (by decide)]
    by_cases e : sl2 g t l = true
    · rw [if_pos e, e1]
      exact ⟨v + 1, zI_add v 1, by omega⟩
    · rw [if_neg e]
      exact ⟨v, e1, by omega⟩
theorem nBd_m {r : Nat → Int32} {S : Nat → Bool} (h : ∀ k, S k = true → ¬ r k = 5) : ∀ p, nBound p r + cN S p ≤ p := by
  intro p
  induction p with
  | zero => exact Nat.le_refl _
  | succ p ih =>
    rw [nBd_s]
    by_cases g : S p = true
    · rw [if_neg (h p g), cN_p g]; omega
    · rw [cN_q g]
      split <;> omega
theorem nBd_set {r : Nat → Int32} {P : Nat → Prop} {np : Nat} (h : ∀ k, P k → ¬ r k = 5) : ∀ j, j ≤ np → nBound j (setR np P 5 r) = nBound j r + cN (fun k => pB (P k)) j := by
  intro j
  induction j with
  | zero => intro _; rfl
  | succ j ih =>
    intro hj
    rw [nBd_s, nBd_s, ih (by omega)]
    by_cases g : P j
    · rw [setR_y (by omega) g, if_pos rfl, if_neg (h j g), cN_p (pB_t.mpr g)]; omega
    · rw [setR_n (fun e => g e.2), cN_q (fun e => g (pB_t.mp e))]
      split <;> omega
section H3
variable {X : (Nat → Int32) × Nat} {mo : Bool} {G : Nat × Nat} {I A K : Nat → Nat → Int32}
/-- one paper, by the reference -/
theorem r_178 {n m np k to fr : Nat} (hp : ppS n m np I) (hk : k < np) (hto : I 33 k = zI to) (hfr : I 32 k = zI fr) (hd : I 37 k &&& I 38 k = 0) (hg : ∀ l, bt (I 37 k) l = true → l < n) (ht : ∀ l, bt (I 38 k) l = true → l < n) (hw : ∀ l, l < n → ∃ w, K 6 l = zI w ∧ w < 80) {T : Nat → Nat → Int32} {J : Nat → Nat → Int64} {Q : Option Value → sm_M → Prop} (hT : cplR I A K T)
    (hQ : ∀ T', cplR I A (h2 K (I 37 k) (I 38 k) n to fr k) T' → T' 122 = T 122 → sm_wp X 264 142 [some (.ref 81), none, none, none, some (.int (zI (k + 1))), none] [] (sM mo G T' J) Q) : sm_wp X 264 178 [some (.ref 81), none, none, none, some (.int (zI k)), some (.int (zI 0))] [] (sM mo G T J) Q := by
  have np60 := hp.2.2.1.2.2
  have n12 := hp.1.2.2
  have v60 : vp_in (zI k) 60 := Eq.mpr (zI_vp (a := k) (n := 60) (by omega)) (by omega)
  have loop : ∀ d l U, l + d = n → cplR I A (hv K (blw (sl2 (I 37 k) (I 38 k)) l) (wh2 (I 37 k) to fr) (zI k) 0) U → U 122 = T 122 → sm_wp X 264 178 [some (.ref 81), none, none, none, some (.int (zI k)), some (.int (zI l))] [] (sM mo G U J) Q := by
    intro d
    induction d with
    | zero =>
      intro l U hl hU h122
      have : l = n := by omega
      subst this
      have en : U 81 3 = zI l := by rw [hU.2.2.1 3 (by decide) (by decide) (by decide)]; exact hp.1.2.1
      rw [lp_264_178, if_pos (by rw [en, zI_le (by omega) (by omega)]; exact Nat.le_refl _), show zI k + 1 = zI (k + 1) from zIr_add 1 k]
      rw [blw_f (fun l' hl' => by
        unfold sl2 at hl'
        rcases (Bool.or_eq_true _ _).mp hl' with e | e
        · exact hg l' e
        · exact ht l' e)] at hU
      obtain ⟨x1, x2⟩ := h2_e (K := K) (n := l) (to := to) (fr := fr) (k := k) (c := 0) hd
      exact hQ U (cpl_K hU x1 (x2 4 (by decide)) (x2 6 (by decide)) (x2 7 (by decide)) (x2 8 (by decide)) (x2 9 (by decide)) (x2 42 (by decide)) (x2 44 (by decide))) h122
    | succ d ih =>
      intro l U hl hU h122
      have en : U 81 3 = zI n := by rw [hU.2.2.1 3 (by decide) (by decide) (by decide)]; exact hp.1.2.1
      have rf : ∀ d, d = 108 ∨ d = 109 ∨ d = 111 ∨ d = 112 → U d = I d := fun d h => hU.2.1 d (by omega) (by omega) (by omega) (by omega) (by omega) (by omega) (by omega) (by omega) (by omega)
      have q := hp.2.2.2.2.2.1
      have e108 : U 108 k = zI fr := by rw [rf 108 (by decide), q.2.1]; exact hfr
      have e109 : U 109 k = zI to := by rw [rf 109 (by decide), q.1]; exact hto
      have e111 : U 111 k = I 37 k := by rw [rf 111 (by decide), q.2.2.1]
      have e112 : U 112 k = I 38 k := by rw [rf 112 (by decide), q.2.2.2.1]
      have e16 : U 81 16 = K 1 3 := by rw [hU.2.2.2.1, hv_1, if_neg (by decide)]
      obtain ⟨w, e6, w80⟩ := hw l (by omega)
      have e87 : U 87 l = zI w := by rw [hU.2.2.2.2.2.1, hv_6, blw_s, if_neg (by decide)]; exact e6
      rw [lp_264_178, if_neg (by rw [en, zI_le (by omega) (by omega)]; omega), zI_cn (by omega), zI_cn (by omega), e111, e112, e108, e109, e16, e87, show zI l + 1 = zI (l + 1) from zIr_add 1 l, show (300 : Int32) * zI l = zI (300 * l) from zIl_mul 300 l, show (3 : Int32) * zI w = zI (3 * w) from zIl_mul 3 w, zI_add, show zI (300 * l + 3 * w) + 1 = zI (300 * l + 3 * w + 1) from zIr_add 1 _, show zI (300 * l + 3 * w) + 2 = zI (300 * l + 3 * w + 2) from zIr_add 2 _, show zI w + 1 = zI (w + 1) from zIr_add 1 w]
      refine ⟨v60, ?_⟩
      have vl : vp_in (zI l) 12 := v12 l (by omega)
      have v0 : vp_in (zI (300 * l + 3 * w)) 3600 := Eq.mpr (zI_vp (a := 300 * l + 3 * w) (n := 3600) (by omega)) (by omega)
      have v1 : vp_in (zI (300 * l + 3 * w + 1)) 3600 := Eq.mpr (zI_vp (a := 300 * l + 3 * w + 1) (n := 3600) (by omega)) (by omega)
      have v2 : vp_in (zI (300 * l + 3 * w + 2)) 3600 := Eq.mpr (zI_vp (a := 300 * l + 3 * w + 2) (n := 3600) (by omega)) (by omega)
      have c0 : (zI (300 * l + 3 * w)).toNatClampNeg = 300 * l + 3 * w := zI_cn (by omega)
      have c1 : (zI (300 * l + 3 * w + 1)).toNatClampNeg = 300 * l + 3 * w + 1 := zI_cn (by omega)
      have c2 : (zI (300 * l + 3 * w + 2)).toNatClampNeg = 300 * l + 3 * w + 2 := zI_cn (by omega)
      by_cases g1 : bt (I 37 k) l = true
      · have g2 : ¬ bt (I 38 k) l = true := fun e => bt_dis hd l ⟨g1, e⟩
        rw [if_neg (fun e => e (by rw [sb_1 _ _ (by omega)]; exact g1)), if_pos (by rw [sb_1 _ _ (by omega)]; exact g2), c0, c1, c2]
        refine ⟨vl, v0, v1, v2, ih (l + 1) _ (by omega) ?_ (by simp (decide := true) only [up2_rn, ne_eq, not_false_eq_true]; exact h122)⟩
        have ch := cpl_h hU (show l < 12 by omega) (blw_s _ l) e6 w80
        have wl : wh2 (I 37 k) to fr l = zI to := by unfold wh2; rw [if_pos g1]
        rw [wl] at ch
        rw [blw_y (by unfold sl2; rw [g1]; rfl)]
        exact ch
      · rw [if_pos (by rw [sb_1 _ _ (by omega)]; exact g1)]
        by_cases g2 : bt (I 38 k) l = true
        · rw [if_neg (fun e => e (by rw [sb_1 _ _ (by omega)]; exact g2)), c0, c1, c2]
          refine ⟨vl, v0, v1, v2, ih (l + 1) _ (by omega) ?_ (by simp (decide := true) only [up2_rn, ne_eq, not_false_eq_true]; exact h122)⟩
          have ch := cpl_h hU (show l < 12 by omega) (blw_s _ l) e6 w80
          have wl : wh2 (I 37 k) to fr l = zI fr := by unfold wh2; rw [if_neg g1]
          rw [wl] at ch
          rw [blw_y (by unfold sl2; rw [g2, Bool.or_true])]
          exact ch
        · rw [if_pos (by rw [sb_1 _ _ (by omega)]; exact g2)]
          refine ih (l + 1) U (by omega) ?_ h122
          rw [blw_n (by
            unfold sl2
            cases a : bt (I 37 k) l with
            | true => exact absurd a g1
            | false =>
              cases b : bt (I 38 k) l with
              | true => exact absurd b g2
              | false => rfl)]
          exact hU
  refine loop n 0 T (by omega) ?_ rfl
  rw [hv_0 (blw_0 _)]
  exact hT
end H3
