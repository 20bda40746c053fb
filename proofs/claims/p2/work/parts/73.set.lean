/-! Settlements: what they are; the class's small steps. -/
theorem gsm_s (n : Nat) (r5 W : Nat → Int32) (pr : Int32) (ch : Nat → Int32) (K s : Nat) : gsm n r5 W pr ch (K + 1) s = if ch K = zI s then gsm n r5 W pr ch K s + ww W s (dl n r5 pr K) else gsm n r5 W pr ch K s := rfl
theorem gsm_c {n : Nat} {r5 W : Nat → Int32} {pr : Int32} {ch ch' : Nat → Int32} {K s : Nat} (h : ∀ k, k < K → ch k = ch' k) : gsm n r5 W pr ch K s = gsm n r5 W pr ch' K s := by
  unfold gsm
  apply up_congr
  intro k hk x
  rw [h k hk]
theorem gsm_u {n : Nat} {r5 W : Nat → Int32} {pr : Int32} {ch : Nat → Int32} {k : Nat} (x : Int32) (s : Nat) : ∀ K, k < K → gsm n r5 W pr (va_up ch k x) K s + (if ch k = zI s then ww W s (dl n r5 pr k) else 0) = gsm n r5 W pr ch K s + (if x = zI s then ww W s (dl n r5 pr k) else 0) := by
  intro K
  induction K with
  | zero => intro h; exact absurd h (Nat.not_lt_zero _)
  | succ K ih =>
    intro h
    rw [gsm_s, gsm_s, va_ap]
    by_cases g : K = k
    · subst g
      rw [if_pos rfl, gsm_c (ch := va_up ch K x) (ch' := ch) (fun j hj => by rw [va_ap, if_neg (by omega)])]
      by_cases g1 : x = zI s
      · rw [if_pos g1, if_pos g1]
        by_cases g2 : ch K = zI s
        · rw [if_pos g2, if_pos g2]
        · rw [if_neg g2, if_neg g2]; omega
      · rw [if_neg g1, if_neg g1]
        by_cases g2 : ch K = zI s
        · rw [if_pos g2, if_pos g2]; omega
        · rw [if_neg g2, if_neg g2]
    · rw [if_neg g]
      have q := ih (by omega)
      by_cases g2 : ch K = zI s
      · rw [if_pos g2, if_pos g2]; omega
      · rw [if_neg g2, if_neg g2]; omega
theorem gsm_b {n : Nat} {r5 W : Nat → Int32} {pr : Int32} {ch : Nat → Int32} (hW : okW W) (s : Nat) : ∀ K, gsm n r5 W pr ch K s ≤ 99 * K := by
  intro K
  induction K with
  | zero => exact Nat.le_refl _
  | succ K ih =>
    have := ww_le hW s (dl n r5 pr K)
    rw [gsm_s]
    split <;> omega
theorem bt_fxd (r5 : Nat → Int32) (pr : Int32) : ∀ n, n ≤ 12 → ∀ l, bt (fxd r5 pr n) l = (decide (l < n) && !stD r5 pr l) := by
  intro n
  induction n with
  | zero =>
    intro _ l
    rw [decide_eq_false (by omega)]
    exact bt_0 l
  | succ n ih =>
    intro hn l
    have e : fxd r5 pr (n + 1) = if stD r5 pr n = true then fxd r5 pr n else fxd r5 pr n ||| b1 n := rfl
    rw [e]
    by_cases l32 : l < 32
    · by_cases g : stD r5 pr n = true
      · rw [if_pos g, ih (by omega)]
        by_cases g2 : l = n
        · subst g2; rw [g]; simp
        · have : (l < n + 1) = (l < n) := propext (by omega)
          rw [show decide (l < n + 1) = decide (l < n) from by simp [this]]
      · rw [if_neg g, bt_or, ih (by omega), bt_b1 n l (by omega) l32]
        by_cases g2 : l = n
        · subst g2; simp [g]
        · rw [decide_eq_false g2, Bool.or_false]
          have : (l < n + 1) = (l < n) := propext (by omega)
          rw [show decide (l < n + 1) = decide (l < n) from by simp [this]]
    · rw [decide_eq_false (by omega), Bool.false_and]
      exact bt_big _ _ (by omega)
theorem sur_b {n : Nat} {r4 r5 W : Nat → Int32} {pr : Int32} (hW : okW W) (h12 : n ≤ 12) (s : Nat) : sur n r4 r5 W pr s + 99 * dK n r5 pr ≤ 99 * n := by
  have e : ∀ k, k ≤ n → wA W s (hlds r4 (zI s) n &&& fxd r5 pr n) k + 99 * cN (stD r5 pr) k ≤ 99 * k := by
    intro k
    induction k with
    | zero => intro _; exact Nat.le_refl _
    | succ k ih =>
      intro hk
      have i := ih (by omega)
      have w := ww_le hW s k
      rw [wA_s, cN_s, bt_and, bt_fxd r5 pr n h12]
      cases g : stD r5 pr k with
      | true =>
        rw [Bool.not_true, Bool.and_false, Bool.and_false, if_neg (by decide), if_pos rfl]
        omega
      | false =>
        rw [if_neg (c := false = true) (by decide)]
        split <;> omega
  exact e n (Nat.le_refl _)
theorem gtC_b {n : Nat} {r4 r5 W : Nat → Int32} {pr : Int32} {ch : Nat → Int32} (hW : okW W) (h12 : n ≤ 12) (s : Nat) : gtC n r4 r5 W pr ch s ≤ 1188 := by
  have a := sur_b (r4 := r4) (r5 := r5) (pr := pr) hW h12 s
  have b := gsm_b (n := n) (r5 := r5) (pr := pr) (ch := ch) hW s (min 8 (dK n r5 pr))
  unfold gtC
  have : min 8 (dK n r5 pr) ≤ dK n r5 pr := Nat.min_le_right _ _
  omega
def kpS (pr : Int32) (bd g : Nat → Nat) (kp : Int32) : Prop := ∀ s, bt kp s = (decide (s < 6) && (bt pr s && decide (bd s ≤ g s)))
def SI (n m : Nat) (r4 r5 r12 W : Nat → Int32) (pr : Int32) (ch r52 r53 r54 r56 r57 r58 : Nat → Int32) : Prop :=
  r52 2 = pr ∧ r52 5 = zI (dK n r5 pr) ∧ (∀ j, j < 8 → j < dK n r5 pr → r53 j = zI (dl n r5 pr j) ∧ r54 j = clB n r5 pr j) ∧
  (∀ s, s < 6 → r56 s = zI (gtC n r4 r5 W pr ch s) ∧ r57 s = zI (nowN r4 W n s) ∧ r58 s = zI (bdN m r12 s)) ∧ kpS pr (bdN m r12) (gtC n r4 r5 W pr ch) (r52 12)
theorem si_up {n m : Nat} {r4 r5 r12 W : Nat → Int32} {pr : Int32} {ch ch' r52 r53 r54 r56 r57 r58 : Nat → Int32} (h : SI n m r4 r5 r12 W pr ch r52 r53 r54 r56 r57 r58) {o : Nat} (ho : o < 6) (hs : ∀ s, s < 6 → s ≠ o → gtC n r4 r5 W pr ch' s = gtC n r4 r5 W pr ch s) {kp' : Int32}
    (hk : ∀ j, bt kp' j = if j = o then (bt pr o && decide (bdN m r12 o ≤ gtC n r4 r5 W pr ch' o)) else bt (r52 12) j) : SI n m r4 r5 r12 W pr ch' (va_up r52 12 kp') r53 r54 (va_up r56 o (zI (gtC n r4 r5 W pr ch' o))) r57 r58 := by
  obtain ⟨h1, h2, h3, h4, h5⟩ := h
  refine ⟨h1, h2, h3, fun s hs6 => ⟨?_, (h4 s hs6).2⟩, fun s => ?_⟩
  · rw [va_ap]
    by_cases g : s = o
    · rw [if_pos g, g]
    · rw [if_neg g, hs s hs6 g]
      exact (h4 s hs6).1
  · rw [va_ap, if_pos rfl, hk]
    by_cases g : s = o
    · subst g
      rw [if_pos rfl, decide_eq_true ho, Bool.true_and]
    · rw [if_neg g, h5 s]
      by_cases g6 : s < 6
      · rw [hs s g6 g]
      · rw [decide_eq_false g6, Bool.false_and, Bool.false_and]
theorem si_ch {n m : Nat} {r4 r5 r12 W : Nat → Int32} {pr : Int32} {ch ch' r52 r53 r54 r56 r57 r58 : Nat → Int32} (h : SI n m r4 r5 r12 W pr ch r52 r53 r54 r56 r57 r58) (e : ∀ s, gtC n r4 r5 W pr ch' s = gtC n r4 r5 W pr ch s) : SI n m r4 r5 r12 W pr ch' r52 r53 r54 r56 r57 r58 := by
  have e2 : gtC n r4 r5 W pr ch' = gtC n r4 r5 W pr ch := funext e
  unfold SI
  rw [e2]
  exact h
theorem bdN_b {m : Nat} {r12 : Nat → Int32} (h : ∀ j, ∃ w, w ≤ 999 ∧ r12 j = zI w) (s : Nat) : bdN m r12 s ≤ 999 := by
  obtain ⟨w, hw, e⟩ := h s
  unfold bdN
  rw [e, zI_cn (by omega)]
  split <;> omega
def FrS (lo hi : Nat) (I K : Nat → Nat → Int32) : Prop := (∀ c, c < lo ∨ hi < c → K c = I c) ∧ ∀ j, j ≠ 2 → j ≠ 5 → j ≠ 12 → K lo j = I lo j
theorem FrS_r {lo hi : Nat} {I : Nat → Nat → Int32} : FrS lo hi I I := ⟨fun _ _ => rfl, fun _ _ _ _ => rfl⟩
theorem FrS_t {lo hi : Nat} {I K L : Nat → Nat → Int32} (h : FrS lo hi I K) (k : FrS lo hi K L) : FrS lo hi I L := ⟨fun c hc => (k.1 c hc).trans (h.1 c hc), fun j a b c => (k.2 j a b c).trans (h.2 j a b c)⟩
def nxC (c : Int32) (i : Nat) : Int32 := if i < cN (bt c) 6 then zI (nt (bt c) 6 i) else -1
section T1
variable {X : (Nat → Int32) × Nat} {mo : Bool} {G : Nat × Nat} {I : Nat → Nat → Int32} {J : Nat → Nat → Int64} {Q : Option Value → sm_M → Prop}
theorem cs_132l {k : Nat} (hk : k < 8) {c : Int32} (hc : I 54 k = c) : ∀ d s, s + d = 6 → sm_wp X 132 16 [some (.ref 52), some (.int (zI k)), none, some (.int (zI s))] [] (sM mo G I J) Q = Q (some (.int (nxC c (cN (bt c) s)))) (sM mo G I J) := by
  intro d
  induction d with
  | zero =>
    intro s hs
    have : s = 6 := by omega
    subst this
    rw [lp_132_16, if_pos (by decide)]
    unfold nxC
    rw [if_neg (Nat.lt_irrefl _)]
  | succ d ih =>
    intro s hs
    rw [lp_132_16, if_neg (by rw [zIl_le (c := 6) (by decide) (by omega)]; show ¬ 6 ≤ s; omega), zI_vp (by omega), eq_true hk, true_and, zI_cn (by omega), hc, show zI s + 1 = zI (s + 1) from zIr_add 1 s]
    cases g : bt c s with
    | false =>
      rw [if_pos (by rw [sb_0 c s (by omega)]; exact g), ih (s + 1) (by omega), cN_q (by rw [g]; decide)]
    | true =>
      rw [if_neg (by rw [sb_0 c s (by omega), g]; decide)]
      unfold nxC
      rw [if_pos (cN_lt (by omega) g), nt_c (by omega) g]
theorem cs_132 {k s : Nat} {x : Int32} (hk : k < 8) {c : Int32} (hc : I 54 k = c) (hs : s ≤ 6) (hx : x + 1 = zI s) : sm_wp X 132 0 [some (.ref 52), some (.int (zI k)), some (.int x), none] [] (sM mo G I J) Q = Q (some (.int (nxC c (cN (bt c) s)))) (sM mo G I J) := by
  rw [lp_132_0, if_neg (by rw [zIr_lt (c := 0) (by decide) (by omega)]; exact Nat.not_lt_zero _), if_pos (by rw [zIr_lt (c := 8) (by decide) (by omega)]; exact hk), hx]
  exact cs_132l hk hc (6 - s) s (by omega)
theorem cs_130 {s g bd : Nat} {x : Int32} (hs : s < 6) (e : I 56 s + x = zI g) (hg : g < 1000000) (hb : I 58 s = zI bd) (hbd : bd < 1000000) (hQ : ∀ kp', (∀ j, bt kp' j = if j = s then (bt (I 52 2) s && decide (bd ≤ g)) else bt (I 52 12) j) → (∀ j, 6 ≤ j → bt (I 52 12) j = false) → Q none (sM mo G (up2 (up2 I 56 s (zI g)) 52 12 kp') J)) (h6 : ∀ j, 6 ≤ j → bt (I 52 12) j = false) (hold : bt (I 52 12) s = true → bt (I 52 2) s = true) :
    sm_wp X 130 0 [some (.ref 52), some (.int (zI s)), some (.int x)] [] (sM mo G I J) Q := by
  rw [lp_130_0, if_neg (by rw [zIr_lt (c := 0) (by decide) (by omega)]; exact Nat.not_lt_zero _), if_pos (by rw [zIr_lt (c := 6) (by decide) (by omega)]; exact hs), zI_vp (by omega), zI_cn (by omega), e, up2_ss, hb]
  refine ⟨hs, ?_⟩
  have b1e : (1 : Int32) <<< (zI s &&& 31) = b1 s := rfl
  rw [b1e]
  by_cases g1 : g < bd
  · rw [if_pos (by rw [zI_lt (by omega) (by omega)]; exact g1)]
    refine hQ _ (fun j => ?_) h6
    by_cases j32 : j < 32
    · rw [bt_and, bt_xor, bt_m1 j32, Bool.xor_true, bt_b1 s j (by omega) j32]
      by_cases g2 : j = s
      · rw [if_pos g2, decide_eq_true g2, decide_eq_false (by omega), Bool.and_false, Bool.not_true, Bool.and_false]
      · rw [if_neg g2, decide_eq_false g2, Bool.not_false, Bool.and_true]
    · rw [bt_big _ _ (by omega), if_neg (by omega), bt_big _ _ (by omega)]
  · rw [if_neg (by rw [zI_lt (by omega) (by omega)]; exact g1)]
    refine hQ _ (fun j => ?_) h6
    by_cases j32 : j < 32
    · rw [bt_or, bt_and, bt_b1 s j (by omega) j32]
      by_cases g2 : j = s
      · rw [if_pos g2, g2, decide_eq_true rfl, decide_eq_true (by omega), Bool.and_true]
        cases k1 : bt (I 52 12) s with
        | false => exact Bool.false_or _
        | true => rw [hold k1]; rfl
      · rw [if_neg g2, decide_eq_false g2, Bool.and_false, Bool.or_false]
    · rw [bt_big _ _ (by omega), if_neg (by omega), bt_big _ _ (by omega)]
theorem cs_130n {x : Int32} : sm_wp X 130 0 [some (.ref 52), some (.int (-1)), some (.int x)] [] (sM mo G I J) Q = Q none (sM mo G I J) := by
  rw [lp_130_0, if_pos (by decide)]
theorem cs_130S {n m : Nat} {pr : Int32} {ch ch' : Nat → Int32} {o : Nat} {x : Int32} (ho : o < 6) (h12 : n ≤ 12) (hW : okW (I 13)) (hB : ∀ j, ∃ w, w ≤ 999 ∧ I 12 j = zI w) (h : SI n m (I 4) (I 5) (I 12) (I 13) pr ch (I 52) (I 53) (I 54) (I 56) (I 57) (I 58))
    (hs : ∀ s, s < 6 → s ≠ o → gtC n (I 4) (I 5) (I 13) pr ch' s = gtC n (I 4) (I 5) (I 13) pr ch s) (hx : zI (gtC n (I 4) (I 5) (I 13) pr ch o) + x = zI (gtC n (I 4) (I 5) (I 13) pr ch' o))
    (hQ : ∀ K, FrS 52 58 I K → K 53 = I 53 → K 54 = I 54 → K 55 = I 55 → SI n m (I 4) (I 5) (I 12) (I 13) pr ch' (K 52) (K 53) (K 54) (K 56) (K 57) (K 58) → Q none (sM mo G K J)) :
    sm_wp X 130 0 [some (.ref 52), some (.int (zI o)), some (.int x)] [] (sM mo G I J) Q := by
  have b1' := gtC_b (r4 := I 4) (r5 := I 5) (pr := pr) (ch := ch') hW h12 o
  have b2' := bdN_b (m := m) hB o
  have h4 := h.2.2.2.1 o ho
  have h5 := h.2.2.2.2
  refine cs_130 (bd := bdN m (I 12) o) ho (by rw [h4.1]; exact hx) (by omega) h4.2.2 (by omega) ?_ (fun j hj => by rw [h5 j, decide_eq_false (by omega), Bool.false_and]) (fun e => by
    rw [h5 o] at e
    simp only [Bool.and_eq_true] at e
    rw [h.1]
    exact e.2.1)
  intro kp' hk _
  rw [h.1] at hk
  have q := si_up h ho hs hk
  have n52 : up2 (up2 I 56 o (zI (gtC n (I 4) (I 5) (I 13) pr ch' o))) 52 12 kp' 52 = va_up (I 52) 12 kp' := by simp (decide := true) only [up2_ra, up2_rn, va_ap, ne_eq, if_false, if_true, not_false_eq_true]
  have n56 : up2 (up2 I 56 o (zI (gtC n (I 4) (I 5) (I 13) pr ch' o))) 52 12 kp' 56 = va_up (I 56) o (zI (gtC n (I 4) (I 5) (I 13) pr ch' o)) := by simp (decide := true) only [up2_ra, up2_rn, va_ap, ne_eq, if_false, if_true, not_false_eq_true]
  refine hQ _ ⟨fun c hc => ?_, fun j a b c => ?_⟩ (by simp (decide := true) only [up2_ra, up2_rn, va_ap, ne_eq, if_false, if_true, not_false_eq_true]) (by simp (decide := true) only [up2_ra, up2_rn, va_ap, ne_eq, if_false, if_true, not_false_eq_true]) (by simp (decide := true) only [up2_ra, up2_rn, va_ap, ne_eq, if_false, if_true, not_false_eq_true]) ?_
  · rw [up2_rn _ _ _ _ _ (by omega), up2_rn _ _ _ _ _ (by omega)]
  · rw [n52, va_ap, if_neg c]
  · rw [n52, n56]
    simp (decide := true) only [up2_ra, up2_rn, va_ap, ne_eq, if_false, if_true, not_false_eq_true]
    exact q
theorem cs_133 {n m k t : Nat} {pr : Int32} {ch : Nat → Int32} (hk : k < 8) (hkD : k < dK n (I 5) pr) (ht : t < 6) (h12 : n ≤ 12) (hW : okW (I 13)) (hB : ∀ j, ∃ w, w ≤ 999 ∧ I 12 j = zI w) (h : SI n m (I 4) (I 5) (I 12) (I 13) pr ch (I 52) (I 53) (I 54) (I 56) (I 57) (I 58)) (hc : ∀ j, j < 8 → j < dK n (I 5) pr → I 55 j = ch j) (ho : ch k = -1 ∨ ∃ o, o < 6 ∧ ch k = zI o)
    (hQ : ∀ K, FrS 52 58 I K → (∀ j, j < 8 → j < dK n (I 5) pr → K 55 j = va_up ch k (zI t) j) → SI n m (I 4) (I 5) (I 12) (I 13) pr (va_up ch k (zI t)) (K 52) (K 53) (K 54) (K 56) (K 57) (K 58) → Q none (sM mo G K J)) :
    sm_wp X 133 0 [some (.ref 52), some (.int (zI k)), some (.int (zI t))] [] (sM mo G I J) Q := by
  have dl12 : dl n (I 5) pr k < 12 := by
    have := (nt_p (P := stD (I 5) pr) (n := n) hkD).2.1
    show nt _ _ _ < 12
    omega
  have kK : k < min 8 (dK n (I 5) pr) := Nat.lt_min.mpr ⟨hk, hkD⟩
  have e53 : I 53 k = zI (dl n (I 5) pr k) := (h.2.2.1 k hk hkD).1
  -- the second half
  have half : ∀ K, FrS 52 58 I K → K 53 = I 53 → K 54 = I 54 → K 55 = I 55 → SI n m (I 4) (I 5) (I 12) (I 13) pr (va_up ch k (-1)) (K 52) (K 53) (K 54) (K 56) (K 57) (K 58) → sm_wp X 133 41 [some (.ref 52), some (.int (zI k)), some (.int (zI t))] [] (sM mo G K J) Q := by
    intro K fK k53 k54 k55 hK
    have k4 : K 4 = I 4 := fK.1 4 (by decide)
    have k5 : K 5 = I 5 := fK.1 5 (by decide)
    have k12 : K 12 = I 12 := fK.1 12 (by decide)
    have k13 : K 13 = I 13 := fK.1 13 (by decide)
    rw [lp_133_41, zI_vp (by omega), zI_cn (by omega), k13, k53, e53, wof_w hW ht dl12]
    refine ⟨hk, ?_⟩
    have nz : ∀ s, ¬ (-1 : Int32) = zI s ∨ 6 ≤ s := by
      intro s
      by_cases g : s < 6
      · left; rw [zI_m1' (by omega)]; exact id
      · right; omega
    have g1 : ∀ s, s < 6 → gsm n (I 5) (I 13) pr (va_up ch k (zI t)) (min 8 (dK n (I 5) pr)) s = gsm n (I 5) (I 13) pr (va_up ch k (-1)) (min 8 (dK n (I 5) pr)) s + (if t = s then ww (I 13) s (dl n (I 5) pr k) else 0) := by
      intro s hs
      have q1 := gsm_u (n := n) (r5 := I 5) (W := I 13) (pr := pr) (ch := ch) (zI t) s _ kK
      have q2 := gsm_u (n := n) (r5 := I 5) (W := I 13) (pr := pr) (ch := ch) (-1) s _ kK
      rw [if_neg (c := (-1 : Int32) = zI s) (by rw [zI_m1' (by omega)]; exact id)] at q2
      have e : (if zI t = zI s then ww (I 13) s (dl n (I 5) pr k) else 0) = (if t = s then ww (I 13) s (dl n (I 5) pr k) else 0) := by
        by_cases g : t = s
        · rw [if_pos (by rw [g]), if_pos g]
        · rw [if_neg (by rw [zI_eq (by omega) (by omega)]; exact g), if_neg g]
      rw [e] at q1
      omega
    refine cs_130S (I := K) (ch := va_up ch k (-1)) (ch' := va_up ch k (zI t)) (n := n) (m := m) (pr := pr) ht h12 (by rw [k13]; exact hW) (by rw [k12]; exact hB) (by rw [k4, k5, k12, k13]; exact hK) ?_ ?_ ?_
    · intro s hs hne
      rw [k4, k5, k13]
      unfold gtC
      rw [g1 s hs, if_neg (by omega), Nat.add_zero]
    · rw [k4, k5, k13, zI_add]
      unfold gtC
      rw [g1 t ht, if_pos rfl, Nat.add_assoc]
    · intro L fL l53 l54 l55 hL
      rw [k4, k5, k12, k13] at hL
      simp only [tl_none]
      rw [lp_133_60, zI_vp (by omega), zI_cn (by omega)]
      refine ⟨hk, hQ _ ⟨fun c hc => ?_, fun j a b c => ?_⟩ (fun j hj hjD => ?_) ?_⟩
      · rw [up2_rn _ _ _ _ _ (by omega), fL.1 c hc, fK.1 c hc]
      · rw [up2_rn _ _ _ _ _ (by decide), fL.2 j a b c, fK.2 j a b c]
      · rw [up2_ra, l55, k55, va_ap, va_ap, hc j hj hjD]
      · simp (decide := true) only [up2_ra, up2_rn, va_ap, ne_eq, if_false, if_true, not_false_eq_true]
        exact hL
  rw [lp_133_0, if_neg (by rw [zIr_lt (c := 0) (by decide) (by omega)]; exact Nat.not_lt_zero _), if_pos (by rw [zIr_lt (c := 8) (by decide) (by omega)]; exact hk), zI_vp (by omega), zI_cn (by omega), hc k hk hkD, e53]
  refine ⟨hk, ?_⟩
  rcases ho with ho | ⟨o, ho6, ho⟩
  · rw [ho, cs_130n]
    simp only [tl_none]
    refine half I FrS_r rfl rfl rfl (si_ch h (fun s => ?_))
    unfold gtC
    rw [gsm_c (ch := va_up ch k (-1)) (ch' := ch) (fun j _ => by
      rw [va_ap]
      by_cases g : j = k
      · rw [if_pos g, g, ho]
      · rw [if_neg g])]
  · rw [ho, wof_w hW ho6 dl12]
    have g1 : ∀ s, s < 6 → gsm n (I 5) (I 13) pr (va_up ch k (-1)) (min 8 (dK n (I 5) pr)) s + (if o = s then ww (I 13) s (dl n (I 5) pr k) else 0) = gsm n (I 5) (I 13) pr ch (min 8 (dK n (I 5) pr)) s := by
      intro s hs
      have q2 := gsm_u (n := n) (r5 := I 5) (W := I 13) (pr := pr) (ch := ch) (-1) s _ kK
      rw [if_neg (c := (-1 : Int32) = zI s) (by rw [zI_m1' (by omega)]; exact id), ho] at q2
      have e : (if zI o = zI s then ww (I 13) s (dl n (I 5) pr k) else 0) = (if o = s then ww (I 13) s (dl n (I 5) pr k) else 0) := by
        by_cases g : o = s
        · rw [if_pos (by rw [g]), if_pos g]
        · rw [if_neg (by rw [zI_eq (by omega) (by omega)]; exact g), if_neg g]
      rw [e] at q2
      omega
    refine cs_130S (ch := ch) (ch' := va_up ch k (-1)) (n := n) (m := m) (pr := pr) ho6 h12 hW hB h ?_ ?_ ?_
    · intro s hs hne
      unfold gtC
      have := g1 s hs
      rw [if_neg (by omega)] at this
      omega
    · unfold gtC
      have := g1 o ho6
      rw [if_pos rfl] at this
      rw [← this, ← Nat.add_assoc, ← zI_add, Int32.add_assoc, Int32.add_right_neg, Int32.add_zero]
    · intro K fK k53 k54 k55 hK
      simp only [tl_none]
      exact half K fK k53 k54 k55 hK
theorem cw_132l {k : Nat} (hk : k < 8) {c : Int32} (hc : I 62 k = c) : ∀ d s, s + d = 6 → sm_wp X 132 16 [some (.ref 60), some (.int (zI k)), none, some (.int (zI s))] [] (sM mo G I J) Q = Q (some (.int (nxC c (cN (bt c) s)))) (sM mo G I J) := by
  intro d
  induction d with
  | zero =>
    intro s hs
    have : s = 6 := by omega
    subst this
    rw [lpw_132_16, if_pos (by decide)]
    unfold nxC
    rw [if_neg (Nat.lt_irrefl _)]
  | succ d ih =>
    intro s hs
    rw [lpw_132_16, if_neg (by rw [zIl_le (c := 6) (by decide) (by omega)]; show ¬ 6 ≤ s; omega), zI_vp (by omega), eq_true hk, true_and, zI_cn (by omega), hc, show zI s + 1 = zI (s + 1) from zIr_add 1 s]
    cases g : bt c s with
    | false =>
      rw [if_pos (by rw [sb_0 c s (by omega)]; exact g), ih (s + 1) (by omega), cN_q (by rw [g]; decide)]
    | true =>
      rw [if_neg (by rw [sb_0 c s (by omega), g]; decide)]
      unfold nxC
      rw [if_pos (cN_lt (by omega) g), nt_c (by omega) g]
theorem cw_132 {k s : Nat} {x : Int32} (hk : k < 8) {c : Int32} (hc : I 62 k = c) (hs : s ≤ 6) (hx : x + 1 = zI s) : sm_wp X 132 0 [some (.ref 60), some (.int (zI k)), some (.int x), none] [] (sM mo G I J) Q = Q (some (.int (nxC c (cN (bt c) s)))) (sM mo G I J) := by
  rw [lpw_132_0, if_neg (by rw [zIr_lt (c := 0) (by decide) (by omega)]; exact Nat.not_lt_zero _), if_pos (by rw [zIr_lt (c := 8) (by decide) (by omega)]; exact hk), hx]
  exact cw_132l hk hc (6 - s) s (by omega)
theorem cw_130 {s g bd : Nat} {x : Int32} (hs : s < 6) (e : I 64 s + x = zI g) (hg : g < 1000000) (hb : I 66 s = zI bd) (hbd : bd < 1000000) (hQ : ∀ kp', (∀ j, bt kp' j = if j = s then (bt (I 60 2) s && decide (bd ≤ g)) else bt (I 60 12) j) → (∀ j, 6 ≤ j → bt (I 60 12) j = false) → Q none (sM mo G (up2 (up2 I 64 s (zI g)) 60 12 kp') J)) (h6 : ∀ j, 6 ≤ j → bt (I 60 12) j = false) (hold : bt (I 60 12) s = true → bt (I 60 2) s = true) :
    sm_wp X 130 0 [some (.ref 60), some (.int (zI s)), some (.int x)] [] (sM mo G I J) Q := by
  rw [lpw_130_0, if_neg (by rw [zIr_lt (c := 0) (by decide) (by omega)]; exact Nat.not_lt_zero _), if_pos (by rw [zIr_lt (c := 6) (by decide) (by omega)]; exact hs), zI_vp (by omega), zI_cn (by omega), e, up2_ss, hb]
  refine ⟨hs, ?_⟩
  have b1e : (1 : Int32) <<< (zI s &&& 31) = b1 s := rfl
  rw [b1e]
  by_cases g1 : g < bd
  · rw [if_pos (by rw [zI_lt (by omega) (by omega)]; exact g1)]
    refine hQ _ (fun j => ?_) h6
    by_cases j32 : j < 32
    · rw [bt_and, bt_xor, bt_m1 j32, Bool.xor_true, bt_b1 s j (by omega) j32]
      by_cases g2 : j = s
      · rw [if_pos g2, decide_eq_true g2, decide_eq_false (by omega), Bool.and_false, Bool.not_true, Bool.and_false]
      · rw [if_neg g2, decide_eq_false g2, Bool.not_false, Bool.and_true]
    · rw [bt_big _ _ (by omega), if_neg (by omega), bt_big _ _ (by omega)]
  · rw [if_neg (by rw [zI_lt (by omega) (by omega)]; exact g1)]
    refine hQ _ (fun j => ?_) h6
    by_cases j32 : j < 32
    · rw [bt_or, bt_and, bt_b1 s j (by omega) j32]
      by_cases g2 : j = s
      · rw [if_pos g2, g2, decide_eq_true rfl, decide_eq_true (by omega), Bool.and_true]
        cases k1 : bt (I 60 12) s with
        | false => exact Bool.false_or _
        | true => rw [hold k1]; rfl
      · rw [if_neg g2, decide_eq_false g2, Bool.and_false, Bool.or_false]
    · rw [bt_big _ _ (by omega), if_neg (by omega), bt_big _ _ (by omega)]
theorem cw_130n {x : Int32} : sm_wp X 130 0 [some (.ref 60), some (.int (-1)), some (.int x)] [] (sM mo G I J) Q = Q none (sM mo G I J) := by
  rw [lpw_130_0, if_pos (by decide)]
theorem cw_130S {n m : Nat} {pr : Int32} {ch ch' : Nat → Int32} {o : Nat} {x : Int32} (ho : o < 6) (h12 : n ≤ 12) (hW : okW (I 13)) (hB : ∀ j, ∃ w, w ≤ 999 ∧ I 12 j = zI w) (h : SI n m (I 4) (I 5) (I 12) (I 13) pr ch (I 60) (I 61) (I 62) (I 64) (I 65) (I 66))
    (hs : ∀ s, s < 6 → s ≠ o → gtC n (I 4) (I 5) (I 13) pr ch' s = gtC n (I 4) (I 5) (I 13) pr ch s) (hx : zI (gtC n (I 4) (I 5) (I 13) pr ch o) + x = zI (gtC n (I 4) (I 5) (I 13) pr ch' o))
    (hQ : ∀ K, FrS 60 66 I K → K 61 = I 61 → K 62 = I 62 → K 63 = I 63 → SI n m (I 4) (I 5) (I 12) (I 13) pr ch' (K 60) (K 61) (K 62) (K 64) (K 65) (K 66) → Q none (sM mo G K J)) :
    sm_wp X 130 0 [some (.ref 60), some (.int (zI o)), some (.int x)] [] (sM mo G I J) Q := by
  have b1' := gtC_b (r4 := I 4) (r5 := I 5) (pr := pr) (ch := ch') hW h12 o
  have b2' := bdN_b (m := m) hB o
  have h4 := h.2.2.2.1 o ho
  have h5 := h.2.2.2.2
  refine cw_130 (bd := bdN m (I 12) o) ho (by rw [h4.1]; exact hx) (by omega) h4.2.2 (by omega) ?_ (fun j hj => by rw [h5 j, decide_eq_false (by omega), Bool.false_and]) (fun e => by
    rw [h5 o] at e
    simp only [Bool.and_eq_true] at e
    rw [h.1]
    exact e.2.1)
  intro kp' hk _
  rw [h.1] at hk
  have q := si_up h ho hs hk
  have n52 : up2 (up2 I 64 o (zI (gtC n (I 4) (I 5) (I 13) pr ch' o))) 60 12 kp' 60 = va_up (I 60) 12 kp' := by simp (decide := true) only [up2_ra, up2_rn, va_ap, ne_eq, if_false, if_true, not_false_eq_true]
  have n56 : up2 (up2 I 64 o (zI (gtC n (I 4) (I 5) (I 13) pr ch' o))) 60 12 kp' 64 = va_up (I 64) o (zI (gtC n (I 4) (I 5) (I 13) pr ch' o)) := by simp (decide := true) only [up2_ra, up2_rn, va_ap, ne_eq, if_false, if_true, not_false_eq_true]
  refine hQ _ ⟨fun c hc => ?_, fun j a b c => ?_⟩ (by simp (decide := true) only [up2_ra, up2_rn, va_ap, ne_eq, if_false, if_true, not_false_eq_true]) (by simp (decide := true) only [up2_ra, up2_rn, va_ap, ne_eq, if_false, if_true, not_false_eq_true]) (by simp (decide := true) only [up2_ra, up2_rn, va_ap, ne_eq, if_false, if_true, not_false_eq_true]) ?_
  · rw [up2_rn _ _ _ _ _ (by omega), up2_rn _ _ _ _ _ (by omega)]
  · rw [n52, va_ap, if_neg c]
  · rw [n52, n56]
    simp (decide := true) only [up2_ra, up2_rn, va_ap, ne_eq, if_false, if_true, not_false_eq_true]
    exact q
theorem cw_133 {n m k t : Nat} {pr : Int32} {ch : Nat → Int32} (hk : k < 8) (hkD : k < dK n (I 5) pr) (ht : t < 6) (h12 : n ≤ 12) (hW : okW (I 13)) (hB : ∀ j, ∃ w, w ≤ 999 ∧ I 12 j = zI w) (h : SI n m (I 4) (I 5) (I 12) (I 13) pr ch (I 60) (I 61) (I 62) (I 64) (I 65) (I 66)) (hc : ∀ j, j < 8 → j < dK n (I 5) pr → I 63 j = ch j) (ho : ch k = -1 ∨ ∃ o, o < 6 ∧ ch k = zI o)
    (hQ : ∀ K, FrS 60 66 I K → (∀ j, j < 8 → j < dK n (I 5) pr → K 63 j = va_up ch k (zI t) j) → SI n m (I 4) (I 5) (I 12) (I 13) pr (va_up ch k (zI t)) (K 60) (K 61) (K 62) (K 64) (K 65) (K 66) → Q none (sM mo G K J)) :
    sm_wp X 133 0 [some (.ref 60), some (.int (zI k)), some (.int (zI t))] [] (sM mo G I J) Q := by
  have dl12 : dl n (I 5) pr k < 12 := by
    have := (nt_p (P := stD (I 5) pr) (n := n) hkD).2.1
    show nt _ _ _ < 12
    omega
  have kK : k < min 8 (dK n (I 5) pr) := Nat.lt_min.mpr ⟨hk, hkD⟩
  have e53 : I 61 k = zI (dl n (I 5) pr k) := (h.2.2.1 k hk hkD).1
  -- the second half
  have half : ∀ K, FrS 60 66 I K → K 61 = I 61 → K 62 = I 62 → K 63 = I 63 → SI n m (I 4) (I 5) (I 12) (I 13) pr (va_up ch k (-1)) (K 60) (K 61) (K 62) (K 64) (K 65) (K 66) → sm_wp X 133 41 [some (.ref 60), some (.int (zI k)), some (.int (zI t))] [] (sM mo G K J) Q := by
    intro K fK k53 k54 k55 hK
    have k4 : K 4 = I 4 := fK.1 4 (by decide)
    have k5 : K 5 = I 5 := fK.1 5 (by decide)
    have k12 : K 12 = I 12 := fK.1 12 (by decide)
    have k13 : K 13 = I 13 := fK.1 13 (by decide)
    rw [lpw_133_41, zI_vp (by omega), zI_cn (by omega), k13, k53, e53, wof_w hW ht dl12]
    refine ⟨hk, ?_⟩
    have nz : ∀ s, ¬ (-1 : Int32) = zI s ∨ 6 ≤ s := by
      intro s
      by_cases g : s < 6
      · left; rw [zI_m1' (by omega)]; exact id
      · right; omega
    have g1 : ∀ s, s < 6 → gsm n (I 5) (I 13) pr (va_up ch k (zI t)) (min 8 (dK n (I 5) pr)) s = gsm n (I 5) (I 13) pr (va_up ch k (-1)) (min 8 (dK n (I 5) pr)) s + (if t = s then ww (I 13) s (dl n (I 5) pr k) else 0) := by
      intro s hs
      have q1 := gsm_u (n := n) (r5 := I 5) (W := I 13) (pr := pr) (ch := ch) (zI t) s _ kK
      have q2 := gsm_u (n := n) (r5 := I 5) (W := I 13) (pr := pr) (ch := ch) (-1) s _ kK
      rw [if_neg (c := (-1 : Int32) = zI s) (by rw [zI_m1' (by omega)]; exact id)] at q2
      have e : (if zI t = zI s then ww (I 13) s (dl n (I 5) pr k) else 0) = (if t = s then ww (I 13) s (dl n (I 5) pr k) else 0) := by
        by_cases g : t = s
        · rw [if_pos (by rw [g]), if_pos g]
        · rw [if_neg (by rw [zI_eq (by omega) (by omega)]; exact g), if_neg g]
      rw [e] at q1
      omega
    refine cw_130S (I := K) (ch := va_up ch k (-1)) (ch' := va_up ch k (zI t)) (n := n) (m := m) (pr := pr) ht h12 (by rw [k13]; exact hW) (by rw [k12]; exact hB) (by rw [k4, k5, k12, k13]; exact hK) ?_ ?_ ?_
    · intro s hs hne
      rw [k4, k5, k13]
      unfold gtC
      rw [g1 s hs, if_neg (by omega), Nat.add_zero]
    · rw [k4, k5, k13, zI_add]
      unfold gtC
      rw [g1 t ht, if_pos rfl, Nat.add_assoc]
    · intro L fL l53 l54 l55 hL
      rw [k4, k5, k12, k13] at hL
      simp only [tl_none]
      rw [lpw_133_60, zI_vp (by omega), zI_cn (by omega)]
      refine ⟨hk, hQ _ ⟨fun c hc => ?_, fun j a b c => ?_⟩ (fun j hj hjD => ?_) ?_⟩
      · rw [up2_rn _ _ _ _ _ (by omega), fL.1 c hc, fK.1 c hc]
      · rw [up2_rn _ _ _ _ _ (by decide), fL.2 j a b c, fK.2 j a b c]
      · rw [up2_ra, l55, k55, va_ap, va_ap, hc j hj hjD]
      · simp (decide := true) only [up2_ra, up2_rn, va_ap, ne_eq, if_false, if_true, not_false_eq_true]
        exact hL
  rw [lpw_133_0, if_neg (by rw [zIr_lt (c := 0) (by decide) (by omega)]; exact Nat.not_lt_zero _), if_pos (by rw [zIr_lt (c := 8) (by decide) (by omega)]; exact hk), zI_vp (by omega), zI_cn (by omega), hc k hk hkD, e53]
  refine ⟨hk, ?_⟩
  rcases ho with ho | ⟨o, ho6, ho⟩
  · rw [ho, cw_130n]
    simp only [tl_none]
    refine half I FrS_r rfl rfl rfl (si_ch h (fun s => ?_))
    unfold gtC
    rw [gsm_c (ch := va_up ch k (-1)) (ch' := ch) (fun j _ => by
      rw [va_ap]
      by_cases g : j = k
      · rw [if_pos g, g, ho]
      · rw [if_neg g])]
  · rw [ho, wof_w hW ho6 dl12]
    have g1 : ∀ s, s < 6 → gsm n (I 5) (I 13) pr (va_up ch k (-1)) (min 8 (dK n (I 5) pr)) s + (if o = s then ww (I 13) s (dl n (I 5) pr k) else 0) = gsm n (I 5) (I 13) pr ch (min 8 (dK n (I 5) pr)) s := by
      intro s hs
      have q2 := gsm_u (n := n) (r5 := I 5) (W := I 13) (pr := pr) (ch := ch) (-1) s _ kK
      rw [if_neg (c := (-1 : Int32) = zI s) (by rw [zI_m1' (by omega)]; exact id), ho] at q2
      have e : (if zI o = zI s then ww (I 13) s (dl n (I 5) pr k) else 0) = (if o = s then ww (I 13) s (dl n (I 5) pr k) else 0) := by
        by_cases g : o = s
        · rw [if_pos (by rw [g]), if_pos g]
        · rw [if_neg (by rw [zI_eq (by omega) (by omega)]; exact g), if_neg g]
      rw [e] at q2
      omega
    refine cw_130S (ch := ch) (ch' := va_up ch k (-1)) (n := n) (m := m) (pr := pr) ho6 h12 hW hB h ?_ ?_ ?_
    · intro s hs hne
      unfold gtC
      have := g1 s hs
      rw [if_neg (by omega)] at this
      omega
    · unfold gtC
      have := g1 o ho6
      rw [if_pos rfl] at this
      rw [← this, ← Nat.add_assoc, ← zI_add, Int32.add_assoc, Int32.add_right_neg, Int32.add_zero]
    · intro K fK k53 k54 k55 hK
      simp only [tl_none]
      exact half K fK k53 k54 k55 hK
end T1
