/-! The reference's settlements: gathered, a row, fair, stable. -/
def FrM (I K : Nat → Nat → Int32) : Prop := (∀ c, c ≠ 81 → (c < 123 ∨ 127 < c) → K c = I c) ∧ ∀ j, j ≠ 65 → j ≠ 69 → K 81 j = I 81 j
theorem FrM_t {I K L : Nat → Nat → Int32} (h : FrM I K) (k : FrM K L) : FrM I L := ⟨fun c a b => (k.1 c a b).trans (h.1 c a b), fun j a b => (k.2 j a b).trans (h.2 j a b)⟩
def pF (c : Nat → Nat) (k : Nat) : Nat := up (fun j a => a * c j) k 1
theorem pF_s (c : Nat → Nat) (k : Nat) : pF c (k + 1) = pF c k * c k := rfl
theorem pF_rp (c : Nat → Nat) (K : Nat) : ∀ k, k ≤ K → pF c k * rp c K k = rp c K 0 := by
  intro k
  induction k with
  | zero => intro _; exact Nat.one_mul _
  | succ k ih =>
    intro hk
    rw [pF_s, ← ih (by omega), rp_s c (show k < K by omega), Nat.mul_assoc, Nat.mul_comm (c k)]
theorem pF_K (c : Nat → Nat) (K : Nat) : pF c K = rp c K 0 := by
  have := pF_rp c K K (Nat.le_refl _)
  rw [rp_K, Nat.mul_one] at this
  exact this
def MI (n : Nat) (r4 r5 W : Nat → Int32) (pr : Int32) (r81 r123 r124 r125 r126 r127 : Nat → Int32) : Prop := r81 65 = zI (dK n r5 pr) ∧ (∀ j, j < dK n r5 pr → r123 j = zI (dl n r5 pr j)) ∧ (∀ j, j < 8 → j < dK n r5 pr → r125 j = zI (rd n r5 pr j) ∧ ∀ i, i < rd n r5 pr j → r124 (3 * j + i) = zI (nt (bt (clB n r5 pr j)) 6 i)) ∧ (dK n r5 pr ≤ 8 → r81 69 = zI (rws n r5 pr)) ∧ ∀ s, s < 6 → r126 s = zI (sur n r4 r5 W pr s) ∧ r127 s = zI (nowN r4 W n s)
theorem nowN_0 {n m : Nat} {r4 W : Nat → Int32} (h12 : n ≤ 12) (h6 : m ≤ 6) (hV : ∀ l, l < n → r4 l = -1 ∨ ∃ s, s < m ∧ r4 l = zI s) {s : Nat} (hs : m ≤ s) (hs6 : s < 6) : nowN r4 W n s = 0 := by
  have e : hlds r4 (zI s) n = 0 := by
    apply bt_ext
    intro k _
    rw [bt_0, bt_hl r4 _ n h12, decide_eq_false]
    rintro ⟨h1, h2⟩
    rcases hV k h1 with e | ⟨t, ht, e⟩
    · rw [e, zI_m1' (by omega)] at h2; exact h2
    · rw [e, zI_eq (by omega) (by omega)] at h2; omega
  unfold nowN
  rw [e]
  have : ∀ k, wA W s 0 k = 0 := by
    intro k
    induction k with
    | zero => rfl
    | succ k ih => rw [wA_q (bt_0 k), ih]
  exact this n
theorem popc_6 {x : Int32} (h : ∀ k, 6 ≤ k → bt x k = false) : popc x = zI (pc6 x) ∧ pc6 x ≤ 6 := (bc_6 h).2
section U1
variable {X : (Nat → Int32) × Nat} {mo : Bool} {G : Nat × Nat} {I : Nat → Nat → Int32} {J : Nat → Nat → Int64} {Q : Option Value → sm_M → Prop}
def mP (n : Nat) (r4 r5 W : Nat → Int32) (pr : Int32) (l : Nat) (K : Nat → Nat → Int32) : Prop := K 81 65 = zI (cN (stD r5 pr) l) ∧ K 81 69 = zI (pF (rd n r5 pr) (min 8 (cN (stD r5 pr) l))) ∧ (∀ j, j < cN (stD r5 pr) l → K 123 j = zI (dl n r5 pr j)) ∧ (∀ j, j < 8 → j < cN (stD r5 pr) l → K 125 j = zI (rd n r5 pr j) ∧ ∀ i, i < rd n r5 pr j → K 124 (3 * j + i) = zI (nt (bt (clB n r5 pr j)) 6 i)) ∧
  ∀ s, s < 6 → K 126 s = zI (wA W s (hlds r4 (zI s) n &&& fxd r5 pr n) l) ∧ K 127 s = zI (nowN r4 W n s)
theorem mg_c {n m l : Nat} {pr : Int32} {r5 : Nat → Int32} (hm : I 81 10 = zI m) (h6m : m ≤ 6) (hp : ∀ k, m ≤ k → bt pr k = false) (h3 : ∀ l, pc6 (r5 l) ≤ 3) (hl : l < n) (g : stD r5 pr l = true) (g8 : cN (stD r5 pr) l < 8)
    (hQ : ∀ K, FrM I K → K 123 = I 123 → K 126 = I 126 → K 127 = I 127 → K 81 65 = zI (cN (stD r5 pr) l + 1) → K 81 69 = I 81 69 * zI (rd n r5 pr (cN (stD r5 pr) l)) → (∀ j, j ≠ cN (stD r5 pr) l → K 125 j = I 125 j ∧ ∀ i, i < 3 → K 124 (3 * j + i) = I 124 (3 * j + i)) → K 125 (cN (stD r5 pr) l) = zI (rd n r5 pr (cN (stD r5 pr) l)) → (∀ i, i < rd n r5 pr (cN (stD r5 pr) l) → K 124 (3 * cN (stD r5 pr) l + i) = zI (nt (bt (clB n r5 pr (cN (stD r5 pr) l))) 6 i)) →
      sm_wp X 275 61 [some (.ref 81), some (.int (zI (l + 1))), none, none] [] (sM mo G K J) Q)
    (h65 : I 81 65 = zI (cN (stD r5 pr) l)) : ∀ d s, s + d = m → ∀ K, FrM I K → K 81 = I 81 → K 123 = I 123 → K 126 = I 126 → K 127 = I 127 → (∀ j, j ≠ cN (stD r5 pr) l → K 125 j = I 125 j ∧ ∀ i, i < 3 → K 124 (3 * j + i) = I 124 (3 * j + i)) → K 125 (cN (stD r5 pr) l) = zI (cN (bt (clB n r5 pr (cN (stD r5 pr) l))) s) → (∀ i, i < cN (bt (clB n r5 pr (cN (stD r5 pr) l))) s → K 124 (3 * cN (stD r5 pr) l + i) = zI (nt (bt (clB n r5 pr (cN (stD r5 pr) l))) 6 i)) →
      sm_wp X 275 163 [some (.ref 81), some (.int (zI l)), some (.int (clB n r5 pr (cN (stD r5 pr) l))), some (.int (zI s))] [] (sM mo G K J) Q := by
  have r3 := rd_3 (n := n) (pr := pr) h3 (cN (stD r5 pr) l)
  have cm : ∀ s, m ≤ s → s ≤ 6 → cN (bt (clB n r5 pr (cN (stD r5 pr) l))) s = cN (bt (clB n r5 pr (cN (stD r5 pr) l))) m := by
    intro s hs _
    have : ∀ e, cN (bt (clB n r5 pr (cN (stD r5 pr) l))) (m + e) = cN (bt (clB n r5 pr (cN (stD r5 pr) l))) m := by
      intro e
      induction e with
      | zero => rfl
      | succ e ih =>
        rw [← Nat.add_assoc, cN_q, ih]
        unfold clB
        rw [bt_and, hp (m + e) (by omega), Bool.and_false]
        decide
    have q := this (s - m)
    rw [show m + (s - m) = s from by omega] at q
    exact q
  have c6 : rd n r5 pr (cN (stD r5 pr) l) = cN (bt (clB n r5 pr (cN (stD r5 pr) l))) m := cm 6 h6m (Nat.le_refl _)
  generalize hD : cN (stD r5 pr) l = D at *
  intro d
  induction d with
  | zero =>
    intro s hs K f k81 k123 k126 k127 ko k125 k124
    have : s = m := by omega
    subst this
    rw [lp_275_163, k81, hm, if_pos (by rw [zI_le (by omega) (by omega)]; exact Nat.le_refl _), h65, zI_vp (by omega), zI_cn (by omega), k125, show zI l + 1 = zI (l + 1) from zIr_add 1 l, ← c6, show zI D + 1 = zI (D + 1) from zIr_add 1 D]
    refine ⟨g8, hQ _ ⟨fun c a b => ?_, fun j a b => ?_⟩ ?_ ?_ ?_ ?_ ?_ ?_ ?_ ?_⟩
    · rw [up2_rn _ _ _ _ _ a, up2_rn _ _ _ _ _ a]; exact f.1 c a b
    · rw [up2_ra, up2_ra, va_ap, if_neg a, va_ap, if_neg b, k81]
    · rw [up2_rn _ _ _ _ _ (by decide), up2_rn _ _ _ _ _ (by decide)]; exact k123
    · rw [up2_rn _ _ _ _ _ (by decide), up2_rn _ _ _ _ _ (by decide)]; exact k126
    · rw [up2_rn _ _ _ _ _ (by decide), up2_rn _ _ _ _ _ (by decide)]; exact k127
    · rw [up2_ra, va_ap, if_pos rfl]
    · rw [up2_ra, up2_ra]; rfl
    · simp (decide := true) only [up2_ra, up2_rn, va_ap, ne_eq, if_false, if_true, not_false_eq_true]; exact ko
    · simp (decide := true) only [up2_ra, up2_rn, va_ap, ne_eq, if_false, if_true, not_false_eq_true]; rw [c6]; exact k125
    · simp (decide := true) only [up2_ra, up2_rn, va_ap, ne_eq, if_false, if_true, not_false_eq_true]; rw [c6]; exact k124
  | succ d ih =>
    intro s hs K f k81 k123 k126 k127 ko k125 k124
    rw [lp_275_163, k81, hm, if_neg (by rw [zI_le (by omega) (by omega)]; omega), show zI s + 1 = zI (s + 1) from zIr_add 1 s]
    cases gb : bt (clB n r5 pr D) s with
    | true =>
      have clt : cN (bt (clB n r5 pr D)) s < rd n r5 pr D := cN_lt (show s < 6 by omega) gb
      have nte : nt (bt (clB n r5 pr D)) 6 (cN (bt (clB n r5 pr D)) s) = s := nt_c (show s < 6 by omega) gb
      rw [if_pos (by rw [sb_0 _ _ (show s < 32 by omega), gb]; decide), h65, zI_vp (by omega), zI_cn (by omega), k125, show (3 : Int32) * zI D = zI (3 * D) from zIl_mul 3 D, zI_add, zI_vp (by omega), zI_cn (by omega), show zI (cN (bt (clB n r5 pr D)) s) + 1 = zI (cN (bt (clB n r5 pr D)) s + 1) from zIr_add 1 _]
      refine ⟨g8, by omega, ih (s + 1) (by omega) _ ⟨fun c a b => ?_, fun j a b => ?_⟩ ?_ ?_ ?_ ?_ (fun j hj => ?_) ?_ (fun i hi => ?_)⟩
      · rw [up2_rn _ _ _ _ _ (by omega), up2_rn _ _ _ _ _ (by omega)]; exact f.1 c a b
      · rw [up2_rn _ _ _ _ _ (by decide), up2_rn _ _ _ _ _ (by decide)]; exact f.2 j a b
      · rw [up2_rn _ _ _ _ _ (by decide), up2_rn _ _ _ _ _ (by decide)]; exact k81
      · rw [up2_rn _ _ _ _ _ (by decide), up2_rn _ _ _ _ _ (by decide)]; exact k123
      · rw [up2_rn _ _ _ _ _ (by decide), up2_rn _ _ _ _ _ (by decide)]; exact k126
      · rw [up2_rn _ _ _ _ _ (by decide), up2_rn _ _ _ _ _ (by decide)]; exact k127
      · rw [up2_ra, va_ap, if_neg hj, up2_rn _ _ _ _ _ (by decide), up2_rn _ _ _ _ _ (by decide), up2_ra]
        refine ⟨(ko j hj).1, fun i hi => ?_⟩
        rw [va_ap, if_neg (by omega)]
        exact (ko j hj).2 i hi
      · rw [up2_ra, va_ap, if_pos rfl, cN_p gb]
      · rw [up2_rn _ _ _ _ _ (by decide), up2_ra, va_ap]
        rw [cN_p gb] at hi
        by_cases gi : i = cN (bt (clB n r5 pr D)) s
        · subst gi; rw [if_pos rfl, nte]
        · rw [if_neg (by omega)]; exact k124 i (by omega)
    | false =>
      rw [if_neg (by rw [sb_0 _ _ (show s < 32 by omega), gb]; exact fun e => e rfl)]
      refine ih (s + 1) (by omega) K f k81 k123 k126 k127 ko ?_ ?_
      · rw [cN_q (by rw [gb]; decide)]; exact k125
      · rw [cN_q (by rw [gb]; decide)]; exact k124
theorem mg_b {n m : Nat} (hn : I 81 3 = zI n) (h12 : n ≤ 12) (hm : I 81 10 = zI m) (h6m : m ≤ 6) (hp : ∀ k, m ≤ k → bt (I 81 15) k = false) (h6 : ∀ l k, 6 ≤ k → bt (I 86 l) k = false) (h3 : ∀ l, pc6 (I 86 l) ≤ 3) (hV : ∀ l, l < n → I 85 l = -1 ∨ ∃ s, s < m ∧ I 85 l = zI s) (hW : okW (I 91))
    (hQ : ∀ K, FrM I K → MI n (I 85) (I 86) (I 91) (I 81 15) (K 81) (K 123) (K 124) (K 125) (K 126) (K 127) → Q none (sM mo G K J)) :
    ∀ d l, l + d = n → ∀ K, FrM I K → mP n (I 85) (I 86) (I 91) (I 81 15) l K → sm_wp X 275 61 [some (.ref 81), some (.int (zI l)), none, none] [] (sM mo G K J) Q := by
  intro d
  induction d with
  | zero =>
    intro l hl K f h
    have : l = n := by omega
    subst this
    obtain ⟨h1, h2, h3', h4, h5⟩ := h
    rw [lp_275_61, f.2 3 (by decide) (by decide), hn, if_pos (by rw [zI_le (by omega) (by omega)]; exact Nat.le_refl _)]
    refine hQ K f ⟨h1, h3', h4, fun e8 => ?_, h5⟩
    rw [h2]
    have e : min 8 (cN (stD (I 86) (I 81 15)) l) = dK l (I 86) (I 81 15) := Nat.min_eq_right e8
    rw [e, pF_K]
    rfl
  | succ d ih =>
    intro l hl K f h
    obtain ⟨h1, h2, h3', h4, h5⟩ := h
    have ln : l < n := by omega
    have k85 : K 85 = I 85 := f.1 85 (by decide) (by decide)
    have k86 : K 86 = I 86 := f.1 86 (by decide) (by decide)
    have k91 : K 91 = I 91 := f.1 91 (by decide) (by decide)
    have k15 : K 81 15 = I 81 15 := f.2 15 (by decide) (by decide)
    have c12 := cN_le (stD (I 86) (I 81 15)) l
    have b := popc_6 (x := I 86 l &&& I 81 15) (fun k hk => by rw [bt_and, h6 l k hk, Bool.false_and])
    rw [lp_275_61, f.2 3 (by decide) (by decide), hn, if_neg (by rw [zI_le (by omega) (by omega)]; omega), zI_vp (by omega), zI_cn (by omega), k86, k15, ct_Mbits, b.1]
    refine ⟨by omega, ?_⟩
    simp only [tl_some]
    rw [lp_275_85]
    have bs : ∀ s, s < 6 → bt (hlds (I 85) (zI s) n &&& fxd (I 86) (I 81 15) n) l = (decide (I 85 l = zI s) && !stD (I 86) (I 81 15) l) := by
      intro s hs
      rw [bt_and, bt_hl _ _ n h12, bt_fxd _ _ n h12, decide_eq_true ln, Bool.true_and]
      have : decide (l < n ∧ I 85 l = zI s) = decide (I 85 l = zI s) := by
        by_cases e : I 85 l = zI s
        · rw [decide_eq_true e, decide_eq_true ⟨ln, e⟩]
        · rw [decide_eq_false e, decide_eq_false (fun x => e x.2)]
      rw [this]
    by_cases g : stD (I 86) (I 81 15) l = true
    · have g2 : 2 ≤ pc6 (I 86 l &&& I 81 15) := by
        unfold stD at g
        exact decide_eq_true_iff.mp g
      have dle : dl n (I 86) (I 81 15) (cN (stD (I 86) (I 81 15)) l) = l := nt_c ln g
      have sw : ∀ s, s < 6 → wA (I 91) s (hlds (I 85) (zI s) n &&& fxd (I 86) (I 81 15) n) (l + 1) = wA (I 91) s (hlds (I 85) (zI s) n &&& fxd (I 86) (I 81 15) n) l := fun s hs => wA_q (by rw [bs s hs, g, Bool.not_true, Bool.and_false])
      rw [if_pos (by rw [zIl_le (c := 2) (by decide) (by omega)]; exact g2), h1, zI_vp (by omega), zI_cn (by omega)]
      refine ⟨by omega, ?_⟩
      by_cases g8 : 8 ≤ cN (stD (I 86) (I 81 15)) l
      · rw [if_pos (by rw [zIl_le (c := 8) (by decide) (by omega)]; exact g8), show zI l + 1 = zI (l + 1) from zIr_add 1 l, show zI (cN (stD (I 86) (I 81 15)) l) + 1 = zI (cN (stD (I 86) (I 81 15)) l + 1) from zIr_add 1 _]
        refine ih (l + 1) (by omega) _ ⟨fun c a b => ?_, fun j a b => ?_⟩ ⟨?_, ?_, fun j hj => ?_, fun j a b => ?_, fun s hs => ?_⟩
        · rw [up2_rn _ _ _ _ _ a, up2_rn _ _ _ _ _ (by omega)]; exact f.1 c a b
        · rw [up2_ra, va_ap, if_neg a, up2_rn _ _ _ _ _ (by decide)]; exact f.2 j a b
        · rw [up2_ra, va_ap, if_pos rfl, cN_p g]
        · rw [up2_ra, va_ap, if_neg (by decide), up2_rn _ _ _ _ _ (by decide), h2, cN_p g, Nat.min_eq_left (show 8 ≤ cN (stD (I 86) (I 81 15)) l + 1 by omega), Nat.min_eq_left g8]
        · rw [up2_rn _ _ _ _ _ (by decide), up2_ra, va_ap]
          rw [cN_p g] at hj
          by_cases gj : j = cN (stD (I 86) (I 81 15)) l
          · rw [if_pos gj, gj, dle]
          · rw [if_neg gj]; exact h3' j (by omega)
        · rw [up2_rn _ _ _ _ _ (by decide), up2_rn _ _ _ _ _ (by decide), up2_rn _ _ _ _ _ (by decide), up2_rn _ _ _ _ _ (by decide)]
          exact h4 j a (by omega)
        · rw [up2_rn _ _ _ _ _ (by decide), up2_rn _ _ _ _ _ (by decide), up2_rn _ _ _ _ _ (by decide), up2_rn _ _ _ _ _ (by decide), sw s hs]
          exact h5 s hs
      · rw [if_neg (by rw [zIl_le (c := 8) (by decide) (by omega)]; exact g8), zI_vp (by omega)]
        refine ⟨by omega, ?_⟩
        have ecl : I 86 l &&& I 81 15 = clB n (I 86) (I 81 15) (cN (stD (I 86) (I 81 15)) l) := by unfold clB; rw [dle]
        rw [ecl]
        generalize hL : up2 (up2 K 123 (cN (stD (I 86) (I 81 15)) l) (zI l)) 125 (cN (stD (I 86) (I 81 15)) l) 0 = L
        have l81 : L 81 = K 81 := by rw [← hL]; simp (decide := true) only [up2_ra, up2_rn, va_ap, ne_eq, if_false, if_true, not_false_eq_true]
        have l123 : L 123 = va_up (K 123) (cN (stD (I 86) (I 81 15)) l) (zI l) := by rw [← hL]; simp (decide := true) only [up2_ra, up2_rn, va_ap, ne_eq, if_false, if_true, not_false_eq_true]
        have l124 : L 124 = K 124 := by rw [← hL]; simp (decide := true) only [up2_ra, up2_rn, va_ap, ne_eq, if_false, if_true, not_false_eq_true]
        have l125 : L 125 = va_up (K 125) (cN (stD (I 86) (I 81 15)) l) 0 := by rw [← hL]; simp (decide := true) only [up2_ra, up2_rn, va_ap, ne_eq, if_false, if_true, not_false_eq_true]
        have l126 : L 126 = K 126 := by rw [← hL]; simp (decide := true) only [up2_ra, up2_rn, va_ap, ne_eq, if_false, if_true, not_false_eq_true]
        have l127 : L 127 = K 127 := by rw [← hL]; simp (decide := true) only [up2_ra, up2_rn, va_ap, ne_eq, if_false, if_true, not_false_eq_true]
        have fL : FrM I L := ⟨fun c a b => by rw [← hL, up2_rn _ _ _ _ _ (by omega), up2_rn _ _ _ _ _ (by omega)]; exact f.1 c a b, fun j a b => by rw [l81]; exact f.2 j a b⟩
        refine mg_c (I := L) (n := n) (m := m) (l := l) (pr := I 81 15) (r5 := I 86) (by rw [l81, f.2 10 (by decide) (by decide)]; exact hm) h6m hp h3 ln g (by omega) ?_ (by rw [l81]; exact h1) m 0 (by omega) L ⟨fun _ _ _ => rfl, fun _ _ _ => rfl⟩ rfl rfl rfl rfl (fun j hj => ⟨rfl, fun _ _ => rfl⟩) (by rw [l125, va_ap, if_pos rfl]; rfl) (fun i hi => absurd hi (Nat.not_lt_zero _))
        intro N fN n123 n126 n127 n65 n69 no n125 n124
        refine ih (l + 1) (by omega) N (FrM_t fL fN) ⟨?_, ?_, fun j hj => ?_, fun j a b => ?_, fun s hs => ?_⟩
        · rw [n65, cN_p g]
        · rw [n69, l81, h2, zI_mul, cN_p g, Nat.min_eq_right (show cN (stD (I 86) (I 81 15)) l ≤ 8 by omega), Nat.min_eq_right (show cN (stD (I 86) (I 81 15)) l + 1 ≤ 8 by omega), pF_s]
        · rw [n123, l123, va_ap]
          rw [cN_p g] at hj
          by_cases gj : j = cN (stD (I 86) (I 81 15)) l
          · rw [if_pos gj, gj, dle]
          · rw [if_neg gj]; exact h3' j (by omega)
        · rw [cN_p g] at b
          by_cases gj : j = cN (stD (I 86) (I 81 15)) l
          · rw [gj]; exact ⟨n125, n124⟩
          · have q := h4 j a (by omega)
            have q2 := no j gj
            have r3 := rd_3 (n := n) (pr := I 81 15) h3 j
            refine ⟨?_, fun i hi => ?_⟩
            · rw [q2.1, l125, va_ap, if_neg gj]; exact q.1
            · rw [q2.2 i (by omega), l124]; exact q.2 i hi
        · rw [n126, n127, l126, l127, sw s hs]; exact h5 s hs
    · have g2 : ¬ 2 ≤ pc6 (I 86 l &&& I 81 15) := by
        unfold stD at g
        exact fun e => g (decide_eq_true e)
      rw [if_neg (by rw [zIl_le (c := 2) (by decide) (by omega)]; exact g2), zI_vp (by omega), zI_cn (by omega), k85, show zI l + 1 = zI (l + 1) from zIr_add 1 l]
      refine ⟨by omega, ?_⟩
      rcases hV l ln with e | ⟨t, ht, e⟩
      · rw [if_pos e]
        refine ih (l + 1) (by omega) K f ⟨?_, ?_, ?_, ?_, fun s hs => ?_⟩
        · rw [cN_q g]; exact h1
        · rw [cN_q g]; exact h2
        · rw [cN_q g]; exact h3'
        · rw [cN_q g]; exact h4
        · rw [wA_q (by rw [bs s hs, e, decide_eq_false (by rw [zI_m1' (by omega)]; exact id), Bool.false_and])]
          exact h5 s hs
      · have wz : I 91 (12 * t + l) = zI (ww (I 91) t l) := by
          obtain ⟨w, hw, e⟩ := hW (12 * t + l)
          unfold ww
          rw [e, zI_cn (by omega)]
        rw [e, if_neg (by rw [zI_m1 (by omega)]; exact id), zI_vp (by omega), zI_cn (by omega), show (12 : Int32) * zI t = zI (12 * t) from zIl_mul 12 t, zI_add, zI_vp (by omega), zI_cn (by omega), k91, wz, (h5 t (by omega)).1, zI_add]
        refine ⟨by omega, by omega, ih (l + 1) (by omega) _ ⟨fun c a b => ?_, fun j a b => ?_⟩ ⟨?_, ?_, ?_, ?_, fun s hs => ?_⟩⟩
        · rw [up2_rn _ _ _ _ _ (by omega)]; exact f.1 c a b
        · rw [up2_rn _ _ _ _ _ (by decide)]; exact f.2 j a b
        · rw [cN_q g, up2_rn _ _ _ _ _ (by decide)]; exact h1
        · rw [cN_q g, up2_rn _ _ _ _ _ (by decide)]; exact h2
        · rw [cN_q g, up2_rn _ _ _ _ _ (by decide)]; exact h3'
        · rw [cN_q g, up2_rn _ _ _ _ _ (by decide), up2_rn _ _ _ _ _ (by decide)]; exact h4
        · rw [up2_ra, va_ap, up2_rn _ _ _ _ _ (by decide)]
          have gf : stD (I 86) (I 81 15) l = false := by
            cases c : stD (I 86) (I 81 15) l with
            | false => rfl
            | true => exact absurd c g
          by_cases gs : s = t
          · subst gs
            rw [if_pos rfl, wA_p (by rw [bs s hs, e, decide_eq_true rfl, gf]; rfl)]
            exact ⟨rfl, (h5 s hs).2⟩
          · rw [if_neg gs, wA_q (by rw [bs s hs, e, decide_eq_false (by rw [zI_eq (by omega) (by omega)]; omega), Bool.false_and])]
            exact h5 s hs
theorem ct_275 {n m : Nat} (hn : I 81 3 = zI n) (h12 : n ≤ 12) (hm : I 81 10 = zI m) (h6m : m ≤ 6) (hp : ∀ k, m ≤ k → bt (I 81 15) k = false) (h6 : ∀ l k, 6 ≤ k → bt (I 86 l) k = false) (h3 : ∀ l, pc6 (I 86 l) ≤ 3) (hV : ∀ l, l < n → I 85 l = -1 ∨ ∃ s, s < m ∧ I 85 l = zI s) (hW : okW (I 91))
    (hQ : ∀ K, FrM I K → MI n (I 85) (I 86) (I 91) (I 81 15) (K 81) (K 123) (K 124) (K 125) (K 126) (K 127) → Q none (sM mo G K J)) :
    sm_wp X 275 0 [some (.ref 81), none, none, none] [] (sM mo G I J) Q := by
  have key : ∀ d s, s + d = 6 → ∀ K, FrM I K → K 81 65 = 0 → K 81 69 = 1 → (∀ t, t < s → K 126 t = 0 ∧ K 127 t = zI (nowN (I 85) (I 91) n t)) → sm_wp X 275 12 [some (.ref 81), some (.int (zI s)), none, none] [] (sM mo G K J) Q := by
    intro d
    induction d with
    | zero =>
      intro s hs K f k65 k69 h
      have : s = 6 := by omega
      subst this
      rw [lp_275_12, if_pos (by decide)]
      exact mg_b hn h12 hm h6m hp h6 h3 hV hW hQ n 0 (by omega) K f ⟨k65, k69, fun j hj => absurd hj (Nat.not_lt_zero _), fun j _ hj => absurd hj (Nat.not_lt_zero _), h⟩
    | succ d ih =>
      intro s hs K f k65 k69 h
      have s6 : s < 6 := by omega
      rw [lp_275_12, if_neg (by rw [zIl_le (c := 6) (by decide) (by omega)]; show ¬ 6 ≤ s; omega), zI_vp (by omega), zI_cn (by omega), f.2 10 (by decide) (by decide), hm]
      refine ⟨s6, ?_⟩
      by_cases g : m ≤ s
      · rw [if_pos (by rw [zI_le (by omega) (by omega)]; exact g), show zI s + 1 = zI (s + 1) from zIr_add 1 s]
        refine ih (s + 1) (by omega) _ ⟨fun c a b => ?_, fun j a b => ?_⟩ ?_ ?_ (fun t ht => ?_)
        · rw [up2_rn _ _ _ _ _ (by omega), up2_rn _ _ _ _ _ (by omega)]; exact f.1 c a b
        · rw [up2_rn _ _ _ _ _ (by decide), up2_rn _ _ _ _ _ (by decide)]; exact f.2 j a b
        · rw [up2_rn _ _ _ _ _ (by decide), up2_rn _ _ _ _ _ (by decide)]; exact k65
        · rw [up2_rn _ _ _ _ _ (by decide), up2_rn _ _ _ _ _ (by decide)]; exact k69
        · simp (decide := true) only [up2_ra, up2_rn, va_ap, ne_eq, if_false, if_true, not_false_eq_true]
          by_cases e : t = s
          · subst e
            rw [if_pos rfl, if_pos rfl, nowN_0 h12 h6m hV g s6]
            exact ⟨rfl, rfl⟩
          · rw [if_neg e, if_neg e]; exact h t (by omega)
      · rw [if_neg (by rw [zI_le (by omega) (by omega)]; exact g)]
        have l81 : up2 K 126 s 0 81 3 = zI n := by rw [up2_rn _ _ _ _ _ (by decide), f.2 3 (by decide) (by decide)]; exact hn
        have l85 : up2 K 126 s 0 85 = I 85 := by rw [up2_rn _ _ _ _ _ (by decide)]; exact f.1 85 (by decide) (by decide)
        have l91 : up2 K 126 s 0 91 = I 91 := by rw [up2_rn _ _ _ _ _ (by decide)]; exact f.1 91 (by decide) (by decide)
        rw [ct_Mholdings _ _ _ _ _ _ l81 h12, l85]
        simp only [tl_some]
        rw [lp_275_45, ct_MworthOf _ _ _ _ _ _ l81 h12 s6, l91, wsum_w hW s6 h12]
        simp only [tl_some]
        rw [lp_275_48, zI_vp (by omega), zI_cn (by omega), show zI s + 1 = zI (s + 1) from zIr_add 1 s]
        refine ⟨s6, ih (s + 1) (by omega) _ ⟨fun c a b => ?_, fun j a b => ?_⟩ ?_ ?_ (fun t ht => ?_)⟩
        · rw [up2_rn _ _ _ _ _ (by omega), up2_rn _ _ _ _ _ (by omega)]; exact f.1 c a b
        · rw [up2_rn _ _ _ _ _ (by decide), up2_rn _ _ _ _ _ (by decide)]; exact f.2 j a b
        · rw [up2_rn _ _ _ _ _ (by decide), up2_rn _ _ _ _ _ (by decide)]; exact k65
        · rw [up2_rn _ _ _ _ _ (by decide), up2_rn _ _ _ _ _ (by decide)]; exact k69
        · simp (decide := true) only [up2_ra, up2_rn, va_ap, ne_eq, if_false, if_true, not_false_eq_true]
          by_cases e : t = s
          · subst e
            rw [if_pos rfl, if_pos rfl]
            exact ⟨rfl, rfl⟩
          · rw [if_neg e, if_neg e]; exact h t (by omega)
  rw [lp_275_0]
  refine key 6 0 (by omega) _ ⟨fun c a b => ?_, fun j a b => ?_⟩ ?_ ?_ (fun t ht => absurd ht (Nat.not_lt_zero _))
  · rw [up2_rn _ _ _ _ _ a, up2_rn _ _ _ _ _ a]
  · rw [up2_ra, va_ap, if_neg b, up2_ra, va_ap, if_neg a]
  · simp (decide := true) only [up2_ra, up2_rn, va_ap, ne_eq, if_false, if_true, not_false_eq_true]
  · simp (decide := true) only [up2_ra, up2_rn, va_ap, ne_eq, if_false, if_true, not_false_eq_true]
end U1
