/-! swap. -/
theorem lx_tri : ∀ (N : Nat) (x y : Nat → Nat), lxL N x y ∨ lxL N y x ∨ ∀ i, i < N → x i = y i := by
  intro N
  induction N with
  | zero => intro x y; exact Or.inr (Or.inr (fun i hi => absurd hi (Nat.not_lt_zero _)))
  | succ N ih =>
    intro x y
    rcases ih x y with ⟨i, hi, h⟩ | ⟨i, hi, h⟩ | h
    · exact Or.inl ⟨i, by omega, h⟩
    · exact Or.inr (Or.inl ⟨i, by omega, h⟩)
    · rcases Nat.lt_trichotomy (x N) (y N) with g | g | g
      · exact Or.inl ⟨N, by omega, h, g⟩
      · refine Or.inr (Or.inr (fun i hi => ?_))
        by_cases e : i = N
        · rw [e]; exact g
        · exact h i (by omega)
      · exact Or.inr (Or.inl ⟨N, by omega, fun j hj => (h j hj).symm, g⟩)
theorem rgF_u {n : Nat} {r4 W : Nat → Int32} {pr : Int32} {N : Nat} (hN : 1 ≤ N) {M L M' L' : Nat → Nat} (h : rgF n r4 W pr N M L) (k : rgF n r4 W pr N M' L') : (∀ i, i < N → M i = M' i) ∧ ∀ i, i < N → L i = L' i := by
  obtain ⟨h1, h2, h3, h4⟩ := h
  obtain ⟨k1, k2, k3, k4⟩ := k
  have e : ∀ i, i < N → M i = M' i := by
    rcases lx_tri N M M' with g | g | g
    · exact absurd g (k3 M L h1 h2)
    · exact absurd g (h3 M' L' k1 k2)
    · exact g
  refine ⟨e, ?_⟩
  rcases lx_tri N L L' with g | g | g
  · exact absurd g (k4 L (rgL_c hN e (fun _ _ => rfl) h2))
  · exact absurd g (h4 L' (rgL_c hN (fun i hi => (e i hi).symm) (fun _ _ => rfl) k2))
  · exact g
theorem rgR_u {n : Nat} {r4 W : Nat → Int32} {pr : Int32} {a b : Nat} {M L M' L' : Nat → Nat} (h : rgR n r4 W pr a M L) (k : rgR n r4 W pr b M' L') : a = b ∧ (∀ i, i < a → M i = M' i) ∧ ∀ i, i < a → L i = L' i := by
  rcases h with ⟨h1, h2⟩ | ⟨h1, h2, h3, h4⟩
  · rcases k with ⟨k1, k2⟩ | ⟨k1, k2, k3, k4⟩
    · exact ⟨by omega, fun i hi => absurd hi (by omega), fun i hi => absurd hi (by omega)⟩
    · exact absurd k4.2.1 (h2 b k1 k2 M' L' k4.1)
  · rcases k with ⟨k1, k2⟩ | ⟨k1, k2, k3, k4⟩
    · exact absurd h4.2.1 (k2 a h1 h2 M L h4.1)
    · have e : a = b := by
        rcases Nat.lt_trichotomy a b with g | g | g
        · exact absurd h4.2.1 (k3 a h1 g M L h4.1)
        · exact g
        · exact absurd k4.2.1 (h3 b k1 g M' L' k4.1)
      subst e
      exact ⟨rfl, rgF_u (by omega) h4 k4⟩
/-- what swap answers -/
def swV (len : Nat) (M L : Nat → Nat) (x : Int32) : Int32 := if x = 0 then zI len else if x < 0 ∨ 8 < x then -1 else if x.toNatClampNeg < 5 then (if x.toNatClampNeg ≤ len then zI (M (x.toNatClampNeg - 1)) else -1) else (if x.toNatClampNeg - 5 < len then zI (L (x.toNatClampNeg - 5)) else -1)
theorem rgR_4 {n : Nat} {r4 W : Nat → Int32} {pr : Int32} {a : Nat} {M L : Nat → Nat} (h : rgR n r4 W pr a M L) : a ≤ 4 := by
  rcases h with ⟨h1, -⟩ | ⟨-, h2, -⟩ <;> omega
theorem swV_e {a : Nat} {M L M' L' : Nat → Nat} (h1 : ∀ i, i < a → M i = M' i) (h2 : ∀ i, i < a → L i = L' i) (x : Int32) : swV a M L x = swV a M' L' x := by
  unfold swV
  by_cases g0 : x = 0
  · rw [if_pos g0, if_pos g0]
  · rw [if_neg g0, if_neg g0]
    by_cases g1 : x < 0 ∨ 8 < x
    · rw [if_pos g1, if_pos g1]
    · rw [if_neg g1, if_neg g1]
      obtain ⟨k, hk, rfl⟩ := zI_of (fun e => g1 (Or.inl e))
      rw [zI_cn hk]
      have k0 : ¬ k = 0 := fun e => g0 (by rw [e]; rfl)
      by_cases g2 : k < 5
      · rw [if_pos g2, if_pos g2]
        by_cases g3 : k ≤ a
        · rw [if_pos g3, if_pos g3, h1 _ (by omega)]
        · rw [if_neg g3, if_neg g3]
      · rw [if_neg g2, if_neg g2]
        by_cases g3 : k - 5 < a
        · rw [if_pos g3, if_pos g3, h2 _ g3]
        · rw [if_neg g3, if_neg g3]
section Y3
variable {X : (Nat → Int32) × Nat} {mo : Bool} {G : Nat × Nat} {I : Nat → Nat → Int32} {J : Nat → Nat → Int64} {Q : Option Value → sm_M → Prop} {c : Nat}
theorem h_tell {len : Nat} {M L : Nat → Nat} (h4 : len ≤ 4) (h3 : I 68 3 = zI len) (hr : ∀ i, i < len → I 69 i = zI (M i) ∧ I 70 i = zI (L i)) (x : Int32) (hQ : Q (some (.int (swV len M L x))) (sM mo G I J)) : sm_wp X 194 7 [some (.ref 0), some (.int x)] [] (sM mo G I J) Q := by
  rw [lp_194_7]
  unfold swV at hQ
  by_cases g0 : x = 0
  · rw [if_pos g0] at hQ
    rw [if_neg (fun e => e g0), h3]
    exact hQ
  · rw [if_neg g0] at hQ
    rw [if_pos g0]
    -- the lands' half
    have far : ∀ j, x - 1 - 4 = zI j → j < 4 → ¬ x < 0 ∧ x = zI (j + 5) := by
      intro j e hj
      have e2 : x = zI (j + 5) := by
        have : x = (x - 1 - 4) + 5 := by
          rw [Int32.sub_eq_add_neg, Int32.sub_eq_add_neg, Int32.add_assoc, Int32.add_assoc, show (-1 : Int32) + (-4 + 5) = 0 from by decide, Int32.add_zero]
        rw [this, e]
        exact zIr_add 5 j
      refine ⟨?_, e2⟩
      rw [e2, zIr_lt (c := 0) (by decide) (by omega)]
      exact Nat.not_lt_zero _
    have half : (x < 0 ∨ ∃ k, k < 2147483648 ∧ x = zI k ∧ 4 < k) → (if (x - 1) - 4 < 0 then (Q (some (.int (-1))) (sM mo G I J)) else (if 4 ≤ (x - 1) - 4 then (Q (some (.int (-1))) (sM mo G I J)) else (if I 68 3 ≤ (x - 1) - 4 then (Q (some (.int (-1))) (sM mo G I J)) else (vp_in ((x - 1) - 4) 4 ∧ (Q (some (.int (I 70 (((x - 1) - 4).toNatClampNeg)))) (sM mo G I J)))))) := by
      intro hx
      by_cases n1 : (x - 1) - 4 < 0
      · rw [if_pos n1]
        rcases hx with hx | ⟨k, hk, rfl, k4⟩
        · rw [if_pos (Or.inl hx)] at hQ; exact hQ
        · exfalso
          rw [show zI k - 1 = zI (k - 1) from zIr_sub (c := 1) (by show 1 ≤ k; omega), show zI (k - 1) - 4 = zI (k - 1 - 4) from zIr_sub (c := 4) (by show 4 ≤ k - 1; omega), zIr_lt (c := 0) (by decide) (by omega)] at n1
          exact absurd n1 (Nat.not_lt_zero _)
      · rw [if_neg n1]
        obtain ⟨j, hj, ej⟩ := zI_of n1
        rw [ej]
        by_cases n2 : 4 ≤ j
        · rw [if_pos (by rw [zIl_le (c := 4) (by decide) hj]; exact n2)]
          rcases hx with hx | ⟨k, hk, rfl, k4⟩
          · rw [if_pos (Or.inl hx)] at hQ; exact hQ
          · have ek : k - 1 - 4 = j := by
              rw [show zI k - 1 = zI (k - 1) from zIr_sub (c := 1) (by show 1 ≤ k; omega), show zI (k - 1) - 4 = zI (k - 1 - 4) from zIr_sub (c := 4) (by show 4 ≤ k - 1; omega), zI_eq (by omega) hj] at ej
              exact ej
            rw [if_pos (Or.inr (by rw [zIl_lt (c := 8) (by decide) hk]; show 8 < k; omega))] at hQ
            exact hQ
        · have fx := far j ej (by omega)
          rw [if_neg (by rw [zIl_le (c := 4) (by decide) hj]; exact n2), h3]
          rw [fx.2] at hQ
          rw [if_neg (by rw [zIr_lt (c := 0) (by decide) (by omega), zIl_lt (c := 8) (by decide) (by omega)]; show ¬ (j + 5 < 0 ∨ 8 < j + 5); omega), zI_cn (by omega), if_neg (by omega), show j + 5 - 5 = j from by omega] at hQ
          by_cases n3 : j < len
          · rw [if_pos n3] at hQ
            rw [if_neg (by rw [zI_le (by omega) (by omega)]; omega), zI_vp (by omega), zI_cn (by omega), (hr j n3).2]
            exact ⟨by omega, hQ⟩
          · rw [if_neg n3] at hQ
            rw [if_pos (by rw [zI_le (by omega) (by omega)]; omega)]
            exact hQ
    by_cases n1 : x < 1
    · rw [if_pos n1]
      refine half (Or.inl ?_)
      by_cases hx : x < 0
      · exact hx
      · exfalso
        obtain ⟨k, hk, rfl⟩ := zI_of hx
        rw [zIr_lt (c := 1) (by decide) hk] at n1
        have n1' : k < 1 := n1
        exact g0 (by rw [show k = 0 from by omega]; rfl)
    · rw [if_neg n1]
      obtain ⟨k, hk, rfl⟩ := zI_of (show ¬ x < 0 from fun e => n1 (by
        rw [Int32.lt_iff_toInt_lt] at e ⊢
        have e0 : (0 : Int32).toInt = 0 := by decide
        have e1 : (1 : Int32).toInt = 1 := by decide
        omega))
      have k1 : 1 ≤ k := by
        rw [zIr_lt (c := 1) (by decide) hk] at n1
        have n1' : ¬ k < 1 := n1
        omega
      by_cases n2 : 4 < k
      · rw [if_pos (by rw [zIl_lt (c := 4) (by decide) hk]; exact n2)]
        exact half (Or.inr ⟨k, hk, rfl, n2⟩)
      · rw [if_neg (by rw [zIl_lt (c := 4) (by decide) hk]; exact n2), h3]
        rw [if_neg (by rw [zIr_lt (c := 0) (by decide) (by omega), zIl_lt (c := 8) (by decide) (by omega)]; show ¬ (k < 0 ∨ 8 < k); omega), zI_cn hk, if_pos (by omega)] at hQ
        by_cases n3 : k ≤ len
        · rw [if_pos n3] at hQ
          rw [if_neg (by rw [zI_lt (by omega) (by omega)]; omega), show zI k - 1 = zI (k - 1) from zIr_sub (c := 1) (by show 1 ≤ k; omega), zI_vp (by omega), zI_cn (by omega), (hr (k - 1) (by omega)).1]
          exact ⟨by omega, hQ⟩
        · rw [if_neg n3] at hQ
          rw [if_pos (by rw [zI_lt (by omega) (by omega)]; omega)]
          exact hQ
theorem m_swap {n m : Nat} {pr : Int32} {r4 r5 r12 W : Nat → Int32} (hb : basM n m pr r4 r5 r12 W I) (x : Int32) (i8 : vf_Model_isIn x 0 8) (hQ : ∀ K len M L, Fr I K → rgR n r4 W pr len M L → Q (some (.int (swV len M L x))) (sM mo G K J)) :
    sm_wp X 287 0 [some (.ref 81), some (.int x), none, none] [] (sM mo G I J) Q := by
  have f0 : Fr I (up2 I 81 2 0) := Fr_m (Fr_r I) rfl 0
  -- there is always an answer
  have fin5 : ∀ K, Fr I K → (∀ N, 2 ≤ N → N ≤ 4 → rgN n r4 W pr N) → ¬ x < 0 → ¬ 8 < x → (if ¬ x = 0 then (Q (some (.int (-1))) (sM mo G K J)) else (Q (some (.int 0)) (sM mo G K J))) := by
    intro K fK hno x0 x8
    have q := hQ K 0 (fun _ => 0) (fun _ => 0) fK (Or.inl ⟨rfl, hno⟩)
    unfold swV at q
    by_cases g0 : x = 0
    · rw [if_pos g0] at q
      rw [if_neg (fun e => e g0)]
      exact q
    · rw [if_neg g0, if_neg (fun e => e.elim x0 x8)] at q
      rw [if_pos g0]
      obtain ⟨k, hk, rfl⟩ := zI_of x0
      have k0 : ¬ k = 0 := fun e => g0 (by rw [e]; rfl)
      rw [zI_cn hk] at q
      by_cases g2 : k < 5
      · rw [if_pos g2, if_neg (by omega)] at q; exact q
      · rw [if_neg g2, if_neg (by omega)] at q; exact q
  have loop : ¬ x < 0 → ¬ 8 < x → ∀ d N, N + d = 5 → 2 ≤ N → (∀ N', 2 ≤ N' → N' < N → rgN n r4 W pr N') → ∀ K, Fr I K → sm_wp X 287 19 [some (.ref 81), some (.int x), some (.int (zI N)), none] [] (sM mo G K J) Q := by
    intro x0 x8 d
    induction d with
    | zero =>
      intro N hN hN2 hno K fK
      have : N = 5 := by omega
      subst this
      rw [lp_287_19, if_pos (by decide), if_neg (fun e => e rfl)]
      exact fin5 K fK (fun N' a b => hno N' a (by omega)) x0 x8
    | succ d ih =>
      intro N hN hN2 hno K fK
      obtain ⟨⟨k1, k2, k3, k4, k5⟩, kp, ⟨e1, e2, e3, e4⟩, -, -, -, e5, -⟩ := basM_fr hb fK
      have frm : ∀ r q, Fr I (mgK K r q) := fun r q => Fr_w (Fr_w fK rfl (by decide) (by decide) (by decide) r) rfl (by decide) (by decide) (by decide) q
      rw [lp_287_19, if_neg (by rw [zIl_le (c := 5) (by decide) (by omega)]; show ¬ 5 ≤ N; omega)]
      refine ct_288 (I := K) (n := n) (m := m) (N := N) (pr := pr) k1 k2 k3 k4 k5 kp (by rw [e4]; exact e5) (by omega) hN2 ?_ ?_
      · intro hN0 r q
        rw [e1, e4] at hN0
        simp only [tl_some]
        rw [lp_287_29, if_neg (fun e => e rfl), show zI N + 1 = zI (N + 1) from zIr_add 1 N]
        refine ih (N + 1) (by omega) (by omega) (fun N' a b => ?_) _ (frm r q)
        by_cases e : N' = N
        · rw [e]; exact hN0
        · exact hno N' a (by omega)
      · intro M L r q hr hF
        rw [e1, e4] at hF
        have qq := hQ _ N M L (frm r q) (Or.inr ⟨hN2, by omega, hno, hF⟩)
        unfold swV at qq
        simp only [tl_some]
        rw [lp_287_29, if_pos (by decide), if_pos (by rw [zIr_eq (c := 5) (by decide) (by omega)]; show ¬ N = 5; omega)]
        by_cases g0 : x = 0
        · rw [if_pos g0] at qq
          rw [if_neg (fun e => e g0)]
          exact qq
        · rw [if_neg g0, if_neg (fun e => e.elim x0 x8)] at qq
          rw [if_pos g0]
          obtain ⟨k, hk, rfl⟩ := zI_of x0
          have kk0 : ¬ k = 0 := fun e => g0 (by rw [e]; rfl)
          have k8 : k ≤ 8 := by
            rw [zIl_lt (c := 8) (by decide) hk] at x8
            have x8' : ¬ 8 < k := x8
            omega
          rw [zI_cn hk] at qq
          by_cases g2 : k < 5
          · rw [if_pos g2] at qq
            rw [if_neg (by rw [zIl_le (c := 5) (by decide) (by omega)]; show ¬ 5 ≤ k; omega), show zI k - 1 = zI (k - 1) from zIr_sub (c := 1) (by show 1 ≤ k; omega)]
            by_cases g3 : k ≤ N
            · rw [if_pos g3] at qq
              rw [if_pos (by rw [zI_lt (by omega) (by omega)]; omega), zI_vp (by omega), zI_cn (by omega), mgK_3, (hr (k - 1) (by omega)).1]
              exact ⟨by omega, qq⟩
            · rw [if_neg g3] at qq
              rw [if_neg (by rw [zI_lt (by omega) (by omega)]; omega)]
              exact qq
          · rw [if_neg g2] at qq
            rw [if_pos (by rw [zIl_le (c := 5) (by decide) (by omega)]; show 5 ≤ k; omega), show zI k - 5 = zI (k - 5) from zIr_sub (c := 5) (by show 5 ≤ k; omega)]
            by_cases g3 : k - 5 < N
            · rw [if_pos g3] at qq
              rw [if_pos (by rw [zI_lt (by omega) (by omega)]; omega), zI_vp (by omega), zI_cn (by omega), mgK_4, (hr (k - 5) g3).2]
              exact ⟨by omega, qq⟩
            · rw [if_neg g3] at qq
              rw [if_neg (by rw [zI_lt (by omega) (by omega)]; omega)]
              exact qq
  rw [lp_287_0, if_pos i8]
  exact loop i8.1 i8.2 3 2 (by omega) (by omega) (fun N' a b => absurd b (by omega)) _ f0
def sx68 (c : Nat) : Bool := decide (68 ≤ c) && decide (c ≤ 70)
theorem inv_x68 {K : Nat → Nat → Int32} {n m : Nat} (e : ∀ c, sx68 c = false → K c = I c) (h : inv c mo G I J) (hc : c ≤ 1000) (hb : bas n m I)
    (hC0 : ∀ ch, ch < 100000000 → I 1 4 = zI ch → ivC ch n m (I 1 2) (I 4) (I 5) (I 12) (I 13) mo (I 48) (I 49) (I 50) (I 143) (I 68) (I 69) (I 70) → ivC ch n m (I 1 2) (I 4) (I 5) (I 12) (I 13) mo (I 48) (I 49) (I 50) (I 143) (K 68) (K 69) (K 70)) : inv c mo G K J := by
  obtain ⟨n', m', t', p', q', r', ch', ln', hN', hE, hV, hY, hG, hK, hP, hS, hA, hT, hF, hB, hC', hD', hD2, hX, hZ⟩ := h
  have en : n = n' := by
    have := hb.1.symm.trans hN'.1
    rw [zI_eq (by have := hb.2.1; omega) (by have := hN'.2.2.1; omega)] at this
    exact this
  have em : m = m' := by
    have := hb.2.2.1.symm.trans hN'.2.2.2.1
    rw [zI_eq (by have := hb.2.2.2.1; omega) (by have := hN'.2.2.2.2.2.1; omega)] at this
    exact this
  subst en; subst em
  have t3 := hN'.2.2.2.2.2.2.2.2.2.2
  have cb : ch' < 100000000 := by have := hK.2; omega
  refine ⟨n, m, t', p', q', r', ch', ln', ?_⟩
  simp (decide := true) only [e]
  exact ⟨hN', hE, hV, hY, hG, hK, hP, hS, hA, hT, hF, hB, hC0 ch' cb hK.1 hC', hD', hD2, hX, hZ⟩
theorem bas_68 {K : Nat → Nat → Int32} {n m : Nat} (e : ∀ c, sx68 c = false → K c = I c) (h : bas n m I) : bas n m K := by
  unfold bas
  simp (decide := true) only [e]
  exact h
theorem op_swap (h : inv c mo G I J) (hc : c ≤ 1000) (x : Int32) : Agr X 194 [some (.ref 0), some (.int x)] 287 [some (.ref 81), some (.int x), none, none] (sM mo G I J) (Inv (c + 1)) := by
  obtain ⟨n, m, hb⟩ := inv_bas h
  unfold Agr
  rw [lp_194_0]
  have hb0 := hb
  obtain ⟨b1, b2, b3, b4, b5, -, b7, b8, b9, b10, b11⟩ := hb
  have hca : I 68 4 = I 1 4 → ∃ len M L, I 68 3 = zI len ∧ (∀ i, i < len → I 69 i = zI (M i) ∧ I 70 i = zI (L i)) ∧ rgR n (I 4) (I 13) (I 1 2) len M L := by
    intro e1
    obtain ⟨n', m', t', p', q', r', ch', ln', hN', hE, hV, hY, hG, hK, hP, hS, hA, hT, hF, hB, hC', -⟩ := h
    have en : n = n' := by
      have := b1.symm.trans hN'.1
      rw [zI_eq (by omega) (by have := hN'.2.2.1; omega)] at this
      exact this
    subst en
    have t3 := hN'.2.2.2.2.2.2.2.2.2.2
    exact hC'.2.2.2 (by have := hK.2; omega) (by rw [e1, hK.1])
  refine ct_119 (n := n) (m := m) (pr := I 1 2) b1 b2 b3 b4 rfl b5 b10 hca ?_
  intro K len M L f k4 k3 hr hR
  simp only [tl_none]
  have e : ∀ c, sx68 c = false → K c = I c := fun c hc => by
    unfold sx68 at hc
    simp only [Bool.and_eq_false_iff, decide_eq_false_iff_not] at hc
    exact f c (by omega) (by omega) (by omega)
  have hK : inv c mo G K J := inv_x68 e h hc hb0 (fun ch cb hk hC => ⟨hC.1, Or.inr ⟨ch, Nat.le_refl _, k4.trans hk⟩, hC.2.2.1, fun _ _ => ⟨len, M, L, k3, hr, hR⟩⟩)
  have bK : bas n m K := bas_68 e hb0
  refine h_tell (rgR_4 hR) k3 hr x ?_
  by_cases i8 : vf_Model_isIn x 0 8
  · refine m_swap (bas_M bK) x i8 (fun N len' M' L' fN hR' => ?_)
    rw [e 4 rfl, e 13 rfl, e 1 rfl] at hR'
    have u := rgR_u hR hR'
    obtain ⟨rfl, u2, u3⟩ := u
    exact ⟨by rw [swV_e u2 u3], inv_fr hK fN rfl rfl⟩
  · rw [lp_287_0, if_neg i8]
    refine ⟨?_, inv_t 0 hK⟩
    unfold swV
    rw [if_neg (fun e => i8 (by rw [e]; exact ⟨by decide, by decide⟩)), if_pos (by
      by_cases e : x < 0
      · exact Or.inl e
      · right
        by_cases e2 : 8 < x
        · exact e2
        · exact absurd ⟨e, e2⟩ i8)]
end Y3
