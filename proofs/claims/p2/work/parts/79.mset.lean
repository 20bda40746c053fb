/-! The reference: a row by its number, fair, stable. -/
theorem zI_div {a b : Nat} (ha : a < 2147483648) (hb : b < 2147483648) : zI a / zI b = zI (a / b) := by
  have h1 : a / b ≤ a := Nat.div_le_self a b
  apply Int32.toInt_inj.mp
  rw [Int32.toInt_div, zI_ti ha, zI_ti hb, zI_ti (by omega)]
  rw [show (a : Int).tdiv (b : Int) = ((a / b : Nat) : Int) from rfl]
  generalize a / b = c at *
  exact Int.bmod_eq_of_le (by omega) (by omega)
theorem zI_rem {a b : Nat} (ha : a < 2147483648) (hb : b < 2147483648) : zI a - zI a / zI b * zI b = zI (a % b) := by
  have h : a / b * b ≤ a := Nat.div_mul_le_self a b
  rw [zI_div ha hb, zI_mul, zI_sub h]
  congr 1
  have := Nat.div_add_mod a b
  rw [Nat.mul_comm] at this
  omega
def FrR (I K : Nat → Nat → Int32) : Prop := ∀ c, c ≠ 128 → c ≠ 129 → K c = I c
section U2
variable {X : (Nat → Int32) × Nat} {mo : Bool} {G : Nat × Nat} {I : Nat → Nat → Int32} {J : Nat → Nat → Int64} {Q : Option Value → sm_M → Prop}
theorem mr_c {n : Nat} {pr : Int32} {ch : Nat → Int32} {r4 r5 : Nat → Int32} (h12 : n ≤ 12) (hW : okW (I 91)) (h8 : dK n r5 pr ≤ 8) (hI : MI n r4 r5 (I 91) pr (I 81) (I 123) (I 124) (I 125) (I 126) (I 127)) (hch : ∀ j, j < dK n r5 pr → ∃ s, s < 6 ∧ ch j = zI s)
    (hQ : ∀ K, FrR I K → (∀ j, j < dK n r5 pr → K 129 j = ch j) → (∀ s, s < 6 → K 128 s = zI (gtC n r4 r5 (I 91) pr ch s)) → Q none (sM mo G K J)) :
    ∀ d k, k + d = dK n r5 pr → ∀ K, FrR I K → (∀ j, j < dK n r5 pr → K 129 j = ch j) → (∀ s, s < 6 → K 128 s = zI (sur n r4 r5 (I 91) pr s + gsm n r5 (I 91) pr ch k s)) → sm_wp X 278 79 [some (.ref 81), none, none, some (.int (zI k))] [] (sM mo G K J) Q := by
  intro d
  induction d with
  | zero =>
    intro k hk K f a b
    have : k = dK n r5 pr := by omega
    subst this
    rw [lp_278_79, f 81 (by decide) (by decide), hI.1, if_pos (by rw [zI_le (by omega) (by omega)]; exact Nat.le_refl _)]
    refine hQ K f a (fun s hs => ?_)
    rw [b s hs]
    unfold gtC
    rw [Nat.min_eq_right h8]
  | succ d ih =>
    intro k hk K f a b
    have kD : k < dK n r5 pr := by omega
    obtain ⟨t, ht, et⟩ := hch k kD
    have dl12 : dl n r5 pr k < 12 := by
      have := (nt_p (P := stD r5 pr) (n := n) kD).2.1
      show nt _ _ _ < 12
      omega
    have wz : I 91 (12 * t + dl n r5 pr k) = zI (ww (I 91) t (dl n r5 pr k)) := by
      obtain ⟨w, hw, e⟩ := hW (12 * t + dl n r5 pr k)
      unfold ww
      rw [e, zI_cn (by omega)]
    rw [lp_278_79, f 81 (by decide) (by decide), hI.1, if_neg (by rw [zI_le (by omega) (by omega)]; omega), zI_vp (by omega), zI_vp (by omega), zI_cn (by omega), a k kD, et, f 123 (by decide) (by decide), hI.2.1 k kD, zI_vp (by omega), zI_cn (by omega), show (12 : Int32) * zI t = zI (12 * t) from zIl_mul 12 t, zI_add, zI_vp (by omega), zI_cn (by omega), f 91 (by decide) (by decide), wz, b t ht, zI_add, show zI k + 1 = zI (k + 1) from zIr_add 1 k]
    refine ⟨by omega, ht, by omega, by omega, ih (k + 1) (by omega) _ (fun c p q => ?_) (fun j hj => ?_) (fun s hs => ?_)⟩
    · rw [up2_rn _ _ _ _ _ p]; exact f c p q
    · rw [up2_rn _ _ _ _ _ (by decide)]; exact a j hj
    · rw [up2_ra, va_ap, gsm_s]
      by_cases e : s = t
      · subst e
        rw [if_pos rfl, if_pos et, Nat.add_assoc]
      · rw [if_neg e, if_neg (by rw [et, zI_eq (by omega) (by omega)]; omega)]
        exact b s hs
theorem mr_b {n : Nat} {pr : Int32} {ch : Nat → Int32} {r4 r5 : Nat → Int32} (hI : MI n r4 r5 (I 91) pr (I 81) (I 123) (I 124) (I 125) (I 126) (I 127)) {K0 : Nat → Nat → Int32} (fK : FrR I K0) (hg : ∀ j, j < dK n r5 pr → K0 129 j = ch j) {x : Nat} (lpx : ∀ K, (∀ c, c ≠ 128 → K c = K0 c) → (∀ s, s < 6 → K 128 s = zI (sur n r4 r5 (I 91) pr s)) → sm_wp X 278 79 [some (.ref 81), none, none, some (.int (zI 0))] [] (sM mo G K J) Q) :
    ∀ d s, s + d = 6 → ∀ K, (∀ c, c ≠ 128 → K c = K0 c) → (∀ t, t < s → K 128 t = zI (sur n r4 r5 (I 91) pr t)) → sm_wp X 278 53 [some (.ref 81), none, none, some (.int (zI s))] [] (sM mo G K J) Q := by
  intro d
  induction d with
  | zero =>
    intro s hs K f a
    have : s = 6 := by omega
    subst this
    rw [lp_278_53, if_pos (by decide)]
    exact lpx K f a
  | succ d ih =>
    intro s hs K f a
    rw [lp_278_53, if_neg (by rw [zIl_le (c := 6) (by decide) (by omega)]; show ¬ 6 ≤ s; omega), zI_vp (by omega), zI_cn (by omega), show zI s + 1 = zI (s + 1) from zIr_add 1 s]
    refine ⟨by omega, ih (s + 1) (by omega) _ (fun c p => by rw [up2_rn _ _ _ _ _ p]; exact f c p) (fun t ht => ?_)⟩
    rw [up2_ra, va_ap]
    by_cases e : t = s
    · subst e
      rw [if_pos rfl, f 126 (by decide), fK 126 (by decide) (by decide), (hI.2.2.2.2 t (by omega)).1]
    · rw [if_neg e]; exact a t (by omega)
theorem ct_278 {n v : Nat} {pr : Int32} {r4 r5 : Nat → Int32} (h12 : n ≤ 12) (hW : okW (I 91)) (h3 : ∀ l, pc6 (r5 l) ≤ 3) (h8 : dK n r5 pr ≤ 8) (hv : v < 1000000) (hI : MI n r4 r5 (I 91) pr (I 81) (I 123) (I 124) (I 125) (I 126) (I 127))
    (hQ : ∀ K, FrR I K → (∀ j, j < dK n r5 pr → K 129 j = svC n r5 pr v j) → (∀ s, s < 6 → K 128 s = zI (gv n r4 r5 (I 91) pr v s)) → Q none (sM mo G K J)) :
    sm_wp X 278 0 [some (.ref 81), some (.int (zI v)), none, none] [] (sM mo G I J) Q := by
  have key : ∀ k, k ≤ dK n r5 pr → ∀ K, FrR I K → (∀ j, k ≤ j → j < dK n r5 pr → K 129 j = svC n r5 pr v j) → sm_wp X 278 9 [some (.ref 81), none, some (.int (zI (v / rp (rd n r5 pr) (dK n r5 pr) k))), some (.int (zI k + (-1)))] [] (sM mo G K J) Q := by
    intro k
    induction k with
    | zero =>
      intro _ K f a
      rw [lp_278_9, if_pos (by decide)]
      have a' : ∀ j, j < dK n r5 pr → K 129 j = svC n r5 pr v j := fun j hj => a j (Nat.zero_le _) hj
      refine mr_b (ch := svC n r5 pr v) hI f a' (x := 0) ?_ 6 0 (by omega) K (fun _ _ => rfl) (fun t ht => absurd ht (Nat.not_lt_zero _))
      intro L fL l128
      refine mr_c (ch := svC n r5 pr v) h12 hW h8 hI (fun j hj => ⟨_, (sv_p v hj).2.1, rfl⟩) hQ (dK n r5 pr) 0 (by omega) L (fun c p q => (fL c p).trans (f c p q)) (fun j hj => by rw [fL 129 (by decide)]; exact a' j hj) (fun s hs => l128 s hs)
    | succ k ih =>
      intro hk K f a
      have kD : k < dK n r5 pr := by omega
      have r2 := rd_2 kD
      have r3 := rd_3 (n := n) (pr := pr) h3 k
      have q1 := hI.2.2.1 k (by omega) kD
      have vb : v / rp (rd n r5 pr) (dK n r5 pr) (k + 1) ≤ v := Nat.div_le_self _ _
      have dgl := dg_lt (c := rd n r5 pr) (K := dK n r5 pr) v (show 0 < rd n r5 pr k by omega)
      rw [zI_p1, lp_278_9, if_neg (by rw [zIr_lt (c := 0) (by decide) (by omega)]; exact Nat.not_lt_zero _), zI_vp (by omega), zI_cn (by omega), f 125 (by decide) (by decide), q1.1, zI_rem (by omega) (by omega), zI_div (by omega) (by omega), Nat.div_div_eq_div_mul, ← rp_s _ kD, show (3 : Int32) * zI k = zI (3 * k) from zIl_mul 3 k, zI_add, show v / rp (rd n r5 pr) (dK n r5 pr) (k + 1) % rd n r5 pr k = dg (rd n r5 pr) (dK n r5 pr) v k from rfl, zI_vp (by omega), zI_cn (by omega), f 124 (by decide) (by decide), q1.2 _ dgl]
      refine ⟨by omega, by rw [zIr_eq (c := 0) (by decide) (by omega)]; show ¬ rd n r5 pr k = 0; omega, by omega, ih (by omega) _ (fun c p q => by rw [up2_rn _ _ _ _ _ q]; exact f c p q) (fun j h1 h2 => ?_)⟩
      rw [up2_ra, va_ap]
      by_cases e : j = k
      · subst e; rw [if_pos rfl]; rfl
      · rw [if_neg e]; exact a j (by omega) h2
  rw [lp_278_0, hI.1, show zI (dK n r5 pr) - 1 = zI (dK n r5 pr) + (-1) from Int32.sub_eq_add_neg _ _]
  have := key (dK n r5 pr) (Nat.le_refl _) I (fun _ _ _ => rfl) (fun j h1 h2 => absurd h2 (by omega))
  rw [rp_K, Nat.div_one] at this
  exact this
theorem ct_279 {m : Nat} {pr : Int32} {g : Nat → Nat} (hm : I 81 10 = zI m) (h6m : m ≤ 6) (hpr : I 81 15 = pr) (hp : ∀ k, m ≤ k → bt pr k = false) (hB : ∀ j, ∃ w, w ≤ 999 ∧ I 92 j = zI w) (hg : ∀ s, s < 6 → I 128 s = zI (g s)) (gb : ∀ s, g s ≤ 1188)
    (hQ : ∀ z : Int32, (z = 1 ∧ frC m (I 92) pr g ∨ z = 0 ∧ ¬ frC m (I 92) pr g) → Q (some (.int z)) (sM mo G I J)) : sm_wp X 279 0 [some (.ref 81), none] [] (sM mo G I J) Q := by
  have key : ∀ d s, s + d = m → (∀ t, t < s → bt pr t = true → bdN m (I 92) t ≤ g t) → sm_wp X 279 2 [some (.ref 81), some (.int (zI s))] [] (sM mo G I J) Q := by
    intro d
    induction d with
    | zero =>
      intro s hs h
      rw [lp_279_2, if_pos (by rw [hm, zI_le (by omega) (by omega)]; omega)]
      refine hQ 1 (Or.inl ⟨rfl, fun t _ ht2 => h t ?_ ht2⟩)
      rcases Nat.lt_or_ge t m with k | k
      · omega
      · rw [hp t k] at ht2; cases ht2
    | succ d ih =>
      intro s hs h
      have sm' : s < m := by omega
      have ps : vf_Model_isPresent I (zI s) ↔ bt pr s = true := by
        rw [mPres_vp hm h6m, zI_sIn (by omega) (by omega), zI_cn (by omega), hpr]
        exact ⟨fun e => e.2, fun e => ⟨sm', e⟩⟩
      rw [lp_279_2, if_neg (by rw [hm, zI_le (by omega) (by omega)]; omega), show zI s + 1 = zI (s + 1) from zIr_add 1 s]
      by_cases c1 : bt pr s = true
      · obtain ⟨w, hw, ew⟩ := hB s
        have eb : bdN m (I 92) s = w := by unfold bdN; rw [if_pos sm', ew, zI_cn (by omega)]
        have := gb s
        rw [if_neg (fun e => e (ps.mpr c1)), zI_vp (by omega), zI_cn (by omega), hg s (by omega), ew]
        refine ⟨by omega, ?_⟩
        by_cases c2 : w ≤ g s
        · rw [if_pos (by rw [zI_le (by omega) (by omega)]; exact c2)]
          refine ih (s + 1) (by omega) (fun t ht h1 => ?_)
          by_cases e : t = s
          · subst e; rw [eb]; exact c2
          · exact h t (by omega) h1
        · rw [if_neg (by rw [zI_le (by omega) (by omega)]; exact c2)]
          refine hQ 0 (Or.inr ⟨rfl, fun e => c2 ?_⟩)
          have := e s (by omega) c1
          rw [eb] at this
          exact this
      · rw [if_pos (fun e => c1 (ps.mp e))]
        refine ih (s + 1) (by omega) (fun t ht h1 => ?_)
        by_cases e : t = s
        · subst e; exact absurd h1 c1
        · exact h t (by omega) h1
  rw [lp_279_0]
  exact key m 0 (by omega) (fun t ht => absurd ht (Nat.not_lt_zero _))
theorem ct_280 {n m : Nat} {pr : Int32} {g : Nat → Nat} {r4 : Nat → Int32} (h12 : n ≤ 12) (hm : I 81 10 = zI m) (h6m : m ≤ 6) (hpr : I 81 15 = pr) (hp : ∀ k, m ≤ k → bt pr k = false) (hW : okW (I 91)) (hg : ∀ s, s < 6 → I 128 s = zI (g s)) (gb : ∀ s, g s ≤ 1188) (hnow : ∀ s, s < 6 → I 127 s = zI (nowN r4 (I 91) n s)) (hlv : ∀ c d, c < m → d < m → lvP r4 (I 91) pr (I 130) n c d)
    (hQ : ∀ z : Int32, (z = 1 ∧ stbC n r4 (I 91) pr g ∨ z = 0 ∧ ¬ stbC n r4 (I 91) pr g) → Q (some (.int z)) (sM mo G I J)) : sm_wp X 280 0 [some (.ref 81), none, none] [] (sM mo G I J) Q := by
  have pm : ∀ t, bt pr t = true → t < m := fun t ht => by
    rcases Nat.lt_or_ge t m with k | k
    · exact k
    · rw [hp t k] at ht; cases ht
  have key : ∀ d a, a + d = m → (∀ t, t < a → bt pr t = true → nowN r4 (I 91) n t ≤ g t ∧ ∀ b, b < m → t ≠ b → bt pr b = true → ¬ cB r4 (I 91) n t b (g t) (g b)) → sm_wp X 280 2 [some (.ref 81), some (.int (zI a)), none] [] (sM mo G I J) Q := by
    intro d
    induction d with
    | zero =>
      intro a ha h
      rw [lp_280_2, if_pos (by rw [hm, zI_le (by omega) (by omega)]; omega)]
      exact hQ 1 (Or.inl ⟨rfl, fun t _ ht => (h t (by have := pm t ht; omega) ht).1, fun c e hce he hc1 he1 => (h c (by have := pm c hc1; omega) hc1).2 e (pm e he1) (by omega) he1⟩)
    | succ d ih =>
      intro a ha h
      have am : a < m := by omega
      have ps : vf_Model_isPresent I (zI a) ↔ bt pr a = true := by
        rw [mPres_vp hm h6m, zI_sIn (by omega) (by omega), zI_cn (by omega), hpr]
        exact ⟨fun e => e.2, fun e => ⟨am, e⟩⟩
      rw [lp_280_2, if_neg (by rw [hm, zI_le (by omega) (by omega)]; omega)]
      by_cases c1 : bt pr a = true
      · have ga := gb a
        have nb := nowN_b (r4 := r4) hW h12 a
        rw [if_pos (ps.mpr c1), zI_vp (by omega), zI_cn (by omega), hg a (by omega), hnow a (by omega)]
        refine ⟨by omega, ?_⟩
        by_cases c2 : nowN r4 (I 91) n a ≤ g a
        · rw [if_pos (by rw [zI_le (by omega) (by omega)]; exact c2)]
          have inner : ∀ d b, b + d = m → (∀ e, e < b → a ≠ e → bt pr e = true → ¬ cB r4 (I 91) n a e (g a) (g e)) → sm_wp X 280 40 [some (.ref 81), some (.int (zI a)), some (.int (zI b))] [] (sM mo G I J) Q := by
            intro d
            induction d with
            | zero =>
              intro b hb hh
              rw [lp_280_40, hm, if_pos (by rw [zI_le (by omega) (by omega)]; omega), show zI a + 1 = zI (a + 1) from zIr_add 1 a]
              refine ih (a + 1) (by omega) (fun t ht h1 => ?_)
              by_cases e : t = a
              · subst e; exact ⟨c2, fun b' hb' => hh b' (by omega)⟩
              · exact h t (by omega) h1
            | succ d ih2 =>
              intro b hb hh
              have bm : b < m := by omega
              have gbb := gb b
              have lv := rv_lt (by decide) (hlv a b am bm (g a) (by omega)) (show g b < 1000000 by omega)
              rw [lp_280_40, hm, if_neg (by rw [zI_le (by omega) (by omega)]; omega), zI_vp (by omega), zI_cn (by omega), hg a (by omega), if_neg (by rw [zIl_le (c := 1200) (by decide) (by omega)]; show ¬ 1200 ≤ g a; omega), show (6 : Int32) * zI a = zI (6 * a) from zIl_mul 6 a, zI_add, show (1200 : Int32) * zI (6 * a + b) = zI (1200 * (6 * a + b)) from zIl_mul 1200 _, zI_add, zI_vp (by omega), zI_cn (by omega), zI_vp (by omega), zI_cn (by omega), hg b (by omega), show zI b + 1 = zI (b + 1) from zIr_add 1 b]
              refine ⟨by omega, by omega, by omega, ?_⟩
              by_cases c3 : I 130 (1200 * (6 * a + b) + g a) ≤ zI (g b)
              · rw [if_pos c3]
                refine ih2 (b + 1) (by omega) (fun e he h1 h2 h3 => ?_)
                by_cases ee : e = b
                · subst ee
                  exact lv.mpr ⟨h1, c1, h2, cB_sfp.mp h3⟩ c3
                · exact hh e (by omega) h1 h2 h3
              · rw [if_neg c3]
                obtain ⟨q1, q2, q3, q4⟩ := lv.mp c3
                have cb := cB_sfp.mpr q4
                refine hQ 0 (Or.inr ⟨rfl, fun e => ?_⟩)
                rcases Nat.lt_or_ge a b with k | k
                · exact e.2 a b k (by omega) q2 q3 cb
                · exact e.2 b a (by omega) (by omega) q3 q2 (cB_sym cb)
          exact inner m 0 (by omega) (fun e he => absurd he (Nat.not_lt_zero _))
        · rw [if_neg (by rw [zI_le (by omega) (by omega)]; exact c2)]
          exact hQ 0 (Or.inr ⟨rfl, fun e => c2 (e.1 a (by omega) c1)⟩)
      · rw [if_neg (fun e => c1 (ps.mp e)), show zI a + 1 = zI (a + 1) from zIr_add 1 a]
        refine ih (a + 1) (by omega) (fun t ht h1 => ?_)
        by_cases e : t = a
        · subst e; exact absurd h1 c1
        · exact h t (by omega) h1
  rw [lp_280_0]
  exact key m 0 (by omega) (fun t ht => absurd ht (Nat.not_lt_zero _))
end U2
