/-! Settlements by their numbers; the next one; is it stable. -/
theorem cN_imp {P R : Nat → Bool} {n : Nat} (h : ∀ l, l < n → P l = true → R l = true) : cN P n ≤ cN R n := by
  induction n with
  | zero => exact Nat.le_refl _
  | succ n ih =>
    have i := ih (fun l hl => h l (by omega))
    rw [cN_s, cN_s]
    by_cases g : P n = true
    · rw [if_pos g, if_pos (h n (by omega) g)]; omega
    · rw [if_neg g]; split <;> omega
theorem rd_2 {n : Nat} {r5 : Nat → Int32} {pr : Int32} {j : Nat} (h : j < dK n r5 pr) : 2 ≤ rd n r5 pr j := by
  have := (nt_p (P := stD r5 pr) (n := n) h).1
  unfold stD at this
  rw [decide_eq_true_iff] at this
  exact this
theorem rd_3 {n : Nat} {r5 : Nat → Int32} {pr : Int32} (h : ∀ l, pc6 (r5 l) ≤ 3) (j : Nat) : rd n r5 pr j ≤ 3 := by
  refine Nat.le_trans ?_ (h (dl n r5 pr j))
  refine cN_imp (P := bt (clB n r5 pr j)) (R := bt (r5 (dl n r5 pr j))) (fun l _ e => ?_)
  unfold clB at e
  rw [bt_and, Bool.and_eq_true] at e
  exact e.1
theorem rws_b {n : Nat} {r5 : Nat → Int32} {pr : Int32} (h : ∀ l, pc6 (r5 l) ≤ 3) (h8 : dK n r5 pr ≤ 8) : rws n r5 pr ≤ 6561 := by
  have := rp_le (c := rd n r5 pr) (K := dK n r5 pr) (fun j _ => rd_3 h j) (dK n r5 pr) 0 (by omega)
  refine Nat.le_trans this ?_
  exact Nat.pow_le_pow_right (by decide) h8
theorem rd_pos {n : Nat} {r5 : Nat → Int32} {pr : Int32} : ∀ j, j < dK n r5 pr → 0 < rd n r5 pr j := fun j h => by
  have := rd_2 h
  omega
theorem rws_pos {n : Nat} {r5 : Nat → Int32} {pr : Int32} : 0 < rws n r5 pr := rp_pos rd_pos (dK n r5 pr) 0 (by omega)
theorem sv_p {n : Nat} {r5 : Nat → Int32} {pr : Int32} (v : Nat) {k : Nat} (hk : k < dK n r5 pr) : bt (clB n r5 pr k) (sv n r5 pr v k) = true ∧ sv n r5 pr v k < 6 ∧ cN (bt (clB n r5 pr k)) (sv n r5 pr v k) = dg (rd n r5 pr) (dK n r5 pr) v k := nt_p (dg_lt v (rd_pos k hk))
theorem cB_sym {r4 W : Nat → Int32} {n a b x y : Nat} (h : cB r4 W n a b x y) : cB r4 W n b a y x := by
  obtain ⟨A, h1, h2, h3⟩ := h
  have e : bth r4 n b a = bth r4 n a b := by
    unfold bth
    exact Int32.or_comm _ _
  refine ⟨rst (bth r4 n a b) A, fun l hl => ?_, h3, ?_⟩
  · rw [e]
    by_cases l32 : l < 32
    · rw [bt_rst _ _ l32, Bool.and_eq_true] at hl
      exact hl.1
    · rw [bt_big _ _ (by omega)] at hl
      cases hl
  · rw [e, wA_c (B := A) (fun l hl => ?_)]
    · exact h2
    · rw [bt_rst _ _ (by omega), bt_rst _ _ (by omega)]
      cases c1 : bt A l with
      | false => cases bt (bth r4 n a b) l <;> rfl
      | true => rw [h1 l c1]; rfl
theorem cB_m {r4 W : Nat → Int32} {n a b x y x' y' : Nat} (h : cB r4 W n a b x y) (hx : x' ≤ x) (hy : y' ≤ y) : cB r4 W n a b x' y' := by
  obtain ⟨A, h1, h2, h3⟩ := h
  exact ⟨A, h1, by omega, by omega⟩
theorem cB_b {r4 W : Nat → Int32} {n a b x y : Nat} (hW : okW W) (h : cB r4 W n a b x y) : x < 1188 := by
  obtain ⟨A, h1, h2, h3⟩ := h
  have := wA_b hW a A 12
  omega
def shOK (mo : Bool) (K : Nat → Nat → Int32) (n m : Nat) : Prop := K 48 1 = K 1 4 → mo = true ∧ shT (K 4) (K 13) (K 48 2) (K 49) (K 50) (K 143) n m
def FrH (I K : Nat → Nat → Int32) : Prop := (∀ c, c ≠ 48 → c ≠ 49 → c ≠ 50 → c ≠ 143 → K c = I c) ∧ (K 48 1 = I 48 1 ∨ K 48 1 = I 1 4)
section T3
variable {X : (Nat → Int32) × Nat} {mo : Bool} {G : Nat × Nat} {I : Nat → Nat → Int32} {J : Nat → Nat → Int64} {Q : Option Value → sm_M → Prop}
theorem cs_137 {n m v : Nat} {pr : Int32} (h12 : n ≤ 12) (hW : okW (I 13)) (hB : ∀ j, ∃ w, w ≤ 999 ∧ I 12 j = zI w) (h8 : dK n (I 5) pr ≤ 8) (hv : v < rws n (I 5) pr)
    (h : SI n m (I 4) (I 5) (I 12) (I 13) pr (svC n (I 5) pr v) (I 52) (I 53) (I 54) (I 56) (I 57) (I 58)) (hc : ∀ j, j < dK n (I 5) pr → I 55 j = svC n (I 5) pr v j)
    (hQ1 : v + 1 < rws n (I 5) pr → ∀ K, FrS 52 58 I K → (∀ j, j < dK n (I 5) pr → K 55 j = svC n (I 5) pr (v + 1) j) → SI n m (I 4) (I 5) (I 12) (I 13) pr (svC n (I 5) pr (v + 1)) (K 52) (K 53) (K 54) (K 56) (K 57) (K 58) → Q (some (.int 1)) (sM mo G K J))
    (hQ0 : v + 1 = rws n (I 5) pr → ∀ K ch, FrS 52 58 I K → SI n m (I 4) (I 5) (I 12) (I 13) pr ch (K 52) (K 53) (K 54) (K 56) (K 57) (K 58) → Q (some (.int 0)) (sM mo G K J)) :
    sm_wp X 137 0 [some (.ref 52), none, none] [] (sM mo G I J) Q := by
  have key : ∀ k, k ≤ dK n (I 5) pr → (v + 1) % rp (rd n (I 5) pr) (dK n (I 5) pr) k = 0 → ∀ K ch, FrS 52 58 I K → (∀ j, j < 8 → j < dK n (I 5) pr → K 55 j = ch j) → (∀ j, j < dK n (I 5) pr → ch j = if j < k then svC n (I 5) pr v j else zI (nt (bt (clB n (I 5) pr j)) 6 0)) →
      SI n m (I 4) (I 5) (I 12) (I 13) pr ch (K 52) (K 53) (K 54) (K 56) (K 57) (K 58) → sm_wp X 137 12 [some (.ref 52), some (.int (zI k + (-1))), none] [] (sM mo G K J) Q := by
    intro k
    induction k with
    | zero =>
      intro _ hr K ch f h55 hch hS
      rw [lp_137_12, if_pos (by decide)]
      exact hQ0 (dg_end hr hv) K ch f hS
    | succ k ih =>
      intro hk hr K ch f h55 hch hS
      have k4 : K 4 = I 4 := f.1 4 (by decide)
      have k5 : K 5 = I 5 := f.1 5 (by decide)
      have k12 : K 12 = I 12 := f.1 12 (by decide)
      have k13 : K 13 = I 13 := f.1 13 (by decide)
      have p := sv_p v (show k < dK n (I 5) pr by omega)
      have ck : ch k = zI (sv n (I 5) pr v k) := by rw [hch k (by omega), if_pos (by omega)]; rfl
      have e54 : K 54 k = clB n (I 5) pr k := (hS.2.2.1 k (by omega) (by omega)).2
      rw [zI_p1, lp_137_12, if_neg (by rw [zIr_lt (c := 0) (by decide) (by omega)]; exact Nat.not_lt_zero _), zI_vp (by omega), zI_cn (by omega), h55 k (by omega) (by omega), ck]
      refine ⟨by omega, ?_⟩
      rw [cs_132 (by omega) e54 (show sv n (I 5) pr v k + 1 ≤ 6 by omega) (zIr_add 1 _), cN_p p.1, p.2.2]
      simp only [tl_some]
      rw [lp_137_27]
      unfold nxC
      by_cases g : dg (rd n (I 5) pr) (dK n (I 5) pr) v k + 1 < cN (bt (clB n (I 5) pr k)) 6
      · have np := nt_p g
        rw [if_pos g, if_neg (by rw [zI_m1 (by omega)]; exact id)]
        refine cs_133 (I := K) (n := n) (m := m) (pr := pr) (ch := ch) (by omega) (by rw [k5]; omega) np.2.1 h12 (by rw [k13]; exact hW) (by rw [k12]; exact hB) (by rw [k4, k5, k12, k13]; exact hS) (by rw [k5]; exact h55) (Or.inr ⟨_, p.2.1, ck⟩) ?_
        intro L fL l55 hL
        rw [k5] at l55
        rw [k4, k5, k12, k13] at hL
        simp only [tl_none]
        rw [lp_137_39]
        have e : ∀ j, j < dK n (I 5) pr → va_up ch k (zI (nt (bt (clB n (I 5) pr k)) 6 (dg (rd n (I 5) pr) (dK n (I 5) pr) v k + 1))) j = svC n (I 5) pr (v + 1) j := by
          intro j hj
          rw [va_ap]
          unfold svC sv
          by_cases g1 : j = k
          · subst g1
            rw [if_pos rfl, dg_at rd_pos (by omega) hr g]
          · rw [if_neg g1, hch j hj]
            by_cases g2 : j < k + 1
            · rw [if_pos g2, dg_lo rd_pos (by omega) hr g (show j < k by omega)]
              rfl
            · rw [if_neg g2, dg_hi rd_pos hr (show k < j by omega) hj]
        refine hQ1 (dg_in rd_pos (by omega) hr g hv) L (FrS_t f fL) (fun j hj => by rw [l55 j (by omega) hj]; exact e j hj) (si_ch hL (fun s => ?_))
        unfold gtC
        rw [gsm_c (fun j hj => (e j (Nat.lt_of_lt_of_le hj (Nat.min_le_right _ _))).symm)]
      · rw [if_neg g, if_pos rfl, cs_132 (s := 0) (by omega) e54 (by decide) (by decide)]
        simp only [tl_some]
        have z6 : 0 < cN (bt (clB n (I 5) pr k)) 6 := rd_pos k (by omega)
        have np := nt_p z6
        have nx0 : nxC (clB n (I 5) pr k) (cN (bt (clB n (I 5) pr k)) 0) = zI (nt (bt (clB n (I 5) pr k)) 6 0) := by
          unfold nxC
          rw [show cN (bt (clB n (I 5) pr k)) 0 = 0 from rfl, if_pos z6]
        rw [nx0, lp_137_49]
        refine cs_133 (I := K) (n := n) (m := m) (pr := pr) (ch := ch) (by omega) (by rw [k5]; omega) np.2.1 h12 (by rw [k13]; exact hW) (by rw [k12]; exact hB) (by rw [k4, k5, k12, k13]; exact hS) (by rw [k5]; exact h55) (Or.inr ⟨_, p.2.1, ck⟩) ?_
        intro L fL l55 hL
        rw [k5] at l55
        rw [k4, k5, k12, k13] at hL
        simp only [tl_none]
        rw [lp_137_52]
        refine ih (by omega) (dg_ca rd_pos (by omega) hr g) L _ (FrS_t f fL) l55 (fun j hj => ?_) hL
        rw [va_ap]
        by_cases g1 : j = k
        · subst g1
          rw [if_pos rfl, if_neg (by omega)]
        · rw [if_neg g1, hch j hj]
          by_cases g2 : j < k + 1
          · rw [if_pos g2, if_pos (by omega)]
          · rw [if_neg g2, if_neg (by omega)]
  rw [lp_137_0, h.2.1, if_neg (by rw [zIl_lt (c := 8) (by decide) (by omega)]; show ¬ 8 < dK n (I 5) pr; omega), show zI (dK n (I 5) pr) - 1 = zI (dK n (I 5) pr) + (-1) from Int32.sub_eq_add_neg _ _]
  exact key (dK n (I 5) pr) (Nat.le_refl _) (by rw [rp_K]; exact Nat.mod_one _) I _ FrS_r (fun j _ hj => hc j hj) (fun j hj => by rw [if_pos hj]) h
theorem cs_135 {n m : Nat} {pr : Int32} {ch : Nat → Int32} (hn : I 1 0 = zI n) (h12 : n ≤ 12) (hm : I 1 1 = zI m) (h6 : m ≤ 6) (hp : ∀ k, m ≤ k → bt pr k = false) (hW : okW (I 13)) (hsh : shOK mo I n m)
    (h : SI n m (I 4) (I 5) (I 12) (I 13) pr ch (I 52) (I 53) (I 54) (I 56) (I 57) (I 58))
    (hQ : ∀ mo' K z, FrH I K → shOK mo' K n m → (z = 1 ∧ stbC n (I 4) (I 13) pr (gtC n (I 4) (I 5) (I 13) pr ch) ∨ z = 0 ∧ ¬ stbC n (I 4) (I 13) pr (gtC n (I 4) (I 5) (I 13) pr ch)) → Q (some (.int z)) (sM mo' G K J)) :
    sm_wp X 135 0 [some (.ref 52), none, none, none] [] (sM mo G I J) Q := by
  generalize hg : gtC n (I 4) (I 5) (I 13) pr ch = g at *
  have gb : ∀ s, g s ≤ 1188 := fun s => by rw [← hg]; exact gtC_b hW h12 s
  have g56 : ∀ s, s < 6 → I 56 s = zI (g s) := fun s hs => by rw [← hg]; exact (h.2.2.2.1 s hs).1
  have g57 : ∀ s, s < 6 → I 57 s = zI (nowN (I 4) (I 13) n s) := fun s hs => (h.2.2.2.1 s hs).2.1
  have hpr : I 52 2 = pr := h.1
  have nb := fun s => nowN_b (r4 := I 4) hW h12 s
  -- after the table is made
  have two : ∀ v r49 r50 r143, shT (I 4) (I 13) v r49 r50 r143 n m → (∀ s, s < 6 → bt pr s = true → nowN (I 4) (I 13) n s ≤ g s) → sm_wp X 135 52 [some (.ref 52), some (.int v), some (.int 1), none] [] (sM true G (shM I v r49 r50 r143) J) Q := by
    intro v r49 r50 r143 hT hnow
    have fr : FrH I (shM I v r49 r50 r143) := ⟨fun c a b d e => shM_o ⟨a, b, d, e⟩, Or.inr (by rw [shM_48]; simp (decide := true) only [va_ap, if_false, if_true])⟩
    have ok : shOK true (shM I v r49 r50 r143) n m := fun _ => ⟨rfl, by
      rw [shM_o (c := 4) (by decide), shM_o (c := 13) (by decide), shM_48, shM_49, shM_50, shM_143]
      exact hT⟩
    have o52 : shM I v r49 r50 r143 52 = I 52 := shM_o (by decide)
    have o56 : shM I v r49 r50 r143 56 = I 56 := shM_o (by decide)
    have o4 : shM I v r49 r50 r143 4 = I 4 := shM_o (by decide)
    have o13 : shM I v r49 r50 r143 13 = I 13 := shM_o (by decide)
    have yes : (∀ a b, a < b → b < 6 → bt pr a = true → bt pr b = true → ¬ cB (I 4) (I 13) n a b (g a) (g b)) → Q (some (.int 1)) (sM true G (shM I v r49 r50 r143) J) := fun hh => hQ true _ 1 fr ok (Or.inl ⟨rfl, hnow, hh⟩)
    have bl : ∀ d b, b + d = 6 → 1 ≤ b → (∀ c e, c < e → e < b → bt pr c = true → bt pr e = true → ¬ cB (I 4) (I 13) n c e (g c) (g e)) → sm_wp X 135 52 [some (.ref 52), some (.int v), some (.int (zI b)), none] [] (sM true G (shM I v r49 r50 r143) J) Q := by
      intro d
      induction d with
      | zero =>
        intro b hb _ hh
        have : b = 6 := by omega
        subst this
        rw [lp_135_52, if_pos (by decide)]
        exact yes hh
      | succ d ih =>
        intro b hb hb1 hh
        rw [lp_135_52, if_neg (by rw [zIl_le (c := 6) (by decide) (by omega)]; show ¬ 6 ≤ b; omega)]
        by_cases v0 : v = 0
        · rw [if_pos v0]
          refine yes (fun c e hce he hc2 he2 hcb => ?_)
          have em : e < m := by
            rcases Nat.lt_or_ge e m with k | k
            · exact k
            · rw [hp e k] at he2; cases he2
          have := (hT.2 c e hce he).mpr ⟨em, cB_m hcb (hnow c (by omega) hc2) (hnow e he he2)⟩
          rw [v0, bt_0] at this
          cases this
        · rw [if_neg v0]
          have al : ∀ d2 a, a + d2 = b → (∀ c, c < a → bt pr c = true → bt pr b = true → ¬ cB (I 4) (I 13) n c b (g c) (g b)) → sm_wp X 135 64 [some (.ref 52), some (.int v), some (.int (zI b)), some (.int (zI a))] [] (sM true G (shM I v r49 r50 r143) J) Q := by
            intro d2
            induction d2 with
            | zero =>
              intro a ha hc
              have : a = b := by omega
              subst this
              rw [lp_135_64, if_pos (by rw [zI_le (by omega) (by omega)]; omega), show zI a + 1 = zI (a + 1) from zIr_add 1 a]
              refine ih (a + 1) (by omega) (by omega) (fun c e hce he h1 h2 => ?_)
              by_cases ge : e = a
              · subst ge; exact hc c hce h1 h2
              · exact hh c e hce (by omega) h1 h2
            | succ d2 ih2 =>
              intro a ha hc
              have a6 : a < 6 := by omega
              have b6 : b < 6 := by omega
              have ab : a < b := by omega
              have skip : (bt pr a = true → bt pr b = true → ¬ cB (I 4) (I 13) n a b (g a) (g b)) → sm_wp X 135 64 [some (.ref 52), some (.int v), some (.int (zI b)), some (.int (zI a + 1))] [] (sM true G (shM I v r49 r50 r143) J) Q := by
                intro hs
                rw [show zI a + 1 = zI (a + 1) from zIr_add 1 a]
                refine ih2 (a + 1) (by omega) (fun c hc2 h1 h2 => ?_)
                by_cases ge : c = a
                · subst ge; exact hs h1 h2
                · exact hc c (by omega) h1 h2
              rw [lp_135_64, if_neg (by rw [zI_le (by omega) (by omega)]; omega), bk_147_0, pr2_z a6 b6]
              refine ⟨by decide, trivial, ?_⟩
              simp only [tl_some]
              have p15 := pr2_lt ab b6
              rw [lp_135_75, o52, hpr]
              by_cases g1 : bt v (pr2 a b) = true
              · rw [if_neg (by rw [hb_bt _ _ (by omega)]; exact fun e => e g1)]
                by_cases g2 : bt pr a = true
                · rw [if_neg (by rw [hb_bt _ _ (by omega)]; exact fun e => e g2)]
                  by_cases g3 : bt pr b = true
                  · rw [if_neg (by rw [hb_bt _ _ (by omega)]; exact fun e => e g3), zI_vp (by omega), zI_vp (by omega), zI_cn (by omega), zI_cn (by omega), o56, g56 a a6, g56 b b6]
                    refine ⟨a6, b6, ?_⟩
                    have bm : b < m := by
                      rcases Nat.lt_or_ge b m with k | k
                      · exact k
                      · rw [hp b k] at g3; cases g3
                    refine ct_149 (n := n) (T := 5955) h12 (Nat.le_refl _) ab b6 (by rw [o13]; exact hW) (by have := gb a; omega) (by have := gb b; omega) (by rw [o4, o13, shM_49, shM_50, shM_143]; exact hT.1 a b ab bm) ?_
                    intro z hz
                    rw [o4, o13] at hz
                    simp only [tl_some]
                    rcases hz with ⟨rfl, hz⟩ | ⟨rfl, hz⟩
                    · rw [lp_135_124, if_neg (by decide)]
                      exact hQ true _ 0 fr ok (Or.inr ⟨rfl, fun e => e.2 a b ab b6 g2 g3 hz⟩)
                    · rw [lp_135_124, if_pos rfl]
                      exact skip (fun _ _ => hz)
                  · rw [if_pos (by rw [hb_bt _ _ (by omega)]; exact g3)]
                    exact skip (fun _ e => absurd e g3)
                · rw [if_pos (by rw [hb_bt _ _ (by omega)]; exact g2)]
                  exact skip (fun e => absurd e g2)
              · rw [if_pos (by rw [hb_bt _ _ (by omega)]; exact g1)]
                refine skip (fun h1 h2 hcb => g1 ((hT.2 a b ab b6).mpr ⟨?_, cB_m hcb (hnow a a6 h1) (hnow b b6 h2)⟩))
                rcases Nat.lt_or_ge b m with k | k
                · exact k
                · rw [hp b k] at h2; cases h2
          exact al b 0 (by omega) (fun c hc => absurd hc (Nat.not_lt_zero _))
    exact bl 5 1 (by omega) (Nat.le_refl _) (fun c e hce he => by omega)
  have sl : ∀ d s, s + d = 6 → (∀ t, t < s → bt pr t = true → nowN (I 4) (I 13) n t ≤ g t) → sm_wp X 135 2 [some (.ref 52), some (.int (zI s)), none, none] [] (sM mo G I J) Q := by
    intro d
    induction d with
    | zero =>
      intro s hs hh
      have : s = 6 := by omega
      subst this
      rw [lp_135_2, if_pos (by decide)]
      refine ct_145 hn h12 hm h6 hW hsh (fun v r49 r50 r143 hT => ?_)
      simp only [tl_some]
      rw [lp_135_49]
      exact two v r49 r50 r143 hT hh
    | succ d ih =>
      intro s hs hh
      have s6 : s < 6 := by omega
      rw [lp_135_2, if_neg (by rw [zIl_le (c := 6) (by decide) (by omega)]; show ¬ 6 ≤ s; omega), hpr, show zI s + 1 = zI (s + 1) from zIr_add 1 s]
      by_cases g2 : bt pr s = true
      · rw [if_neg (by rw [hb_bt _ _ (by omega)]; exact fun e => e g2), zI_vp (by omega), zI_cn (by omega), g56 s s6, g57 s s6]
        refine ⟨s6, ?_⟩
        have := nb s
        have := gb s
        by_cases g3 : nowN (I 4) (I 13) n s ≤ g s
        · rw [if_pos (by rw [zI_le (by omega) (by omega)]; exact g3)]
          refine ih (s + 1) (by omega) (fun t ht h1 => ?_)
          by_cases ge : t = s
          · subst ge; exact g3
          · exact hh t (by omega) h1
        · rw [if_neg (by rw [zI_le (by omega) (by omega)]; exact g3)]
          exact hQ mo I 0 ⟨fun _ _ _ _ _ => rfl, Or.inl rfl⟩ hsh (Or.inr ⟨rfl, fun e => g3 (e.1 s s6 g2)⟩)
      · rw [if_pos (by rw [hb_bt _ _ (by omega)]; exact g2)]
        refine ih (s + 1) (by omega) (fun t ht h1 => ?_)
        by_cases ge : t = s
        · subst ge; exact absurd h1 g2
        · exact hh t (by omega) h1
  rw [lp_135_0]
  exact sl 6 0 (by omega) (fun t ht => absurd ht (Nat.not_lt_zero _))
theorem cw_137 {n m v : Nat} {pr : Int32} (h12 : n ≤ 12) (hW : okW (I 13)) (hB : ∀ j, ∃ w, w ≤ 999 ∧ I 12 j = zI w) (h8 : dK n (I 5) pr ≤ 8) (hv : v < rws n (I 5) pr)
    (h : SI n m (I 4) (I 5) (I 12) (I 13) pr (svC n (I 5) pr v) (I 60) (I 61) (I 62) (I 64) (I 65) (I 66)) (hc : ∀ j, j < dK n (I 5) pr → I 63 j = svC n (I 5) pr v j)
    (hQ1 : v + 1 < rws n (I 5) pr → ∀ K, FrS 60 66 I K → (∀ j, j < dK n (I 5) pr → K 63 j = svC n (I 5) pr (v + 1) j) → SI n m (I 4) (I 5) (I 12) (I 13) pr (svC n (I 5) pr (v + 1)) (K 60) (K 61) (K 62) (K 64) (K 65) (K 66) → Q (some (.int 1)) (sM mo G K J))
    (hQ0 : v + 1 = rws n (I 5) pr → ∀ K ch, FrS 60 66 I K → SI n m (I 4) (I 5) (I 12) (I 13) pr ch (K 60) (K 61) (K 62) (K 64) (K 65) (K 66) → Q (some (.int 0)) (sM mo G K J)) :
    sm_wp X 137 0 [some (.ref 60), none, none] [] (sM mo G I J) Q := by
  have key : ∀ k, k ≤ dK n (I 5) pr → (v + 1) % rp (rd n (I 5) pr) (dK n (I 5) pr) k = 0 → ∀ K ch, FrS 60 66 I K → (∀ j, j < 8 → j < dK n (I 5) pr → K 63 j = ch j) → (∀ j, j < dK n (I 5) pr → ch j = if j < k then svC n (I 5) pr v j else zI (nt (bt (clB n (I 5) pr j)) 6 0)) →
      SI n m (I 4) (I 5) (I 12) (I 13) pr ch (K 60) (K 61) (K 62) (K 64) (K 65) (K 66) → sm_wp X 137 12 [some (.ref 60), some (.int (zI k + (-1))), none] [] (sM mo G K J) Q := by
    intro k
    induction k with
    | zero =>
      intro _ hr K ch f h55 hch hS
      rw [lpw_137_12, if_pos (by decide)]
      exact hQ0 (dg_end hr hv) K ch f hS
    | succ k ih =>
      intro hk hr K ch f h55 hch hS
      have k4 : K 4 = I 4 := f.1 4 (by decide)
      have k5 : K 5 = I 5 := f.1 5 (by decide)
      have k12 : K 12 = I 12 := f.1 12 (by decide)
      have k13 : K 13 = I 13 := f.1 13 (by decide)
      have p := sv_p v (show k < dK n (I 5) pr by omega)
      have ck : ch k = zI (sv n (I 5) pr v k) := by rw [hch k (by omega), if_pos (by omega)]; rfl
      have e54 : K 62 k = clB n (I 5) pr k := (hS.2.2.1 k (by omega) (by omega)).2
      rw [zI_p1, lpw_137_12, if_neg (by rw [zIr_lt (c := 0) (by decide) (by omega)]; exact Nat.not_lt_zero _), zI_vp (by omega), zI_cn (by omega), h55 k (by omega) (by omega), ck]
      refine ⟨by omega, ?_⟩
      rw [cw_132 (by omega) e54 (show sv n (I 5) pr v k + 1 ≤ 6 by omega) (zIr_add 1 _), cN_p p.1, p.2.2]
      simp only [tl_some]
      rw [lpw_137_27]
      unfold nxC
      by_cases g : dg (rd n (I 5) pr) (dK n (I 5) pr) v k + 1 < cN (bt (clB n (I 5) pr k)) 6
      · have np := nt_p g
        rw [if_pos g, if_neg (by rw [zI_m1 (by omega)]; exact id)]
        refine cw_133 (I := K) (n := n) (m := m) (pr := pr) (ch := ch) (by omega) (by rw [k5]; omega) np.2.1 h12 (by rw [k13]; exact hW) (by rw [k12]; exact hB) (by rw [k4, k5, k12, k13]; exact hS) (by rw [k5]; exact h55) (Or.inr ⟨_, p.2.1, ck⟩) ?_
        intro L fL l55 hL
        rw [k5] at l55
        rw [k4, k5, k12, k13] at hL
        simp only [tl_none]
        rw [lpw_137_39]
        have e : ∀ j, j < dK n (I 5) pr → va_up ch k (zI (nt (bt (clB n (I 5) pr k)) 6 (dg (rd n (I 5) pr) (dK n (I 5) pr) v k + 1))) j = svC n (I 5) pr (v + 1) j := by
          intro j hj
          rw [va_ap]
          unfold svC sv
          by_cases g1 : j = k
          · subst g1
            rw [if_pos rfl, dg_at rd_pos (by omega) hr g]
          · rw [if_neg g1, hch j hj]
            by_cases g2 : j < k + 1
            · rw [if_pos g2, dg_lo rd_pos (by omega) hr g (show j < k by omega)]
              rfl
            · rw [if_neg g2, dg_hi rd_pos hr (show k < j by omega) hj]
        refine hQ1 (dg_in rd_pos (by omega) hr g hv) L (FrS_t f fL) (fun j hj => by rw [l55 j (by omega) hj]; exact e j hj) (si_ch hL (fun s => ?_))
        unfold gtC
        rw [gsm_c (fun j hj => (e j (Nat.lt_of_lt_of_le hj (Nat.min_le_right _ _))).symm)]
      · rw [if_neg g, if_pos rfl, cw_132 (s := 0) (by omega) e54 (by decide) (by decide)]
        simp only [tl_some]
        have z6 : 0 < cN (bt (clB n (I 5) pr k)) 6 := rd_pos k (by omega)
        have np := nt_p z6
        have nx0 : nxC (clB n (I 5) pr k) (cN (bt (clB n (I 5) pr k)) 0) = zI (nt (bt (clB n (I 5) pr k)) 6 0) := by
          unfold nxC
          rw [show cN (bt (clB n (I 5) pr k)) 0 = 0 from rfl, if_pos z6]
        rw [nx0, lpw_137_49]
        refine cw_133 (I := K) (n := n) (m := m) (pr := pr) (ch := ch) (by omega) (by rw [k5]; omega) np.2.1 h12 (by rw [k13]; exact hW) (by rw [k12]; exact hB) (by rw [k4, k5, k12, k13]; exact hS) (by rw [k5]; exact h55) (Or.inr ⟨_, p.2.1, ck⟩) ?_
        intro L fL l55 hL
        rw [k5] at l55
        rw [k4, k5, k12, k13] at hL
        simp only [tl_none]
        rw [lpw_137_52]
        refine ih (by omega) (dg_ca rd_pos (by omega) hr g) L _ (FrS_t f fL) l55 (fun j hj => ?_) hL
        rw [va_ap]
        by_cases g1 : j = k
        · subst g1
          rw [if_pos rfl, if_neg (by omega)]
        · rw [if_neg g1, hch j hj]
          by_cases g2 : j < k + 1
          · rw [if_pos g2, if_pos (by omega)]
          · rw [if_neg g2, if_neg (by omega)]
  rw [lpw_137_0, h.2.1, if_neg (by rw [zIl_lt (c := 8) (by decide) (by omega)]; show ¬ 8 < dK n (I 5) pr; omega), show zI (dK n (I 5) pr) - 1 = zI (dK n (I 5) pr) + (-1) from Int32.sub_eq_add_neg _ _]
  exact key (dK n (I 5) pr) (Nat.le_refl _) (by rw [rp_K]; exact Nat.mod_one _) I _ FrS_r (fun j _ hj => hc j hj) (fun j hj => by rw [if_pos hj]) h
theorem cw_135 {n m : Nat} {pr : Int32} {ch : Nat → Int32} (hn : I 1 0 = zI n) (h12 : n ≤ 12) (hm : I 1 1 = zI m) (h6 : m ≤ 6) (hp : ∀ k, m ≤ k → bt pr k = false) (hW : okW (I 13)) (hsh : shOK mo I n m)
    (h : SI n m (I 4) (I 5) (I 12) (I 13) pr ch (I 60) (I 61) (I 62) (I 64) (I 65) (I 66))
    (hQ : ∀ mo' K z, FrH I K → shOK mo' K n m → (z = 1 ∧ stbC n (I 4) (I 13) pr (gtC n (I 4) (I 5) (I 13) pr ch) ∨ z = 0 ∧ ¬ stbC n (I 4) (I 13) pr (gtC n (I 4) (I 5) (I 13) pr ch)) → Q (some (.int z)) (sM mo' G K J)) :
    sm_wp X 135 0 [some (.ref 60), none, none, none] [] (sM mo G I J) Q := by
  generalize hg : gtC n (I 4) (I 5) (I 13) pr ch = g at *
  have gb : ∀ s, g s ≤ 1188 := fun s => by rw [← hg]; exact gtC_b hW h12 s
  have g56 : ∀ s, s < 6 → I 64 s = zI (g s) := fun s hs => by rw [← hg]; exact (h.2.2.2.1 s hs).1
  have g57 : ∀ s, s < 6 → I 65 s = zI (nowN (I 4) (I 13) n s) := fun s hs => (h.2.2.2.1 s hs).2.1
  have hpr : I 60 2 = pr := h.1
  have nb := fun s => nowN_b (r4 := I 4) hW h12 s
  -- after the table is made
  have two : ∀ v r49 r50 r143, shT (I 4) (I 13) v r49 r50 r143 n m → (∀ s, s < 6 → bt pr s = true → nowN (I 4) (I 13) n s ≤ g s) → sm_wp X 135 52 [some (.ref 60), some (.int v), some (.int 1), none] [] (sM true G (shM I v r49 r50 r143) J) Q := by
    intro v r49 r50 r143 hT hnow
    have fr : FrH I (shM I v r49 r50 r143) := ⟨fun c a b d e => shM_o ⟨a, b, d, e⟩, Or.inr (by rw [shM_48]; simp (decide := true) only [va_ap, if_false, if_true])⟩
    have ok : shOK true (shM I v r49 r50 r143) n m := fun _ => ⟨rfl, by
      rw [shM_o (c := 4) (by decide), shM_o (c := 13) (by decide), shM_48, shM_49, shM_50, shM_143]
      exact hT⟩
    have o52 : shM I v r49 r50 r143 60 = I 60 := shM_o (by decide)
    have o56 : shM I v r49 r50 r143 64 = I 64 := shM_o (by decide)
    have o4 : shM I v r49 r50 r143 4 = I 4 := shM_o (by decide)
    have o13 : shM I v r49 r50 r143 13 = I 13 := shM_o (by decide)
    have yes : (∀ a b, a < b → b < 6 → bt pr a = true → bt pr b = true → ¬ cB (I 4) (I 13) n a b (g a) (g b)) → Q (some (.int 1)) (sM true G (shM I v r49 r50 r143) J) := fun hh => hQ true _ 1 fr ok (Or.inl ⟨rfl, hnow, hh⟩)
    have bl : ∀ d b, b + d = 6 → 1 ≤ b → (∀ c e, c < e → e < b → bt pr c = true → bt pr e = true → ¬ cB (I 4) (I 13) n c e (g c) (g e)) → sm_wp X 135 52 [some (.ref 60), some (.int v), some (.int (zI b)), none] [] (sM true G (shM I v r49 r50 r143) J) Q := by
      intro d
      induction d with
      | zero =>
        intro b hb _ hh
        have : b = 6 := by omega
        subst this
        rw [lpw_135_52, if_pos (by decide)]
        exact yes hh
      | succ d ih =>
        intro b hb hb1 hh
        rw [lpw_135_52, if_neg (by rw [zIl_le (c := 6) (by decide) (by omega)]; show ¬ 6 ≤ b; omega)]
        by_cases v0 : v = 0
        · rw [if_pos v0]
          refine yes (fun c e hce he hc2 he2 hcb => ?_)
          have em : e < m := by
            rcases Nat.lt_or_ge e m with k | k
            · exact k
            · rw [hp e k] at he2; cases he2
          have := (hT.2 c e hce he).mpr ⟨em, cB_m hcb (hnow c (by omega) hc2) (hnow e he he2)⟩
          rw [v0, bt_0] at this
          cases this
        · rw [if_neg v0]
          have al : ∀ d2 a, a + d2 = b → (∀ c, c < a → bt pr c = true → bt pr b = true → ¬ cB (I 4) (I 13) n c b (g c) (g b)) → sm_wp X 135 64 [some (.ref 60), some (.int v), some (.int (zI b)), some (.int (zI a))] [] (sM true G (shM I v r49 r50 r143) J) Q := by
            intro d2
            induction d2 with
            | zero =>
              intro a ha hc
              have : a = b := by omega
              subst this
              rw [lpw_135_64, if_pos (by rw [zI_le (by omega) (by omega)]; omega), show zI a + 1 = zI (a + 1) from zIr_add 1 a]
              refine ih (a + 1) (by omega) (by omega) (fun c e hce he h1 h2 => ?_)
              by_cases ge : e = a
              · subst ge; exact hc c hce h1 h2
              · exact hh c e hce (by omega) h1 h2
            | succ d2 ih2 =>
              intro a ha hc
              have a6 : a < 6 := by omega
              have b6 : b < 6 := by omega
              have ab : a < b := by omega
              have skip : (bt pr a = true → bt pr b = true → ¬ cB (I 4) (I 13) n a b (g a) (g b)) → sm_wp X 135 64 [some (.ref 60), some (.int v), some (.int (zI b)), some (.int (zI a + 1))] [] (sM true G (shM I v r49 r50 r143) J) Q := by
                intro hs
                rw [show zI a + 1 = zI (a + 1) from zIr_add 1 a]
                refine ih2 (a + 1) (by omega) (fun c hc2 h1 h2 => ?_)
                by_cases ge : c = a
                · subst ge; exact hs h1 h2
                · exact hc c (by omega) h1 h2
              rw [lpw_135_64, if_neg (by rw [zI_le (by omega) (by omega)]; omega), bk_147_0, pr2_z a6 b6]
              refine ⟨by decide, trivial, ?_⟩
              simp only [tl_some]
              have p15 := pr2_lt ab b6
              rw [lpw_135_75, o52, hpr]
              by_cases g1 : bt v (pr2 a b) = true
              · rw [if_neg (by rw [hb_bt _ _ (by omega)]; exact fun e => e g1)]
                by_cases g2 : bt pr a = true
                · rw [if_neg (by rw [hb_bt _ _ (by omega)]; exact fun e => e g2)]
                  by_cases g3 : bt pr b = true
                  · rw [if_neg (by rw [hb_bt _ _ (by omega)]; exact fun e => e g3), zI_vp (by omega), zI_vp (by omega), zI_cn (by omega), zI_cn (by omega), o56, g56 a a6, g56 b b6]
                    refine ⟨a6, b6, ?_⟩
                    have bm : b < m := by
                      rcases Nat.lt_or_ge b m with k | k
                      · exact k
                      · rw [hp b k] at g3; cases g3
                    refine ct_149 (n := n) (T := 5955) h12 (Nat.le_refl _) ab b6 (by rw [o13]; exact hW) (by have := gb a; omega) (by have := gb b; omega) (by rw [o4, o13, shM_49, shM_50, shM_143]; exact hT.1 a b ab bm) ?_
                    intro z hz
                    rw [o4, o13] at hz
                    simp only [tl_some]
                    rcases hz with ⟨rfl, hz⟩ | ⟨rfl, hz⟩
                    · rw [lpw_135_124, if_neg (by decide)]
                      exact hQ true _ 0 fr ok (Or.inr ⟨rfl, fun e => e.2 a b ab b6 g2 g3 hz⟩)
                    · rw [lpw_135_124, if_pos rfl]
                      exact skip (fun _ _ => hz)
                  · rw [if_pos (by rw [hb_bt _ _ (by omega)]; exact g3)]
                    exact skip (fun _ e => absurd e g3)
                · rw [if_pos (by rw [hb_bt _ _ (by omega)]; exact g2)]
                  exact skip (fun e => absurd e g2)
              · rw [if_pos (by rw [hb_bt _ _ (by omega)]; exact g1)]
                refine skip (fun h1 h2 hcb => g1 ((hT.2 a b ab b6).mpr ⟨?_, cB_m hcb (hnow a a6 h1) (hnow b b6 h2)⟩))
                rcases Nat.lt_or_ge b m with k | k
                · exact k
                · rw [hp b k] at h2; cases h2
          exact al b 0 (by omega) (fun c hc => absurd hc (Nat.not_lt_zero _))
    exact bl 5 1 (by omega) (Nat.le_refl _) (fun c e hce he => by omega)
  have sl : ∀ d s, s + d = 6 → (∀ t, t < s → bt pr t = true → nowN (I 4) (I 13) n t ≤ g t) → sm_wp X 135 2 [some (.ref 60), some (.int (zI s)), none, none] [] (sM mo G I J) Q := by
    intro d
    induction d with
    | zero =>
      intro s hs hh
      have : s = 6 := by omega
      subst this
      rw [lpw_135_2, if_pos (by decide)]
      refine ct_145 hn h12 hm h6 hW hsh (fun v r49 r50 r143 hT => ?_)
      simp only [tl_some]
      rw [lpw_135_49]
      exact two v r49 r50 r143 hT hh
    | succ d ih =>
      intro s hs hh
      have s6 : s < 6 := by omega
      rw [lpw_135_2, if_neg (by rw [zIl_le (c := 6) (by decide) (by omega)]; show ¬ 6 ≤ s; omega), hpr, show zI s + 1 = zI (s + 1) from zIr_add 1 s]
      by_cases g2 : bt pr s = true
      · rw [if_neg (by rw [hb_bt _ _ (by omega)]; exact fun e => e g2), zI_vp (by omega), zI_cn (by omega), g56 s s6, g57 s s6]
        refine ⟨s6, ?_⟩
        have := nb s
        have := gb s
        by_cases g3 : nowN (I 4) (I 13) n s ≤ g s
        · rw [if_pos (by rw [zI_le (by omega) (by omega)]; exact g3)]
          refine ih (s + 1) (by omega) (fun t ht h1 => ?_)
          by_cases ge : t = s
          · subst ge; exact g3
          · exact hh t (by omega) h1
        · rw [if_neg (by rw [zI_le (by omega) (by omega)]; exact g3)]
          exact hQ mo I 0 ⟨fun _ _ _ _ _ => rfl, Or.inl rfl⟩ hsh (Or.inr ⟨rfl, fun e => g3 (e.1 s s6 g2)⟩)
      · rw [if_pos (by rw [hb_bt _ _ (by omega)]; exact g2)]
        refine ih (s + 1) (by omega) (fun t ht h1 => ?_)
        by_cases ge : t = s
        · subst ge; exact absurd h1 g2
        · exact hh t (by omega) h1
  rw [lpw_135_0]
  exact sl 6 0 (by omega) (fun t ht => absurd ht (Nat.not_lt_zero _))
end T3
