/-! Shares: all pairs, and who are rivals. -/
def bf (b a c d : Nat) : Prop := c < d ∧ (d < b ∨ d = b ∧ c < a)
def shM (I : Nat → Nat → Int32) (v : Int32) (r49 r50 r143 : Nat → Int32) : Nat → Nat → Int32 := rw2 (rw2 (rw2 (up2 (up2 I 48 1 (I 1 4)) 48 2 v) 49 r49) 50 r50) 143 r143
theorem shM_o {I : Nat → Nat → Int32} {v : Int32} {r49 r50 r143 : Nat → Int32} {c : Nat} (h : c ≠ 48 ∧ c ≠ 49 ∧ c ≠ 50 ∧ c ≠ 143) : shM I v r49 r50 r143 c = I c := by
  unfold shM
  rw [rw2_n _ _ _ _ h.2.2.2, rw2_n _ _ _ _ h.2.2.1, rw2_n _ _ _ _ h.2.1, up2_rn _ _ _ _ _ h.1, up2_rn _ _ _ _ _ h.1]
theorem shM_49 {I : Nat → Nat → Int32} {v : Int32} {r49 r50 r143 : Nat → Int32} : shM I v r49 r50 r143 49 = r49 := by
  unfold shM
  rw [rw2_n _ _ _ _ (by decide), rw2_n _ _ _ _ (by decide), rw2_a]
theorem shM_50 {I : Nat → Nat → Int32} {v : Int32} {r49 r50 r143 : Nat → Int32} : shM I v r49 r50 r143 50 = r50 := by
  unfold shM
  rw [rw2_n _ _ _ _ (by decide), rw2_a]
theorem shM_143 {I : Nat → Nat → Int32} {v : Int32} {r49 r50 r143 : Nat → Int32} : shM I v r49 r50 r143 143 = r143 := by
  unfold shM
  rw [rw2_a]
theorem shM_48 {I : Nat → Nat → Int32} {v : Int32} {r49 r50 r143 : Nat → Int32} : shM I v r49 r50 r143 48 = va_up (va_up (I 48) 1 (I 1 4)) 2 v := by
  unfold shM
  rw [rw2_n _ _ _ _ (by decide), rw2_n _ _ _ _ (by decide), rw2_n _ _ _ _ (by decide), up2_ra, up2_ra]
theorem shM_w {I : Nat → Nat → Int32} {v x y : Int32} {r49 r50 r143 M : Nat → Int32} {k : Nat} : rw2 (up2 (up2 (shM I v r49 r50 r143) 49 k x) 50 k y) 143 M = shM I v (va_up r49 k x) (va_up r50 k y) M := by
  funext c
  by_cases h1 : c = 143
  · subst h1; rw [rw2_a, shM_143]
  · rw [rw2_n _ _ _ _ h1]
    by_cases h2 : c = 50
    · subst h2; rw [up2_ra, shM_50, up2_rn _ _ _ _ _ (by decide), shM_50]
    · rw [up2_rn _ _ _ _ _ h2]
      by_cases h3 : c = 49
      · subst h3; rw [up2_ra, shM_49, shM_49]
      · rw [up2_rn _ _ _ _ _ h3]
        by_cases h4 : c = 48
        · subst h4; rw [shM_48, shM_48]
        · rw [shM_o ⟨h4, h3, h2, h1⟩, shM_o ⟨h4, h3, h2, h1⟩]
theorem shM_v {I : Nat → Nat → Int32} {v x : Int32} {r49 r50 r143 : Nat → Int32} : up2 (shM I v r49 r50 r143) 48 2 x = shM I x r49 r50 r143 := by
  funext c
  by_cases h4 : c = 48
  · subst h4
    rw [up2_ra, shM_48, shM_48]
    funext j
    simp only [va_ap]
    by_cases g : j = 2
    · simp only [if_pos g]
    · simp only [if_neg g]
  · rw [up2_rn _ _ _ _ _ h4]
    unfold shM
    by_cases h1 : c = 143
    · subst h1; rw [rw2_a, rw2_a]
    · rw [rw2_n _ _ _ _ h1, rw2_n _ _ _ _ h1]
      by_cases h2 : c = 50
      · subst h2; rw [rw2_a, rw2_a]
      · rw [rw2_n _ _ _ _ h2, rw2_n _ _ _ _ h2]
        by_cases h3 : c = 49
        · subst h3; rw [rw2_a, rw2_a]
        · rw [rw2_n _ _ _ _ h3, rw2_n _ _ _ _ h3, up2_rn _ _ _ _ _ h4, up2_rn _ _ _ _ _ h4, up2_rn _ _ _ _ _ h4, up2_rn _ _ _ _ _ h4]
theorem shM_s {I : Nat → Nat → Int32} (h : I 48 1 = I 1 4) : shM I (I 48 2) (I 49) (I 50) (I 143) = I := by
  funext c
  by_cases h1 : c = 143
  · subst h1; rw [shM_143]
  · by_cases h2 : c = 50
    · subst h2; rw [shM_50]
    · by_cases h3 : c = 49
      · subst h3; rw [shM_49]
      · by_cases h4 : c = 48
        · subst h4
          rw [shM_48]
          funext j
          rw [va_ap, va_ap]
          by_cases g : j = 2
          · rw [if_pos g, g]
          · rw [if_neg g]
            by_cases g : j = 1
            · rw [if_pos g, g, h]
            · rw [if_neg g]
        · rw [shM_o ⟨h4, h3, h2, h1⟩]
def shI (r4 W : Nat → Int32) (v : Int32) (r49 r50 r143 : Nat → Int32) (n b a F : Nat) : Prop := F ≤ tb2 (hcN r4 n) b a ∧ (∀ c d, bf b a c d → shP r4 W r49 r50 r143 n c d F) ∧ ∀ c d, c < d → d < 6 → (bt v (pr2 c d) = true ↔ bf b a c d ∧ cB r4 W n c d (nowN r4 W n c) (nowN r4 W n d))
theorem nowN_b {r4 W : Nat → Int32} (h : okW W) {n : Nat} (hn : n ≤ 12) (s : Nat) : nowN r4 W n s ≤ 1188 := by
  have := wA_b h s (hlds r4 (zI s) n) n
  unfold nowN
  omega
section S4
variable {X : (Nat → Int32) × Nat} {mo : Bool} {G : Nat × Nat} {I : Nat → Nat → Int32} {J : Nat → Nat → Int64} {Q : Option Value → sm_M → Prop}
theorem tb2_le {h : Nat → Nat} (hh : h 0 + h 1 + h 2 + h 3 + h 4 + h 5 ≤ 12) {b a : Nat} (hb : b < 6) (ha : a < b) : tb2 h b a + 99 * (h a + h b) < 5955 := tb2_lt hh hb ha
theorem tb2_0 {h : Nat → Nat} (hh : h 0 + h 1 + h 2 + h 3 + h 4 + h 5 ≤ 12) {b : Nat} (hb : b ≤ 6) : tb2 h b 0 ≤ 5955 := by
  match b, hb with
  | 0, _ => exact Nat.zero_le _
  | 1, _ => exact Nat.zero_le _
  | b + 2, hb =>
    have := tb2_lt hh (b := b + 1) (a := b) (by omega) (by omega)
    rw [tb2_n, tb2_s]
    omega
theorem la_145 {n b a : Nat} (hn : I 1 0 = zI n) (h12 : n ≤ 12) (hab : a < b) (hb : b < 6) (hW : okW (I 13)) {v : Int32} {r49 r50 r143 : Nat → Int32} {F : Nat} (h : shI (I 4) (I 13) v r49 r50 r143 n b a F)
    (hQ : ∀ v r49 r50 r143 F, shI (I 4) (I 13) v r49 r50 r143 n b (a + 1) F → sm_wp X 145 72 [some (.ref 48), some (.int (zI F)), some (.int (zI b)), some (.int (zI (a + 1)))] [] (sM true G (shM I v r49 r50 r143) J) Q) :
    sm_wp X 145 72 [some (.ref 48), some (.int (zI F)), some (.int (zI b)), some (.int (zI a))] [] (sM true G (shM I v r49 r50 r143) J) Q := by
  obtain ⟨h1, h2, h3⟩ := h
  have o1 : shM I v r49 r50 r143 1 = I 1 := shM_o (by decide)
  have o4 : shM I v r49 r50 r143 4 = I 4 := shM_o (by decide)
  have o13 : shM I v r49 r50 r143 13 = I 13 := shM_o (by decide)
  have hc := hcN_6 (I 4) n
  have hR := wA_hc (r4 := I 4) hW h12 a b
  have hF := tb2_le (h := hcN (I 4) n) (by omega) hb hab
  rw [bk_145_72, if_neg (by rw [zI_le (by omega) (by omega)]; omega)]
  refine ct_146 (n := n) (R := wA (I 13) a (bth (I 4) n a b) n) (by rw [o1]; exact hn) h12 hab hb (by rw [o13]; exact hW) (by omega) (by rw [o13, o4]; rfl) (by rw [o4]; exact bth_hi h12 a b) ?_
  intro M m1 m2
  rw [o4, o13] at m1
  rw [shM_143] at m2
  rw [shM_w]
  simp only [tl_some]
  have p15 := pr2_lt hab hb
  -- the row stands
  have sp : ∀ c d, bf b (a + 1) c d → shP (I 4) (I 13) (va_up r49 (pr2 a b) (zI F)) (va_up r50 (pr2 a b) (zI (wA (I 13) a (bth (I 4) n a b) n))) M n c d (F + wA (I 13) a (bth (I 4) n a b) n + 1) := by
    intro c d hcd
    by_cases g : c = a ∧ d = b
    · obtain ⟨rfl, rfl⟩ := g
      exact ⟨F, by rw [va_ap, if_pos rfl], by rw [va_ap, if_pos rfl], by omega, m1⟩
    · have hbf : bf b a c d := by
        unfold bf at hcd ⊢
        omega
      obtain ⟨F2, e1, e2, e3, e4⟩ := h2 c d hbf
      have ne : pr2 c d ≠ pr2 a b := fun e => g (pr2_in hcd.1 (by unfold bf at hbf; omega) hab hb e)
      refine ⟨F2, by rw [va_ap, if_neg ne]; exact e1, by rw [va_ap, if_neg ne]; exact e2, by omega, fun u hu => ?_⟩
      rw [m2 _ (by omega)]
      exact e4 u hu
  have tb : F + wA (I 13) a (bth (I 4) n a b) n + 1 ≤ tb2 (hcN (I 4) n) b (a + 1) := by rw [tb2_s]; omega
  generalize va_up r49 (pr2 a b) (zI F) = q49 at *
  generalize va_up r50 (pr2 a b) (zI (wA (I 13) a (bth (I 4) n a b) n)) = q50 at *
  generalize hF2 : F + wA (I 13) a (bth (I 4) n a b) n + 1 = F2 at *
  have p1 : shM I v q49 q50 M 1 = I 1 := shM_o (by decide)
  have p4 : shM I v q49 q50 M 4 = I 4 := shM_o (by decide)
  have p13 : shM I v q49 q50 M 13 = I 13 := shM_o (by decide)
  rw [bk_145_84, ct_worthHeld _ _ _ _ _ _ (by rw [p1]; exact hn) h12, p4, p13, wsum_w hW (by omega) h12]
  simp only [tl_some]
  rw [bk_145_96, ct_worthHeld _ _ _ _ _ _ (by rw [p1]; exact hn) h12, p4, p13, wsum_w hW (by omega) h12]
  simp only [tl_some]
  rw [bk_145_104]
  have b1' := nowN_b (r4 := I 4) hW h12 a
  have b2' := nowN_b (r4 := I 4) hW h12 b
  refine ct_149 (n := n) (T := F2) h12 (by omega) hab hb (by rw [p13]; exact hW) (Nat.lt_of_le_of_lt b1' (by decide)) (Nat.lt_of_le_of_lt b2' (by decide)) (by rw [p4, p13, shM_49, shM_50, shM_143]; exact sp a b ⟨hab, Or.inr ⟨rfl, Nat.lt_succ_self _⟩⟩) ?_
  intro z hz
  rw [p4, p13] at hz
  simp only [tl_some]
  rcases hz with ⟨rfl, hz⟩ | ⟨rfl, hz⟩
  · rw [bk_145_107, if_neg (by decide), bk_147_0, pr2_z (by omega) hb]
    refine ⟨by decide, trivial, ?_⟩
    simp only [tl_some]
    rw [bk_145_121, shM_v, shM_48, va_ap, if_pos rfl, show zI a + 1 = zI (a + 1) from zIr_add 1 a]
    refine hQ _ _ _ _ _ ⟨tb, sp, fun c d hcd hd => ?_⟩
    rw [bt_or, show (1 : Int32) <<< (zI (pr2 a b) &&& 31) = b1 (pr2 a b) from rfl, bt_b1 _ _ (by omega) (by have := pr2_lt hcd hd; omega)]
    by_cases g : c = a ∧ d = b
    · obtain ⟨rfl, rfl⟩ := g
      simp only [decide_true, Bool.or_true]
      exact ⟨fun _ => ⟨⟨hcd, Or.inr ⟨rfl, Nat.lt_succ_self _⟩⟩, hz⟩, fun _ => trivial⟩
    · have ne : pr2 c d ≠ pr2 a b := fun e => g (pr2_in hcd hd hab hb e)
      rw [decide_eq_false ne, Bool.or_false, h3 c d hcd hd]
      have e : bf b a c d ↔ bf b (a + 1) c d := by unfold bf; omega
      rw [e]
  · rw [bk_145_107, if_pos rfl, bk_145_126, show zI a + 1 = zI (a + 1) from zIr_add 1 a]
    refine hQ _ _ _ _ _ ⟨tb, sp, fun c d hcd hd => ?_⟩
    rw [h3 c d hcd hd]
    by_cases g : c = a ∧ d = b
    · obtain ⟨rfl, rfl⟩ := g
      exact ⟨fun e => absurd e.2 hz, fun e => absurd e.2 hz⟩
    · have e : bf b a c d ↔ bf b (a + 1) c d := by unfold bf; omega
      rw [e]
theorem lb_145 {n b : Nat} (hn : I 1 0 = zI n) (h12 : n ≤ 12) (hb : b < 6) (hW : okW (I 13))
    (hQ : ∀ v r49 r50 r143 F, shI (I 4) (I 13) v r49 r50 r143 n (b + 1) 0 F → sm_wp X 145 59 [some (.ref 48), some (.int (zI F)), some (.int (zI (b + 1))), none] [] (sM true G (shM I v r49 r50 r143) J) Q) :
    ∀ k a, a + k = b → ∀ (v : Int32) (r49 r50 r143 : Nat → Int32) (F : Nat), shI (I 4) (I 13) v r49 r50 r143 n b a F → sm_wp X 145 72 [some (.ref 48), some (.int (zI F)), some (.int (zI b)), some (.int (zI a))] [] (sM true G (shM I v r49 r50 r143) J) Q := by
  intro k
  induction k with
  | zero =>
    intro a ha v r49 r50 r143 F h
    have : a = b := by omega
    subst this
    rw [bk_145_72, if_pos (by rw [zI_le (by omega) (by omega)]; omega), bk_145_132, show zI a + 1 = zI (a + 1) from zIr_add 1 a]
    refine hQ _ _ _ _ _ ⟨by rw [tb2_n]; exact h.1, fun c d hcd => h.2.1 c d ?_, fun c d hcd hd => ?_⟩
    · unfold bf at hcd ⊢; omega
    · rw [h.2.2 c d hcd hd]
      have e : bf a a c d ↔ bf (a + 1) 0 c d := by unfold bf; omega
      rw [e]
  | succ k ih =>
    intro a ha v r49 r50 r143 F h
    exact la_145 hn h12 (by omega) hb hW h (fun v r49 r50 r143 F h => ih (a + 1) (by omega) v r49 r50 r143 F h)
theorem lc_145 {n m : Nat} (hn : I 1 0 = zI n) (h12 : n ≤ 12) (hm : I 1 1 = zI m) (h6 : m ≤ 6) (hW : okW (I 13))
    (hQ : ∀ v r49 r50 r143, shT (I 4) (I 13) v r49 r50 r143 n m → Q (some (.int v)) (sM true G (shM I v r49 r50 r143) J)) :
    ∀ k b, (k = 0 ∧ m ≤ 1 ∧ b = 1 ∨ b + k = m) → b ≤ 6 → ∀ (v : Int32) (r49 r50 r143 : Nat → Int32) (F : Nat), shI (I 4) (I 13) v r49 r50 r143 n b 0 F → sm_wp X 145 59 [some (.ref 48), some (.int (zI F)), some (.int (zI b)), none] [] (sM true G (shM I v r49 r50 r143) J) Q := by
  intro k
  induction k with
  | zero =>
    intro b hb hb6 v r49 r50 r143 F h
    have o1 : shM I v r49 r50 r143 1 = I 1 := shM_o (by decide)
    rw [bk_145_59, o1, hm, if_pos (by rw [zI_le (by omega) (by omega)]; omega), bk_145_138]
    refine ⟨trivial, ?_⟩
    rw [shM_48, va_ap, if_pos rfl]
    have t := tb2_0 (h := hcN (I 4) n) (by have := hcN_6 (I 4) n; omega) hb6
    have e : ∀ c d, c < d → (bf b 0 c d ↔ d < m) := by
      intro c d hcd
      unfold bf
      omega
    refine hQ _ _ _ _ ⟨fun c d hcd hd => ?_, fun c d hcd hd => ?_⟩
    · obtain ⟨F2, e1, e2, e3, e4⟩ := h.2.1 c d ((e c d hcd).mpr hd)
      exact ⟨F2, e1, e2, by have := h.1; omega, e4⟩
    · rw [h.2.2 c d hcd hd, e c d hcd]
  | succ k ih =>
    intro b hb hb6 v r49 r50 r143 F h
    have o1 : shM I v r49 r50 r143 1 = I 1 := shM_o (by decide)
    rw [bk_145_59, o1, hm, if_neg (by rw [zI_le (by omega) (by omega)]; omega)]
    exact lb_145 hn h12 (by omega) hW (fun v r49 r50 r143 F h => ih (b + 1) (by omega) (by omega) v r49 r50 r143 F h) b 0 (by omega) v r49 r50 r143 F h
theorem ct_145 {n m : Nat} (hn : I 1 0 = zI n) (h12 : n ≤ 12) (hm : I 1 1 = zI m) (h6 : m ≤ 6) (hW : okW (I 13)) (hc : I 48 1 = I 1 4 → mo = true ∧ shT (I 4) (I 13) (I 48 2) (I 49) (I 50) (I 143) n m)
    (hQ : ∀ v r49 r50 r143, shT (I 4) (I 13) v r49 r50 r143 n m → Q (some (.int v)) (sM true G (shM I v r49 r50 r143) J)) :
    sm_wp X 145 0 [some (.ref 48), none, none, none] [] (sM mo G I J) Q := by
  rw [sh_145_0]
  by_cases h : I 48 1 = I 1 4
  · rw [if_pos h]
    obtain ⟨rfl, h2⟩ := hc h
    have q := hQ _ _ _ _ h2
    rw [shM_s h] at q
    exact q
  · rw [if_neg h]
    have e : up2 (up2 I 48 1 (I 1 4)) 48 2 0 = shM I 0 (I 49) (I 50) (I 143) := by
      funext c
      unfold shM
      by_cases h1 : c = 143
      · subst h1; rw [rw2_a, up2_rn _ _ _ _ _ (by decide), up2_rn _ _ _ _ _ (by decide)]
      · rw [rw2_n _ _ _ _ h1]
        by_cases h2 : c = 50
        · subst h2; rw [rw2_a, up2_rn _ _ _ _ _ (by decide), up2_rn _ _ _ _ _ (by decide)]
        · rw [rw2_n _ _ _ _ h2]
          by_cases h3 : c = 49
          · subst h3; rw [rw2_a, up2_rn _ _ _ _ _ (by decide), up2_rn _ _ _ _ _ (by decide)]
          · rw [rw2_n _ _ _ _ h3]
    rw [e]
    refine lc_145 hn h12 hm h6 hW hQ (m - 1) 1 (by omega) (by omega) 0 _ _ _ 0 ⟨Nat.zero_le _, fun c d hcd => ?_, fun c d hcd hd => ?_⟩
    · unfold bf at hcd; omega
    · rw [bt_0]
      refine ⟨fun e => (by cases e), fun e => ?_⟩
      have := e.1
      unfold bf at this
      omega
end S4
