/-! Settlements: what is prepared. -/
theorem dsp_e {I : Nat → Nat → Int32} {n l : Nat} {pr : Int32} (hn : I 1 0 = zI n) (h12 : n ≤ 12) (hl : l < n) (h6 : ∀ l k, 6 ≤ k → bt (I 5 l) k = false) : (vf_Realm_isDisputed I (zI l) pr ↔ stD (I 5) pr l = true) ∧ aLand I 5 0 (zI l) = I 5 l := by
  have e : aLand I 5 0 (zI l) = I 5 l := by
    unfold aLand
    rw [if_pos (by rw [hLand_vp hn h12, zI_sIn (by omega) (by omega)]; exact hl), zI_cn (by omega)]
  refine ⟨?_, e⟩
  unfold vf_Realm_isDisputed
  have b := bc_6 (x := I 5 l &&& pr) (fun k hk => by rw [bt_and, h6 l k hk, Bool.false_and])
  rw [e, b.1, zIr_lt (c := 2) (by decide) (by omega)]
  unfold stD
  rw [decide_eq_true_iff]
  show ¬ pc6 (I 5 l &&& pr) < 2 ↔ _
  omega
theorem gtC_n (n : Nat) (r4 r5 W : Nat → Int32) (pr : Int32) (s : Nat) (hs : s < 6) : gtC n r4 r5 W pr (fun _ => -1) s = sur n r4 r5 W pr s := by
  have e : ∀ K, gsm n r5 W pr (fun _ => -1) K s = 0 := by
    intro K
    induction K with
    | zero => rfl
    | succ K ih => rw [gsm_s, if_neg (by rw [zI_m1' (by omega)]; exact id), ih]
  unfold gtC
  rw [e]
  rfl
section T2
variable {X : (Nat → Int32) × Nat} {mo : Bool} {G : Nat × Nat} {I : Nat → Nat → Int32} {J : Nat → Nat → Int64} {Q : Option Value → sm_M → Prop}
def cs_P1 (n : Nat) (r5 : Nat → Int32) (pr : Int32) (l : Nat) (K : Nat → Nat → Int32) : Prop := K 52 2 = pr ∧ K 52 12 = 0 ∧ K 52 5 = zI (cN (stD r5 pr) l) ∧ ∀ j, j < 8 → j < cN (stD r5 pr) l → K 53 j = zI (dl n r5 pr j) ∧ K 54 j = clB n r5 pr j ∧ K 55 j = -1
def cs_P2 (n m : Nat) (r4 r5 r12 W : Nat → Int32) (pr : Int32) (t : Nat) (K : Nat → Nat → Int32) : Prop := K 52 2 = pr ∧ K 52 5 = zI (dK n r5 pr) ∧ (∀ j, j < 8 → j < dK n r5 pr → K 53 j = zI (dl n r5 pr j) ∧ K 54 j = clB n r5 pr j ∧ K 55 j = -1) ∧
  (∀ s, s < t → K 56 s = zI (sur n r4 r5 W pr s) ∧ K 57 s = zI (nowN r4 W n s) ∧ K 58 s = zI (bdN m r12 s)) ∧ ∀ s, bt (K 52 12) s = (decide (s < t) && (bt pr s && decide (bdN m r12 s ≤ sur n r4 r5 W pr s)))
theorem cs_129b {n m : Nat} {pr : Int32} (hn : I 1 0 = zI n) (h12 : n ≤ 12) (hm : I 1 1 = zI m) (h6m : m ≤ 6) (hW : okW (I 13)) (hB : ∀ j, ∃ w, w ≤ 999 ∧ I 12 j = zI w)
    (hQ : ∀ K, FrS 52 58 I K → (∀ j, j < 8 → j < dK n (I 5) pr → K 55 j = -1) → SI n m (I 4) (I 5) (I 12) (I 13) pr (fun _ => -1) (K 52) (K 53) (K 54) (K 56) (K 57) (K 58) → Q none (sM mo G K J)) :
    ∀ d t, t + d = 6 → ∀ K, FrS 52 58 I K → cs_P2 n m (I 4) (I 5) (I 12) (I 13) pr t K → sm_wp X 129 117 [some (.ref 52), none, some (.int (fxd (I 5) pr n)), some (.int (zI t)), none] [] (sM mo G K J) Q := by
  intro d
  induction d with
  | zero =>
    intro t ht K f h
    have : t = 6 := by omega
    subst this
    rw [lp_129_117, if_pos (by decide)]
    obtain ⟨h1, h2, h3, h4, h5⟩ := h
    refine hQ K f (fun j a b => (h3 j a b).2.2) ⟨h1, h2, fun j a b => ⟨(h3 j a b).1, (h3 j a b).2.1⟩, fun s hs => ?_, fun s => ?_⟩
    · rw [gtC_n _ _ _ _ _ _ hs]; exact h4 s hs
    · rw [h5 s]
      by_cases g : s < 6
      · rw [gtC_n _ _ _ _ _ _ g]
      · rw [decide_eq_false g, Bool.false_and, Bool.false_and]
  | succ d ih =>
    intro t ht K f h
    have k1 : K 1 = I 1 := f.1 1 (by decide)
    have k4 : K 4 = I 4 := f.1 4 (by decide)
    have k12 : K 12 = I 12 := f.1 12 (by decide)
    have k13 : K 13 = I 13 := f.1 13 (by decide)
    have t6 : t < 6 := by omega
    obtain ⟨h1, h2, h3, h4, h5⟩ := h
    rw [lp_129_117, if_neg (by rw [zIl_le (c := 6) (by decide) (by omega)]; show ¬ 6 ≤ t; omega), ct_landsHeld _ _ _ _ _ _ (by rw [k1]; exact hn) h12, k4]
    simp only [tl_some]
    rw [lp_129_131, ct_worthOfLands _ _ _ _ _ _ (by rw [k1]; exact hn) h12, k13, wsum_w hW t6 h12]
    simp only [tl_some]
    rw [lp_129_148, zI_vp (by omega), zI_cn (by omega)]
    refine ⟨t6, t6, ?_⟩
    have e12 : aState (up2 K 57 t (zI (wA (I 13) t (hlds (I 4) (zI t) n) n))) 12 0 (zI t) = zI (bdN m (I 12) t) := by
      unfold aState bdN
      have hh : hState (up2 K 57 t (zI (wA (I 13) t (hlds (I 4) (zI t) n) n))) (zI t) = (t < m) := by
        rw [hState_vp (n := m) (by rw [up2_rn _ _ _ _ _ (by decide), k1]; exact hm) h6m, zI_sIn (by omega) (by omega)]
      by_cases g : t < m
      · rw [if_pos (by rw [hh]; exact g), if_pos g, up2_rn _ _ _ _ _ (by decide), k12, zI_cn (by omega)]
        obtain ⟨w, hw, e⟩ := hB t
        rw [e, zI_cn (by omega)]
      · rw [if_neg (by rw [hh]; exact g), if_neg g]
        rfl
    rw [e12]
    generalize hL : up2 (up2 (up2 K 57 t (zI (wA (I 13) t (hlds (I 4) (zI t) n) n))) 58 t (zI (bdN m (I 12) t))) 56 t 0 = L
    have l52 : L 52 = K 52 := by rw [← hL]; simp (decide := true) only [up2_ra, up2_rn, va_ap, ne_eq, if_false, if_true, not_false_eq_true]
    have l53 : L 53 = K 53 := by rw [← hL]; simp (decide := true) only [up2_ra, up2_rn, va_ap, ne_eq, if_false, if_true, not_false_eq_true]
    have l54 : L 54 = K 54 := by rw [← hL]; simp (decide := true) only [up2_ra, up2_rn, va_ap, ne_eq, if_false, if_true, not_false_eq_true]
    have l55 : L 55 = K 55 := by rw [← hL]; simp (decide := true) only [up2_ra, up2_rn, va_ap, ne_eq, if_false, if_true, not_false_eq_true]
    have l56 : L 56 = va_up (K 56) t 0 := by rw [← hL]; simp (decide := true) only [up2_ra, up2_rn, va_ap, ne_eq, if_false, if_true, not_false_eq_true]
    have l57 : L 57 = va_up (K 57) t (zI (nowN (I 4) (I 13) n t)) := by rw [← hL]; simp (decide := true) only [up2_ra, up2_rn, va_ap, ne_eq, if_false, if_true, not_false_eq_true]; rfl
    have l58 : L 58 = va_up (K 58) t (zI (bdN m (I 12) t)) := by rw [← hL]; simp (decide := true) only [up2_ra, up2_rn, va_ap, ne_eq, if_false, if_true, not_false_eq_true]
    have fL : FrS 52 58 I L := by
      refine ⟨fun c hc => ?_, fun j a b c => ?_⟩
      · rw [← hL, up2_rn _ _ _ _ _ (by omega), up2_rn _ _ _ _ _ (by omega), up2_rn _ _ _ _ _ (by omega), f.1 c hc]
      · rw [l52, f.2 j a b c]
    have L1 : L 1 = I 1 := fL.1 1 (by decide)
    have L13 : L 13 = I 13 := fL.1 13 (by decide)
    rw [ct_worthOfLands _ _ _ _ _ _ (by rw [L1]; exact hn) h12, L13, wsum_w hW t6 h12]
    simp only [tl_some]
    rw [lp_129_184]
    have sb := sur_b (r4 := I 4) (r5 := I 5) (pr := pr) hW h12 t
    have bb := bdN_b (m := m) hB t
    refine cs_130 (bd := bdN m (I 12) t) (g := sur n (I 4) (I 5) (I 13) pr t) t6 (by rw [l56, va_ap, if_pos rfl, Int32.zero_add]; rfl) (by omega) (by rw [l58, va_ap, if_pos rfl]) (by omega) ?_ (fun j hj => by rw [l52, h5 j, decide_eq_false (by omega), Bool.false_and]) (fun e => by
      rw [l52, h5 t, decide_eq_false (Nat.lt_irrefl _), Bool.false_and] at e
      cases e)
    intro kp' hk _
    rw [l52, h1] at hk
    simp only [tl_none]
    rw [lp_129_187, show zI t + 1 = zI (t + 1) from zIr_add 1 t]
    generalize hN : up2 (up2 L 56 t (zI (sur n (I 4) (I 5) (I 13) pr t))) 52 12 kp' = N
    have n52 : N 52 = va_up (K 52) 12 kp' := by rw [← hN, ← l52]; simp (decide := true) only [up2_ra, up2_rn, va_ap, ne_eq, if_false, if_true, not_false_eq_true]
    have n53 : N 53 = K 53 := by rw [← hN, ← l53]; simp (decide := true) only [up2_ra, up2_rn, va_ap, ne_eq, if_false, if_true, not_false_eq_true]
    have n54 : N 54 = K 54 := by rw [← hN, ← l54]; simp (decide := true) only [up2_ra, up2_rn, va_ap, ne_eq, if_false, if_true, not_false_eq_true]
    have n55 : N 55 = K 55 := by rw [← hN, ← l55]; simp (decide := true) only [up2_ra, up2_rn, va_ap, ne_eq, if_false, if_true, not_false_eq_true]
    have n56 : N 56 = va_up (L 56) t (zI (sur n (I 4) (I 5) (I 13) pr t)) := by rw [← hN]; simp (decide := true) only [up2_ra, up2_rn, va_ap, ne_eq, if_false, if_true, not_false_eq_true]
    have n57 : N 57 = L 57 := by rw [← hN]; simp (decide := true) only [up2_ra, up2_rn, va_ap, ne_eq, if_false, if_true, not_false_eq_true]
    have n58 : N 58 = L 58 := by rw [← hN]; simp (decide := true) only [up2_ra, up2_rn, va_ap, ne_eq, if_false, if_true, not_false_eq_true]
    refine ih (t + 1) (by omega) N ⟨fun c hc => ?_, fun j a b c => ?_⟩ ⟨?_, ?_, ?_, ?_, ?_⟩
    · rw [← hN, up2_rn _ _ _ _ _ (by omega), up2_rn _ _ _ _ _ (by omega), fL.1 c hc]
    · rw [n52, va_ap, if_neg c, f.2 j a b c]
    · rw [n52]; exact h1
    · rw [n52]; exact h2
    · rw [n53, n54, n55]; exact h3
    · intro s hs
      rw [n56, n57, n58, l56, l57, l58]
      simp only [va_ap]
      by_cases g : s = t
      · subst g; simp only [if_true]; exact ⟨trivial, trivial, trivial⟩
      · simp only [if_neg g]; exact h4 s (by omega)
    · intro s
      rw [n52, va_ap, if_pos rfl, hk s]
      by_cases g : s = t
      · subst g
        rw [if_pos rfl, decide_eq_true (Nat.lt_succ_self _), Bool.true_and]
      · rw [if_neg g, h5 s]
        have e : decide (s < t + 1) = decide (s < t) := by
          by_cases g2 : s < t
          · rw [decide_eq_true g2, decide_eq_true (by omega)]
          · rw [decide_eq_false g2, decide_eq_false (by omega)]
        rw [e]
theorem cs_129 {n m : Nat} {pr : Int32} (hn : I 1 0 = zI n) (h12 : n ≤ 12) (hm : I 1 1 = zI m) (h6m : m ≤ 6) (h6 : ∀ l k, 6 ≤ k → bt (I 5 l) k = false) (hW : okW (I 13)) (hB : ∀ j, ∃ w, w ≤ 999 ∧ I 12 j = zI w)
    (hQ : ∀ K, FrS 52 58 I K → (∀ j, j < 8 → j < dK n (I 5) pr → K 55 j = -1) → SI n m (I 4) (I 5) (I 12) (I 13) pr (fun _ => -1) (K 52) (K 53) (K 54) (K 56) (K 57) (K 58) → Q none (sM mo G K J)) :
    sm_wp X 129 0 [some (.ref 52), some (.int pr), none, none, none] [] (sM mo G I J) Q := by
  have key : ∀ d l, l + d = n → ∀ K, FrS 52 58 I K → cs_P1 n (I 5) pr l K → sm_wp X 129 19 [some (.ref 52), some (.int pr), some (.int (fxd (I 5) pr l)), some (.int (zI l)), none] [] (sM mo G K J) Q := by
    intro d
    induction d with
    | zero =>
      intro l hl K f h
      have : l = n := by omega
      subst this
      have k1 : K 1 = I 1 := f.1 1 (by decide)
      obtain ⟨h1, h2, h3, h4⟩ := h
      rw [lp_129_19, k1, hn, if_pos (by rw [zI_le (by omega) (by omega)]; omega)]
      refine cs_129b hn h12 hm h6m hW hB hQ 6 0 (by omega) K f ⟨h1, h3, h4, fun s hs => absurd hs (Nat.not_lt_zero _), fun s => ?_⟩
      rw [h2, bt_0, decide_eq_false (Nat.not_lt_zero _), Bool.false_and]
    | succ d ih =>
      intro l hl K f h
      have k1 : K 1 = I 1 := f.1 1 (by decide)
      have k5 : K 5 = I 5 := f.1 5 (by decide)
      have ln : l < n := by omega
      obtain ⟨h1, h2, h3, h4⟩ := h
      have de := dsp_e (I := K) (pr := pr) (by rw [k1]; exact hn) h12 ln (by rw [k5]; exact h6)
      rw [k5] at de
      have c12 := cN_le (stD (I 5) pr) l
      rw [lp_129_19, k1, hn, if_neg (by rw [zI_le (by omega) (by omega)]; omega), show zI l + 1 = zI (l + 1) from zIr_add 1 l]
      have fx : fxd (I 5) pr (l + 1) = if stD (I 5) pr l = true then fxd (I 5) pr l else fxd (I 5) pr l ||| b1 l := rfl
      by_cases g : stD (I 5) pr l = true
      · rw [if_pos g] at fx
        rw [if_pos (de.1.mpr g), h3, ← fx, show zI (cN (stD (I 5) pr) l) + 1 = zI (cN (stD (I 5) pr) l + 1) from zIr_add 1 _]
        by_cases g8 : 8 ≤ cN (stD (I 5) pr) l
        · rw [if_pos (by rw [zIl_le (c := 8) (by decide) (by omega)]; exact g8)]
          refine ih (l + 1) (by omega) _ ⟨fun c hc => ?_, fun j a b c => ?_⟩ ⟨?_, ?_, ?_, fun j hj hj2 => ?_⟩
          · rw [up2_rn _ _ _ _ _ (by omega), f.1 c hc]
          · rw [up2_ra, va_ap, if_neg b, f.2 j a b c]
          · rw [up2_ra, va_ap, if_neg (by decide)]; exact h1
          · rw [up2_ra, va_ap, if_neg (by decide)]; exact h2
          · rw [up2_ra, va_ap, if_pos rfl, cN_p g]
          · rw [up2_rn _ _ _ _ _ (by decide), up2_rn _ _ _ _ _ (by decide), up2_rn _ _ _ _ _ (by decide)]
            exact h4 j hj (by omega)
        · rw [if_neg (by rw [zIl_le (c := 8) (by decide) (by omega)]; exact g8), zI_vp (by omega), zI_cn (by omega)]
          refine ⟨by omega, ?_⟩
          have ea : aLand (up2 K 53 (cN (stD (I 5) pr) l) (zI l)) 5 0 (zI l) = I 5 l := by
            have := (dsp_e (I := up2 K 53 (cN (stD (I 5) pr) l) (zI l)) (pr := pr) (by rw [up2_rn _ _ _ _ _ (by decide), k1]; exact hn) h12 ln (by rw [up2_rn _ _ _ _ _ (by decide), k5]; exact h6)).2
            rw [this, up2_rn _ _ _ _ _ (by decide), k5]
          rw [ea]
          generalize hL : up2 (up2 (up2 (up2 K 53 (cN (stD (I 5) pr) l) (zI l)) 54 (cN (stD (I 5) pr) l) (I 5 l &&& pr)) 55 (cN (stD (I 5) pr) l) (-1)) 52 5 (zI (cN (stD (I 5) pr) l + 1)) = L
          have l52 : L 52 = va_up (K 52) 5 (zI (cN (stD (I 5) pr) l + 1)) := by rw [← hL]; simp (decide := true) only [up2_ra, up2_rn, va_ap, ne_eq, if_false, if_true, not_false_eq_true]
          have l53 : L 53 = va_up (K 53) (cN (stD (I 5) pr) l) (zI l) := by rw [← hL]; simp (decide := true) only [up2_ra, up2_rn, va_ap, ne_eq, if_false, if_true, not_false_eq_true]
          have l54 : L 54 = va_up (K 54) (cN (stD (I 5) pr) l) (I 5 l &&& pr) := by rw [← hL]; simp (decide := true) only [up2_ra, up2_rn, va_ap, ne_eq, if_false, if_true, not_false_eq_true]
          have l55 : L 55 = va_up (K 55) (cN (stD (I 5) pr) l) (-1) := by rw [← hL]; simp (decide := true) only [up2_ra, up2_rn, va_ap, ne_eq, if_false, if_true, not_false_eq_true]
          refine ih (l + 1) (by omega) L ⟨fun c hc => ?_, fun j a b c => ?_⟩ ⟨?_, ?_, ?_, fun j hj hj2 => ?_⟩
          · rw [← hL, up2_rn _ _ _ _ _ (by omega), up2_rn _ _ _ _ _ (by omega), up2_rn _ _ _ _ _ (by omega), up2_rn _ _ _ _ _ (by omega), f.1 c hc]
          · rw [l52, va_ap, if_neg b, f.2 j a b c]
          · rw [l52, va_ap, if_neg (by decide)]; exact h1
          · rw [l52, va_ap, if_neg (by decide)]; exact h2
          · rw [l52, va_ap, if_pos rfl, cN_p g]
          · rw [l53, l54, l55]
            simp only [va_ap]
            have dle : dl n (I 5) pr (cN (stD (I 5) pr) l) = l := nt_c ln g
            by_cases gj : j = cN (stD (I 5) pr) l
            · subst gj
              unfold clB
              rw [dle]
              simp only [if_true]
              exact ⟨trivial, trivial, trivial⟩
            · simp only [if_neg gj]
              rw [cN_p g] at hj2
              exact h4 j hj (by omega)
      · rw [if_neg g] at fx
        rw [if_neg (fun e => g (de.1.mp e)), show fxd (I 5) pr l ||| ((1 : Int32) <<< (zI l &&& 31)) = fxd (I 5) pr (l + 1) from fx.symm]
        refine ih (l + 1) (by omega) K f ⟨h1, h2, ?_, ?_⟩
        · rw [cN_q g]; exact h3
        · rw [cN_q g]; exact h4
  rw [lp_129_0]
  generalize hL : up2 (up2 (up2 I 52 2 pr) 52 12 0) 52 5 0 = L
  have l52 : L 52 = va_up (va_up (va_up (I 52) 2 pr) 12 0) 5 0 := by rw [← hL]; simp (decide := true) only [up2_ra, up2_rn, va_ap, ne_eq, if_false, if_true, not_false_eq_true]
  refine key n 0 (by omega) L ⟨fun c hc => ?_, fun j a b c => ?_⟩ ⟨?_, ?_, ?_, fun j _ hj2 => absurd hj2 (Nat.not_lt_zero _)⟩
  · rw [← hL, up2_rn _ _ _ _ _ (by omega), up2_rn _ _ _ _ _ (by omega), up2_rn _ _ _ _ _ (by omega)]
  · rw [l52, va_ap, if_neg b, va_ap, if_neg c, va_ap, if_neg a]
  · rw [l52]; simp (decide := true) only [va_ap, if_false, if_true]
  · rw [l52]; simp (decide := true) only [va_ap, if_false, if_true]
  · rw [l52]; rfl
def cw_P1 (n : Nat) (r5 : Nat → Int32) (pr : Int32) (l : Nat) (K : Nat → Nat → Int32) : Prop := K 60 2 = pr ∧ K 60 12 = 0 ∧ K 60 5 = zI (cN (stD r5 pr) l) ∧ ∀ j, j < 8 → j < cN (stD r5 pr) l → K 61 j = zI (dl n r5 pr j) ∧ K 62 j = clB n r5 pr j ∧ K 63 j = -1
def cw_P2 (n m : Nat) (r4 r5 r12 W : Nat → Int32) (pr : Int32) (t : Nat) (K : Nat → Nat → Int32) : Prop := K 60 2 = pr ∧ K 60 5 = zI (dK n r5 pr) ∧ (∀ j, j < 8 → j < dK n r5 pr → K 61 j = zI (dl n r5 pr j) ∧ K 62 j = clB n r5 pr j ∧ K 63 j = -1) ∧
  (∀ s, s < t → K 64 s = zI (sur n r4 r5 W pr s) ∧ K 65 s = zI (nowN r4 W n s) ∧ K 66 s = zI (bdN m r12 s)) ∧ ∀ s, bt (K 60 12) s = (decide (s < t) && (bt pr s && decide (bdN m r12 s ≤ sur n r4 r5 W pr s)))
theorem cw_129b {n m : Nat} {pr : Int32} (hn : I 1 0 = zI n) (h12 : n ≤ 12) (hm : I 1 1 = zI m) (h6m : m ≤ 6) (hW : okW (I 13)) (hB : ∀ j, ∃ w, w ≤ 999 ∧ I 12 j = zI w)
    (hQ : ∀ K, FrS 60 66 I K → (∀ j, j < 8 → j < dK n (I 5) pr → K 63 j = -1) → SI n m (I 4) (I 5) (I 12) (I 13) pr (fun _ => -1) (K 60) (K 61) (K 62) (K 64) (K 65) (K 66) → Q none (sM mo G K J)) :
    ∀ d t, t + d = 6 → ∀ K, FrS 60 66 I K → cw_P2 n m (I 4) (I 5) (I 12) (I 13) pr t K → sm_wp X 129 117 [some (.ref 60), none, some (.int (fxd (I 5) pr n)), some (.int (zI t)), none] [] (sM mo G K J) Q := by
  intro d
  induction d with
  | zero =>
    intro t ht K f h
    have : t = 6 := by omega
    subst this
    rw [lpw_129_117, if_pos (by decide)]
    obtain ⟨h1, h2, h3, h4, h5⟩ := h
    refine hQ K f (fun j a b => (h3 j a b).2.2) ⟨h1, h2, fun j a b => ⟨(h3 j a b).1, (h3 j a b).2.1⟩, fun s hs => ?_, fun s => ?_⟩
    · rw [gtC_n _ _ _ _ _ _ hs]; exact h4 s hs
    · rw [h5 s]
      by_cases g : s < 6
      · rw [gtC_n _ _ _ _ _ _ g]
      · rw [decide_eq_false g, Bool.false_and, Bool.false_and]
  | succ d ih =>
    intro t ht K f h
    have k1 : K 1 = I 1 := f.1 1 (by decide)
    have k4 : K 4 = I 4 := f.1 4 (by decide)
    have k12 : K 12 = I 12 := f.1 12 (by decide)
    have k13 : K 13 = I 13 := f.1 13 (by decide)
    have t6 : t < 6 := by omega
    obtain ⟨h1, h2, h3, h4, h5⟩ := h
    rw [lpw_129_117, if_neg (by rw [zIl_le (c := 6) (by decide) (by omega)]; show ¬ 6 ≤ t; omega), ct_landsHeld _ _ _ _ _ _ (by rw [k1]; exact hn) h12, k4]
    simp only [tl_some]
    rw [lpw_129_131, ct_worthOfLands _ _ _ _ _ _ (by rw [k1]; exact hn) h12, k13, wsum_w hW t6 h12]
    simp only [tl_some]
    rw [lpw_129_148, zI_vp (by omega), zI_cn (by omega)]
    refine ⟨t6, t6, ?_⟩
    have e12 : aState (up2 K 65 t (zI (wA (I 13) t (hlds (I 4) (zI t) n) n))) 12 0 (zI t) = zI (bdN m (I 12) t) := by
      unfold aState bdN
      have hh : hState (up2 K 65 t (zI (wA (I 13) t (hlds (I 4) (zI t) n) n))) (zI t) = (t < m) := by
        rw [hState_vp (n := m) (by rw [up2_rn _ _ _ _ _ (by decide), k1]; exact hm) h6m, zI_sIn (by omega) (by omega)]
      by_cases g : t < m
      · rw [if_pos (by rw [hh]; exact g), if_pos g, up2_rn _ _ _ _ _ (by decide), k12, zI_cn (by omega)]
        obtain ⟨w, hw, e⟩ := hB t
        rw [e, zI_cn (by omega)]
      · rw [if_neg (by rw [hh]; exact g), if_neg g]
        rfl
    rw [e12]
    generalize hL : up2 (up2 (up2 K 65 t (zI (wA (I 13) t (hlds (I 4) (zI t) n) n))) 66 t (zI (bdN m (I 12) t))) 64 t 0 = L
    have l52 : L 60 = K 60 := by rw [← hL]; simp (decide := true) only [up2_ra, up2_rn, va_ap, ne_eq, if_false, if_true, not_false_eq_true]
    have l53 : L 61 = K 61 := by rw [← hL]; simp (decide := true) only [up2_ra, up2_rn, va_ap, ne_eq, if_false, if_true, not_false_eq_true]
    have l54 : L 62 = K 62 := by rw [← hL]; simp (decide := true) only [up2_ra, up2_rn, va_ap, ne_eq, if_false, if_true, not_false_eq_true]
    have l55 : L 63 = K 63 := by rw [← hL]; simp (decide := true) only [up2_ra, up2_rn, va_ap, ne_eq, if_false, if_true, not_false_eq_true]
    have l56 : L 64 = va_up (K 64) t 0 := by rw [← hL]; simp (decide := true) only [up2_ra, up2_rn, va_ap, ne_eq, if_false, if_true, not_false_eq_true]
    have l57 : L 65 = va_up (K 65) t (zI (nowN (I 4) (I 13) n t)) := by rw [← hL]; simp (decide := true) only [up2_ra, up2_rn, va_ap, ne_eq, if_false, if_true, not_false_eq_true]; rfl
    have l58 : L 66 = va_up (K 66) t (zI (bdN m (I 12) t)) := by rw [← hL]; simp (decide := true) only [up2_ra, up2_rn, va_ap, ne_eq, if_false, if_true, not_false_eq_true]
    have fL : FrS 60 66 I L := by
      refine ⟨fun c hc => ?_, fun j a b c => ?_⟩
      · rw [← hL, up2_rn _ _ _ _ _ (by omega), up2_rn _ _ _ _ _ (by omega), up2_rn _ _ _ _ _ (by omega), f.1 c hc]
      · rw [l52, f.2 j a b c]
    have L1 : L 1 = I 1 := fL.1 1 (by decide)
    have L13 : L 13 = I 13 := fL.1 13 (by decide)
    rw [ct_worthOfLands _ _ _ _ _ _ (by rw [L1]; exact hn) h12, L13, wsum_w hW t6 h12]
    simp only [tl_some]
    rw [lpw_129_184]
    have sb := sur_b (r4 := I 4) (r5 := I 5) (pr := pr) hW h12 t
    have bb := bdN_b (m := m) hB t
    refine cw_130 (bd := bdN m (I 12) t) (g := sur n (I 4) (I 5) (I 13) pr t) t6 (by rw [l56, va_ap, if_pos rfl, Int32.zero_add]; rfl) (by omega) (by rw [l58, va_ap, if_pos rfl]) (by omega) ?_ (fun j hj => by rw [l52, h5 j, decide_eq_false (by omega), Bool.false_and]) (fun e => by
      rw [l52, h5 t, decide_eq_false (Nat.lt_irrefl _), Bool.false_and] at e
      cases e)
    intro kp' hk _
    rw [l52, h1] at hk
    simp only [tl_none]
    rw [lpw_129_187, show zI t + 1 = zI (t + 1) from zIr_add 1 t]
    generalize hN : up2 (up2 L 64 t (zI (sur n (I 4) (I 5) (I 13) pr t))) 60 12 kp' = N
    have n52 : N 60 = va_up (K 60) 12 kp' := by rw [← hN, ← l52]; simp (decide := true) only [up2_ra, up2_rn, va_ap, ne_eq, if_false, if_true, not_false_eq_true]
    have n53 : N 61 = K 61 := by rw [← hN, ← l53]; simp (decide := true) only [up2_ra, up2_rn, va_ap, ne_eq, if_false, if_true, not_false_eq_true]
    have n54 : N 62 = K 62 := by rw [← hN, ← l54]; simp (decide := true) only [up2_ra, up2_rn, va_ap, ne_eq, if_false, if_true, not_false_eq_true]
    have n55 : N 63 = K 63 := by rw [← hN, ← l55]; simp (decide := true) only [up2_ra, up2_rn, va_ap, ne_eq, if_false, if_true, not_false_eq_true]
    have n56 : N 64 = va_up (L 64) t (zI (sur n (I 4) (I 5) (I 13) pr t)) := by rw [← hN]; simp (decide := true) only [up2_ra, up2_rn, va_ap, ne_eq, if_false, if_true, not_false_eq_true]
    have n57 : N 65 = L 65 := by rw [← hN]; simp (decide := true) only [up2_ra, up2_rn, va_ap, ne_eq, if_false, if_true, not_false_eq_true]
    have n58 : N 66 = L 66 := by rw [← hN]; simp (decide := true) only [up2_ra, up2_rn, va_ap, ne_eq, if_false, if_true, not_false_eq_true]
    refine ih (t + 1) (by omega) N ⟨fun c hc => ?_, fun j a b c => ?_⟩ ⟨?_, ?_, ?_, ?_, ?_⟩
    · rw [← hN, up2_rn _ _ _ _ _ (by omega), up2_rn _ _ _ _ _ (by omega), fL.1 c hc]
    · rw [n52, va_ap, if_neg c, f.2 j a b c]
    · rw [n52]; exact h1
    · rw [n52]; exact h2
    · rw [n53, n54, n55]; exact h3
    · intro s hs
      rw [n56, n57, n58, l56, l57, l58]
      simp only [va_ap]
      by_cases g : s = t
      · subst g; simp only [if_true]; exact ⟨trivial, trivial, trivial⟩
      · simp only [if_neg g]; exact h4 s (by omega)
    · intro s
      rw [n52, va_ap, if_pos rfl, hk s]
      by_cases g : s = t
      · subst g
        rw [if_pos rfl, decide_eq_true (Nat.lt_succ_self _), Bool.true_and]
      · rw [if_neg g, h5 s]
        have e : decide (s < t + 1) = decide (s < t) := by
          by_cases g2 : s < t
          · rw [decide_eq_true g2, decide_eq_true (by omega)]
          · rw [decide_eq_false g2, decide_eq_false (by omega)]
        rw [e]
theorem cw_129 {n m : Nat} {pr : Int32} (hn : I 1 0 = zI n) (h12 : n ≤ 12) (hm : I 1 1 = zI m) (h6m : m ≤ 6) (h6 : ∀ l k, 6 ≤ k → bt (I 5 l) k = false) (hW : okW (I 13)) (hB : ∀ j, ∃ w, w ≤ 999 ∧ I 12 j = zI w)
    (hQ : ∀ K, FrS 60 66 I K → (∀ j, j < 8 → j < dK n (I 5) pr → K 63 j = -1) → SI n m (I 4) (I 5) (I 12) (I 13) pr (fun _ => -1) (K 60) (K 61) (K 62) (K 64) (K 65) (K 66) → Q none (sM mo G K J)) :
    sm_wp X 129 0 [some (.ref 60), some (.int pr), none, none, none] [] (sM mo G I J) Q := by
  have key : ∀ d l, l + d = n → ∀ K, FrS 60 66 I K → cw_P1 n (I 5) pr l K → sm_wp X 129 19 [some (.ref 60), some (.int pr), some (.int (fxd (I 5) pr l)), some (.int (zI l)), none] [] (sM mo G K J) Q := by
    intro d
    induction d with
    | zero =>
      intro l hl K f h
      have : l = n := by omega
      subst this
      have k1 : K 1 = I 1 := f.1 1 (by decide)
      obtain ⟨h1, h2, h3, h4⟩ := h
      rw [lpw_129_19, k1, hn, if_pos (by rw [zI_le (by omega) (by omega)]; omega)]
      refine cw_129b hn h12 hm h6m hW hB hQ 6 0 (by omega) K f ⟨h1, h3, h4, fun s hs => absurd hs (Nat.not_lt_zero _), fun s => ?_⟩
      rw [h2, bt_0, decide_eq_false (Nat.not_lt_zero _), Bool.false_and]
    | succ d ih =>
      intro l hl K f h
      have k1 : K 1 = I 1 := f.1 1 (by decide)
      have k5 : K 5 = I 5 := f.1 5 (by decide)
      have ln : l < n := by omega
      obtain ⟨h1, h2, h3, h4⟩ := h
      have de := dsp_e (I := K) (pr := pr) (by rw [k1]; exact hn) h12 ln (by rw [k5]; exact h6)
      rw [k5] at de
      have c12 := cN_le (stD (I 5) pr) l
      rw [lpw_129_19, k1, hn, if_neg (by rw [zI_le (by omega) (by omega)]; omega), show zI l + 1 = zI (l + 1) from zIr_add 1 l]
      have fx : fxd (I 5) pr (l + 1) = if stD (I 5) pr l = true then fxd (I 5) pr l else fxd (I 5) pr l ||| b1 l := rfl
      by_cases g : stD (I 5) pr l = true
      · rw [if_pos g] at fx
        rw [if_pos (de.1.mpr g), h3, ← fx, show zI (cN (stD (I 5) pr) l) + 1 = zI (cN (stD (I 5) pr) l + 1) from zIr_add 1 _]
        by_cases g8 : 8 ≤ cN (stD (I 5) pr) l
        · rw [if_pos (by rw [zIl_le (c := 8) (by decide) (by omega)]; exact g8)]
          refine ih (l + 1) (by omega) _ ⟨fun c hc => ?_, fun j a b c => ?_⟩ ⟨?_, ?_, ?_, fun j hj hj2 => ?_⟩
          · rw [up2_rn _ _ _ _ _ (by omega), f.1 c hc]
          · rw [up2_ra, va_ap, if_neg b, f.2 j a b c]
          · rw [up2_ra, va_ap, if_neg (by decide)]; exact h1
          · rw [up2_ra, va_ap, if_neg (by decide)]; exact h2
          · rw [up2_ra, va_ap, if_pos rfl, cN_p g]
          · rw [up2_rn _ _ _ _ _ (by decide), up2_rn _ _ _ _ _ (by decide), up2_rn _ _ _ _ _ (by decide)]
            exact h4 j hj (by omega)
        · rw [if_neg (by rw [zIl_le (c := 8) (by decide) (by omega)]; exact g8), zI_vp (by omega), zI_cn (by omega)]
          refine ⟨by omega, ?_⟩
          have ea : aLand (up2 K 61 (cN (stD (I 5) pr) l) (zI l)) 5 0 (zI l) = I 5 l := by
            have := (dsp_e (I := up2 K 61 (cN (stD (I 5) pr) l) (zI l)) (pr := pr) (by rw [up2_rn _ _ _ _ _ (by decide), k1]; exact hn) h12 ln (by rw [up2_rn _ _ _ _ _ (by decide), k5]; exact h6)).2
            rw [this, up2_rn _ _ _ _ _ (by decide), k5]
          rw [ea]
          generalize hL : up2 (up2 (up2 (up2 K 61 (cN (stD (I 5) pr) l) (zI l)) 62 (cN (stD (I 5) pr) l) (I 5 l &&& pr)) 63 (cN (stD (I 5) pr) l) (-1)) 60 5 (zI (cN (stD (I 5) pr) l + 1)) = L
          have l52 : L 60 = va_up (K 60) 5 (zI (cN (stD (I 5) pr) l + 1)) := by rw [← hL]; simp (decide := true) only [up2_ra, up2_rn, va_ap, ne_eq, if_false, if_true, not_false_eq_true]
          have l53 : L 61 = va_up (K 61) (cN (stD (I 5) pr) l) (zI l) := by rw [← hL]; simp (decide := true) only [up2_ra, up2_rn, va_ap, ne_eq, if_false, if_true, not_false_eq_true]
          have l54 : L 62 = va_up (K 62) (cN (stD (I 5) pr) l) (I 5 l &&& pr) := by rw [← hL]; simp (decide := true) only [up2_ra, up2_rn, va_ap, ne_eq, if_false, if_true, not_false_eq_true]
          have l55 : L 63 = va_up (K 63) (cN (stD (I 5) pr) l) (-1) := by rw [← hL]; simp (decide := true) only [up2_ra, up2_rn, va_ap, ne_eq, if_false, if_true, not_false_eq_true]
          refine ih (l + 1) (by omega) L ⟨fun c hc => ?_, fun j a b c => ?_⟩ ⟨?_, ?_, ?_, fun j hj hj2 => ?_⟩
          · rw [← hL, up2_rn _ _ _ _ _ (by omega), up2_rn _ _ _ _ _ (by omega), up2_rn _ _ _ _ _ (by omega), up2_rn _ _ _ _ _ (by omega), f.1 c hc]
          · rw [l52, va_ap, if_neg b, f.2 j a b c]
          · rw [l52, va_ap, if_neg (by decide)]; exact h1
          · rw [l52, va_ap, if_neg (by decide)]; exact h2
          · rw [l52, va_ap, if_pos rfl, cN_p g]
          · rw [l53, l54, l55]
            simp only [va_ap]
            have dle : dl n (I 5) pr (cN (stD (I 5) pr) l) = l := nt_c ln g
            by_cases gj : j = cN (stD (I 5) pr) l
            · subst gj
              unfold clB
              rw [dle]
              simp only [if_true]
              exact ⟨trivial, trivial, trivial⟩
            · simp only [if_neg gj]
              rw [cN_p g] at hj2
              exact h4 j hj (by omega)
      · rw [if_neg g] at fx
        rw [if_neg (fun e => g (de.1.mp e)), show fxd (I 5) pr l ||| ((1 : Int32) <<< (zI l &&& 31)) = fxd (I 5) pr (l + 1) from fx.symm]
        refine ih (l + 1) (by omega) K f ⟨h1, h2, ?_, ?_⟩
        · rw [cN_q g]; exact h3
        · rw [cN_q g]; exact h4
  rw [lpw_129_0]
  generalize hL : up2 (up2 (up2 I 60 2 pr) 60 12 0) 60 5 0 = L
  have l52 : L 60 = va_up (va_up (va_up (I 60) 2 pr) 12 0) 5 0 := by rw [← hL]; simp (decide := true) only [up2_ra, up2_rn, va_ap, ne_eq, if_false, if_true, not_false_eq_true]
  refine key n 0 (by omega) L ⟨fun c hc => ?_, fun j a b c => ?_⟩ ⟨?_, ?_, ?_, fun j _ hj2 => absurd hj2 (Nat.not_lt_zero _)⟩
  · rw [← hL, up2_rn _ _ _ _ _ (by omega), up2_rn _ _ _ _ _ (by omega), up2_rn _ _ _ _ _ (by omega)]
  · rw [l52, va_ap, if_neg b, va_ap, if_neg c, va_ap, if_neg a]
  · rw [l52]; simp (decide := true) only [va_ap, if_false, if_true]
  · rw [l52]; simp (decide := true) only [va_ap, if_false, if_true]
  · rw [l52]; rfl
end T2
