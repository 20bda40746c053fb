/-! The law's look: both sides. -/
theorem lg_self (x : Int64) : lg_cmp x x = 0 := by
  unfold lg_cmp
  simp
theorem inv_lk {c : Nat} {mo : Bool} {G G' : Nat × Nat} {I : Nat → Nat → Int32} {J J' : Nat → Nat → Int64} (v : Int32) (h : inv c mo G I J) (g1 : G'.1 ≤ G.1 + 1) (g2 : G'.2 ≤ G.2 + 6) (j52 : J' 52 = J 52) (j60 : J' 60 = J 60) : Inv (c + 1) (sM mo G' (up2 I 81 2 v) J') := by
  obtain ⟨n, m, t, p, q, r, ch, ln, hN, hE, hV, hY, hG, hK, hP, hS, hA, hT, hF, hB, hC, hD, hD2, hX, hZ⟩ := h
  refine ⟨mo, G', _, _, rfl, n, m, t, p, q, r, ch, ln, ?_⟩
  rw [j52, j60]
  simp (decide := true) only [up2_ra, up2_rn, va_ap, ne_eq, if_false, if_true, not_false_eq_true]
  exact ⟨hN, hE, hV, hY, hG, ivK_s hK, hP, hS, hA, hT, hF, hB, hC, hD, hD2, hX, by have := hZ.1; have := hZ.2; exact ⟨by omega, by omega⟩⟩
section K1
variable {X : (Nat → Int32) × Nat} {c : Nat} {mo : Bool} {G : Nat × Nat} {I : Nat → Nat → Int32} {J : Nat → Nat → Int64} {Q : Option Value → sm_M → Prop}
set_option maxRecDepth 100000 in
theorem bkx_315_1626 (X : (Nat → Int32) × Nat) (mo : Bool) (G : Nat × Nat) (I : Nat → Nat → Int32) (J : Nat → Nat → Int64) (Q : Option Value → sm_M → Prop) (x4 s0 : Int32) :
    sm_wp X 315 1626 [some (.retAddr 1), some (.ref 0), some (.ref 81), some (.ref 142), some (.int x4), none, none] [.int s0] (sM mo G I J) Q =
    (vp_in (x4 + 1) X.2 ∧ (vp_in (x4 + 2) X.2 ∧ (sm_wp X 308 0 [some (.ref 81), some (.int (X.1 (x4 + 1).toNatClampNeg)), some (.int (X.1 (x4 + 2).toNatClampNeg))] [] (sM mo G I J) (fun v M => sm_wp X 315 1644 [some (.retAddr 1), some (.ref 0), some (.ref 81), some (.ref 142), some (.int x4), some (.int s0), none] (v.toList ++ []) M Q)))) :=
  (sm_blk X 315 1626 (tt_lin 315 (by decide)) rfl rfl _ _ _ _).trans rfl
set_option maxRecDepth 100000 in
theorem bkx_315_1674 (X : (Nat → Int32) × Nat) (mo : Bool) (G : Nat × Nat) (I : Nat → Nat → Int32) (J : Nat → Nat → Int64) (Q : Option Value → sm_M → Prop) (x4 x5 x6 : Int32) :
    sm_wp X 315 1674 [some (.retAddr 1), some (.ref 0), some (.ref 81), some (.ref 142), some (.int x4), some (.int x5), some (.int x6)] [] (sM mo G I J) Q =
    (sm_wp X 315 23 [some (.retAddr 1), some (.ref 0), some (.ref 81), some (.ref 142), some (.int (x4 + 7)), none, none] [] (sM mo G I J) Q) :=
  (sm_blk X 315 1674 (tt_lin 315 (by decide)) rfl rfl _ _ _ _).trans rfl
set_option maxRecDepth 100000 in
theorem bkx_315_1644 (X : (Nat → Int32) × Nat) (mo : Bool) (G : Nat × Nat) (I : Nat → Nat → Int32) (J : Nat → Nat → Int64) (Q : Option Value → sm_M → Prop) (x4 x5 s0 : Int32) :
    sm_wp X 315 1644 [some (.retAddr 1), some (.ref 0), some (.ref 81), some (.ref 142), some (.int x4), some (.int x5), none] [.int s0] (sM mo G I J) Q =
    (sm_wp X 315 1674 [some (.retAddr 1), some (.ref 0), some (.ref 81), some (.ref 142), some (.int x4), some (.int x5), some (.int s0)] [] (sM mo G I J) Q) :=
  (sm_blk X 315 1644 (tt_lin 315 (by decide)) rfl rfl _ _ _ _).trans rfl
theorem sm_ckw {i pc : Nat} {e : Nat × List Bool × sm_R} {l : sm_T} {L L' : sm_L} {st st' : sm_S} {M M' : sm_M} {c : sm_C} (hc : sm_from (sm_code i) pc = e :: l) (hs : sm_step X e.2.2 L st M = some (.inr (.inl (c, L', st', M')))) (h1 : c.1) (h : sm_wp X i (pc + e.2.2.2.1) (sm_kl i (pc + e.2.2.2.1) L') st' M' Q) : sm_wp X i pc L st M Q := by
  obtain ⟨p, ks, r⟩ := e
  exact (sm_wp_step X hc).mpr ⟨_, hs, h1, h⟩
set_option maxRecDepth 100000 in
theorem lw_1609 {x4 : Int32} (h1 : vp_in (x4 + 1) X.2) (h2 : vp_in (x4 + 2) X.2) {z : sm_C × Option Value × sm_M} (hz : sm_look [.ref 0, .int (X.1 (x4 + 1).toNatClampNeg), .int (X.1 (x4 + 2).toNatClampNeg), .ref 142] (sM mo G I J) = some z) (hc : z.1.1) (h : sm_wp X 315 1626 [some (.retAddr 1), some (.ref 0), some (.ref 81), some (.ref 142), some (.int x4), none, none] (z.2.1.toList ++ []) z.2.2 Q) :
    sm_wp X 315 1609 [some (.retAddr 1), some (.ref 0), some (.ref 81), some (.ref 142), some (.int x4), none, none] [] (sM mo G I J) Q := by
  refine sm_gon_wp (show sm_gon X 5 315 1609 [some (.retAddr 1), some (.ref 0), some (.ref 81), some (.ref 142), some (.int x4), none, none] [] (sM mo G I J) = some (1615, [some (.retAddr 1), some (.ref 0), some (.ref 81), some (.ref 142), some (.int x4), none, none], [.int (x4 + 1), .retAddr 1, .ref 0], sM mo G I J) from rfl) ?_
  refine sm_ckw (pc := 1615) rfl rfl h1 ?_
  refine sm_gon_wp (show sm_gon X 4 315 1616 [some (.retAddr 1), some (.ref 0), some (.ref 81), some (.ref 142), some (.int x4), none, none] [.int (X.1 (x4 + 1).toNatClampNeg), .ref 0] (sM mo G I J) = some (1621, [some (.retAddr 1), some (.ref 0), some (.ref 81), some (.ref 142), some (.int x4), none, none], [.int (x4 + 2), .retAddr 1, .int (X.1 (x4 + 1).toNatClampNeg), .ref 0], sM mo G I J) from rfl) ?_
  refine sm_ckw (pc := 1621) rfl rfl h2 ?_
  refine sm_gon_wp (show sm_gon X 1 315 1622 [some (.retAddr 1), some (.ref 0), some (.ref 81), some (.ref 142), some (.int x4), none, none] [.int (X.1 (x4 + 2).toNatClampNeg), .int (X.1 (x4 + 1).toNatClampNeg), .ref 0] (sM mo G I J) = some (1623, [some (.retAddr 1), some (.ref 0), some (.ref 81), some (.ref 142), some (.int x4), none, none], [.ref 142, .int (X.1 (x4 + 2).toNatClampNeg), .int (X.1 (x4 + 1).toNatClampNeg), .ref 0], sM mo G I J) from rfl) ?_
  refine (sm_wp_step X (p := 1623) rfl).mpr ⟨_, rfl, ?_⟩
  show (match sm_look [.ref 0, .int (X.1 (x4 + 1).toNatClampNeg), .int (X.1 (x4 + 2).toNatClampNeg), .ref 142] (sM mo G I J) with
    | some (c, v, M') => c.1 ∧ sm_wp X 315 1626 [some (.retAddr 1), some (.ref 0), some (.ref 81), some (.ref 142), some (.int x4), none, none] (v.toList ++ []) M' Q
    | none => False)
  rw [hz]
  exact ⟨hc, h⟩
/-- what look comes to, in the law -/
theorem op_lookL (h : inv c mo G I J) {x4 : Int32} (h1 : vp_in (x4 + 1) X.2) (h2 : vp_in (x4 + 2) X.2) (hQ : ∀ M', Inv (c + 1) M' → sm_wp X 315 23 [some (.retAddr 1), some (.ref 0), some (.ref 81), some (.ref 142), some (.int (x4 + 7)), none, none] [] M' Q) :
    sm_wp X 315 1609 [some (.retAddr 1), some (.ref 0), some (.ref 81), some (.ref 142), some (.int x4), none, none] [] (sM mo G I J) Q := by
  have h' := h
  obtain ⟨n, m, t, p, q, r, ch, ln, ⟨n1, n2, n3, n4, n5, n6, n7, n8, n9, n10, n11⟩, ⟨e1, e2, e3, e4, e5, e6, e7, e8⟩, hV, hY, hG, hK, hP, hS, hA, hT, hF, hB, hC, hD, hD2, hX, hZ⟩ := h'
  generalize hx : X.1 (x4 + 1).toNatClampNeg = x
  generalize hy : X.1 (x4 + 2).toNatClampNeg = y
  have en : (0 ≤ x ∧ x < I 1 0 ∧ x < 12) ↔ sIn x n := by
    rw [n1]
    constructor
    · rintro ⟨a, b, -⟩
      exact ⟨Int32.not_lt.mpr a, Int32.not_le.mpr b⟩
    · rintro ⟨a, b⟩
      have b' : x < zI n := Int32.not_le.mp b
      have : zI n ≤ 12 := by rw [zIr_le (c := 12) (by decide) (by omega)]; exact n3
      exact ⟨Int32.not_lt.mp a, b', Int32.lt_of_lt_of_le b' this⟩
  -- behind the two
  have tl : ∀ (G' : Nat × Nat) (v : Int32) (J' : Nat → Nat → Int64) (k b : Int32), G'.1 ≤ G.1 + 1 → G'.2 ≤ G.2 + 6 → J' 52 = J 52 → J' 60 = J 60 → k = v → (k = 0 → J' 142 0 = b.toInt64) → sm_wp X 315 1644 [some (.retAddr 1), some (.ref 0), some (.ref 81), some (.ref 142), some (.int x4), some (.int k), none] [.int b] (sM mo G' (up2 I 81 2 v) J') Q := by
    intro G' v J' k b g1 g2 j52 j60 hk hb
    have en := hQ _ (inv_lk v h g1 g2 j52 j60)
    rw [bkx_315_1644, bkx_315_1674]
    exact en
  have j0 : ∀ (v : Int64) d, ¬ d = 142 → up2 J 142 0 v d = J d := fun v d hd => up2_rn _ _ _ _ _ hd
  have jv : ∀ v : Int64, up2 J 142 0 v 142 0 = v := fun v => by rw [up2_ra, va_ap, if_pos rfl]
  have w2 : ∀ a b : Int32, up2 (up2 I 81 2 a) 81 2 b = up2 I 81 2 b := fun a b => by
    funext d j
    by_cases e : d = 81
    · rw [e, up2_ra, up2_ra, up2_ra, va_ap, va_ap, va_ap]
      split <;> rfl
    · rw [up2_rn _ _ _ _ _ e, up2_rn _ _ _ _ _ e, up2_rn _ _ _ _ _ e]
  -- the reference's part
  have rf : ∀ (G' : Nat × Nat) (J' : Nat → Nat → Int64) (k : Int32), G'.1 ≤ G.1 + 1 → G'.2 ≤ G.2 + 6 → J' 52 = J 52 → J' 60 = J 60 → (∀ i, i < n → x = zI i → (y = 0 → k = 0 ∧ J' 142 0 = (I 2 i).toInt64) ∧ (y = 1 → k = 0 ∧ J' 142 0 = (I 4 i).toInt64) ∧ (y = 2 → k = 0 ∧ J' 142 0 = (I 5 i).toInt64) ∧ (¬ y = 0 → ¬ y = 1 → ¬ y = 2 → k = 2)) → (¬ sIn x n → k = 1) → sm_wp X 315 1626 [some (.retAddr 1), some (.ref 0), some (.ref 81), some (.ref 142), some (.int x4), none, none] [.int k] (sM mo G' I J') Q := by
    intro G' J' k g1 g2 j52 j60 hk hn
    rw [bkx_315_1626, hx, hy]
    refine ⟨h1, h2, ?_⟩
    rw [ct_Model_look]
    have ml := mL0 (I := I) n2 n3 x
    by_cases g : sIn x n
    · rw [if_pos (by rw [ml]; exact g)]
      obtain ⟨i, hi, hi31, rfl⟩ := sIn_ex g
      obtain ⟨k0, k1, k2, k3⟩ := hk i hi rfl
      have v12 : vp_in (zI i) 12 := Eq.mpr (zI_vp (a := i) (n := 12) (by omega)) (by omega)
      rw [zI_cn hi31]
      by_cases y0 : y = 0
      · rw [if_neg (fun e => e y0)]
        refine ⟨v12, ?_⟩
        simp only [tl_some]
        exact tl G' 0 J' k _ g1 g2 j52 j60 (k0 y0).1 (fun _ => by rw [(k0 y0).2, e1])
      · rw [if_pos y0]
        by_cases y1 : y = 1
        · rw [if_neg (fun e => e y1)]
          refine ⟨v12, ?_⟩
          simp only [tl_some]
          exact tl G' 0 J' k _ g1 g2 j52 j60 (k1 y1).1 (fun _ => by rw [(k1 y1).2, e2])
        · rw [if_pos y1]
          by_cases y2 : y = 2
          · rw [if_neg (fun e => e y2)]
            refine ⟨v12, ?_⟩
            simp only [tl_some]
            exact tl G' 0 J' k _ g1 g2 j52 j60 (k2 y2).1 (fun _ => by rw [(k2 y2).2, e3])
          · rw [if_pos y2, w2]
            simp only [tl_some]
            exact tl G' 2 J' k _ g1 g2 j52 j60 (k3 y0 y1 y2) (fun e => by rw [k3 y0 y1 y2] at e; exact absurd e (by decide))
    · rw [if_neg (by rw [ml]; exact g), w2]
      simp only [tl_some]
      exact tl G' 1 J' k _ g1 g2 j52 j60 (hn g) (fun e => by rw [hn g] at e; exact absurd e (by decide))
  have ge : (G.1 + 1, G.2 + 6).1 ≤ G.1 + 1 ∧ (G.1 + 1, G.2 + 6).2 ≤ G.2 + 6 := ⟨Nat.le_refl _, Nat.le_refl _⟩
  have lk : ∀ z, (if 0 ≤ x ∧ x < I 1 0 ∧ x < 12 then (if y = 0 then some (((⟨True, inferInstance⟩ : sm_C), some (Value.int 0), ((sK mo, G, I, up2 J 142 0 (I 2 x.toNatClampNeg).toInt64, sR mo) : sm_M))) else if y = 1 then some (⟨True, inferInstance⟩, some (.int 0), (sK mo, G, I, up2 J 142 0 (I 4 x.toNatClampNeg).toInt64, sR mo)) else if y = 2 then some (⟨True, inferInstance⟩, some (.int 0), (sK mo, G, I, up2 J 142 0 (I 5 x.toNatClampNeg).toInt64, sR mo)) else some (⟨True, inferInstance⟩, some (.int 2), (sK mo, (G.1 + 1, G.2 + 6), I, J, sR mo))) else some (⟨True, inferInstance⟩, some (.int 1), (sK mo, (G.1 + 1, G.2 + 6), I, J, sR mo))) = some z → sm_look [.ref 0, .int (X.1 (x4 + 1).toNatClampNeg), .int (X.1 (x4 + 2).toNatClampNeg), .ref 142] (sM mo G I J) = some z := fun z hz => by
    rw [hx, hy]
    exact hz
  by_cases g : sIn x n
  · have g' := en.mpr g
    obtain ⟨i, hi, hi31, ei⟩ := sIn_ex g
    have uq : ∀ k, k < n → x = zI k → k = i := fun k hk e => by
      rw [ei, zI_eq (by omega) (by omega)] at e
      omega
    by_cases y0 : y = 0
    · refine lw_1609 h1 h2 (lk _ (by rw [if_pos g', if_pos y0])) trivial ?_
      refine rf G _ 0 (by omega) (by omega) (j0 _ 52 (by decide)) (j0 _ 60 (by decide)) (fun k hk e => ⟨fun _ => ⟨rfl, ?_⟩, fun e => ?_, fun e => ?_, fun e => absurd y0 e⟩) (fun e => absurd g e)
      · rw [jv, ei, zI_cn hi31, uq k hk e]
      · rw [y0] at e; exact absurd e (by decide)
      · rw [y0] at e; exact absurd e (by decide)
    by_cases y1 : y = 1
    · refine lw_1609 h1 h2 (lk _ (by rw [if_pos g', if_neg y0, if_pos y1])) trivial ?_
      refine rf G _ 0 (by omega) (by omega) (j0 _ 52 (by decide)) (j0 _ 60 (by decide)) (fun k hk e => ⟨fun e => absurd e y0, fun _ => ⟨rfl, ?_⟩, fun e => ?_, fun _ e => absurd y1 e⟩) (fun e => absurd g e)
      · rw [jv, ei, zI_cn hi31, uq k hk e]
      · rw [y1] at e; exact absurd e (by decide)
    by_cases y2 : y = 2
    · refine lw_1609 h1 h2 (lk _ (by rw [if_pos g', if_neg y0, if_neg y1, if_pos y2])) trivial ?_
      refine rf G _ 0 (by omega) (by omega) (j0 _ 52 (by decide)) (j0 _ 60 (by decide)) (fun k hk e => ⟨fun e => absurd e y0, fun e => absurd e y1, fun _ => ⟨rfl, ?_⟩, fun _ _ e => absurd y2 e⟩) (fun e => absurd g e)
      rw [jv, ei, zI_cn hi31, uq k hk e]
    · refine lw_1609 h1 h2 (lk _ (by rw [if_pos g', if_neg y0, if_neg y1, if_neg y2])) trivial ?_
      exact rf _ _ 2 ge.1 ge.2 rfl rfl (fun k hk e => ⟨fun e => absurd e y0, fun e => absurd e y1, fun e => absurd e y2, fun _ _ _ => rfl⟩) (fun e => absurd g e)
  · refine lw_1609 h1 h2 (lk _ (by rw [if_neg (fun e => g (en.mp e))])) trivial ?_
    exact rf _ _ 1 ge.1 ge.2 rfl rfl (fun k hk e => absurd (by rw [e, zI_sIn (by omega) (by omega)]; exact hk) g) (fun _ => rfl)
end K1
