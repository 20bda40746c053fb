/-! why and tries agree. -/
theorem ppF_c {np n m p t fr : Nat} {I K : Nat → Nat → Int32} (h : ppF np n m p t fr I) (hd : ∀ d, ¬ d = 45 → ¬ d = 81 → K d = I d) (h3 : K 81 3 = I 81 3) (h16 : K 81 16 = I 81 16) : ppF np n m p t fr K := by
  unfold ppF nmC at *
  rw [h3, h16, hd 1 (by decide) (by decide), hd 31 (by decide) (by decide), hd 91 (by decide) (by decide), hd 13 (by decide) (by decide), hd 85 (by decide) (by decide), hd 4 (by decide) (by decide), hd 83 (by decide) (by decide), hd 2 (by decide) (by decide), hd 92 (by decide) (by decide), hd 12 (by decide) (by decide), hd 89 (by decide) (by decide), hd 10 (by decide) (by decide), hd 109 (by decide) (by decide), hd 33 (by decide) (by decide), hd 108 (by decide) (by decide), hd 32 (by decide) (by decide), hd 111 (by decide) (by decide), hd 37 (by decide) (by decide), hd 112 (by decide) (by decide), hd 38 (by decide) (by decide), hd 113 (by decide) (by decide), hd 39 (by decide) (by decide), hd 3 (by decide) (by decide), hd 84 (by decide) (by decide), hd 114 (by decide) (by decide), hd 40 (by decide) (by decide)]
  exact h
theorem bkP_c {s m : Nat} {c gb vb le : Nat → Nat} {I K : Nat → Nat → Int32} (h : bkP s m c gb vb le (I 22) (I 23) (I 24) (I 25) (I 94) (I 95) (I 96) (I 97) (I 98) (I 99) (I 100) (I 101) (I 102)) (hd : ∀ d, ¬ d = 45 → ¬ d = 81 → K d = I d) : bkP s m c gb vb le (K 22) (K 23) (K 24) (K 25) (K 94) (K 95) (K 96) (K 97) (K 98) (K 99) (K 100) (K 101) (K 102) := by
  rw [hd 22 (by decide) (by decide), hd 23 (by decide) (by decide), hd 24 (by decide) (by decide), hd 25 (by decide) (by decide), hd 94 (by decide) (by decide), hd 95 (by decide) (by decide), hd 96 (by decide) (by decide), hd 97 (by decide) (by decide), hd 98 (by decide) (by decide), hd 99 (by decide) (by decide), hd 100 (by decide) (by decide), hd 101 (by decide) (by decide), hd 102 (by decide) (by decide)]
  exact h
section W2
variable {X : (Nat → Int32) × Nat} {c : Nat} {mo : Bool} {G : Nat × Nat} {I : Nat → Nat → Int32} {J : Nat → Nat → Int64}
/-- a paper as the law names it: none, a note, an offer -/
theorem pap_h (h : inv c mo G I J) (x : Int32) : (¬ (hPap I x ∧ ¬ I 42 x.toNatClampNeg = -1) ∧ (∀ v, vc_Model_isOffer (up2 I 81 2 v) x ∧ ¬ vf_Model_isOffer (up2 I 81 2 v) x)) ∨
    ∃ np n m k t fr, x = zI k ∧ (hPap I x ∧ ¬ I 42 x.toNatClampNeg = -1) ∧ I 31 0 = zI np ∧ (∀ K : Nat → Nat → Int32, K 81 46 = I 81 46 → K 107 = I 107 → vc_Model_isOffer K x ∧ vf_Model_isOffer K x) ∧ ppF np n m k t fr I ∧ ∃ ml cc gb vb le, bkP t ml cc gb vb le (I 22) (I 23) (I 24) (I 25) (I 94) (I 95) (I 96) (I 97) (I 98) (I 99) (I 100) (I 101) (I 102) := by
  obtain ⟨n, m, t, p, q, r, ch, ln, ⟨n1, n2, n3, n4, n5, n6, n7, n8, n9, n10, n11⟩, ⟨e1, e2, e3, e4, e5, e6, e7, e8⟩, hV, hY, hG, hK, ⟨p1, p2, p3, ⟨q1, q2, q3, q4, q5, q6, q7, q8, q9, q10, q11⟩, p4, p5, p6⟩, hS, hA, hT, hF, hB, hC, hD, hD2, hX, hZ⟩ := h
  rcases Classical.em (sIn x p) with hx | hx
  case inr =>
    left
    refine ⟨fun g => hx (by rw [← hPap_vp p1 p3]; exact g.1), fun v => ?_⟩
    have e46 : up2 I 81 2 v 81 46 = zI p := by simp (decide := true) only [up2_ra, up2_rn, va_ap, ne_eq, if_false, if_true, not_false_eq_true]; exact p2
    unfold vc_Model_isOffer vf_Model_isOffer
    rw [e46]
    exact ⟨fun a b => absurd ⟨a, b⟩ hx, fun g => hx ⟨g.1, g.2.1⟩⟩
  obtain ⟨k, hk, hk31, rfl⟩ := sIn_ex hx
  have cn := zI_cn hk31
  rcases p6 k hk with ⟨s1, s2, s3, s4⟩ | ⟨s1, ⟨fa, hfa, s2⟩, s3, s4, s5, s6, s7, s8, s9, s10, s11⟩
  · left
    refine ⟨fun g => g.2 (by rw [cn]; exact s1), fun v => ?_⟩
    have e46 : up2 I 81 2 v 81 46 = zI p := by simp (decide := true) only [up2_ra, up2_rn, va_ap, ne_eq, if_false, if_true, not_false_eq_true]; exact p2
    have e107 : up2 I 81 2 v 107 = I 107 := up2_rn _ _ _ _ _ (by decide)
    unfold vc_Model_isOffer vf_Model_isOffer
    rw [e46, e107, cn, s2]
    exact ⟨fun _ _ => Eq.mpr (zI_vp (a := k) (n := 60) hk31) (by omega), fun g => absurd g.2.2 (by decide)⟩
  · right
    obtain ⟨⟨fr, hfr, f1⟩, ⟨to, hto, f2⟩, -⟩ := p5 k hk
    obtain ⟨ml, cc, gb, vb, le, b⟩ := hB to (by omega)
    refine ⟨p, n, m, k, to, fr, rfl, ⟨by rw [hPap_vp p1 p3]; exact hx, by rw [cn, s2, zI_m1 (by omega)]; exact fun e => e⟩, p1, fun K g1 g2 => ?_, ⟨⟨⟨n1, n2, n3⟩, ⟨n4, n6⟩, ⟨p1, p3⟩, ⟨e8, e2, e1, e7, e5, by rw [n10, n9]⟩, ⟨q2, q1, q4, q5, q6⟩, hG⟩, hk, f2, hto, f1, hfr, s9⟩, ml, cc, gb, vb, le, b⟩
    unfold vc_Model_isOffer vf_Model_isOffer
    rw [g1, g2, p2, cn, s1]
    exact ⟨fun _ _ => Eq.mpr (zI_vp (a := k) (n := 60) hk31) (by omega), hx.1, hx.2, rfl⟩
theorem op_why (h : inv c mo G I J) (x : Int32) : Agr X 184 [some (.ref 0), some (.int x)] 269 [some (.ref 81), some (.int x)] (sM mo G I J) (Inv (c + 1)) := by
  have hv := inv_t 0 h
  unfold Agr
  rcases pap_h h x with ⟨a, b⟩ | ⟨np, n, m, k, t, fr, rfl, a, p1, b, hp, ml, cc, gb, vb, le, hb⟩
  · rw [lp_184_0, if_pos a, lp_269_0, if_pos (b 0).2]
    exact ⟨(b 0).1, rfl, hv⟩
  · rw [lp_184_0, if_neg (fun e => e a)]
    refine c_24 (ho := false) (pp_cl hp) hb ?_
    intro L J1 f1
    simp only [tl_some]
    rw [lp_184_20]
    have b2 := b (up2 L 81 2 0) (by simp (decide := true) only [up2_ra, up2_rn, va_ap, ne_eq, if_false, if_true, not_false_eq_true]; rw [f1.1 81 (by decide)]) (by rw [up2_rn _ _ _ _ _ (by decide)]; exact f1.1 107 (by decide))
    rw [lp_269_0, if_neg (fun e => e b2.2)]
    refine ⟨b2.1, ?_⟩
    have k1 : ∀ d, ¬ d = 45 → ¬ d = 81 → up2 L 81 2 0 d = I d := fun d a e => by rw [up2_rn _ _ _ _ _ e]; exact f1.1 d a
    have kj : ∀ j, ¬ j = 2 → up2 L 81 2 0 81 j = I 81 j := fun j hj => by rw [up2_ra, va_ap, if_neg hj, f1.1 81 (by decide)]
    refine r_254 (ho := false) (fun _ _ => rfl) (fun _ _ => rfl) (ppF_c hp k1 (kj 3 (by decide)) (kj 16 (by decide))) (bkP_c hb k1) ?_
    intro V J2 f2
    simp only [tl_some]
    rw [lp_269_19]
    refine ⟨?_, mo, G, V, J2, rfl, inv_e h (fun d a e => by rw [f2.1 d e]; exact k1 d a e) (fun j a e => by rw [f2.2.1 j e]; exact kj j a) (by rw [f2.2.2 52 (by decide)]; exact f1.2.2 52 (by decide) (by decide)) (by rw [f2.2.2 60 (by decide)]; exact f1.2.2 60 (by decide) (by decide))⟩
    have e : (fun a => (nmv (up2 L 81 2 0) n t fr k a).toInt64) = fun a => (nmv I n t fr k a).toInt64 := funext fun a => by rw [nmv_c k1]
    rw [e]
theorem op_tries (h : inv c mo G I J) (x y : Int32) : Agr X 185 [some (.ref 0), some (.int x), some (.int y)] 270 [some (.ref 81), some (.int x), some (.int y)] (sM mo G I J) (Inv (c + 1)) := by
  have hv := inv_t 0 h
  unfold Agr
  rcases pap_h h x with ⟨a, b⟩ | ⟨np, n, m, k, t, fr, rfl, a, p1, b, hp, ml, cc, gb, vb, le, hb⟩
  · rw [lp_185_0, if_pos a, lp_270_0, if_pos (b 0).2]
    exact ⟨(b 0).1, rfl, hv⟩
  · have hp' := hp
    obtain ⟨⟨⟨n1, n2, n12⟩, ⟨m1, m6⟩, ⟨p1', p60⟩, -, ⟨q109, -⟩, -⟩, hlt, ht, htm, hf, hfm, -⟩ := hp'
    have hm := hb.2.2.1
    have ea : aPap I 33 (-1) (zI k) = zI t := (aP_e p1' p60 hlt 33 (-1)).trans ht
    have b0 := b (up2 I 81 2 0) (by simp (decide := true) only [up2_ra, up2_rn, va_ap, ne_eq, if_false, if_true, not_false_eq_true]) (up2_rn _ _ _ _ _ (by decide))
    have vk : vp_in (zI k) 60 := Eq.mpr (zI_vp (a := k) (n := 60) (by omega)) (by omega)
    have vt : vp_in (zI t) 7 := Eq.mpr (zI_vp (a := t) (n := 7) (by omega)) (by omega)
    rw [lp_185_0, if_neg (fun e => e a)]
    rcases Classical.em (sIn y ml) with hy | hy
    · obtain ⟨i, hi, hi31, rfl⟩ := sIn_ex hy
      rw [if_pos (by rw [ea]; exact isl_e (by omega) hb.1 hm hi)]
      refine c_25 n1 n12 m1 m6 p1' p60 hlt ht htm hf hfm ?_
      intro J1 j1 j2
      simp only [tl_none]
      rw [lp_185_42, ea]
      refine c_26 (nv := fun a => (nmv I n t fr k a).toInt64) (show t < 6 by omega) hb hi (fun a _ => i32_b _) j2 ?_
      intro L J2 l1 l2 l3
      simp only [tl_some]
      rw [lp_185_58]
      have k1 : ∀ d, ¬ d = 45 → ¬ d = 81 → up2 L 81 2 0 d = I d := fun d a e => by rw [up2_rn _ _ _ _ _ e]; exact l1 d a
      have kj : ∀ j, ¬ j = 2 → up2 L 81 2 0 81 j = I 81 j := fun j hj => by rw [up2_ra, va_ap, if_neg hj, l1 81 (by decide)]
      have b2 := b (up2 L 81 2 0) (kj 46 (by decide)) (k1 107 (by decide) (by decide))
      rw [lp_270_0, if_neg (fun e => e b2.2), if_neg (by rw [zIr_lt (c := 0) (by decide) (by omega)]; exact Nat.not_lt_zero _), zI_cn (by omega), l1 109 (by decide), q109, ht, zI_cn (by omega), l1 102 (by decide), hb.2.1, if_neg (by rw [zI_le (by omega) (by omega)]; omega)]
      refine ⟨b2.1, vk, vt, ?_⟩
      have hC := (ppF_c hp k1 (kj 3 (by decide)) (kj 16 (by decide)))
      obtain ⟨hC1, hlt', ht', htm', hf', hfm', h114'⟩ := hC
      refine r_256 (nm := nmv (up2 L 81 2 0) n t fr k) (fun _ _ => rfl) (show t < 6 by omega) (show k < 60 by omega) (bkP_c hb k1) hi (by rw [k1 109 (by decide) (by decide), q109]; exact ht) (fun K2 J3 R a g1 g2 ha hR => r_257 hC1 hlt' ht' htm' hf' hfm' h114' (fun d hd => g1 d (by omega)) g2 ha hR) ?_
      intro V J3 f1 f2 f3
      simp only [tl_some]
      rw [lp_270_38]
      refine ⟨?_, mo, G, V, J3, rfl, inv_e h (fun d a e => by rw [f1 d e]; exact k1 d a e) (fun j a e => by rw [f2 j e]; exact kj j a) (by rw [f3 52 (by decide), l3 52 (by decide)]; exact j1 52 (by decide)) (by rw [f3 60 (by decide), l3 60 (by decide)]; exact j1 60 (by decide))⟩
      have e : (fun a => (nmv (up2 L 81 2 0) n t fr k a).toInt64) = fun a => (nmv I n t fr k a).toInt64 := funext fun a => by rw [nmv_c k1]
      rw [e]
    · have nl : ¬ vf_Book_isLine I (aPap I 33 (-1) (zI k)) y := by
        rw [ea]
        intro g
        obtain ⟨g1, g2, g3⟩ := g
        rw [lns_e (show t < 6 by omega) hb.1] at g3
        exact hy ⟨g1, g3⟩
      rw [if_neg nl, lp_270_0, if_neg (fun e => e b0.2), zI_cn (by omega), q109, ht, zI_cn (by omega), hb.2.1]
      refine ⟨b0.1, ?_⟩
      by_cases g1 : y < 0
      · rw [if_pos g1]
        exact ⟨rfl, hv⟩
      · rw [if_neg g1]
        have g3 : zI ml ≤ y := Classical.byContradiction fun e => hy ⟨g1, e⟩
        rw [if_pos g3]
        exact ⟨vk, vt, rfl, hv⟩
end W2
