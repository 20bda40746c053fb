/-! Orders: the two read the same text, token by token. -/
theorem frO_u {I0 L : Nat → Nat → Int32} {r k : Nat} {v : Int32} (h : frO I0 L) (a : 16 ≤ r) (b : r ≤ 20) : frO I0 (up2 L r k v) := ⟨fun d x y => by rw [up2_rn _ _ _ _ _ (by omega)]; exact h.1 d x y, fun j x y z => by rw [up2_rn _ _ _ _ _ (by omega)]; exact h.2 j x y z⟩
section O2
variable {X : (Nat → Int32) × Nat} {mo : Bool} {G : Nat × Nat} {J : Nat → Nat → Int64} {x2 : Int32}
theorem rGo_0 {m : Nat} {T : Nat → Nat → Int32} {Q : Option Value → sm_M → Prop} (h : sm_wp X 225 75 [some (.ref 81), none, some (.int x2), none, none] [] (sM mo G T J) Q) : rGo X mo G J x2 m 0 T Q := by
  unfold rGo
  rw [if_pos rfl]
  exact h
theorem rGo_1 {m d : Nat} {T : Nat → Nat → Int32} {Q : Option Value → sm_M → Prop} (hd : ¬ d = 0) (h : sm_wp X 234 30 [some (.ref 81), none] [] (sM mo G T J) (RC X m x2 Q)) : rGo X mo G J x2 m d T Q := by
  unfold rGo
  rw [if_neg hd]
  exact h
theorem rGo_2 {m d : Nat} {T : Nat → Nat → Int32} {Q : Option Value → sm_M → Prop} (hd : ¬ d = 0) (h : rGo X mo G J x2 m d T Q) : sm_wp X 234 30 [some (.ref 81), none] [] (sM mo G T J) (RC X m x2 Q) := by
  unfold rGo at h
  rw [if_neg hd] at h
  exact h
theorem ord_m {B : Nat → Nat} {n : Nat} (hn : n ≤ 400) {I0 : Nat → Nat → Int32} (hT : tpC B (I0 15)) (h4 : I0 14 4 = zI n) : ∀ f p k m z w d kn o cm c sg vb le, n ≤ p + f → p ≤ n → k ≤ p → pW m z w d kn o c sg vb le →
    ∃ b F S, okR I0 b F S ∧ cWP X mo G J n k (fun K => CC p m z w d kn o cm c sg vb le I0 K) F ∧ rWP X mo G J x2 B n (plc B n p) m d (fun gb wo T => CT m z w d kn o cm c sg vb le gb wo T) b S := by
  intro f
  induction f using Nat.strongRecOn with
  | _ f ih =>
  intro p k m z w d kn o cm c sg vb le hf hp hk hW
  obtain ⟨pq, qn⟩ := plc_b B hp
  generalize hq : plc B n p = q at *
  have tadv : ¬ (tkN B n q).1 = 34 → q < n := fun h => by
    by_cases g : q < n
    · exact g
    · exfalso
      unfold tkN at h
      rw [if_pos (by omega)] at h
      exact h rfl
  have t100 : (tkN B n q).1 < 100 := by
    by_cases g : q < n
    · exact (tk_adv g).2.2.2
    · unfold tkN
      rw [if_pos (by omega)]
      exact (show 34 < 100 by decide)
  have nub := nuC_b B q ((tkN B n q).2 - q)
  generalize ht : (tkN B n q).1 = t at *
  generalize hp' : (tkN B n q).2 = p' at *
  generalize hnu : nuC B q (p' - q) = nu at *
  have hW1 := hW.1
  have hnp := np_w sg w
  have d3 : d ≤ 3 := hW1.2.2.2.2.2
  -- the class up to the token
  have cls : ∀ K (Q : Option Value → sm_M → Prop), CC p m z w d kn o cm c sg vb le I0 K → (∀ L, scE (L 16) (m + on d) z w d kn o cm → (∀ i, i < z → L 17 i = zI (c i)) → (∀ i, i < m + on d → L 18 i = zI (vb i)) → (∀ i, i < m → L 19 i = zI (le i)) → (∀ j, j < w → L 20 j = zI (sg j)) → L 16 1 = -1 → frO I0 L → L 14 5 = zI p' → L 14 1 = zI q → (t = 36 → L 14 2 = zI nu) → sm_wp X 48 0 [some (.ref 16), some (.int (zI t))] [] (sM mo G L J) (fun v M => sm_wp X 47 86 [some (.ref 16), some (.int (zI n)), some (.int (zI k))] (v.toList ++ []) M Q)) → sm_wp X 47 55 [some (.ref 16), some (.int (zI n)), some (.int (zI k))] [] (sM mo G K J) Q := by
    intro K Q hK hQ
    obtain ⟨k1, k2, k3, k4, k5, k6, k7, k8⟩ := hK
    refine c_it (B := B) (I0 := I0) hT h4 hn (by omega) hp k7 k8 (by rw [k1.2.2.2.2.1, zIr_eq (c := 4) (by decide) (by omega)]; show ¬ d = 4; omega) k1.1 ?_
    rw [hq, ht, hp', hnu]
    intro L l1 l2 l3 l4 l5
    exact hQ L (by rw [l1 16 (by decide)]; exact k1) (by rw [l1 17 (by decide)]; exact k2) (by rw [l1 18 (by decide)]; exact k3) (by rw [l1 19 (by decide)]; exact k4) (by rw [l1 20 (by decide)]; exact k5) (by rw [l1 16 (by decide)]; exact k6) l2 l4 l3 l5
  have tpf : ∀ T0 T, t0F B n T0 → frR T0 T → tkF B n q T → ¬ t = 34 → tpF B n p' T0 T := fun T0 T h1 h2 h3 h5 => by
    obtain ⟨a, b, e⟩ := h1
    have ad := tk_adv (B := B) (tadv h5)
    rw [hp'] at ad
    refine ⟨⟨a, b, e, hn⟩, h2, ?_, by omega⟩
    rw [h3.2.1, hp']
  have tkr : ∀ T, tkF B n q T → tkR B q t p' (T 81 22) (T 81 23) ∧ T 81 24 = zI q := fun T h => by
    have := h.2.2
    rw [ht, hp'] at this
    exact ⟨this, h.1⟩
  -- a fault
  have FLT : ∀ fa : Nat, (fa = 1 ∨ fa = 2) →
      (∀ L, sc16 (L 16) (m + on d) z w d kn o cm → (t = 36 → L 14 2 = zI nu) → ∀ Q' : Option Value → sm_M → Prop, (∀ V, flt fa L V → Q' none (sM mo G V J)) → sm_wp X 48 0 [some (.ref 16), some (.int (zI t))] [] (sM mo G L J) Q') →
      (∀ T0 T (Q : Option Value → sm_M → Prop) gb wo, CT m z w d kn o cm c sg vb le gb wo T → frR T0 T → tkR B q t p' (T 81 22) (T 81 23) → (∀ L, frR T0 L → Q (some (.int (-1))) (sM mo G (up2 (up2 L 81 18 (zI fa)) 81 19 (T 81 24)) J)) → rGo X mo G J x2 m d T Q) →
      ∃ b F S, okR I0 b F S ∧ cWP X mo G J n k (fun K => CC p m z w d kn o cm c sg vb le I0 K) F ∧ rWP X mo G J x2 B n q m d (fun gb wo T => CT m z w d kn o cm c sg vb le gb wo T) b S := by
    intro fa hfa hc hr
    refine ⟨false, _, _, Or.inl ⟨rfl, fa, q, hfa, rfl, rfl⟩, ?_, ?_⟩
    · intro K Q hK hQ
      refine cls K Q hK ?_
      intro L e1 e2 e3 e4 e5 e6 e7 e8 e9 e10
      refine hc L (pW_sc hW e1) e10 _ (fun V hV => ?_)
      obtain ⟨v1, v2, v3⟩ := hV
      refine c_go (c_xf ?_ (Or.inr ?_))
      · exact hQ V ⟨⟨fun d a b => by rw [v1 d (by omega)]; exact e7.1 d a b, fun j a b c => by rw [v1 14 (by decide)]; exact e7.2 j a b c⟩, v2, by rw [v3]; exact e9⟩
      · rw [v2]
        rcases hfa with rfl | rfl <;> decide
    · intro T0 T Q gb wo h1 h2 h3 h5 h6
      obtain ⟨r1, r2⟩ := tkr T h5
      refine hr T0 T Q gb wo h2 h3 r1 (fun L hL => ?_)
      rw [r2]
      have := h6 _ ⟨L, hL, rfl⟩
      unfold rFi at this
      rw [if_neg (by decide)] at this
      exact this
  -- one more token
  have CON : ∀ (m' z' w' d' kn' o' : Nat) (cm' : Int32) (c' sg' vb' le' : Nat → Nat), ¬ t = 34 → pW m' z' w' d' kn' o' c' sg' vb' le' →
      (∀ L, sc16 (L 16) (m + on d) z w d kn o cm → (∀ i, i < z → L 17 i = zI (c i)) → (∀ i, i < m + on d → L 18 i = zI (vb i)) → (∀ i, i < m → L 19 i = zI (le i)) → (∀ j, j < w → L 20 j = zI (sg j)) → L 16 1 = -1 → frO I0 L → L 14 5 = zI p' → (t = 36 → L 14 2 = zI nu) → ∀ Q' : Option Value → sm_M → Prop, (∀ V, CC p' m' z' w' d' kn' o' cm' c' sg' vb' le' I0 V → Q' none (sM mo G V J)) → sm_wp X 48 0 [some (.ref 16), some (.int (zI t))] [] (sM mo G L J) Q') →
      (∀ T0 T (Q : Option Value → sm_M → Prop) gb wo, tpF B n p' T0 T → CT m z w d kn o cm c sg vb le gb wo T → tkR B q t p' (T 81 22) (T 81 23) → (∀ L gb' wo', CT m' z' w' d' kn' o' cm' c' sg' vb' le' gb' wo' L → frR T0 L → tkF B n (plc B n p') L → rGo X mo G J x2 m' d' L Q) → rGo X mo G J x2 m d T Q) →
      ∃ b F S, okR I0 b F S ∧ cWP X mo G J n k (fun K => CC p m z w d kn o cm c sg vb le I0 K) F ∧ rWP X mo G J x2 B n q m d (fun gb wo T => CT m z w d kn o cm c sg vb le gb wo T) b S := by
    intro m' z' w' d' kn' o' cm' c' sg' vb' le' h34 hW' hc hr
    have ad := tk_adv (B := B) (tadv h34)
    rw [hp'] at ad
    obtain ⟨b, F, S, h1, h2, h3⟩ := ih (f - 1) (by omega) p' (k + 1) m' z' w' d' kn' o' cm' c' sg' vb' le' (by omega) (by omega) (by omega) hW'
    refine ⟨b, F, S, h1, ?_, ?_⟩
    · intro K Q hK hQ
      refine cls K Q hK ?_
      intro L e1 e2 e3 e4 e5 e6 e7 e8 e9 e10
      exact hc L (pW_sc hW e1) e2 e3 e4 e5 e6 e7 e8 e10 _ (fun V hV => c_go (h2 V Q hV hQ))
    · intro T0 T Q gb wo g1 g2 g3 g5 g6
      obtain ⟨r1, r2⟩ := tkr T g5
      exact hr T0 T Q gb wo (tpf T0 T g1 g3 g5 h34) g2 r1 (fun L gb' wo' l1 l2 l3 => h3 T0 L Q gb' wo' g1 l1 l2 l3 g6)
  have hF : ∀ {L : Nat → Nat → Int32}, scE (L 16) (m + on d) z w d kn o cm → L 16 0 = 0 := fun h => h.1
  by_cases d0 : d = 0
  · subst d0
    obtain ⟨w0, z0⟩ := hW.2.2.2.2.1 rfl
    subst w0
    have o0 : o = 0 := hW1.2.2.2.1.symm
    subst o0
    by_cases t34 : t = 34
    · refine ⟨true, _, _, Or.inr ⟨rfl, m, z, kn, cm, c, sg, vb, le, hW, rfl, rfl⟩, ?_, ?_⟩
      · intro K Q hK hQ
        refine cls K Q hK ?_
        intro L e1 e2 e3 e4 e5 e6 e7 e8 e9 e10
        rw [t34]
        refine a_ve (pW_sc hW e1) (c_go (c_xf ?_ (Or.inl ?_)))
        · refine hQ _ ⟨frO_u e7 (by decide) (by decide), ?_, ?_, ?_, fun i hi => ?_, fun i hi => ?_, fun i hi => ?_⟩
          · simp (decide := true) only [up2_ra, up2_rn, va_ap, ne_eq, if_false, if_true, not_false_eq_true]; exact e1.1
          · simp (decide := true) only [up2_ra, up2_rn, va_ap, ne_eq, if_false, if_true, not_false_eq_true]; exact e6
          · simp (decide := true) only [up2_ra, up2_rn, va_ap, ne_eq, if_false, if_true, not_false_eq_true]; exact e1.2.1
          · simp (decide := true) only [up2_ra, up2_rn, va_ap, ne_eq, if_false, if_true, not_false_eq_true]; exact e2 i hi
          · simp (decide := true) only [up2_ra, up2_rn, va_ap, ne_eq, if_false, if_true, not_false_eq_true]; exact e3 i hi
          · simp (decide := true) only [up2_ra, up2_rn, va_ap, ne_eq, if_false, if_true, not_false_eq_true]; exact e4 i hi
        · simp (decide := true) only [up2_ra, up2_rn, va_ap, ne_eq, if_false, if_true, not_false_eq_true]
      · intro T0 T Q gb wo h1 h2 h3 h5 h6
        obtain ⟨r1, r2⟩ := tkr T h5
        have k0 : T 81 22 = 0 := by
          rcases r1 with ⟨-, a⟩ | ⟨a0, -⟩ | ⟨a0, a1, -⟩ | ⟨a0, -⟩ | ⟨a0, -⟩
          · exact a
          · omega
          · omega
          · omega
          · omega
        refine rGo_0 ?_
        rw [lp_225_75, if_pos k0]
        have := h6 T ⟨h3, gb, wo, h2⟩
        unfold rFi at this
        rw [if_pos rfl] at this
        exact this
    · by_cases t3 : t ≤ 3
      · by_cases m16 : m = 16
        · subst m16
          exact FLT 2 (Or.inr rfl) (fun L hs _ Q' hQ => a_vf hs t3 (hQ _ (flt_2 L))) (fun T0 T Q gb wo hC fr hR hQ => rGo_0 (r_vff hC fr hR 2 t34 (Or.inr ⟨rfl, t3, rfl⟩) hQ))
        · have e0 : on 0 = 0 := rfl
          have e1' : on 1 = 1 := rfl
          rw [e0] at hW1
          refine CON m z 0 1 kn 0 0 c sg (va_up vb m t) le t34 (pW_v hW (by omega) t3) ?_ ?_
          · intro L hs k17 k18 k19 k20 k1 fr k5 _ Q' hQ
            rw [e0, Nat.add_zero] at hs k18
            obtain ⟨⟨s0, s2, s3, s9, s10, s11, s12, s13⟩, -⟩ := id hs
            refine a_vo hs t3 (by omega) (hQ _ ⟨⟨?_, ?_, ?_, ?_, ?_, ?_, ?_, ?_⟩, fun i hi => ?_, fun i hi => ?_, fun i hi => ?_, fun i hi => absurd hi (Nat.not_lt_zero _), ?_, frO_u (frO_u (frO_u (frO_u fr (by decide) (by decide)) (by decide) (by decide)) (by decide) (by decide)) (by decide) (by decide), ?_⟩)
            · simp (decide := true) only [up2_ra, up2_rn, va_ap, ne_eq, if_false, if_true, not_false_eq_true]; exact s0
            · simp (decide := true) only [up2_ra, up2_rn, va_ap, ne_eq, if_false, if_true, not_false_eq_true] <;> rfl
            · simp (decide := true) only [up2_ra, up2_rn, va_ap, ne_eq, if_false, if_true, not_false_eq_true]; exact s3
            · simp (decide := true) only [up2_ra, up2_rn, va_ap, ne_eq, if_false, if_true, not_false_eq_true]; exact s9
            · simp (decide := true) only [up2_ra, up2_rn, va_ap, ne_eq, if_false, if_true, not_false_eq_true] <;> rfl
            · simp (decide := true) only [up2_ra, up2_rn, va_ap, ne_eq, if_false, if_true, not_false_eq_true]; exact s11
            · simp (decide := true) only [up2_ra, up2_rn, va_ap, ne_eq, if_false, if_true, not_false_eq_true]; exact s12
            · simp (decide := true) only [up2_ra, up2_rn, va_ap, ne_eq, if_false, if_true, not_false_eq_true]
            · simp (decide := true) only [up2_ra, up2_rn, va_ap, ne_eq, if_false, if_true, not_false_eq_true]; exact k17 i hi
            · simp (decide := true) only [up2_ra, up2_rn, va_ap, ne_eq, if_false, if_true, not_false_eq_true]
              rw [e1'] at hi
              by_cases e : i = m
              · rw [if_pos e, if_pos e] <;> rfl
              · rw [if_neg e, if_neg e]; exact k18 i (by omega)
            · simp (decide := true) only [up2_ra, up2_rn, va_ap, ne_eq, if_false, if_true, not_false_eq_true]; exact k19 i hi
            · simp (decide := true) only [up2_ra, up2_rn, va_ap, ne_eq, if_false, if_true, not_false_eq_true]; exact k1
            · simp (decide := true) only [up2_ra, up2_rn, va_ap, ne_eq, if_false, if_true, not_false_eq_true]; exact k5
          · intro T0 T Q gb wo f hC hR hQ
            exact rGo_0 (r_ver hC hW (by omega) t3 hR f (fun L a b e => rGo_2 (by decide) (hQ L gb wo a b e)))
      · exact FLT 1 (Or.inl rfl) (fun L hs _ Q' hQ => a_vb hs (by omega) t34 t100 (hQ _ (flt_1 L))) (fun T0 T Q gb wo hC fr hR hQ => rGo_0 (r_vff hC fr hR 1 t34 (Or.inl ⟨rfl, by omega⟩) hQ))
  · have on1 : on d = 1 := on_1 d0
    have kn64 : kn ≤ 64 := hW1.2.2.1
    have o8 : o ≤ 8 := hW1.2.2.2.2.1
    by_cases d12 : d = 1 ∨ d = 2
    · have rv : ∀ fa : Nat, ((fa = 1 ∧ ¬ t = 36 ∧ ¬ (7 ≤ t ∧ t < 19) ∧ ¬ t = 30 ∧ ¬ t = 20 ∧ ¬ (t = 4 ∧ d = 1)) ∨ (fa = 2 ∧ ((t = 36 ∧ 99999 < nu) ∨ (t = 30 ∧ o = 8) ∨ (kn = 64 ∧ ((t = 36 ∧ nu ≤ 99999) ∨ (7 ≤ t ∧ t < 19) ∨ t = 20 ∨ (t = 4 ∧ d = 1)))))) → ∀ T0 T (Q : Option Value → sm_M → Prop) gb wo, CT m z w d kn o cm c sg vb le gb wo T → frR T0 T → tkR B q t p' (T 81 22) (T 81 23) → (∀ L, frR T0 L → Q (some (.int (-1))) (sM mo G (up2 (up2 L 81 18 (zI fa)) 81 19 (T 81 24)) J)) → rGo X mo G J x2 m d T Q := by
        intro fa hfa T0 T Q gb wo hC fr hR hQ
        refine rGo_1 d0 (r_vf hC.1 d12 o8 kn64 hR (fun f hf => RC_0 ?_) (by rw [hnu]; omega))
        have e : f = fa := by rw [hnu] at hf; omega
        rw [e]
        exact hQ T fr
      by_cases n36 : t = 36
      · by_cases big : 99999 < nu
        · exact FLT 2 (Or.inr rfl) (fun L hs h14 Q' hQ => by rw [n36]; exact a_onb hs d12 (h14 n36) big (by omega) (hQ _ (flt_2 L))) (rv 2 (by omega))
        · by_cases k64 : kn = 64
          · exact FLT 2 (Or.inr rfl) (fun L hs h14 Q' hQ => by rw [n36]; rw [k64] at hs; exact a_onk hs d12 (h14 n36) (by omega) (hQ _ (flt_2 L))) (rv 2 (by omega))
          · refine CON m (z + 1) w 3 (kn + 1) o cm (va_up c z (100 + nu)) sg vb le (by omega) (pW_o hW d12 (by omega) (by unfold vcd; omega) (by unfold ar; rw [if_pos (by omega)])) ?_ ?_
            · intro L hs k17 k18 k19 k20 k1 fr k5 h14 Q' hQ
              obtain ⟨⟨s0, s2, s3, s9, s10, s11, s12, s13⟩, -⟩ := id hs
              rw [n36]
              refine a_on hs d12 (by omega) (by omega) (h14 n36) (by omega) (hQ _ ⟨⟨?_, ?_, ?_, ?_, ?_, ?_, ?_, ?_⟩, fun i hi => ?_, fun i hi => ?_, fun i hi => ?_, fun i hi => ?_, ?_, frO_u (frO_u (frO_u (frO_u fr (by decide) (by decide)) (by decide) (by decide)) (by decide) (by decide)) (by decide) (by decide), ?_⟩)
              · simp (decide := true) only [up2_ra, up2_rn, va_ap, ne_eq, if_false, if_true, not_false_eq_true]; exact s0
              · simp (decide := true) only [up2_ra, up2_rn, va_ap, ne_eq, if_false, if_true, not_false_eq_true]; rw [on1] at s2; exact s2
              · simp (decide := true) only [up2_ra, up2_rn, va_ap, ne_eq, if_false, if_true, not_false_eq_true]
              · simp (decide := true) only [up2_ra, up2_rn, va_ap, ne_eq, if_false, if_true, not_false_eq_true]; exact s9
              · simp (decide := true) only [up2_ra, up2_rn, va_ap, ne_eq, if_false, if_true, not_false_eq_true] <;> rfl
              · simp (decide := true) only [up2_ra, up2_rn, va_ap, ne_eq, if_false, if_true, not_false_eq_true]
              · simp (decide := true) only [up2_ra, up2_rn, va_ap, ne_eq, if_false, if_true, not_false_eq_true]; exact s12
              · simp (decide := true) only [up2_ra, up2_rn, va_ap, ne_eq, if_false, if_true, not_false_eq_true]; exact s13
              · simp (decide := true) only [up2_ra, up2_rn, va_ap, ne_eq, if_false, if_true, not_false_eq_true]
                by_cases e : i = z
                · rw [if_pos e, if_pos e] <;> rfl
                · rw [if_neg e, if_neg e]; exact k17 i (by omega)
              · simp (decide := true) only [up2_ra, up2_rn, va_ap, ne_eq, if_false, if_true, not_false_eq_true]; exact k18 i (by rw [on1]; exact hi)
              · simp (decide := true) only [up2_ra, up2_rn, va_ap, ne_eq, if_false, if_true, not_false_eq_true]; exact k19 i hi
              · simp (decide := true) only [up2_ra, up2_rn, va_ap, ne_eq, if_false, if_true, not_false_eq_true]; exact k20 i hi
              · simp (decide := true) only [up2_ra, up2_rn, va_ap, ne_eq, if_false, if_true, not_false_eq_true]; exact k1
              · simp (decide := true) only [up2_ra, up2_rn, va_ap, ne_eq, if_false, if_true, not_false_eq_true]; exact k5
            · intro T0 T Q gb wo f hC hR hQ
              have hh : T 81 22 = 2 ∧ T 81 23 = zI nu := by
                rcases hR with ⟨a0, -⟩ | ⟨a0, -⟩ | ⟨a0, a1, -⟩ | ⟨a0, -⟩ | ⟨a0, a, b⟩
                · omega
                · omega
                · omega
                · omega
                · rw [hnu] at b
                  rcases b with ⟨b1, b2⟩ | ⟨b1, b2⟩
                  · exact ⟨a, b2⟩
                  · omega
              exact rGo_1 d0 (r_num hC hW d12 (by omega) hh.1 hh.2 (by omega) f (fun L gb' a b e => rGo_2 (by decide) (hQ L gb' wo a b e)))
      by_cases nam : 7 ≤ t ∧ t < 19
      · by_cases k64 : kn = 64
        · exact FLT 2 (Or.inr rfl) (fun L hs h14 Q' hQ => by rw [k64] at hs; exact a_omk hs d12 nam.1 nam.2 (hQ _ (flt_2 L))) (rv 2 (by omega))
        · refine CON m (z + 1) w 3 (kn + 1) o cm (va_up c z t) sg vb le (by omega) (pW_o hW d12 (by omega) (by unfold vcd; omega) (by unfold ar; rw [if_pos (by omega)])) ?_ ?_
          · intro L hs k17 k18 k19 k20 k1 fr k5 h14 Q' hQ
            obtain ⟨⟨s0, s2, s3, s9, s10, s11, s12, s13⟩, -⟩ := id hs
            refine a_om hs d12 (by omega) (by omega) nam.1 nam.2 (hQ _ ⟨⟨?_, ?_, ?_, ?_, ?_, ?_, ?_, ?_⟩, fun i hi => ?_, fun i hi => ?_, fun i hi => ?_, fun i hi => ?_, ?_, frO_u (frO_u (frO_u (frO_u fr (by decide) (by decide)) (by decide) (by decide)) (by decide) (by decide)) (by decide) (by decide), ?_⟩)
            · simp (decide := true) only [up2_ra, up2_rn, va_ap, ne_eq, if_false, if_true, not_false_eq_true]; exact s0
            · simp (decide := true) only [up2_ra, up2_rn, va_ap, ne_eq, if_false, if_true, not_false_eq_true]; rw [on1] at s2; exact s2
            · simp (decide := true) only [up2_ra, up2_rn, va_ap, ne_eq, if_false, if_true, not_false_eq_true]
            · simp (decide := true) only [up2_ra, up2_rn, va_ap, ne_eq, if_false, if_true, not_false_eq_true]; exact s9
            · simp (decide := true) only [up2_ra, up2_rn, va_ap, ne_eq, if_false, if_true, not_false_eq_true] <;> rfl
            · simp (decide := true) only [up2_ra, up2_rn, va_ap, ne_eq, if_false, if_true, not_false_eq_true]
            · simp (decide := true) only [up2_ra, up2_rn, va_ap, ne_eq, if_false, if_true, not_false_eq_true]; exact s12
            · simp (decide := true) only [up2_ra, up2_rn, va_ap, ne_eq, if_false, if_true, not_false_eq_true]; exact s13
            · simp (decide := true) only [up2_ra, up2_rn, va_ap, ne_eq, if_false, if_true, not_false_eq_true]
              by_cases e : i = z
              · rw [if_pos e, if_pos e] <;> rfl
              · rw [if_neg e, if_neg e]; exact k17 i (by omega)
            · simp (decide := true) only [up2_ra, up2_rn, va_ap, ne_eq, if_false, if_true, not_false_eq_true]; exact k18 i (by rw [on1]; exact hi)
            · simp (decide := true) only [up2_ra, up2_rn, va_ap, ne_eq, if_false, if_true, not_false_eq_true]; exact k19 i hi
            · simp (decide := true) only [up2_ra, up2_rn, va_ap, ne_eq, if_false, if_true, not_false_eq_true]; exact k20 i hi
            · simp (decide := true) only [up2_ra, up2_rn, va_ap, ne_eq, if_false, if_true, not_false_eq_true]; exact k1
            · simp (decide := true) only [up2_ra, up2_rn, va_ap, ne_eq, if_false, if_true, not_false_eq_true]; exact k5
          · intro T0 T Q gb wo f hC hR hQ
            have hh : T 81 22 = 1 ∧ T 81 23 = zI t := by
              rcases hR with ⟨a0, -⟩ | ⟨a0, a, b⟩ | ⟨a0, a1, -⟩ | ⟨a0, -⟩ | ⟨a0, -⟩
              · omega
              · exact ⟨a, by rw [b]; unfold prm; rw [if_neg (by omega), if_neg (by omega)]⟩
              · omega
              · omega
              · omega
            exact rGo_1 d0 (r_nam hC hW d12 (by omega) hh.1 hh.2 nam.1 nam.2 f (fun L gb' a b e => rGo_2 (by decide) (hQ L gb' wo a b e)))
      by_cases n30 : t = 30
      · by_cases o8' : o = 8
        · exact FLT 2 (Or.inr rfl) (fun L hs h14 Q' hQ => by rw [n30]; rw [o8'] at hs; exact a_oof hs d12 (hQ _ (flt_2 L))) (rv 2 (by omega))
        · refine CON m z (w + 1) 1 kn (o + 1) (cm &&& (b1 (o + 1) ^^^ (-1))) c (va_up sg w 30) vb le (by omega) (pW_u hW d12 (Or.inl rfl) (Or.inl rfl) (Or.inl ⟨rfl, rfl, rfl, by omega⟩)) ?_ ?_
          · intro L hs k17 k18 k19 k20 k1 fr k5 h14 Q' hQ
            obtain ⟨⟨s0, s2, s3, s9, s10, s11, s12, s13⟩, -⟩ := id hs
            rw [n30]
            refine a_oo hs d12 (by omega) (by omega) (hQ _ ⟨⟨?_, ?_, ?_, ?_, ?_, ?_, ?_, ?_⟩, fun i hi => ?_, fun i hi => ?_, fun i hi => ?_, fun i hi => ?_, ?_, frO_u (frO_u (frO_u (frO_u (frO_u fr (by decide) (by decide)) (by decide) (by decide)) (by decide) (by decide)) (by decide) (by decide)) (by decide) (by decide), ?_⟩)
            · simp (decide := true) only [up2_ra, up2_rn, va_ap, ne_eq, if_false, if_true, not_false_eq_true]; exact s0
            · simp (decide := true) only [up2_ra, up2_rn, va_ap, ne_eq, if_false, if_true, not_false_eq_true]; rw [on1] at s2; exact s2
            · simp (decide := true) only [up2_ra, up2_rn, va_ap, ne_eq, if_false, if_true, not_false_eq_true]; exact s3
            · simp (decide := true) only [up2_ra, up2_rn, va_ap, ne_eq, if_false, if_true, not_false_eq_true]
            · simp (decide := true) only [up2_ra, up2_rn, va_ap, ne_eq, if_false, if_true, not_false_eq_true] <;> rfl
            · simp (decide := true) only [up2_ra, up2_rn, va_ap, ne_eq, if_false, if_true, not_false_eq_true]; exact s11
            · simp (decide := true) only [up2_ra, up2_rn, va_ap, ne_eq, if_false, if_true, not_false_eq_true]
            · simp (decide := true) only [up2_ra, up2_rn, va_ap, ne_eq, if_false, if_true, not_false_eq_true]
            · simp (decide := true) only [up2_ra, up2_rn, va_ap, ne_eq, if_false, if_true, not_false_eq_true]; exact k17 i hi
            · simp (decide := true) only [up2_ra, up2_rn, va_ap, ne_eq, if_false, if_true, not_false_eq_true]; exact k18 i (by rw [on1]; exact hi)
            · simp (decide := true) only [up2_ra, up2_rn, va_ap, ne_eq, if_false, if_true, not_false_eq_true]; exact k19 i hi
            · simp (decide := true) only [up2_ra, up2_rn, va_ap, ne_eq, if_false, if_true, not_false_eq_true]
              by_cases e : i = w
              · rw [if_pos e, if_pos e] <;> rfl
              · rw [if_neg e, if_neg e]; exact k20 i (by omega)
            · simp (decide := true) only [up2_ra, up2_rn, va_ap, ne_eq, if_false, if_true, not_false_eq_true]; exact k1
            · simp (decide := true) only [up2_ra, up2_rn, va_ap, ne_eq, if_false, if_true, not_false_eq_true]; exact k5
          · intro T0 T Q gb wo f hC hR hQ
            have hh : T 81 22 = 3 ∧ T 81 23 = zI 40 := by
              rcases hR with ⟨a0, -⟩ | ⟨a0, -⟩ | ⟨a0, a1, a, b⟩ | ⟨a0, -⟩ | ⟨a0, -⟩
              · omega
              · omega
              · exact ⟨a, by rw [b, n30]; rfl⟩
              · omega
              · omega
            exact rGo_1 d0 (r_par hC hW d12 (by omega) hh.1 hh.2 f (fun L wo' a b e => rGo_2 (by decide) (hQ L gb wo' a b e)))
      by_cases n20 : t = 20
      · by_cases k64 : kn = 64
        · exact FLT 2 (Or.inr rfl) (fun L hs h14 Q' hQ => by rw [n20]; rw [k64] at hs; exact a_ogk hs d12 (hQ _ (flt_2 L))) (rv 2 (by omega))
        · refine CON m z (w + 1) 2 (kn + 1) o cm c (va_up sg w 33) vb le (by omega) (pW_u hW d12 (Or.inr rfl) (Or.inr (Or.inl rfl)) (Or.inr ⟨by decide, rfl, rfl, rfl, by omega⟩)) ?_ ?_
          · intro L hs k17 k18 k19 k20 k1 fr k5 h14 Q' hQ
            obtain ⟨⟨s0, s2, s3, s9, s10, s11, s12, s13⟩, -⟩ := id hs
            rw [n20]
            refine a_og hs d12 (by omega) (by omega) (hQ _ ⟨⟨?_, ?_, ?_, ?_, ?_, ?_, ?_, ?_⟩, fun i hi => ?_, fun i hi => ?_, fun i hi => ?_, fun i hi => ?_, ?_, frO_u (frO_u (frO_u (frO_u fr (by decide) (by decide)) (by decide) (by decide)) (by decide) (by decide)) (by decide) (by decide), ?_⟩)
            · simp (decide := true) only [up2_ra, up2_rn, va_ap, ne_eq, if_false, if_true, not_false_eq_true]; exact s0
            · simp (decide := true) only [up2_ra, up2_rn, va_ap, ne_eq, if_false, if_true, not_false_eq_true]; rw [on1] at s2; exact s2
            · simp (decide := true) only [up2_ra, up2_rn, va_ap, ne_eq, if_false, if_true, not_false_eq_true]; exact s3
            · simp (decide := true) only [up2_ra, up2_rn, va_ap, ne_eq, if_false, if_true, not_false_eq_true]
            · simp (decide := true) only [up2_ra, up2_rn, va_ap, ne_eq, if_false, if_true, not_false_eq_true] <;> rfl
            · simp (decide := true) only [up2_ra, up2_rn, va_ap, ne_eq, if_false, if_true, not_false_eq_true]
            · simp (decide := true) only [up2_ra, up2_rn, va_ap, ne_eq, if_false, if_true, not_false_eq_true]; exact s12
            · simp (decide := true) only [up2_ra, up2_rn, va_ap, ne_eq, if_false, if_true, not_false_eq_true]; exact s13
            · simp (decide := true) only [up2_ra, up2_rn, va_ap, ne_eq, if_false, if_true, not_false_eq_true]; exact k17 i hi
            · simp (decide := true) only [up2_ra, up2_rn, va_ap, ne_eq, if_false, if_true, not_false_eq_true]; exact k18 i (by rw [on1]; exact hi)
            · simp (decide := true) only [up2_ra, up2_rn, va_ap, ne_eq, if_false, if_true, not_false_eq_true]; exact k19 i hi
            · simp (decide := true) only [up2_ra, up2_rn, va_ap, ne_eq, if_false, if_true, not_false_eq_true]
              by_cases e : i = w
              · rw [if_pos e, if_pos e] <;> rfl
              · rw [if_neg e, if_neg e]; exact k20 i (by omega)
            · simp (decide := true) only [up2_ra, up2_rn, va_ap, ne_eq, if_false, if_true, not_false_eq_true]; exact k1
            · simp (decide := true) only [up2_ra, up2_rn, va_ap, ne_eq, if_false, if_true, not_false_eq_true]; exact k5
          · intro T0 T Q gb wo f hC hR hQ
            have hh : T 81 22 = 3 ∧ T 81 23 = zI 8 := by
              rcases hR with ⟨a0, -⟩ | ⟨a0, -⟩ | ⟨a0, a1, a, b⟩ | ⟨a0, -⟩ | ⟨a0, -⟩
              · omega
              · omega
              · exact ⟨a, by rw [b, n20]; rfl⟩
              · omega
              · omega
            exact rGo_1 d0 (r_neg hC hW d12 (by omega) hh.1 hh.2 f (fun L wo' a b e => rGo_2 (by decide) (hQ L gb wo' a b e)))
      by_cases n4 : t = 4 ∧ d = 1
      · obtain ⟨n4, d1⟩ := n4
        subst d1
        by_cases k64 : kn = 64
        · exact FLT 2 (Or.inr rfl) (fun L hs h14 Q' hQ => by rw [n4]; rw [k64] at hs; exact a_otk hs (hQ _ (flt_2 L))) (rv 2 (by omega))
        · refine CON m z (w + 1) 1 (kn + 1) o cm c (va_up sg w 4) vb le (by omega) (pW_u hW d12 (Or.inl rfl) (Or.inr (Or.inr (Or.inl rfl))) (Or.inr ⟨by decide, rfl, rfl, rfl, by omega⟩)) ?_ ?_
          · intro L hs k17 k18 k19 k20 k1 fr k5 h14 Q' hQ
            obtain ⟨⟨s0, s2, s3, s9, s10, s11, s12, s13⟩, -⟩ := id hs
            rw [n4]
            refine a_ot hs (by omega) (by omega) (hQ _ ⟨⟨?_, ?_, ?_, ?_, ?_, ?_, ?_, ?_⟩, fun i hi => ?_, fun i hi => ?_, fun i hi => ?_, fun i hi => ?_, ?_, frO_u (frO_u (frO_u (frO_u fr (by decide) (by decide)) (by decide) (by decide)) (by decide) (by decide)) (by decide) (by decide), ?_⟩)
            · simp (decide := true) only [up2_ra, up2_rn, va_ap, ne_eq, if_false, if_true, not_false_eq_true]; exact s0
            · simp (decide := true) only [up2_ra, up2_rn, va_ap, ne_eq, if_false, if_true, not_false_eq_true]; exact s2
            · simp (decide := true) only [up2_ra, up2_rn, va_ap, ne_eq, if_false, if_true, not_false_eq_true]; exact s3
            · simp (decide := true) only [up2_ra, up2_rn, va_ap, ne_eq, if_false, if_true, not_false_eq_true]
            · simp (decide := true) only [up2_ra, up2_rn, va_ap, ne_eq, if_false, if_true, not_false_eq_true] <;> rfl
            · simp (decide := true) only [up2_ra, up2_rn, va_ap, ne_eq, if_false, if_true, not_false_eq_true]
            · simp (decide := true) only [up2_ra, up2_rn, va_ap, ne_eq, if_false, if_true, not_false_eq_true]; exact s12
            · simp (decide := true) only [up2_ra, up2_rn, va_ap, ne_eq, if_false, if_true, not_false_eq_true]; exact s13
            · simp (decide := true) only [up2_ra, up2_rn, va_ap, ne_eq, if_false, if_true, not_false_eq_true]; exact k17 i hi
            · simp (decide := true) only [up2_ra, up2_rn, va_ap, ne_eq, if_false, if_true, not_false_eq_true]; exact k18 i hi
            · simp (decide := true) only [up2_ra, up2_rn, va_ap, ne_eq, if_false, if_true, not_false_eq_true]; exact k19 i hi
            · simp (decide := true) only [up2_ra, up2_rn, va_ap, ne_eq, if_false, if_true, not_false_eq_true]
              by_cases e : i = w
              · rw [if_pos e, if_pos e] <;> rfl
              · rw [if_neg e, if_neg e]; exact k20 i (by omega)
            · simp (decide := true) only [up2_ra, up2_rn, va_ap, ne_eq, if_false, if_true, not_false_eq_true]; exact k1
            · simp (decide := true) only [up2_ra, up2_rn, va_ap, ne_eq, if_false, if_true, not_false_eq_true]; exact k5
          · intro T0 T Q gb wo f hC hR hQ
            have hh : T 81 22 = 1 ∧ T 81 23 = zI 6 := by
              rcases hR with ⟨a0, -⟩ | ⟨a0, a, b⟩ | ⟨a0, a1, a, b⟩ | ⟨a0, -⟩ | ⟨a0, -⟩
              · omega
              · exact ⟨a, by rw [b, n4]; rfl⟩
              · omega
              · omega
              · omega
            exact rGo_1 d0 (r_not hC hW (by omega) hh.1 hh.2 f (fun L wo' a b e => rGo_2 (by decide) (hQ L gb wo' a b e)))
      exact FLT 1 (Or.inl rfl) (fun L hs h14 Q' hQ => a_ob hs d12 t100 n36 nam n30 n20 n4 (hQ _ (flt_1 L))) (rv 1 (by omega))
    · have d3' : d = 3 := by omega
      subst d3'
      have on3 : on 3 = 1 := rfl
      have s40 : ∀ j, j < w → sg j < 40 := fun j hj => vsg_40 (hW.2.1.1 j hj)
      by_cases bin : (19 ≤ t ∧ t ≤ 23) ∨ (24 ≤ t ∧ t ≤ 29 ∧ ¬ bt cm o = true) ∨ (t = 5 ∨ t = 6)
      · by_cases k64 : kn = 64
        · exact FLT 2 (Or.inr rfl) (fun L hs h14 Q' hQ => by rw [k64] at hs; exact c_ful hs bin (fun V hV => hQ V hV)) (fun T0 T Q gb wo hC fr hR hQ => rGo_1 d0 (r_sf hC hW fr hR 2 (Or.inr ⟨rfl, k64, bin⟩) hQ))
        · obtain ⟨du, cm', hb⟩ : ∃ du cm', bto t o cm du cm' := by
            rcases bin with h | h | h
            · exact ⟨2, cm, Or.inl ⟨h.1, h.2, rfl, rfl⟩⟩
            · exact ⟨2, cm ||| b1 o, Or.inr (Or.inl ⟨h.1, h.2.1, h.2.2, rfl, rfl⟩)⟩
            · exact ⟨1, cm &&& (b1 o ^^^ (-1)), Or.inr (Or.inr ⟨h, rfl, rfl⟩)⟩
          have t34 : ¬ t = 34 := by omega
          have bs : bsg t := by unfold bsg; omega
          obtain ⟨v1, v2, v3, v4, v5, v6⟩ := bsg_v bs
          have st1 : 1 ≤ stg t := by rw [stg_30 v1]; exact v2
          have du12 : du = 1 ∨ du = 2 := by unfold bto at hb; omega
          have ondu : on du = 1 := on_1 (by omega)
          have hWp := pW_pm (least := stg t) st1 w z c hW
          have hWp1 := hWp.1
          have pmb := pm_b (stg t) sg w
          refine CON m (z + pm (stg t) sg w) (w - pm (stg t) sg w + 1) du (kn + 1) o cm' (pcG (stg t) sg sg w z c) (va_up sg (w - pm (stg t) sg w) t) vb le t34 (pW_b hWp du12 (by omega) v1 v2 v3) ?_ ?_
          · intro L hs k17 k18 k19 k20 k1 fr k5 h14 Q' hQ
            obtain ⟨⟨s0, s2, s3, s9, s10, s11, s12, s13⟩, -⟩ := id hs
            refine c_bin (du := du) (cm' := cm') (c := c) (sg := sg) hs (by omega) (by omega) (by omega) s40 k20 k17 hb ?_
            intro V b1' b2' b3' b4' b5' b6' b7' b8' b9' b10' b11' b12'
            refine hQ V ⟨⟨by rw [b4' 0 (by decide) (by decide) (by decide) (by decide) (by decide)]; exact s0, by rw [b4' 2 (by decide) (by decide) (by decide) (by decide) (by decide), ondu, ← on3]; exact s2, b6', b5', b7', b8', by rw [b4' 12 (by decide) (by decide) (by decide) (by decide) (by decide)]; exact s12, b9'⟩, b10', fun i hi => by rw [b2']; exact k18 i (by rw [on3, ← ondu]; exact hi), fun i hi => by rw [b3']; exact k19 i hi, fun j hj => ?_, by rw [b4' 1 (by decide) (by decide) (by decide) (by decide) (by decide)]; exact k1, ⟨fun e x y => by rw [b1' e y]; exact fr.1 e x y, fun j x y e => by rw [b1' 14 (by decide)]; exact fr.2 j x y e⟩, by rw [b1' 14 (by decide)]; exact k5⟩
            by_cases e : j = w - pm (stg t) sg w
            · rw [e, va_s]; exact b12'
            · rw [va_n _ _ e]; exact b11' j (by omega)
          · intro T0 T Q gb wo f hC hR hQ
            exact rGo_1 d0 (r_joi hC hW (by omega) hR hb f (fun L gb' wo' a _ b e => rGo_2 (by omega) (hQ L gb' wo' a b e)))
      have hWp := pW_pm (least := 1) (Nat.le_refl 1) w z c hW
      have hWp1 := hWp.1
      have pmb := pm_b 1 sg w
      have stop := pm_stop 1 sg w
      have hh : ∀ T : Nat → Nat → Int32, 19 ≤ t → t ≤ 32 → tkR B q t p' (T 81 22) (T 81 23) → T 81 22 = 3 ∧ T 81 23 = zI (sgW t) := fun T x y hR => by
        rcases hR with ⟨a0, -⟩ | ⟨a0, a, b⟩ | ⟨a0, a1, a, b⟩ | ⟨a0, -⟩ | ⟨a0, -⟩
        · omega
        · omega
        · exact ⟨a, b⟩
        · omega
        · omega
      by_cases clo : t = 31 ∧ 0 < o
      · obtain ⟨n31, ho⟩ := clo
        have w1 : 1 ≤ w - pm 1 sg w := by
          by_cases g : w - pm 1 sg w = 0
          · exfalso
            have := hWp1.2.2.2.1
            rw [g] at this
            have e0 : cN (par sg) 0 = 0 := rfl
            omega
          · omega
        have h30 : sg (w - pm 1 sg w - 1) = 30 := by
          have v := hW.2.1.1 (w - pm 1 sg w - 1) (by omega)
          rcases stop with h | h
          · omega
          · rw [stg_30 v] at h
            exact Classical.not_not.mp h
        have q2 : pW m (z + pm 1 sg w) (w - pm 1 sg w - 1) 3 kn (o - 1) (pcG 1 sg sg w z c) sg vb le := by
          have e : w - pm 1 sg w = (w - pm 1 sg w - 1) + 1 := by omega
          rw [e] at hWp
          exact (pW_q hWp h30).1
        refine CON m (z + pm 1 sg w) (w - pm 1 sg w - 1) 3 kn (o - 1) cm (pcG 1 sg sg w z c) sg vb le (by omega) q2 ?_ ?_
        · intro L hs k17 k18 k19 k20 k1 fr k5 h14 Q' hQ
          obtain ⟨⟨s0, s2, s3, s9, s10, s11, s12, s13⟩, -⟩ := id hs
          rw [n31]
          refine c_clo (c := c) (sg := sg) hs ho (by omega) w1 s40 k20 k17 ?_
          intro V b1' b2' b3' b4' b5' b6'
          exact hQ V ⟨⟨by rw [b2' 0 (by decide) (by decide) (by decide)]; exact s0, by rw [b2' 2 (by decide) (by decide) (by decide)]; exact s2, b4', b3', by rw [b2' 10 (by decide) (by decide) (by decide)]; exact s10, by rw [b2' 11 (by decide) (by decide) (by decide)]; exact s11, b5', by rw [b2' 13 (by decide) (by decide) (by decide)]; exact s13⟩, b6', fun i hi => by rw [b1' 18 (by decide) (by decide)]; exact k18 i hi, fun i hi => by rw [b1' 19 (by decide) (by decide)]; exact k19 i hi, fun j hj => by rw [b1' 20 (by decide) (by decide)]; exact k20 j (by omega), by rw [b2' 1 (by decide) (by decide) (by decide)]; exact k1, ⟨fun e x y => by rw [b1' e (by omega) (by omega)]; exact fr.1 e x y, fun j x y e => by rw [b1' 14 (by decide) (by decide)]; exact fr.2 j x y e⟩, by rw [b1' 14 (by decide) (by decide)]; exact k5⟩
        · intro T0 T Q gb wo f hC hR hQ
          have h2 := hh T (by omega) (by omega) hR
          exact rGo_1 d0 (r_clo hC hW ho h2.1 (by rw [h2.2, n31]; rfl) f w1 h30 (fun L gb' a _ b e => rGo_2 (by decide) (hQ L gb' wo a b e)))
      by_cases eol : t = 32 ∧ o = 0
      · obtain ⟨n32, o0⟩ := eol
        subst o0
        have w0 : w - pm 1 sg w = 0 := by
          rcases stop with h | h
          · exact h
          · by_cases g : w - pm 1 sg w = 0
            · exact g
            · exfalso
              have v := hW.2.1.1 (w - pm 1 sg w - 1) (by omega)
              rw [stg_30 v] at h
              have h30 := Classical.not_not.mp h
              have e : w - pm 1 sg w = (w - pm 1 sg w - 1) + 1 := by omega
              have := hWp1.2.2.2.1
              rw [e, par_s, if_pos h30] at this
              omega
        rw [w0] at hWp
        refine CON (m + 1) (z + pm 1 sg w) 0 0 kn 0 cm (pcG 1 sg sg w z c) sg vb (va_up le m (z + pm 1 sg w)) (by omega) (pW_e hWp) ?_ ?_
        · intro L hs k17 k18 k19 k20 k1 fr k5 h14 Q' hQ
          obtain ⟨⟨s0, s2, s3, s9, s10, s11, s12, s13⟩, -⟩ := id hs
          rw [n32]
          refine c_eol (c := c) (sg := sg) hs (by omega) (by omega) s40 k20 k17 ?_
          intro V b1' b2' b3' b4' b5' b6' b7'
          refine hQ V ⟨⟨by rw [b2' 0 (by decide) (by decide) (by decide)]; exact s0, by rw [b2' 2 (by decide) (by decide) (by decide)]; exact s2, b4', by rw [b3', w0], b5', by rw [b2' 11 (by decide) (by decide) (by decide)]; exact s11, by rw [b2' 12 (by decide) (by decide) (by decide)]; exact s12, by rw [b2' 13 (by decide) (by decide) (by decide)]; exact s13⟩, b7', fun i hi => by rw [b1' 18 (by decide) (by decide) (by decide)]; exact k18 i hi, fun i hi => ?_, fun j hj => absurd hj (Nat.not_lt_zero _), by rw [b2' 1 (by decide) (by decide) (by decide)]; exact k1, ⟨fun e x y => by rw [b1' e (by omega) (by omega) (by omega)]; exact fr.1 e x y, fun j x y e => by rw [b1' 14 (by decide) (by decide) (by decide)]; exact fr.2 j x y e⟩, by rw [b1' 14 (by decide) (by decide) (by decide)]; exact k5⟩
          rw [b6', on3, Nat.add_sub_cancel]
          by_cases e : i = m
          · rw [e, vs_a, va_s]
          · rw [vs_n _ _ e, va_n _ _ e]; exact k19 i (by omega)
        · intro T0 T Q gb wo f hC hR hQ
          have h2 := hh T (by omega) (by omega) hR
          exact rGo_1 d0 (r_eol hC hW h2.1 (by rw [h2.2, n32]; rfl) f w0 (fun L gb' a _ b e => by
            have := hQ L gb' wo a b e
            unfold rGo at this
            rw [if_pos rfl] at this
            exact this))
      have nb : ¬ (t = 5 ∨ t = 6) ∧ ¬ (19 ≤ t ∧ t ≤ 23) ∧ ¬ (24 ≤ t ∧ t ≤ 29 ∧ ¬ bt cm o = true) := ⟨fun h => bin (Or.inr (Or.inr h)), fun h => bin (Or.inl h), fun h => bin (Or.inr (Or.inl h))⟩
      exact FLT 1 (Or.inl rfl) (fun L hs h14 Q' hQ => c_bad hs t100 nb.1 nb.2.1 nb.2.2 clo eol (hQ _ (flt_1 L))) (fun T0 T Q gb wo hC fr hR hQ => rGo_1 d0 (r_sf hC hW fr hR 1 (Or.inl ⟨rfl, nb.1, nb.2.1, nb.2.2, clo, eol⟩) hQ))
end O2
