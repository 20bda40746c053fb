/-! The calls distance, laid, word. -/
theorem hgO_c {hg hh : Nat → Nat → Bool} {r : Nat} (h : ∀ k, k < r → ∀ on, on < r → hg k on = hh k on) (o : Nat → Bool) : hgO hg r o = hgO hh r o := by
  unfold hgO
  apply up_congr
  intro _ _ x
  unfold hgR
  apply up_congr
  intro k hk y
  unfold hgS hgA
  have : up (fun on (acc : Bool) => acc || (hg k on && y on)) r false = up (fun on (acc : Bool) => acc || (hh k on && y on)) r false := by
    apply up_congr
    intro on hon z
    rw [h k hk on hon]
  rw [this]
theorem inv_a {c : Nat} {mo : Bool} {G : Nat × Nat} {I : Nat → Nat → Int32} {J : Nat → Nat → Int64} (h : inv c mo G I J) : ∃ r ms, aC r ms I ∧ aM r ms I ∧ I 81 15 = I 1 2 ∧ I 135 = I 72 ∧ I 136 = I 73 ∧ I 89 = I 10 ∧ I 138 = I 75 ∧ (∀ j, ∃ w, w ≤ 99 ∧ I 10 j = zI w) ∧ (∀ a b, r ≤ b → bt (I 74 a) b = false) ∧ (∀ k, k < r → ∀ on, on < r → bt (I 74 k) on = decide (¬ I 137 (8 * k + on) = 0)) ∧ (∀ k, 6 ≤ k → bt (I 1 2) k = false) := by
  obtain ⟨n, m, t, p, q, r, ch, ln, ⟨hn, hn', h12, hm, hm', h6, hp, hpb, -⟩, ⟨e2, e4, e5, e6, e10, e11, e12, e13⟩, hV, hY, hG, hK, hP, hS, ⟨hr, hr', h8, a1, a2, a3, a4, a5, a6, a7⟩, -⟩ := h
  refine ⟨r, m, ⟨hr, h8, hm, h6, a4⟩, ⟨hr', h8, hm', h6, by rw [a1]; exact a4⟩, hp, a1, a2, e10, a3, hV.2.2.2.2.2.1, a7, fun k hk on hon => ?_, fun k hk => hpb k (by omega)⟩
  have h1 := a6 k (by omega) on (by omega)
  have h2 := a5 (8 * k + on)
  cases hb : bt (I 74 k) on with
  | true =>
    rw [h1.mp hb]
    decide
  | false =>
    rcases h2 with h2 | h2
    · rw [h2]; decide
    · rw [h1.mpr h2] at hb
      cases hb
section O2
variable {X : (Nat → Int32) × Nat} {c : Nat} {mo : Bool} {G : Nat × Nat} {I : Nat → Nat → Int32} {J : Nat → Nat → Int64}
theorem frm0 {K : Nat → Nat → Int32} (f : Fr I K) : Fr I (up2 K 81 2 0) := Fr_m f rfl 0
theorem op_distance (h : inv c mo G I J) (x y z : Int32) : Agr X 199 [some (.ref 0), some (.int x), some (.int y), some (.int z)] 296 [some (.ref 81), some (.int x), some (.int y), some (.int z)] (sM mo G I J) (Inv (c + 1)) := by
  have hv := inv_t 0 h
  obtain ⟨r, ms, hC, hM, e15, e135, e136, e89, e138, hR, hH, hHg, hpb⟩ := inv_a h
  unfold Agr
  have inval : ¬ (sIn x r ∧ sIn y ms ∧ sIn z ms) → Agr X 199 [some (.ref 0), some (.int x), some (.int y), some (.int z)] 296 [some (.ref 81), some (.int x), some (.int y), some (.int z)] (sM mo G I J) (Inv (c + 1)) := by
    intro g
    have m1 : ∀ Q : Option Value → sm_M → Prop, sm_wp X 296 0 [some (.ref 81), some (.int x), some (.int y), some (.int z)] [] (sM mo G I J) Q = Q (some (.int (-1))) (sM mo G (up2 I 81 2 0) J) := by
      intro Q
      rw [lp_296_0]
      simp only [mA0 hM.1 hM.2.1, mS0 hM.2.2.1 hM.2.2.2.1]
      by_cases a : sIn x r
      · by_cases b : sIn y ms
        · have d : ¬ sIn z ms := fun d => g ⟨a, b, d⟩
          simp only [eq_true a, eq_true b, eq_false d, not_true_eq_false, not_false_eq_true, if_true, if_false]
        · simp only [eq_true a, eq_false b, not_true_eq_false, not_false_eq_true, if_true, if_false]
      · simp only [eq_false a, not_false_eq_true, if_true]
    have dz : vf_Art_draftLength I x y = 0 ∨ vf_Art_draftLength I x z = 0 := by
      unfold vf_Art_draftLength
      simp only [hArt_vp hC.1 hC.2.1, hState_vp hC.2.2.1 hC.2.2.2.1]
      by_cases a : sIn x r
      · by_cases b : sIn y ms
        · have d : ¬ sIn z ms := fun d => g ⟨a, b, d⟩
          refine Or.inr ?_
          simp only [eq_true a, eq_false d, not_true_eq_false, if_false]
        · refine Or.inl ?_
          simp only [eq_true a, eq_false b, not_true_eq_false, if_false]
      · refine Or.inl ?_
        simp only [eq_false a, not_false_eq_true, if_true]
    unfold Agr
    rw [lp_199_0]
    by_cases d1 : vf_Art_draftLength I x y = 0
    · rw [if_pos d1, m1]
      exact ⟨rfl, hv⟩
    · rcases dz with d2 | d2
      · exact absurd d2 d1
      · rw [if_neg d1, if_neg (fun e => e d2), m1]
        exact ⟨rfl, hv⟩
  by_cases g : sIn x r ∧ sIn y ms ∧ sIn z ms
  · obtain ⟨a, ha, ha2, rfl⟩ := sIn_ex g.1
    obtain ⟨s, hs, hs2, rfl⟩ := sIn_ex g.2.1
    obtain ⟨o, ho, ho2, rfl⟩ := sIn_ex g.2.2
    have h6 := hM.2.2.2.1
    have hr8 := hM.2.1
    have c1 : 6 * a + s < 48 := by omega
    have c2 : 6 * a + o < 48 := by omega
    have mm : ∀ K, Fr I K → ∀ Q : Option Value → sm_M → Prop, (I 72 (6 * a + s) = 0 ∨ I 72 (6 * a + o) = 0 → Q (some (.int (-1))) (sM mo G (up2 K 81 2 0) J)) → (¬ I 72 (6 * a + s) = 0 → ¬ I 72 (6 * a + o) = 0 → ∀ L, Fr I L → Q (some (.int (zI (adD (I 72) (I 73) a s o)))) (sM mo G L J)) → sm_wp X 296 0 [some (.ref 81), some (.int (zI a)), some (.int (zI s)), some (.int (zI o))] [] (sM mo G K J) Q := by
      intro K f Q q1 q2
      have hMK := aM_f f hM
      have f0 := frm0 f
      rw [lp_296_0]
      simp only [mA0 hMK.1 hMK.2.1, mS0 hMK.2.2.1 hMK.2.2.2.1]
      simp (disch := first | omega | decide) only [zI_sIn, ha, hs, ho, not_true_eq_false, if_false, zIl_mul, zI_add, zI_vp, zI_cn, c1, c2, true_and, f.1 135 rfl, e135]
      by_cases z1 : I 72 (6 * a + s) = 0
      · rw [if_pos z1]
        exact q1 (Or.inl z1)
      · rw [if_neg z1]
        by_cases z2 : I 72 (6 * a + o) = 0
        · rw [if_neg (fun e => e z2)]
          exact q1 (Or.inr z2)
        · rw [if_pos z2, hm_far (aM_f f0 hM) ha hs ho]
          simp only [tl_some]
          rw [lp_296_75, f0.1 135 rfl, f0.1 136 rfl, e135, e136]
          exact q2 z1 z2 _ (Fr_w f0 rfl (by decide) (by decide) (by decide) _)
    rw [lp_199_0, dl_v I hC.1 hC.2.1 hC.2.2.1 hC.2.2.2.1 ha hs, dl_v I hC.1 hC.2.1 hC.2.2.1 hC.2.2.2.1 ha ho]
    by_cases z1 : I 72 (6 * a + s) = 0
    · rw [if_pos z1]
      exact mm I (Fr_r I) _ (fun _ => ⟨rfl, hv⟩) (fun n1 => absurd z1 n1)
    · rw [if_neg z1]
      by_cases z2 : I 72 (6 * a + o) = 0
      · rw [if_neg (fun e => e z2)]
        exact mm I (Fr_r I) _ (fun _ => ⟨rfl, hv⟩) (fun _ n2 => absurd z2 n2)
      · rw [if_pos z2, hc_steps hC ha hs ho]
        simp only [tl_some]
        rw [lp_199_36]
        refine mm _ (stC_f _ _ _ _) _ (fun e => ?_) (fun _ _ L f => ⟨rfl, inv_fr h f rfl rfl⟩)
        rcases e with e | e
        · exact absurd e z1
        · exact absurd e z2
  · exact inval g
theorem op_laid (h : inv c mo G I J) (x y : Int32) : Agr X 200 [some (.ref 0), some (.int x), some (.int y)] 298 [some (.ref 81), some (.int x), some (.int y), none, none, none] (sM mo G I J) (Inv (c + 1)) := by
  have hv := inv_t 0 h
  obtain ⟨r, ms, hC, hM, e15, e135, e136, e89, e138, hR, hH, hHg, hpb⟩ := inv_a h
  have h6 := hM.2.2.2.1
  have hr8 := hM.2.1
  unfold Agr
  by_cases g : sIn x r
  · obtain ⟨a, ha, ha2, rfl⟩ := sIn_ex g
    -- the reference, from any memory that the class leaves
    have mm : ∀ K, Fr I K → ∀ Q : Option Value → sm_M → Prop, vf_Model_isIn y 0 3 → (y = 0 → ∀ L, Fr I L → Q (some (.int (enc (abs (I 1 2) (I 72) (I 73) (I 10) ms a)))) (sM mo G L J)) → (y = 1 → ∀ L, Fr I L → Q (some (.int (match abs (I 1 2) (I 72) (I 73) (I 10) ms a with | none => 0 | some t => I 72 (6 * a + t)))) (sM mo G L J)) → (¬ y = 0 → ¬ y = 1 → ∀ L, Fr I L → sm_wp X 298 66 [some (.ref 81), some (.int (zI a)), some (.int y), some (.int (enc (abs (I 1 2) (I 72) (I 73) (I 10) ms a))), none, none] [.int (if hgO (fun k on => bt (I 74 k) on) r (fun k => opA (I 1 2) (I 72) (I 73) (I 10) ms k) a = true then 1 else 0)] (sM mo G L J) Q) → sm_wp X 298 0 [some (.ref 81), some (.int (zI a)), some (.int y), none, none, none] [] (sM mo G K J) Q := by
      intro K f Q hy q0 q1 q2
      have hMK := aM_f f hM
      have f0 := frm0 f
      rw [lp_298_0]
      simp only [mA0 hMK.1 hMK.2.1]
      rw [if_neg (fun e => e g), if_pos hy]
      refine hm_base (aM_f f0 hM) ha ?_
      intro K1 f1 _
      have f2 := Fr_t f0 f1
      rw [f0.2.2.2.2 15 rfl, f0.1 135 rfl, f0.1 136 rfl, f0.1 89 rfl, e15, e135, e136, e89]
      simp only [tl_some]
      rw [lp_298_29]
      by_cases y0 : y = 0
      · rw [if_neg (fun e => e y0)]
        exact q0 y0 K1 f2
      · rw [if_pos y0]
        by_cases y1 : y = 1
        · rw [if_neg (fun e => e y1)]
          have q := q1 y1 K1 f2
          cases hb : abs (I 1 2) (I 72) (I 73) (I 10) ms a with
          | none =>
            rw [if_neg (by decide)]
            rw [hb] at q
            exact q
          | some t =>
            have tm := adr_lt (abs_lt hb).2
            rw [enc_s, if_pos (by rw [zIl_le (c := 0) (by decide) (by omega)]; exact Nat.zero_le _), show (6 : Int32) * zI a + zI t = zI (6 * a + t) by rw [show (6 : Int32) * zI a = zI (6 * a) from zIl_mul 6 a, zI_add], zI_vp (by omega), zI_cn (by omega), f2.1 135 rfl, e135]
            rw [hb] at q
            exact ⟨by omega, q⟩
        · rw [if_pos y1]
          refine hm_isOpen (aM_f f2 hM) ha ?_
          intro K3 f3
          have f4 := Fr_t f2 f3
          simp only [tl_some]
          have eh : hgO (fun k on => decide (¬ K1 137 (8 * k + on) = 0)) r (fun k => opA (K1 81 15) (K1 135) (K1 136) (K1 89) ms k) = hgO (fun k on => bt (I 74 k) on) r (fun k => opA (I 1 2) (I 72) (I 73) (I 10) ms k) := by
            rw [f2.1 137 rfl, f2.2.2.2.2 15 rfl, f2.1 135 rfl, f2.1 136 rfl, f2.1 89 rfl, e15, e135, e136, e89]
            exact hgO_c (fun k hk on hon => (hHg k hk on hon).symm) _
          rw [eh]
          exact q2 y0 y1 K3 f4
    have pb : ∀ L, Fr I L → ∀ k, 6 ≤ k → bt (I 1 2 &&& (I 75 a ^^^ (-1))) k = false := by
      intro L _ k hk
      rw [bt_and, hpb k hk, Bool.false_and]
    rw [lp_200_0]
    simp only [hArt_vp hC.1 hC.2.1]
    rw [if_pos g]
    by_cases y0 : y = 0
    · subst y0
      rw [if_pos rfl]
      refine hc_base hC hR ha ?_
      intro K f
      simp only [tl_some]
      rw [lp_200_52]
      exact mm K f _ (by decide) (fun _ L fl => ⟨rfl, inv_fr h fl rfl rfl⟩) (fun e => absurd e (by decide)) (fun e => absurd rfl e)
    · rw [if_neg y0]
      by_cases y1 : y = 1
      · subst y1
        rw [if_pos rfl]
        refine hc_base hC hR ha ?_
        intro K f
        simp only [tl_some]
        have hCK := aC_f f hC
        have ed : vf_Art_draftLength K (zI a) (enc (abs (I 1 2) (I 72) (I 73) (I 10) ms a)) = (match abs (I 1 2) (I 72) (I 73) (I 10) ms a with | none => 0 | some t => I 72 (6 * a + t)) := by
          cases hb : abs (I 1 2) (I 72) (I 73) (I 10) ms a with
          | none =>
            unfold vf_Art_draftLength
            simp only [hArt_vp hCK.1 hCK.2.1, hState_vp hCK.2.2.1 hCK.2.2.2.1]
            have : ¬ sIn (enc none) ms := fun g => g.1 (by decide)
            simp only [eq_false this, if_false, ite_self]
          | some t =>
            rw [enc_s, dl_v K hCK.1 hCK.2.1 hCK.2.2.1 hCK.2.2.2.1 ha (adr_lt (abs_lt hb).2), f.1 72 rfl]
        rw [lp_200_66, ed]
        exact mm K f _ (by decide) (fun e => absurd e (by decide)) (fun _ L fl => ⟨rfl, inv_fr h fl rfl rfl⟩) (fun _ e => absurd rfl e)
      · rw [if_neg y1]
        by_cases y2 : y = 2
        · subst y2
          rw [if_pos rfl]
          refine hc_isOpen hC hR hH ha ?_
          intro K f
          simp only [tl_some]
          rw [lp_200_78]
          generalize hgO (fun k on => bt (I 74 k) on) r (fun k => opA (I 1 2) (I 72) (I 73) (I 10) ms k) a = b at mm ⊢
          cases b with
          | true =>
            rw [if_neg (by decide)]
            refine mm K f _ (by decide) (fun e => absurd e (by decide)) (fun e => absurd e (by decide)) (fun _ _ L fl => ?_)
            rw [lp_298_66, if_neg (fun e => e rfl), if_neg (by decide)]
            exact ⟨rfl, inv_fr h fl rfl rfl⟩
          | false =>
            rw [if_pos (by decide)]
            refine mm K f _ (by decide) (fun e => absurd e (by decide)) (fun e => absurd e (by decide)) (fun _ _ L fl => ?_)
            rw [lp_298_66, if_neg (fun e => e rfl), if_pos (by decide)]
            exact ⟨rfl, inv_fr h fl rfl rfl⟩
        · rw [if_neg y2]
          by_cases y3 : y = 3
          · subst y3
            rw [if_pos rfl]
            refine hc_isOpen hC hR hH ha ?_
            intro K f
            simp only [tl_some]
            have hCK := aC_f f hC
            rw [lp_200_95]
            simp only [hArt_vp hCK.1 hCK.2.1]
            obtain ⟨b1', b2, b3⟩ := bc_6 (pb K f)
            have a8 : a < 8 := by omega
            have fin : ∀ (b : Bool) L, Fr I L → ∀ Q : Option Value → sm_M → Prop, Q (some (.int (if b = true then 0 else if pc6 (I 1 2 &&& (I 75 a ^^^ (-1))) < 2 then 0 else zI (pc6 (I 1 2 &&& (I 75 a ^^^ (-1))))))) (sM mo G L J) → sm_wp X 298 66 [some (.ref 81), some (.int (zI a)), some (.int 3), some (.int (enc (abs (I 1 2) (I 72) (I 73) (I 10) ms a))), none, none] [.int (if b = true then 1 else 0)] (sM mo G L J) Q := by
              intro b L fl Q q
              rw [lp_298_66, if_pos (by decide), zI_vp ha2, zI_cn ha2, ct_Mbits, fl.2.2.2.2 15 rfl, fl.1 138 rfl, e15, e138, b2]
              simp only [tl_some]
              rw [lp_298_100]
              refine ⟨a8, ?_⟩
              cases b with
              | true =>
                rw [if_pos (by decide)]
                exact q
              | false =>
                rw [if_neg (by decide)]
                simp only [Bool.false_eq_true, if_false] at q
                by_cases c2 : pc6 (I 1 2 &&& (I 75 a ^^^ (-1))) < 2
                · rw [if_neg (by rw [zIl_le (c := 2) (by decide) (by omega)]; show ¬ 2 ≤ _; omega)]
                  rw [if_pos c2] at q
                  exact q
                · rw [if_pos (by rw [zIl_le (c := 2) (by decide) (by omega)]; show 2 ≤ _; omega)]
                  rw [if_neg c2] at q
                  exact q
            generalize hgO (fun k on => bt (I 74 k) on) r (fun k => opA (I 1 2) (I 72) (I 73) (I 10) ms k) a = b at mm ⊢
            cases b with
            | true =>
              rw [if_neg (by decide)]
              refine mm K f _ (by decide) (fun e => absurd e (by decide)) (fun e => absurd e (by decide)) (fun _ _ L fl => fin true L fl _ ⟨rfl, inv_fr h fl rfl rfl⟩)
            | false =>
              rw [if_pos (by decide), if_pos g, zI_vp ha2, zI_cn ha2, f.1 1 rfl, f.1 75 rfl, b1']
              refine ⟨a8, ?_⟩
              by_cases c2 : pc6 (I 1 2 &&& (I 75 a ^^^ (-1))) < 2
              · rw [if_pos (by rw [zIr_lt (c := 2) (by decide) (by omega)]; exact c2)]
                refine mm K f _ (by decide) (fun e => absurd e (by decide)) (fun e => absurd e (by decide)) (fun _ _ L fl => fin false L fl _ ⟨?_, inv_fr h fl rfl rfl⟩)
                simp only [Bool.false_eq_true, if_false, c2, if_true]
              · rw [if_neg (by rw [zIr_lt (c := 2) (by decide) (by omega)]; exact c2)]
                refine mm K f _ (by decide) (fun e => absurd e (by decide)) (fun e => absurd e (by decide)) (fun _ _ L fl => fin false L fl _ ⟨?_, inv_fr h fl rfl rfl⟩)
                simp only [Bool.false_eq_true, if_false, c2]
          · rw [if_neg y3, lp_298_0]
            simp only [mA0 hM.1 hM.2.1]
            have ny : ¬ vf_Model_isIn y 0 3 := by
              rintro ⟨n1, n2⟩
              obtain ⟨k, hk, rfl⟩ := zI_in (c := 3) (by decide) n1 n2
              match k, hk with
              | 0, _ => exact y0 rfl
              | 1, _ => exact y1 rfl
              | 2, _ => exact y2 rfl
              | 3, _ => exact y3 rfl
            rw [if_neg (fun e => e g), if_neg ny]
            exact ⟨trivial, hv⟩
  · rw [lp_200_0]
    simp only [hArt_vp hC.1 hC.2.1]
    rw [if_neg g, lp_298_0]
    simp only [mA0 hM.1 hM.2.1]
    rw [if_pos g]
    exact ⟨trivial, hv⟩
end O2
