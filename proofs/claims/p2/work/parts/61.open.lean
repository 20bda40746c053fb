/-! Open articles. -/
def opA (pr : Int32) (L W R : Nat → Int32) (ms a : Nat) : Bool := match abs pr L W R ms a with
  | none => true
  | some t => up (fun k (acc : Bool) => acc || decide (vf_Art_agreement (hld pr L W ms a t k) (zI (ndr pr L ms a)) = 0)) (adl L a t) false
theorem abs_lt {pr : Int32} {L W R : Nat → Int32} {ms a t : Nat} (h : abs pr L W R ms a = some t) : t < 6 ∧ adr pr L ms a t = true := abF_lt 6 (Nat.le_refl _) t h
theorem abs_no {pr : Int32} {L W R : Nat → Int32} {ms a : Nat} (h6 : ms ≤ 6) (h : abs pr L W R ms a = none) : ∀ s, ¬ adr pr L ms a s = true := by
  have e : ∀ k, k ≤ 6 → up (abF pr L W R ms a) k none = none → ∀ s, s < k → ¬ adr pr L ms a s = true := by
    refine up_ind (fun k (b : Option Nat) => b = none → ∀ s, s < k → ¬ adr pr L ms a s = true) (fun _ s h => absurd h (Nat.not_lt_zero _)) ?_
    intro k hk b ih hb s hs
    unfold abF at hb
    split at hb
    · cases b with
      | none => cases hb
      | some t =>
        simp only at hb
        split at hb <;> cases hb
    · rename_i hg
      by_cases e : s = k
      · subst e
        exact hg
      · exact ih hb s (by omega)
  intro s g
  have := adr_lt g
  exact e 6 (Nat.le_refl _) h s (by omega) g
theorem ndr_0 {pr : Int32} {L : Nat → Int32} {ms a : Nat} (h : ∀ s, ¬ adr pr L ms a s = true) : ndr pr L ms a = 0 := by
  unfold ndr
  refine up_ind (fun _ (n : Nat) => n = 0) rfl ?_ 6 (Nat.le_refl _)
  intro k hk n hn
  rw [if_neg (h k)]
  exact hn
theorem ndr_p {pr : Int32} {L : Nat → Int32} {ms a t : Nat} (ht : t < 6) (h : adr pr L ms a t = true) : 0 < ndr pr L ms a ∧ ndr pr L ms a ≤ 6 := by
  unfold ndr
  have e := up_ind (f := fun s n => if adr pr L ms a s = true then n + 1 else n) (a := 0) (N := 6) (fun k (n : Nat) => n ≤ k ∧ (t < k → 0 < n)) ⟨Nat.le_refl _, fun h => absurd h (Nat.not_lt_zero _)⟩ (by
    intro k hk n hn
    by_cases g : adr pr L ms a k = true
    · rw [if_pos g]
      exact ⟨by omega, fun _ => by omega⟩
    · rw [if_neg g]
      refine ⟨by omega, fun h1 => hn.2 ?_⟩
      by_cases e : t = k
      · subst e
        exact absurd h g
      · omega) 6 (Nat.le_refl _)
  exact ⟨e.2 ht, e.1⟩
section O1
variable {X : (Nat → Int32) × Nat} {mo : Bool} {G : Nat × Nat} {J : Nat → Nat → Int64} {Q : Option Value → sm_M → Prop}
theorem hm_lays {r ms a t : Nat} {I : Nat → Nat → Int32} (h : aM r ms I) (ha : a < r) (ht : t < ms) (hQ : ∀ K, Fr I K → K 141 = I 141 → (∀ k, k < 8 → K 140 k = hld (I 81 15) (I 135) (I 136) ms a t k) → K 81 88 = zI (ndr (I 81 15) (I 135) ms a) → Q none (sM mo G K J)) : sm_wp X 303 0 [some (.ref 81), some (.int (zI a)), some (.int (zI t)), none, none, none, none, none, none, none] [] (sM mo G I J) Q := by
  have h6 := h.2.2.2.1
  have hr := h.2.1
  have l2 : ∀ d k, k + d = ms → ∀ K, Fr I K → K 141 = I 141 → (∀ j, j < 8 → K 140 j = up (hldF (I 81 15) (I 135) (I 136) ms a t) k (fun _ => 0) j) → K 81 88 = zI (up (fun s n => if adr (I 81 15) (I 135) ms a s = true then n + 1 else n) k 0) → sm_wp X 303 36 [some (.ref 81), some (.int (zI a)), none, some (.int (zI (6 * a + t))), some (.int (zI k)), none, none, none, none, none] [] (sM mo G K J) Q := by
    intro d
    induction d with
    | zero =>
      intro k hk K f g1 hs h88
      have : k = ms := by omega
      subst this
      rw [lp_303_36, if_pos (by rw [f.2.2.2.2 10 rfl, h.2.2.1, zI_le (by omega) (by omega)]; exact Nat.le_refl _)]
      refine hQ K f g1 ?_ ?_
      · unfold hld
        rw [show 6 = k + (6 - k) by omega, hld_t]
        exact hs
      · unfold ndr
        rw [show 6 = k + (6 - k) by omega, ndr_t]
        exact h88
    | succ d ih =>
      intro k hk K f g1 hs h88
      obtain ⟨v1, v2⟩ := hdr_v (aM_f f h) ha (show k < 6 by omega)
      rw [lp_303_36, if_neg (by rw [f.2.2.2.2 10 rfl, h.2.2.1, zI_le (by omega) (by omega)]; omega)]
      refine ⟨v2, ?_⟩
      simp only [v1, f.2.2.2.2 15 rfl, f.1 135 rfl]
      have nx := ih (k + 1) (by omega)
      rw [up_s, up_s] at nx
      by_cases g : adr (I 81 15) (I 135) ms a k = true
      · rw [if_pos g, show (6 : Int32) * zI a + zI k = zI (6 * a + k) by rw [show (6 : Int32) * zI a = zI (6 * a) from zIl_mul 6 a, zI_add]]
        have f1 : Fr I (up2 K 81 88 (K 81 88 + 1)) := Fr_m f rfl _
        rw [hm_far (aM_f f1 h) ha ht (by omega)]
        simp only [tl_some]
        rw [lp_303_84, f1.1 135 rfl, f1.1 136 rfl]
        generalize hK1 : rw2 (up2 K 81 88 (K 81 88 + 1)) 139 (tb (adw (I 136) a t) (adw (I 136) a k) (adl (I 135) a t) (adl (I 135) a k) (up2 K 81 88 (K 81 88 + 1) 139) 0 0) = K1
        have f2 : Fr I K1 := by rw [← hK1]; exact Fr_w f1 rfl (by decide) (by decide) (by decide) _
        have r140 : K1 140 = K 140 := by rw [← hK1]; simp (decide := true) only [rw2_n, up2_rn, ne_eq, not_false_eq_true]
        have r141 : K1 141 = K 141 := by rw [← hK1]; simp (decide := true) only [rw2_n, up2_rn, ne_eq, not_false_eq_true]
        have r88 : K1 81 88 = K 81 88 + 1 := by rw [← hK1]; simp (decide := true) only [rw2_n, up2_ra, va_ap, ne_eq, not_false_eq_true, if_true]
        have r139 : K1 139 = tb (adw (I 136) a t) (adw (I 136) a k) (adl (I 135) a t) (adl (I 135) a k) (up2 K 81 88 (K 81 88 + 1) 139) 0 0 := by rw [← hK1, rw2_a]
        obtain ⟨w, hw, e⟩ := h.2.2.2.2 (6 * a + t)
        obtain ⟨v, hv, e2⟩ := h.2.2.2.2 (6 * a + k)
        have e3 : adl (I 135) a t = w := by unfold adl; rw [e, zI_cn (by omega)]
        have e4 : adl (I 135) a k = v := by unfold adl; rw [e2, zI_cn (by omega)]
        have tr := hm_tr (X := X) (mo := mo) (G := G) (J := J) (Q := Q) (u := 6 * a + t) (v := 6 * a + k) (s := k) (n := w) (m := v) (adw (I 136) a t) (adw (I 136) a k) K1 (zI a) (by omega) (by omega) (by omega) (by rw [f2.1 135 rfl]; exact e) (by rw [f2.1 135 rfl]; exact e2) hw hv (fun i hi => by rw [f2.1 136 rfl]; rfl) (fun i hi => by rw [f2.1 136 rfl]; rfl) (fun i j hi hj => by rw [r139, e3, e4, tb_at _ _ _ _ _ _ _ _ _ hi hj hv (Nat.zero_le _) (fun _ => Nat.zero_le _)]) 16 0 0 16 (K1 140) (by omega) (Nat.le_refl _) (Nat.zero_le _) (Nat.zero_le _)
        rw [rw2_self] at tr
        refine (show _ = _ from tr).mpr ?_
        refine nx _ (Fr_w f2 rfl (by decide) (by decide) (by decide) _) (by rw [rw2_n _ _ _ _ (by decide), r141]; exact g1) ?_ ?_
        · intro j hj
          rw [rw2_a, r140, hldF_p _ g, e3, e4]
          exact trc_ag (adw (I 136) a t) (adw (I 136) a k) w v 16 0 0 (K 140) (up (hldF (I 81 15) (I 135) (I 136) ms a t) k fun _ => 0) hs j hj
        · rw [rw2_n _ _ _ _ (by decide), r88, h88, if_pos g]
          exact zIr_add 1 _
      · rw [if_neg g, show zI k + 1 = zI (k + 1) from zIr_add 1 k]
        rw [hldF_n _ g, if_neg g] at nx
        exact nx K f g1 hs h88
  have l1 : ∀ d k, k + d = 8 → ∀ K, Fr I K → K 141 = I 141 → (∀ s, s < k → K 140 s = 0) → K 81 88 = 0 → sm_wp X 303 7 [some (.ref 81), some (.int (zI a)), some (.int (zI t)), some (.int (zI k)), none, none, none, none, none, none] [] (sM mo G K J) Q := by
    intro d
    induction d with
    | zero =>
      intro k hk K f g1 hs h88
      have : k = 8 := by omega
      subst this
      rw [lp_303_7, if_pos (by decide), show (6 : Int32) * zI a + zI t = zI (6 * a + t) by rw [show (6 : Int32) * zI a = zI (6 * a) from zIl_mul 6 a, zI_add]]
      exact l2 ms 0 (by omega) K f g1 (fun s h6 => by rw [hs s h6]; rfl) (by rw [h88]; rfl)
    | succ d ih =>
      intro k hk K f g1 hs h88
      have c6 : ¬ (8 : Int32) ≤ zI k := by rw [zIl_le (c := 8) (by decide) (by omega)]; show ¬ 8 ≤ k; omega
      rw [lp_303_7, if_neg c6, zI_vp (by omega), zI_cn (by omega), show zI k + 1 = zI (k + 1) from zIr_add 1 k]
      refine ⟨by omega, ih (k + 1) (by omega) _ (Fr_u f rfl (by decide) (by decide) (by decide) _ _) (by rw [up2_rn _ _ _ _ _ (by decide)]; exact g1) (fun s h6 => ?_) (by rw [up2_rn _ _ _ _ _ (by decide)]; exact h88)⟩
      rw [up2_ra, va_ap]
      split
      · rfl
      · exact hs s (by omega)
  rw [lp_303_0]
  exact l1 8 0 rfl _ (Fr_m (Fr_r I) rfl _) (by rw [up2_rn _ _ _ _ _ (by decide)]) (fun s h => absurd h (Nat.not_lt_zero _)) (by rw [up2_ra, va_ap, if_pos rfl])
theorem or_up (g : Nat → Bool) (n : Nat) : ∀ k, k ≤ n → g k = true → k < n → up (fun k (acc : Bool) => acc || g k) n false = true := by
  intro k hk hg hn
  have e := up_ind (f := fun k (acc : Bool) => acc || g k) (a := false) (N := n) (fun m (b : Bool) => k < m → b = true) (fun h => absurd h (Nat.not_lt_zero _)) (fun m hm b ih h => by
    by_cases e : k = m
    · subst e
      rw [hg, Bool.or_true]
    · rw [ih (by omega), Bool.true_or]) n (Nat.le_refl _)
  exact e hn
theorem hc_open {r ms a : Nat} {I : Nat → Nat → Int32} (h : aC r ms I) (hR : ∀ j, ∃ w, w ≤ 99 ∧ I 10 j = zI w) (ha : a < r) (hQ : ∀ K, Fr I K → Q (some (.int (if opA (I 1 2) (I 72) (I 73) (I 10) ms a = true then 1 else 0))) (sM mo G K J)) : sm_wp X 14 0 [some (.ref 71), some (.int (zI a)), none, none, none, none] [] (sM mo G I J) Q := by
  rw [lp_14_0]
  refine hc_base h hR ha ?_
  intro K1 f1
  simp only [tl_some]
  rw [lp_14_5]
  have h1 := aC_f f1 h
  cases hb : abs (I 1 2) (I 72) (I 73) (I 10) ms a with
  | none =>
    have hno := abs_no h.2.2.2.1 hb
    refine hc_held (t := 0) h1 ha (Or.inr (by rw [f1.1 1 rfl, f1.1 72 rfl]; exact hno)) ?_
    intro K2 f2 _
    have f3 := Fr_t f1 f2
    simp only [tl_none]
    rw [lp_14_12, hc_pd (aC_f f3 h) ha]
    simp only [tl_some]
    have hd : vf_Art_draftLength K2 (zI a) (enc none) = 0 := by
      unfold vf_Art_draftLength
      have h3 := aC_f f3 h
      simp only [hArt_vp h3.1 h3.2.1, hState_vp h3.2.2.1 h3.2.2.2.1]
      have : ¬ sIn (enc none) ms := fun g => g.1 (by decide)
      simp only [eq_false this, if_false, ite_self]
    rw [lp_14_17, hd, f3.1 1 rfl, f3.1 72 rfl, ndr_0 hno, lp_14_29, if_pos (by decide), if_neg (by decide)]
    have e := hQ K2 f3
    have eo : opA (I 1 2) (I 72) (I 73) (I 10) ms a = true := by
      unfold opA
      rw [hb]
    rw [if_pos eo] at e
    exact e
  | some t =>
    obtain ⟨t6, tg⟩ := abs_lt hb
    have tm := adr_lt tg
    rw [enc_s]
    refine hc_held (t := t) h1 ha (Or.inl ⟨rfl, tm⟩) ?_
    intro K2 f2 hk
    have f3 := Fr_t f1 f2
    rw [f1.1 1 rfl, f1.1 72 rfl, f1.1 73 rfl] at hk
    simp only [tl_none]
    rw [lp_14_12, hc_pd (aC_f f3 h) ha]
    simp only [tl_some]
    have h3 := aC_f f3 h
    rw [lp_14_17, dl_v K2 h3.1 h3.2.1 h3.2.2.1 h3.2.2.2.1 ha tm, f3.1 1 rfl, f3.1 72 rfl]
    obtain ⟨w, hw, e⟩ := h.2.2.2.2 (6 * a + t)
    have e3 : adl (I 72) a t = w := by unfold adl; rw [e, zI_cn (by omega)]
    rw [e]
    obtain ⟨np, n6⟩ := ndr_p t6 tg
    have eo : opA (I 1 2) (I 72) (I 73) (I 10) ms a = up (fun k (acc : Bool) => acc || decide (vf_Art_agreement (hld (I 1 2) (I 72) (I 73) ms a t k) (zI (ndr (I 1 2) (I 72) ms a)) = 0)) w false := by
      unfold opA
      rw [hb]
      simp only [e3]
    have n0 : ¬ zI (ndr (I 1 2) (I 72) ms a) = 0 := by
      rw [show (0 : Int32) = zI 0 from rfl, zI_eq (by omega) (by omega)]
      omega
    have lp : ∀ d k, k + d = w → up (fun k (acc : Bool) => acc || decide (vf_Art_agreement (hld (I 1 2) (I 72) (I 73) ms a t k) (zI (ndr (I 1 2) (I 72) ms a)) = 0)) k false = false → sm_wp X 14 29 [some (.ref 71), none, none, some (.int (zI (ndr (I 1 2) (I 72) ms a))), some (.int (zI w)), some (.int (zI k))] [] (sM mo G K2 J) Q := by
      intro d
      induction d with
      | zero =>
        intro k hkd hf
        have : k = w := by omega
        subst this
        rw [lp_14_29, if_pos (by rw [zI_le (by omega) (by omega)]; exact Nat.le_refl _), if_pos n0]
        have e := hQ K2 f3
        rw [eo, hf] at e
        exact e
      | succ d ih =>
        intro k hkd hf
        rw [lp_14_29, if_neg (by rw [zI_le (by omega) (by omega)]; omega), if_neg (by rw [zIl_le (c := 8) (by decide) (by omega)]; show ¬ 8 ≤ k; omega), zI_vp (by omega), zI_cn (by omega), hk k (by omega), show zI k + 1 = zI (k + 1) from zIr_add 1 k]
        refine ⟨by omega, ?_⟩
        by_cases g : vf_Art_agreement (hld (I 1 2) (I 72) (I 73) ms a t k) (zI (ndr (I 1 2) (I 72) ms a)) = 0
        · rw [if_neg (fun e => e g)]
          have e := hQ K2 f3
          rw [eo, or_up (fun k => decide (vf_Art_agreement (hld (I 1 2) (I 72) (I 73) ms a t k) (zI (ndr (I 1 2) (I 72) ms a)) = 0)) w k (by omega) (decide_eq_true g) (by omega)] at e
          exact e
        · rw [if_pos g]
          refine ih (k + 1) (by omega) ?_
          rw [up_s, hf, Bool.false_or]
          exact decide_eq_false g
    exact lp w 0 (by omega) rfl
theorem hm_open {r ms a : Nat} {I : Nat → Nat → Int32} (h : aM r ms I) (ha : a < r) (hQ : ∀ K, Fr I K → K 141 = I 141 → Q (some (.int (if opA (I 81 15) (I 135) (I 136) (I 89) ms a = true then 1 else 0))) (sM mo G K J)) : sm_wp X 302 0 [some (.ref 81), some (.int (zI a)), none, none] [] (sM mo G I J) Q := by
  have hr := h.2.1
  rw [lp_302_0]
  refine hm_base h ha ?_
  intro K1 f1 g1
  simp only [tl_some]
  rw [lp_302_5]
  have h1 := aM_f f1 h
  cases hb : abs (I 81 15) (I 135) (I 136) (I 89) ms a with
  | none =>
    rw [if_neg (by decide)]
    have e := hQ K1 f1 g1
    have eo : opA (I 81 15) (I 135) (I 136) (I 89) ms a = true := by
      unfold opA
      rw [hb]
    rw [if_pos eo] at e
    exact e
  | some t =>
    obtain ⟨t6, tg⟩ := abs_lt hb
    have tm := adr_lt tg
    rw [enc_s, if_pos (by rw [zIl_le (c := 0) (by decide) (by omega)]; exact Nat.zero_le _)]
    refine hm_lays h1 ha tm ?_
    intro K2 f2 g2 hk h88
    have f3 := Fr_t f1 f2
    rw [f1.2.2.2.2 15 rfl, f1.1 135 rfl] at h88
    rw [f1.2.2.2.2 15 rfl, f1.1 135 rfl, f1.1 136 rfl] at hk
    simp only [tl_none]
    rw [lp_302_18]
    obtain ⟨w, hw, e⟩ := h.2.2.2.2 (6 * a + t)
    have e3 : adl (I 135) a t = w := by unfold adl; rw [e, zI_cn (by omega)]
    have eo : opA (I 81 15) (I 135) (I 136) (I 89) ms a = up (fun k (acc : Bool) => acc || decide (vf_Art_agreement (hld (I 81 15) (I 135) (I 136) ms a t k) (zI (ndr (I 81 15) (I 135) ms a)) = 0)) w false := by
      unfold opA
      rw [hb]
      simp only [e3]
    have lp : ∀ d k, k + d = w → up (fun k (acc : Bool) => acc || decide (vf_Art_agreement (hld (I 81 15) (I 135) (I 136) ms a t k) (zI (ndr (I 81 15) (I 135) ms a)) = 0)) k false = false → sm_wp X 302 20 [some (.ref 81), some (.int (zI a)), some (.int (zI t)), some (.int (zI k))] [] (sM mo G K2 J) Q := by
      intro d
      induction d with
      | zero =>
        intro k hkd hf
        have : k = w := by omega
        subst this
        rw [lp_302_20, show (6 : Int32) * zI a + zI t = zI (6 * a + t) by rw [show (6 : Int32) * zI a = zI (6 * a) from zIl_mul 6 a, zI_add], zI_vp (by omega), zI_cn (by omega), f3.1 135 rfl, e, if_pos (by rw [zI_le (by omega) (by omega)]; exact Nat.le_refl _)]
        have e := hQ K2 f3 (g2.trans g1)
        rw [eo, hf] at e
        exact ⟨by omega, e⟩
      | succ d ih =>
        intro k hkd hf
        have gr : vf_Model_gradeOf K2 (zI k) = vf_Art_agreement (hld (I 81 15) (I 135) (I 136) ms a t k) (zI (ndr (I 81 15) (I 135) ms a)) := by
          unfold vf_Model_gradeOf vf_Art_agreement
          rw [zI_cn (by omega), hk k (by omega), h88]
        have gv : vc_Model_gradeOf K2 (zI k) := by
          unfold vc_Model_gradeOf
          rw [zI_vp (by omega)]
          exact ⟨by omega, fun _ => by omega⟩
        rw [lp_302_20, show (6 : Int32) * zI a + zI t = zI (6 * a + t) by rw [show (6 : Int32) * zI a = zI (6 * a) from zIl_mul 6 a, zI_add], zI_vp (by omega), zI_cn (by omega), f3.1 135 rfl, e, if_neg (by rw [zI_le (by omega) (by omega)]; omega), gr, show zI k + 1 = zI (k + 1) from zIr_add 1 k]
        refine ⟨by omega, gv, ?_⟩
        by_cases g : vf_Art_agreement (hld (I 81 15) (I 135) (I 136) ms a t k) (zI (ndr (I 81 15) (I 135) ms a)) = 0
        · rw [if_neg (fun e => e g)]
          have e := hQ K2 f3 (g2.trans g1)
          rw [eo, or_up (fun k => decide (vf_Art_agreement (hld (I 81 15) (I 135) (I 136) ms a t k) (zI (ndr (I 81 15) (I 135) ms a)) = 0)) w k (by omega) (decide_eq_true g) (by omega)] at e
          exact e
        · rw [if_pos g]
          refine ih (k + 1) (by omega) ?_
          rw [up_s, hf, Bool.false_or]
          exact decide_eq_false g
    exact lp w 0 (by omega) rfl
end O1
