/-! The call word. -/
section O3
variable {X : (Nat → Int32) × Nat} {c : Nat} {mo : Bool} {G : Nat × Nat} {I : Nat → Nat → Int32} {J : Nat → Nat → Int64} {Q : Option Value → sm_M → Prop}
def wrdV (pr : Int32) (L W R : Nat → Int32) (ms a : Nat) (y z : Int32) : Int32 := match abs pr L W R ms a with
  | none => -1
  | some t => if sIn y (adl L a t) then (if z = 0 then W (8 * (6 * a + t) + y.toNatClampNeg) else if z = 1 then hld pr L W ms a t y.toNatClampNeg else if z = 2 then vf_Art_agreement (hld pr L W ms a t y.toNatClampNeg) (zI (ndr pr L ms a)) else -1) else -1
theorem hc_word {r ms a : Nat} (h : aC r ms I) (hR : ∀ j, ∃ w, w ≤ 99 ∧ I 10 j = zI w) (ha : a < r) (y z : Int32) (hQ : ∀ K, Fr I K → Q (some (.int (wrdV (I 1 2) (I 72) (I 73) (I 10) ms a y z))) (sM mo G K J)) : sm_wp X 20 0 [some (.ref 71), some (.int (zI a)), some (.int y), some (.int z), none] [] (sM mo G I J) Q := by
  have h8 := h.2.1
  have h6 := h.2.2.2.1
  rw [lp_20_0]
  refine hc_base h hR ha ?_
  intro K f
  simp only [tl_some]
  have hK := aC_f f h
  rw [lp_20_5]
  have q := hQ K f
  unfold wrdV at q
  cases hb : abs (I 1 2) (I 72) (I 73) (I 10) ms a with
  | none =>
    rw [hb] at q
    have e : vf_Art_draftLength K (zI a) (enc none) = 0 := by
      unfold vf_Art_draftLength
      simp only [hArt_vp hK.1 hK.2.1, hState_vp hK.2.2.1 hK.2.2.2.1]
      have : ¬ sIn (enc none) ms := fun g => g.1 (by decide)
      simp only [eq_false this, if_false, ite_self]
    by_cases y1 : y < 0
    · rw [if_pos y1]; exact q
    · by_cases y2 : 8 ≤ y
      · rw [if_neg y1, if_pos y2]; exact q
      · rw [if_neg y1, if_neg y2, e, if_neg y1]; exact q
  | some t =>
    rw [hb] at q
    simp only [] at q
    have tm := adr_lt (abs_lt hb).2
    obtain ⟨w, hw, e⟩ := h.2.2.2.2 (6 * a + t)
    have e3 : adl (I 72) a t = w := by unfold adl; rw [e, zI_cn (by omega)]
    rw [enc_s, dl_v K hK.1 hK.2.1 hK.2.2.1 hK.2.2.2.1 ha tm, f.1 72 rfl, e]
    rw [e3] at q
    by_cases g : sIn y w
    · obtain ⟨k, hk, hk2, rfl⟩ := sIn_ex g
      have k8 : k < 8 := by omega
      rw [if_neg g.1, if_neg (by rw [zIl_le (c := 8) (by decide) (by omega)]; show ¬ 8 ≤ k; omega), if_pos (by rw [zI_lt (by omega) (by omega)]; exact hk)]
      refine hc_held hK ha (Or.inl ⟨rfl, tm⟩) ?_
      intro L fl hl
      have f2 := Fr_t f fl
      have hL := aC_f f2 h
      rw [f.1 1 rfl, f.1 72 rfl, f.1 73 rfl] at hl
      simp only [tl_none]
      rw [lp_20_37, wa_v L (a := a) (s := t) (by omega) (by omega) k8, zI_vp hk2, zI_cn hk2, hl k k8]
      have q := hQ L f2
      unfold wrdV at q
      rw [hb] at q
      simp only [e3, eq_true g, if_true, zI_cn hk2] at q
      by_cases z0 : z = 0
      · rw [if_pos z0] at q ⊢
        unfold dr
        rw [f2.1 73 rfl]
        exact q
      · rw [if_neg z0] at q ⊢
        by_cases z1 : z = 1
        · rw [if_pos z1] at q ⊢
          exact ⟨k8, q⟩
        · rw [if_neg z1] at q ⊢
          by_cases z2 : z = 2
          · rw [if_pos z2] at q ⊢
            refine ⟨k8, ?_⟩
            rw [hc_pd hL ha]
            simp only [tl_some]
            rw [lp_20_91, f2.1 1 rfl, f2.1 72 rfl]
            exact q
          · rw [if_neg z2] at q ⊢
            exact q
    · rw [if_neg g] at q
      by_cases y1 : y < 0
      · rw [if_pos y1]; exact q
      · by_cases y2 : 8 ≤ y
        · rw [if_neg y1, if_pos y2]; exact q
        · rw [if_neg y1, if_neg y2, if_neg (fun y3 => g ⟨y1, Int32.not_le.mpr y3⟩)]; exact q
theorem hm_word {r ms a : Nat} (h : aM r ms I) (ha : a < r) (y z : Int32) (hQ : ∀ K, Fr I K → Q (some (.int (wrdV (I 81 15) (I 135) (I 136) (I 89) ms a y z))) (sM mo G K J)) : sm_wp X 305 0 [some (.ref 81), some (.int (zI a)), some (.int y), some (.int z), none] [] (sM mo G I J) Q := by
  have h8 := h.2.1
  have h6 := h.2.2.2.1
  have f0 : Fr I (up2 I 81 2 0) := frm0 (Fr_r I)
  rw [lp_305_0]
  simp only [mA0 h.1 h.2.1]
  rw [if_neg (fun e => e (by rw [zI_sIn (by omega) (by omega)]; exact ha))]
  by_cases iz : vf_Model_isIn z 0 2
  · rw [if_pos iz]
    have zz : z = 0 ∨ z = 1 ∨ z = 2 := by
      obtain ⟨k, hk, rfl⟩ := zI_in (c := 2) (by decide) iz.1 iz.2
      match k, hk with
      | 0, _ => exact Or.inl rfl
      | 1, _ => exact Or.inr (Or.inl rfl)
      | 2, _ => exact Or.inr (Or.inr rfl)
    refine hm_base (aM_f f0 h) ha ?_
    intro K1 f1 _
    have f2 := Fr_t f0 f1
    have h2 := aM_f f2 h
    rw [f0.2.2.2.2 15 rfl, f0.1 135 rfl, f0.1 136 rfl, f0.1 89 rfl]
    simp only [tl_some]
    rw [lp_305_29]
    have q := hQ K1 f2
    unfold wrdV at q
    cases hb : abs (I 81 15) (I 135) (I 136) (I 89) ms a with
    | none =>
      rw [hb] at q
      rw [if_pos (by decide)]
      exact q
    | some t =>
      rw [hb] at q
      simp only [] at q
      have tm := adr_lt (abs_lt hb).2
      obtain ⟨w, hw, e⟩ := h.2.2.2.2 (6 * a + t)
      have e3 : adl (I 135) a t = w := by unfold adl; rw [e, zI_cn (by omega)]
      rw [e3] at q
      rw [enc_s, if_neg (by rw [zIr_lt (c := 0) (by decide) (by omega)]; exact Nat.not_lt_zero _), show (6 : Int32) * zI a + zI t = zI (6 * a + t) by rw [show (6 : Int32) * zI a = zI (6 * a) from zIl_mul 6 a, zI_add], zI_vp (by omega), zI_cn (by omega), f2.1 135 rfl, e]
      by_cases g : sIn y w
      · obtain ⟨k, hk, hk2, rfl⟩ := sIn_ex g
        have k8 : k < 8 := by omega
        rw [if_neg g.1, if_pos (by rw [zI_lt (by omega) (by omega)]; exact hk)]
        refine ⟨by omega, ?_⟩
        refine hm_lays h2 ha tm ?_
        intro K2 f3 _ hl h88
        have f4 := Fr_t f2 f3
        rw [f2.2.2.2.2 15 rfl, f2.1 135 rfl] at h88
        rw [f2.2.2.2.2 15 rfl, f2.1 135 rfl, f2.1 136 rfl] at hl
        simp only [tl_none]
        have q := hQ K2 f4
        unfold wrdV at q
        rw [hb] at q
        simp only [e3, eq_true g, if_true, zI_cn hk2] at q
        have gr : vf_Model_gradeOf K2 (zI k) = vf_Art_agreement (hld (I 81 15) (I 135) (I 136) ms a t k) (zI (ndr (I 81 15) (I 135) ms a)) := by
          unfold vf_Model_gradeOf vf_Art_agreement
          rw [zI_cn (by omega), hl k (by omega), h88]
        have gv : vc_Model_gradeOf K2 (zI k) := by
          unfold vc_Model_gradeOf
          rw [zI_vp (by omega)]
          exact ⟨by omega, fun _ => by omega⟩
        rw [lp_305_65, gr, eq_true gv, zI_vp hk2, zI_cn hk2, hl k k8, show (8 : Int32) * ((6 : Int32) * zI a + zI t) + zI k = zI (8 * (6 * a + t) + k) by rw [show (6 : Int32) * zI a = zI (6 * a) from zIl_mul 6 a, zI_add, show (8 : Int32) * zI (6 * a + t) = zI (8 * (6 * a + t)) from zIl_mul 8 _, zI_add], zI_vp (by omega), zI_cn (by omega), f4.1 136 rfl]
        rcases zz with rfl | rfl | rfl
        · rw [if_neg (fun e => e rfl)]
          rw [if_pos rfl] at q
          exact ⟨by omega, q⟩
        · rw [if_pos (by decide), if_neg (fun e => e rfl)]
          rw [if_neg (by decide), if_pos rfl] at q
          exact ⟨k8, q⟩
        · rw [if_pos (by decide), if_pos (by decide)]
          rw [if_neg (by decide), if_neg (by decide), if_pos rfl] at q
          exact ⟨trivial, q⟩
      · rw [if_neg g] at q
        by_cases y1 : y < 0
        · rw [if_pos y1]; exact q
        · rw [if_neg y1, if_neg (fun y3 => g ⟨y1, Int32.not_le.mpr y3⟩)]; exact ⟨by omega, q⟩
  · rw [if_neg iz]
    have q := hQ _ f0
    have nz : ¬ z = 0 ∧ ¬ z = 1 ∧ ¬ z = 2 := by
      refine ⟨?_, ?_, ?_⟩ <;> (rintro rfl; exact iz (by decide))
    unfold wrdV at q
    cases hb : abs (I 81 15) (I 135) (I 136) (I 89) ms a with
    | none =>
      rw [hb] at q
      exact q
    | some t =>
      rw [hb] at q
      simp only [nz.1, nz.2.1, nz.2.2, if_false, ite_self] at q
      exact q
theorem op_word (h : inv c mo G I J) (x y z : Int32) : Agr X 201 [some (.ref 0), some (.int x), some (.int y), some (.int z)] 305 [some (.ref 81), some (.int x), some (.int y), some (.int z), none] (sM mo G I J) (Inv (c + 1)) := by
  have hv := inv_t 0 h
  obtain ⟨r, ms, hC, hM, e15, e135, e136, e89, e138, hR, hH, hHg, hpb⟩ := inv_a h
  unfold Agr
  rw [lp_201_0]
  simp only [hArt_vp hC.1 hC.2.1]
  by_cases g : sIn x r
  · obtain ⟨a, ha, ha2, rfl⟩ := sIn_ex g
    rw [if_pos g]
    refine hc_word hC hR ha y z ?_
    intro K f
    simp only [tl_some]
    rw [lp_201_23]
    refine hm_word (aM_f f hM) ha y z ?_
    intro L fl
    rw [f.2.2.2.2 15 rfl, f.1 135 rfl, f.1 136 rfl, f.1 89 rfl, e15, e135, e136, e89]
    exact ⟨rfl, inv_fr h (Fr_t f fl) rfl rfl⟩
  · rw [if_neg g, lp_305_0]
    simp only [mA0 hM.1 hM.2.1]
    rw [if_pos g]
    exact ⟨trivial, hv⟩
end O3
