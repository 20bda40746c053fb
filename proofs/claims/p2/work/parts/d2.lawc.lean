/-! The law, case by case. -/
theorem sm_wp_mono {X : (Nat → Int32) × Nat} {i pc : Nat} {L : sm_L} {st : sm_S} {M : sm_M} {Q Q' : Option Value → sm_M → Prop} (h : sm_wp X i pc L st M Q) (hq : ∀ v M', Q v M' → Q' v M') : sm_wp X i pc L st M Q' := by
  obtain ⟨n, v, M', e, q⟩ := h
  exact ⟨n, v, M', e, hq v M' q⟩
section L2
variable {X : (Nat → Int32) × Nat} {c : Nat} {mo : Bool} {G : Nat × Nat} {I : Nat → Nat → Int32} {J : Nat → Nat → Int64} {Q : Option Value → sm_M → Prop} {x4 : Int32}
theorem lw_two {t h m pc1 : Nat} {La Lb Lw : sm_L} {R : sm_M → Prop} (hA : Agr X h La m Lb (sM mo G I J) R) (ht : ((sm_code h).all fun e => sm_rs t e.2.2.1) = true)
    (hQ : ∀ v l G1 I1 J1 R1, vS t v → sm_wp X m 0 Lb [] (sK0 ++ l, G1, I1, J1, R1) (fun w M2 => w = v ∧ R M2) → sm_wp X 315 pc1 Lw (v.toList ++ []) (sK0 ++ l, G1, I1, J1, R1) Q) : sm_wp X h 0 La [] (sM mo G I J) (fun v M1 => sm_wp X 315 pc1 Lw (v.toList ++ []) M1 Q) := by
  obtain ⟨n, v, M1, e, hw⟩ := hA
  refine ⟨n, v, M1, e, ?_⟩
  obtain ⟨l, hl⟩ := sm_kinds e
  have hv := sm_ret_s ht e
  obtain ⟨K1, G1, I1, J1, R1⟩ := M1
  have hl : K1 = sK0 ++ ((bif mo then [(100, 5955)] else []) ++ l) := by
    rw [← List.append_assoc]
    exact hl
  subst hl
  exact hQ v _ _ _ _ _ hv hw
/-- six places behind the first -/
def vp6 (x4 : Int32) (n : Nat) : Prop := vp_in (x4 + 1) n ∧ vp_in (x4 + 2) n ∧ vp_in (x4 + 3) n ∧ vp_in (x4 + 4) n ∧ vp_in (x4 + 5) n ∧ vp_in (x4 + 6) n
theorem lw_end (hQ : ∀ M', Inv (c + 1) M' → sm_wp X 315 23 [some (.retAddr 1), some (.ref 0), some (.ref 81), some (.ref 142), some (.int (x4 + 7)), none, none] [] M' Q) {M2 : sm_M} (h : Inv (c + 1) M2) : sm_wp X 315 1674 [some (.retAddr 1), some (.ref 0), some (.ref 81), some (.ref 142), some (.int x4), none, none] [] M2 Q := by
  obtain ⟨mo', G', I', J', rfl, hi⟩ := h
  rw [bk_315_1674]
  exact hQ _ ⟨mo', G', I', J', rfl, hi⟩
theorem lw_twoW {t u h m pc1 : Nat} {La Lb Lw : sm_L} {R : sm_M → Prop} (hA : AgW X h La m Lb (sM mo G I J) R) (ht : ((sm_code h).all fun e => sm_rs t e.2.2.1) = true) (hu : ((sm_code m).all fun e => sm_rs u e.2.2.1) = true)
    (hQ : ∀ v l G1 I1 J1 R1, vS t v → sm_wp X m 0 Lb [] (sK0 ++ l, G1, I1, J1, R1) (fun w M2 => vS u w ∧ R M2) → sm_wp X 315 pc1 Lw (v.toList ++ []) (sK0 ++ l, G1, I1, J1, R1) Q) : sm_wp X h 0 La [] (sM mo G I J) (fun v M1 => sm_wp X 315 pc1 Lw (v.toList ++ []) M1 Q) := by
  obtain ⟨n, v, M1, e, hw⟩ := hA
  refine ⟨n, v, M1, e, ?_⟩
  obtain ⟨l, hl⟩ := sm_kinds e
  have hv := sm_ret_s ht e
  obtain ⟨K1, G1, I1, J1, R1⟩ := M1
  have hl : K1 = sK0 ++ ((bif mo then [(100, 5955)] else []) ++ l) := by
    rw [← List.append_assoc]
    exact hl
  subst hl
  obtain ⟨n2, w, M2, e2, hr⟩ := hw
  exact hQ v _ _ _ _ _ hv ⟨n2, w, M2, e2, sm_ret_s hu e2, hr⟩
theorem lc_0 (h : inv c mo G I J) (hc : c ≤ 1000) (v : vp6 x4 X.2) (hQ : ∀ M', Inv (c + 1) M' → sm_wp X 315 23 [some (.retAddr 1), some (.ref 0), some (.ref 81), some (.ref 142), some (.int (x4 + 7)), none, none] [] M' Q) : sm_wp X 315 204 [some (.retAddr 1), some (.ref 0), some (.ref 81), some (.ref 142), some (.int x4), none, none] [] (sM mo G I J) Q := by
  rw [bk_315_204]
  refine ⟨v.1, v.2.1, v.2.2.1, v.2.2.2.1, v.2.2.2.2.1, lw_two (t := 1) (op_feed h _ _ _ _ _) (by decide +kernel) ?_⟩
  intro u l G1 I1 J1 R1 hu hm
  obtain ⟨s, rfl⟩ := hu.1 rfl
  show sm_wp X 315 238 [some (.retAddr 1), some (.ref 0), some (.ref 81), some (.ref 142), some (.int x4), none, none] [.int s] (sK0 ++ l, G1, I1, J1, R1) Q
  rw [bg_315_238]
  refine ⟨v.1, v.2.1, v.2.2.1, v.2.2.2.1, v.2.2.2.2.1, sm_wp_mono hm ?_⟩
  rintro w M2 ⟨rfl, hR⟩
  obtain ⟨mo', G', I', J', rfl, hi⟩ := hR
  show sm_wp X 315 272 [some (.retAddr 1), some (.ref 0), some (.ref 81), some (.ref 142), some (.int x4), none, none] [.int s, .int s] (sM mo' G' I' J') Q
  rw [bk_315_272, if_pos rfl]
  exact lw_end hQ ⟨mo', G', I', J', rfl, hi⟩
theorem lc_1 (h : inv c mo G I J) (hc : c ≤ 1000) (v : vp6 x4 X.2) (hQ : ∀ M', Inv (c + 1) M' → sm_wp X 315 23 [some (.retAddr 1), some (.ref 0), some (.ref 81), some (.ref 142), some (.int (x4 + 7)), none, none] [] M' Q) : sm_wp X 315 277 [some (.retAddr 1), some (.ref 0), some (.ref 81), some (.ref 142), some (.int x4), none, none] [] (sM mo G I J) Q := by
  rw [bk_315_277]
  refine ⟨v.1, v.2.1, lw_two (t := 1) (op_orders h _ _) (by decide +kernel) ?_⟩
  intro u l G1 I1 J1 R1 hu hm
  obtain ⟨s, rfl⟩ := hu.1 rfl
  show sm_wp X 315 293 [some (.retAddr 1), some (.ref 0), some (.ref 81), some (.ref 142), some (.int x4), none, none] [.int s] (sK0 ++ l, G1, I1, J1, R1) Q
  rw [bg_315_293]
  refine ⟨v.1, v.2.1, sm_wp_mono hm ?_⟩
  rintro w M2 ⟨rfl, hR⟩
  obtain ⟨mo', G', I', J', rfl, hi⟩ := hR
  show sm_wp X 315 310 [some (.retAddr 1), some (.ref 0), some (.ref 81), some (.ref 142), some (.int x4), none, none] [.int s] (sM mo' G' I' J') Q
  rw [bk_315_310]
  exact lw_end hQ ⟨mo', G', I', J', rfl, hi⟩
theorem lc_2 (h : inv c mo G I J) (hc : c ≤ 1000) (v : vp6 x4 X.2) (hQ : ∀ M', Inv (c + 1) M' → sm_wp X 315 23 [some (.retAddr 1), some (.ref 0), some (.ref 81), some (.ref 142), some (.int (x4 + 7)), none, none] [] M' Q) : sm_wp X 315 314 [some (.retAddr 1), some (.ref 0), some (.ref 81), some (.ref 142), some (.int x4), none, none] [] (sM mo G I J) Q := by
  rw [bk_315_314]
  refine ⟨v.1, lw_two (t := 1) (op_fault h _) (by decide +kernel) ?_⟩
  intro u l G1 I1 J1 R1 hu hm
  obtain ⟨s, rfl⟩ := hu.1 rfl
  show sm_wp X 315 324 [some (.retAddr 1), some (.ref 0), some (.ref 81), some (.ref 142), some (.int x4), none, none] [.int s] (sK0 ++ l, G1, I1, J1, R1) Q
  rw [bg_315_324]
  refine ⟨v.1, sm_wp_mono hm ?_⟩
  rintro w M2 ⟨rfl, hR⟩
  obtain ⟨mo', G', I', J', rfl, hi⟩ := hR
  show sm_wp X 315 335 [some (.retAddr 1), some (.ref 0), some (.ref 81), some (.ref 142), some (.int x4), none, none] [.int s] (sM mo' G' I' J') Q
  rw [bk_315_335]
  exact lw_end hQ ⟨mo', G', I', J', rfl, hi⟩
theorem lc_3 (h : inv c mo G I J) (hc : c ≤ 1000) (v : vp6 x4 X.2) (hQ : ∀ M', Inv (c + 1) M' → sm_wp X 315 23 [some (.retAddr 1), some (.ref 0), some (.ref 81), some (.ref 142), some (.int (x4 + 7)), none, none] [] M' Q) : sm_wp X 315 339 [some (.retAddr 1), some (.ref 0), some (.ref 81), some (.ref 142), some (.int x4), none, none] [] (sM mo G I J) Q := by
  rw [bk_315_339]
  refine ⟨v.1, lw_two (t := 1) (op_land h _) (by decide +kernel) ?_⟩
  intro u l G1 I1 J1 R1 hu hm
  obtain ⟨s, rfl⟩ := hu.1 rfl
  show sm_wp X 315 349 [some (.retAddr 1), some (.ref 0), some (.ref 81), some (.ref 142), some (.int x4), none, none] [.int s] (sK0 ++ l, G1, I1, J1, R1) Q
  rw [bg_315_349]
  refine ⟨v.1, sm_wp_mono hm ?_⟩
  rintro w M2 ⟨rfl, hR⟩
  obtain ⟨mo', G', I', J', rfl, hi⟩ := hR
  show sm_wp X 315 360 [some (.retAddr 1), some (.ref 0), some (.ref 81), some (.ref 142), some (.int x4), none, none] [.int s] (sM mo' G' I' J') Q
  rw [bk_315_360]
  exact lw_end hQ ⟨mo', G', I', J', rfl, hi⟩
theorem lc_4 (h : inv c mo G I J) (hc : c ≤ 1000) (v : vp6 x4 X.2) (hQ : ∀ M', Inv (c + 1) M' → sm_wp X 315 23 [some (.retAddr 1), some (.ref 0), some (.ref 81), some (.ref 142), some (.int (x4 + 7)), none, none] [] M' Q) : sm_wp X 315 364 [some (.retAddr 1), some (.ref 0), some (.ref 81), some (.ref 142), some (.int x4), none, none] [] (sM mo G I J) Q := by
  rw [bk_315_364]
  refine ⟨v.1, v.2.1, lw_two (t := 1) (op_near h _ _) (by decide +kernel) ?_⟩
  intro u l G1 I1 J1 R1 hu hm
  obtain ⟨s, rfl⟩ := hu.1 rfl
  show sm_wp X 315 380 [some (.retAddr 1), some (.ref 0), some (.ref 81), some (.ref 142), some (.int x4), none, none] [.int s] (sK0 ++ l, G1, I1, J1, R1) Q
  rw [bg_315_380]
  refine ⟨v.1, v.2.1, sm_wp_mono hm ?_⟩
  rintro w M2 ⟨rfl, hR⟩
  obtain ⟨mo', G', I', J', rfl, hi⟩ := hR
  show sm_wp X 315 397 [some (.retAddr 1), some (.ref 0), some (.ref 81), some (.ref 142), some (.int x4), none, none] [.int s] (sM mo' G' I' J') Q
  rw [bk_315_397]
  exact lw_end hQ ⟨mo', G', I', J', rfl, hi⟩
theorem lc_5 (h : inv c mo G I J) (hc : c ≤ 1000) (v : vp6 x4 X.2) (hQ : ∀ M', Inv (c + 1) M' → sm_wp X 315 23 [some (.retAddr 1), some (.ref 0), some (.ref 81), some (.ref 142), some (.int (x4 + 7)), none, none] [] M' Q) : sm_wp X 315 401 [some (.retAddr 1), some (.ref 0), some (.ref 81), some (.ref 142), some (.int x4), none, none] [] (sM mo G I J) Q := by
  rw [bk_315_401]
  refine ⟨v.1, v.2.1, lw_two (t := 1) (op_state h _ _) (by decide +kernel) ?_⟩
  intro u l G1 I1 J1 R1 hu hm
  obtain ⟨s, rfl⟩ := hu.1 rfl
  show sm_wp X 315 417 [some (.retAddr 1), some (.ref 0), some (.ref 81), some (.ref 142), some (.int x4), none, none] [.int s] (sK0 ++ l, G1, I1, J1, R1) Q
  rw [bg_315_417]
  refine ⟨v.1, v.2.1, sm_wp_mono hm ?_⟩
  rintro w M2 ⟨rfl, hR⟩
  obtain ⟨mo', G', I', J', rfl, hi⟩ := hR
  show sm_wp X 315 434 [some (.retAddr 1), some (.ref 0), some (.ref 81), some (.ref 142), some (.int x4), none, none] [.int s] (sM mo' G' I' J') Q
  rw [bk_315_434]
  exact lw_end hQ ⟨mo', G', I', J', rfl, hi⟩
theorem lc_6 (h : inv c mo G I J) (hc : c ≤ 1000) (v : vp6 x4 X.2) (hQ : ∀ M', Inv (c + 1) M' → sm_wp X 315 23 [some (.retAddr 1), some (.ref 0), some (.ref 81), some (.ref 142), some (.int (x4 + 7)), none, none] [] M' Q) : sm_wp X 315 438 [some (.retAddr 1), some (.ref 0), some (.ref 81), some (.ref 142), some (.int x4), none, none] [] (sM mo G I J) Q := by
  rw [bk_315_438]
  refine ⟨v.1, v.2.1, lw_two (t := 1) (op_hold h _ _) (by decide +kernel) ?_⟩
  intro u l G1 I1 J1 R1 hu hm
  obtain ⟨s, rfl⟩ := hu.1 rfl
  show sm_wp X 315 454 [some (.retAddr 1), some (.ref 0), some (.ref 81), some (.ref 142), some (.int x4), none, none] [.int s] (sK0 ++ l, G1, I1, J1, R1) Q
  rw [bg_315_454]
  refine ⟨v.1, v.2.1, sm_wp_mono hm ?_⟩
  rintro w M2 ⟨rfl, hR⟩
  obtain ⟨mo', G', I', J', rfl, hi⟩ := hR
  show sm_wp X 315 471 [some (.retAddr 1), some (.ref 0), some (.ref 81), some (.ref 142), some (.int x4), none, none] [.int s] (sM mo' G' I' J') Q
  rw [bk_315_471]
  exact lw_end hQ ⟨mo', G', I', J', rfl, hi⟩
theorem lc_7 (h : inv c mo G I J) (hc : c ≤ 1000) (v : vp6 x4 X.2) (hQ : ∀ M', Inv (c + 1) M' → sm_wp X 315 23 [some (.retAddr 1), some (.ref 0), some (.ref 81), some (.ref 142), some (.int (x4 + 7)), none, none] [] M' Q) : sm_wp X 315 475 [some (.retAddr 1), some (.ref 0), some (.ref 81), some (.ref 142), some (.int x4), none, none] [] (sM mo G I J) Q := by
  by_cases hz : X.1 (x4 + 3).toNatClampNeg = 0
  · rw [bk_315_475, if_pos hz, bk_315_501]
    refine ⟨v.1, v.2.1, v.2.2.1, lw_two (t := 1) (op_claim h _ _ 0 (Or.inl rfl)) (by decide +kernel) ?_⟩
    intro u l G1 I1 J1 R1 hu hm
    obtain ⟨s, rfl⟩ := hu.1 rfl
    show sm_wp X 315 505 [some (.retAddr 1), some (.ref 0), some (.ref 81), some (.ref 142), some (.int x4), none, none] [.int s] (sK0 ++ l, G1, I1, J1, R1) Q
    rw [bg_315_505, if_pos hz, bg_315_532]
    refine ⟨v.1, v.2.1, v.2.2.1, sm_wp_mono hm ?_⟩
    rintro w M2 ⟨rfl, hR⟩
    obtain ⟨mo', G', I', J', rfl, hi⟩ := hR
    show sm_wp X 315 536 [some (.retAddr 1), some (.ref 0), some (.ref 81), some (.ref 142), some (.int x4), none, none] [.int s] (sM mo' G' I' J') Q
    rw [bk_315_536]
    exact lw_end hQ ⟨mo', G', I', J', rfl, hi⟩
  · rw [bk_315_475, if_neg hz, bk_315_502]
    refine ⟨v.1, v.2.1, v.2.2.1, lw_two (t := 1) (op_claim h _ _ 1 (Or.inr rfl)) (by decide +kernel) ?_⟩
    intro u l G1 I1 J1 R1 hu hm
    obtain ⟨s, rfl⟩ := hu.1 rfl
    show sm_wp X 315 505 [some (.retAddr 1), some (.ref 0), some (.ref 81), some (.ref 142), some (.int x4), none, none] [.int s] (sK0 ++ l, G1, I1, J1, R1) Q
    rw [bg_315_505, if_neg hz, bg_315_533]
    refine ⟨v.1, v.2.1, v.2.2.1, sm_wp_mono hm ?_⟩
    rintro w M2 ⟨rfl, hR⟩
    obtain ⟨mo', G', I', J', rfl, hi⟩ := hR
    show sm_wp X 315 536 [some (.retAddr 1), some (.ref 0), some (.ref 81), some (.ref 142), some (.int x4), none, none] [.int s] (sM mo' G' I' J') Q
    rw [bk_315_536]
    exact lw_end hQ ⟨mo', G', I', J', rfl, hi⟩
theorem lc_8 (h : inv c mo G I J) (hc : c ≤ 1000) (v : vp6 x4 X.2) (hQ : ∀ M', Inv (c + 1) M' → sm_wp X 315 23 [some (.retAddr 1), some (.ref 0), some (.ref 81), some (.ref 142), some (.int (x4 + 7)), none, none] [] M' Q) : sm_wp X 315 540 [some (.retAddr 1), some (.ref 0), some (.ref 81), some (.ref 142), some (.int x4), none, none] [] (sM mo G I J) Q := by
  rw [bk_315_540]
  refine ⟨v.1, v.2.1, v.2.2.1, lw_two (t := 1) (op_worth h _ _ _) (by decide +kernel) ?_⟩
  intro u l G1 I1 J1 R1 hu hm
  obtain ⟨s, rfl⟩ := hu.1 rfl
  show sm_wp X 315 562 [some (.retAddr 1), some (.ref 0), some (.ref 81), some (.ref 142), some (.int x4), none, none] [.int s] (sK0 ++ l, G1, I1, J1, R1) Q
  rw [bg_315_562]
  refine ⟨v.1, v.2.1, v.2.2.1, sm_wp_mono hm ?_⟩
  rintro w M2 ⟨rfl, hR⟩
  obtain ⟨mo', G', I', J', rfl, hi⟩ := hR
  show sm_wp X 315 585 [some (.retAddr 1), some (.ref 0), some (.ref 81), some (.ref 142), some (.int x4), none, none] [.int s] (sM mo' G' I' J') Q
  rw [bk_315_585]
  exact lw_end hQ ⟨mo', G', I', J', rfl, hi⟩
theorem lc_9 (h : inv c mo G I J) (hc : c ≤ 1000) (v : vp6 x4 X.2) (hQ : ∀ M', Inv (c + 1) M' → sm_wp X 315 23 [some (.retAddr 1), some (.ref 0), some (.ref 81), some (.ref 142), some (.int (x4 + 7)), none, none] [] M' Q) : sm_wp X 315 589 [some (.retAddr 1), some (.ref 0), some (.ref 81), some (.ref 142), some (.int x4), none, none] [] (sM mo G I J) Q := by
  rw [bk_315_589]
  refine ⟨v.1, v.2.1, lw_two (t := 1) (op_bound h _ _) (by decide +kernel) ?_⟩
  intro u l G1 I1 J1 R1 hu hm
  obtain ⟨s, rfl⟩ := hu.1 rfl
  show sm_wp X 315 605 [some (.retAddr 1), some (.ref 0), some (.ref 81), some (.ref 142), some (.int x4), none, none] [.int s] (sK0 ++ l, G1, I1, J1, R1) Q
  rw [bg_315_605]
  refine ⟨v.1, v.2.1, sm_wp_mono hm ?_⟩
  rintro w M2 ⟨rfl, hR⟩
  obtain ⟨mo', G', I', J', rfl, hi⟩ := hR
  show sm_wp X 315 622 [some (.retAddr 1), some (.ref 0), some (.ref 81), some (.ref 142), some (.int x4), none, none] [.int s] (sM mo' G' I' J') Q
  rw [bk_315_622]
  exact lw_end hQ ⟨mo', G', I', J', rfl, hi⟩
theorem lc_10 (h : inv c mo G I J) (hc : c ≤ 1000) (v : vp6 x4 X.2) (hQ : ∀ M', Inv (c + 1) M' → sm_wp X 315 23 [some (.retAddr 1), some (.ref 0), some (.ref 81), some (.ref 142), some (.int (x4 + 7)), none, none] [] M' Q) : sm_wp X 315 626 [some (.retAddr 1), some (.ref 0), some (.ref 81), some (.ref 142), some (.int x4), none, none] [] (sM mo G I J) Q := by
  rw [bk_315_626]
  refine ⟨v.1, v.2.1, v.2.2.1, v.2.2.2.1, v.2.2.2.2.1, v.2.2.2.2.2, lw_two (t := 1) (op_offer h _ _ _ _ _ _) (by decide +kernel) ?_⟩
  intro u l G1 I1 J1 R1 hu hm
  obtain ⟨s, rfl⟩ := hu.1 rfl
  show sm_wp X 315 667 [some (.retAddr 1), some (.ref 0), some (.ref 81), some (.ref 142), some (.int x4), none, none] [.int s] (sK0 ++ l, G1, I1, J1, R1) Q
  rw [bg_315_667]
  refine ⟨v.1, v.2.1, v.2.2.1, v.2.2.2.1, v.2.2.2.2.1, v.2.2.2.2.2, sm_wp_mono hm ?_⟩
  rintro w M2 ⟨rfl, hR⟩
  obtain ⟨mo', G', I', J', rfl, hi⟩ := hR
  show sm_wp X 315 709 [some (.retAddr 1), some (.ref 0), some (.ref 81), some (.ref 142), some (.int x4), none, none] [.int s] (sM mo' G' I' J') Q
  rw [bk_315_709]
  exact lw_end hQ ⟨mo', G', I', J', rfl, hi⟩
theorem lc_11 (h : inv c mo G I J) (hc : c ≤ 1000) (v : vp6 x4 X.2) (hQ : ∀ M', Inv (c + 1) M' → sm_wp X 315 23 [some (.retAddr 1), some (.ref 0), some (.ref 81), some (.ref 142), some (.int (x4 + 7)), none, none] [] M' Q) : sm_wp X 315 713 [some (.retAddr 1), some (.ref 0), some (.ref 81), some (.ref 142), some (.int x4), none, none] [] (sM mo G I J) Q := by
  rw [bk_315_713]
  refine ⟨v.1, v.2.1, v.2.2.1, lw_two (t := 1) (op_note h _ _ _) (by decide +kernel) ?_⟩
  intro u l G1 I1 J1 R1 hu hm
  obtain ⟨s, rfl⟩ := hu.1 rfl
  show sm_wp X 315 735 [some (.retAddr 1), some (.ref 0), some (.ref 81), some (.ref 142), some (.int x4), none, none] [.int s] (sK0 ++ l, G1, I1, J1, R1) Q
  rw [bg_315_735]
  refine ⟨v.1, v.2.1, v.2.2.1, sm_wp_mono hm ?_⟩
  rintro w M2 ⟨rfl, hR⟩
  obtain ⟨mo', G', I', J', rfl, hi⟩ := hR
  show sm_wp X 315 758 [some (.retAddr 1), some (.ref 0), some (.ref 81), some (.ref 142), some (.int x4), none, none] [.int s] (sM mo' G' I' J') Q
  rw [bk_315_758]
  exact lw_end hQ ⟨mo', G', I', J', rfl, hi⟩
theorem lc_12 (h : inv c mo G I J) (hc : c ≤ 1000) (v : vp6 x4 X.2) (hQ : ∀ M', Inv (c + 1) M' → sm_wp X 315 23 [some (.retAddr 1), some (.ref 0), some (.ref 81), some (.ref 142), some (.int (x4 + 7)), none, none] [] M' Q) : sm_wp X 315 762 [some (.retAddr 1), some (.ref 0), some (.ref 81), some (.ref 142), some (.int x4), none, none] [] (sM mo G I J) Q := by
  rw [bk_315_762]
  refine ⟨v.1, v.2.1, v.2.2.1, v.2.2.2.1, lw_two (t := 1) (op_spy h _ _ _ _) (by decide +kernel) ?_⟩
  intro u l G1 I1 J1 R1 hu hm
  obtain ⟨s, rfl⟩ := hu.1 rfl
  show sm_wp X 315 790 [some (.retAddr 1), some (.ref 0), some (.ref 81), some (.ref 142), some (.int x4), none, none] [.int s] (sK0 ++ l, G1, I1, J1, R1) Q
  rw [bg_315_790]
  refine ⟨v.1, v.2.1, v.2.2.1, v.2.2.2.1, sm_wp_mono hm ?_⟩
  rintro w M2 ⟨rfl, hR⟩
  obtain ⟨mo', G', I', J', rfl, hi⟩ := hR
  show sm_wp X 315 819 [some (.retAddr 1), some (.ref 0), some (.ref 81), some (.ref 142), some (.int x4), none, none] [.int s] (sM mo' G' I' J') Q
  rw [bk_315_819]
  exact lw_end hQ ⟨mo', G', I', J', rfl, hi⟩
theorem lc_13 (h : inv c mo G I J) (hc : c ≤ 1000) (v : vp6 x4 X.2) (hQ : ∀ M', Inv (c + 1) M' → sm_wp X 315 23 [some (.retAddr 1), some (.ref 0), some (.ref 81), some (.ref 142), some (.int (x4 + 7)), none, none] [] M' Q) : sm_wp X 315 823 [some (.retAddr 1), some (.ref 0), some (.ref 81), some (.ref 142), some (.int x4), none, none] [] (sM mo G I J) Q := by
  rw [bk_315_823]
  refine ⟨v.1, lw_two (t := 1) (op_days h _) (by decide +kernel) ?_⟩
  intro u l G1 I1 J1 R1 hu hm
  obtain ⟨s, rfl⟩ := hu.1 rfl
  show sm_wp X 315 833 [some (.retAddr 1), some (.ref 0), some (.ref 81), some (.ref 142), some (.int x4), none, none] [.int s] (sK0 ++ l, G1, I1, J1, R1) Q
  rw [bg_315_833]
  refine ⟨v.1, sm_wp_mono hm ?_⟩
  rintro w M2 ⟨rfl, hR⟩
  obtain ⟨mo', G', I', J', rfl, hi⟩ := hR
  show sm_wp X 315 844 [some (.retAddr 1), some (.ref 0), some (.ref 81), some (.ref 142), some (.int x4), none, none] [.int s] (sM mo' G' I' J') Q
  rw [bk_315_844]
  exact lw_end hQ ⟨mo', G', I', J', rfl, hi⟩
theorem lc_14 (h : inv c mo G I J) (hc : c ≤ 1000) (v : vp6 x4 X.2) (hQ : ∀ M', Inv (c + 1) M' → sm_wp X 315 23 [some (.retAddr 1), some (.ref 0), some (.ref 81), some (.ref 142), some (.int (x4 + 7)), none, none] [] M' Q) : sm_wp X 315 848 [some (.retAddr 1), some (.ref 0), some (.ref 81), some (.ref 142), some (.int x4), none, none] [] (sM mo G I J) Q := by
  rw [bk_315_848]
  refine ⟨v.1, v.2.1, lw_twoW (u := 1) (t := 1) (op_paperW h _ _) (by decide +kernel) (by decide +kernel) ?_⟩
  intro u l G1 I1 J1 R1 hu hm
  obtain ⟨s, rfl⟩ := hu.1 rfl
  show sm_wp X 315 864 [some (.retAddr 1), some (.ref 0), some (.ref 81), some (.ref 142), some (.int x4), none, none] [.int s] (sK0 ++ l, G1, I1, J1, R1) Q
  rw [bg_315_864]
  refine ⟨v.1, v.2.1, sm_wp_mono hm ?_⟩
  rintro w M2 ⟨hw, hR⟩
  obtain ⟨z, rfl⟩ := hw.1 rfl
  obtain ⟨mo', G', I', J', rfl, hi⟩ := hR
  show sm_wp X 315 881 [some (.retAddr 1), some (.ref 0), some (.ref 81), some (.ref 142), some (.int x4), none, none] [.int z] (sM mo' G' I' J') Q
  rw [bk_315_881]
  exact lw_end hQ ⟨mo', G', I', J', rfl, hi⟩
theorem lc_15 (h : inv c mo G I J) (hc : c ≤ 1000) (v : vp6 x4 X.2) (hQ : ∀ M', Inv (c + 1) M' → sm_wp X 315 23 [some (.retAddr 1), some (.ref 0), some (.ref 81), some (.ref 142), some (.int (x4 + 7)), none, none] [] M' Q) : sm_wp X 315 885 [some (.retAddr 1), some (.ref 0), some (.ref 81), some (.ref 142), some (.int x4), none, none] [] (sM mo G I J) Q := by
  rw [bk_315_885]
  refine ⟨v.1, lw_two (t := 1) (op_why h _) (by decide +kernel) ?_⟩
  intro u l G1 I1 J1 R1 hu hm
  obtain ⟨s, rfl⟩ := hu.1 rfl
  show sm_wp X 315 895 [some (.retAddr 1), some (.ref 0), some (.ref 81), some (.ref 142), some (.int x4), none, none] [.int s] (sK0 ++ l, G1, I1, J1, R1) Q
  rw [bg_315_895]
  refine ⟨v.1, sm_wp_mono hm ?_⟩
  rintro w M2 ⟨rfl, hR⟩
  obtain ⟨mo', G', I', J', rfl, hi⟩ := hR
  show sm_wp X 315 906 [some (.retAddr 1), some (.ref 0), some (.ref 81), some (.ref 142), some (.int x4), none, none] [.int s] (sM mo' G' I' J') Q
  rw [bk_315_906]
  exact lw_end hQ ⟨mo', G', I', J', rfl, hi⟩
theorem lc_16 (h : inv c mo G I J) (hc : c ≤ 1000) (v : vp6 x4 X.2) (hQ : ∀ M', Inv (c + 1) M' → sm_wp X 315 23 [some (.retAddr 1), some (.ref 0), some (.ref 81), some (.ref 142), some (.int (x4 + 7)), none, none] [] M' Q) : sm_wp X 315 910 [some (.retAddr 1), some (.ref 0), some (.ref 81), some (.ref 142), some (.int x4), none, none] [] (sM mo G I J) Q := by
  rw [bk_315_910]
  refine ⟨v.1, v.2.1, lw_two (t := 2) (op_tries h _ _) (by decide +kernel) ?_⟩
  intro u l G1 I1 J1 R1 hu hm
  obtain ⟨s, rfl⟩ := hu.2 rfl
  show sm_wp X 315 926 [some (.retAddr 1), some (.ref 0), some (.ref 81), some (.ref 142), some (.int x4), none, none] [.long s] (sK0 ++ l, G1, I1, J1, R1) Q
  rw [bg_315_926]
  refine ⟨v.1, v.2.1, sm_wp_mono hm ?_⟩
  rintro w M2 ⟨rfl, hR⟩
  obtain ⟨mo', G', I', J', rfl, hi⟩ := hR
  show sm_wp X 315 943 [some (.retAddr 1), some (.ref 0), some (.ref 81), some (.ref 142), some (.int x4), none, none] [.long s] (sM mo' G' I' J') Q
  rw [bk_315_943]
  exact lw_end hQ ⟨mo', G', I', J', rfl, hi⟩
theorem lc_17 (h : inv c mo G I J) (hc : c ≤ 1000) (v : vp6 x4 X.2) (hQ : ∀ M', Inv (c + 1) M' → sm_wp X 315 23 [some (.retAddr 1), some (.ref 0), some (.ref 81), some (.ref 142), some (.int (x4 + 7)), none, none] [] M' Q) : sm_wp X 315 947 [some (.retAddr 1), some (.ref 0), some (.ref 81), some (.ref 142), some (.int x4), none, none] [] (sM mo G I J) Q := by
  rw [bk_315_947]
  refine ⟨v.1, v.2.1, lw_two (t := 1) (op_known h _ _) (by decide +kernel) ?_⟩
  intro u l G1 I1 J1 R1 hu hm
  obtain ⟨s, rfl⟩ := hu.1 rfl
  show sm_wp X 315 963 [some (.retAddr 1), some (.ref 0), some (.ref 81), some (.ref 142), some (.int x4), none, none] [.int s] (sK0 ++ l, G1, I1, J1, R1) Q
  rw [bg_315_963]
  refine ⟨v.1, v.2.1, sm_wp_mono hm ?_⟩
  rintro w M2 ⟨rfl, hR⟩
  obtain ⟨mo', G', I', J', rfl, hi⟩ := hR
  show sm_wp X 315 980 [some (.retAddr 1), some (.ref 0), some (.ref 81), some (.ref 142), some (.int x4), none, none] [.int s] (sM mo' G' I' J') Q
  rw [bk_315_980]
  exact lw_end hQ ⟨mo', G', I', J', rfl, hi⟩
theorem lc_18 (h : inv c mo G I J) (hc : c ≤ 1000) (v : vp6 x4 X.2) (hQ : ∀ M', Inv (c + 1) M' → sm_wp X 315 23 [some (.retAddr 1), some (.ref 0), some (.ref 81), some (.ref 142), some (.int (x4 + 7)), none, none] [] M' Q) : sm_wp X 315 984 [some (.retAddr 1), some (.ref 0), some (.ref 81), some (.ref 142), some (.int x4), none, none] [] (sM mo G I J) Q := by
  rw [bk_315_984]
  refine ⟨v.1, v.2.1, v.2.2.1, lw_two (t := 1) (op_heard h _ _ _) (by decide +kernel) ?_⟩
  intro u l G1 I1 J1 R1 hu hm
  obtain ⟨s, rfl⟩ := hu.1 rfl
  show sm_wp X 315 1006 [some (.retAddr 1), some (.ref 0), some (.ref 81), some (.ref 142), some (.int x4), none, none] [.int s] (sK0 ++ l, G1, I1, J1, R1) Q
  rw [bg_315_1006]
  refine ⟨v.1, v.2.1, v.2.2.1, sm_wp_mono hm ?_⟩
  rintro w M2 ⟨rfl, hR⟩
  obtain ⟨mo', G', I', J', rfl, hi⟩ := hR
  show sm_wp X 315 1029 [some (.retAddr 1), some (.ref 0), some (.ref 81), some (.ref 142), some (.int x4), none, none] [.int s] (sM mo' G' I' J') Q
  rw [bk_315_1029]
  exact lw_end hQ ⟨mo', G', I', J', rfl, hi⟩
theorem lc_19 (h : inv c mo G I J) (hc : c ≤ 1000) (v : vp6 x4 X.2) (hQ : ∀ M', Inv (c + 1) M' → sm_wp X 315 23 [some (.retAddr 1), some (.ref 0), some (.ref 81), some (.ref 142), some (.int (x4 + 7)), none, none] [] M' Q) : sm_wp X 315 1033 [some (.retAddr 1), some (.ref 0), some (.ref 81), some (.ref 142), some (.int x4), none, none] [] (sM mo G I J) Q := by
  rw [bk_315_1033]
  refine ⟨v.1, lw_two (t := 1) (op_has h _) (by decide +kernel) ?_⟩
  intro u l G1 I1 J1 R1 hu hm
  obtain ⟨s, rfl⟩ := hu.1 rfl
  show sm_wp X 315 1043 [some (.retAddr 1), some (.ref 0), some (.ref 81), some (.ref 142), some (.int x4), none, none] [.int s] (sK0 ++ l, G1, I1, J1, R1) Q
  rw [bg_315_1043]
  refine ⟨v.1, sm_wp_mono hm ?_⟩
  rintro w M2 ⟨rfl, hR⟩
  obtain ⟨mo', G', I', J', rfl, hi⟩ := hR
  show sm_wp X 315 1054 [some (.retAddr 1), some (.ref 0), some (.ref 81), some (.ref 142), some (.int x4), none, none] [.int s] (sM mo' G' I' J') Q
  rw [bk_315_1054]
  exact lw_end hQ ⟨mo', G', I', J', rfl, hi⟩
theorem lc_20 (h : inv c mo G I J) (hc : c ≤ 1000) (v : vp6 x4 X.2) (hQ : ∀ M', Inv (c + 1) M' → sm_wp X 315 23 [some (.retAddr 1), some (.ref 0), some (.ref 81), some (.ref 142), some (.int (x4 + 7)), none, none] [] M' Q) : sm_wp X 315 1058 [some (.retAddr 1), some (.ref 0), some (.ref 81), some (.ref 142), some (.int x4), none, none] [] (sM mo G I J) Q := by
  rw [bk_315_1058]
  refine ⟨v.1, lw_two (t := 1) (op_settle h hc _) (by decide +kernel) ?_⟩
  intro u l G1 I1 J1 R1 hu hm
  obtain ⟨s, rfl⟩ := hu.1 rfl
  show sm_wp X 315 1068 [some (.retAddr 1), some (.ref 0), some (.ref 81), some (.ref 142), some (.int x4), none, none] [.int s] (sK0 ++ l, G1, I1, J1, R1) Q
  rw [bg_315_1068]
  refine ⟨v.1, sm_wp_mono hm ?_⟩
  rintro w M2 ⟨rfl, hR⟩
  obtain ⟨mo', G', I', J', rfl, hi⟩ := hR
  show sm_wp X 315 1079 [some (.retAddr 1), some (.ref 0), some (.ref 81), some (.ref 142), some (.int x4), none, none] [.int s] (sM mo' G' I' J') Q
  rw [bk_315_1079]
  exact lw_end hQ ⟨mo', G', I', J', rfl, hi⟩
theorem lc_21 (h : inv c mo G I J) (hc : c ≤ 1000) (v : vp6 x4 X.2) (hQ : ∀ M', Inv (c + 1) M' → sm_wp X 315 23 [some (.retAddr 1), some (.ref 0), some (.ref 81), some (.ref 142), some (.int (x4 + 7)), none, none] [] M' Q) : sm_wp X 315 1083 [some (.retAddr 1), some (.ref 0), some (.ref 81), some (.ref 142), some (.int x4), none, none] [] (sM mo G I J) Q := by
  rw [bk_315_1083]
  refine ⟨v.1, lw_two (t := 1) (op_best h hc _) (by decide +kernel) ?_⟩
  intro u l G1 I1 J1 R1 hu hm
  obtain ⟨s, rfl⟩ := hu.1 rfl
  show sm_wp X 315 1093 [some (.retAddr 1), some (.ref 0), some (.ref 81), some (.ref 142), some (.int x4), none, none] [.int s] (sK0 ++ l, G1, I1, J1, R1) Q
  rw [bg_315_1093]
  refine ⟨v.1, sm_wp_mono hm ?_⟩
  rintro w M2 ⟨rfl, hR⟩
  obtain ⟨mo', G', I', J', rfl, hi⟩ := hR
  show sm_wp X 315 1104 [some (.retAddr 1), some (.ref 0), some (.ref 81), some (.ref 142), some (.int x4), none, none] [.int s] (sM mo' G' I' J') Q
  rw [bk_315_1104]
  exact lw_end hQ ⟨mo', G', I', J', rfl, hi⟩
theorem lc_22 (h : inv c mo G I J) (hc : c ≤ 1000) (v : vp6 x4 X.2) (hQ : ∀ M', Inv (c + 1) M' → sm_wp X 315 23 [some (.retAddr 1), some (.ref 0), some (.ref 81), some (.ref 142), some (.int (x4 + 7)), none, none] [] M' Q) : sm_wp X 315 1108 [some (.retAddr 1), some (.ref 0), some (.ref 81), some (.ref 142), some (.int x4), none, none] [] (sM mo G I J) Q := by
  rw [bk_315_1108]
  refine ⟨v.1, v.2.1, lw_two (t := 1) (op_without h hc _ _) (by decide +kernel) ?_⟩
  intro u l G1 I1 J1 R1 hu hm
  obtain ⟨s, rfl⟩ := hu.1 rfl
  show sm_wp X 315 1124 [some (.retAddr 1), some (.ref 0), some (.ref 81), some (.ref 142), some (.int x4), none, none] [.int s] (sK0 ++ l, G1, I1, J1, R1) Q
  rw [bg_315_1124]
  refine ⟨v.1, v.2.1, sm_wp_mono hm ?_⟩
  rintro w M2 ⟨rfl, hR⟩
  obtain ⟨mo', G', I', J', rfl, hi⟩ := hR
  show sm_wp X 315 1141 [some (.retAddr 1), some (.ref 0), some (.ref 81), some (.ref 142), some (.int x4), none, none] [.int s] (sM mo' G' I' J') Q
  rw [bk_315_1141]
  exact lw_end hQ ⟨mo', G', I', J', rfl, hi⟩
theorem lc_23 (h : inv c mo G I J) (hc : c ≤ 1000) (v : vp6 x4 X.2) (hQ : ∀ M', Inv (c + 1) M' → sm_wp X 315 23 [some (.retAddr 1), some (.ref 0), some (.ref 81), some (.ref 142), some (.int (x4 + 7)), none, none] [] M' Q) : sm_wp X 315 1145 [some (.retAddr 1), some (.ref 0), some (.ref 81), some (.ref 142), some (.int x4), none, none] [] (sM mo G I J) Q := by
  rw [bk_315_1145]
  refine lw_two (t := 1) (op_core h hc) (by decide +kernel) ?_
  intro u l G1 I1 J1 R1 hu hm
  obtain ⟨s, rfl⟩ := hu.1 rfl
  show sm_wp X 315 1149 [some (.retAddr 1), some (.ref 0), some (.ref 81), some (.ref 142), some (.int x4), none, none] [.int s] (sK0 ++ l, G1, I1, J1, R1) Q
  rw [bg_315_1149]
  refine sm_wp_mono hm ?_
  rintro w M2 ⟨rfl, hR⟩
  obtain ⟨mo', G', I', J', rfl, hi⟩ := hR
  show sm_wp X 315 1154 [some (.retAddr 1), some (.ref 0), some (.ref 81), some (.ref 142), some (.int x4), none, none] [.int s] (sM mo' G' I' J') Q
  rw [bk_315_1154]
  exact lw_end hQ ⟨mo', G', I', J', rfl, hi⟩
theorem lc_24 (h : inv c mo G I J) (hc : c ≤ 1000) (v : vp6 x4 X.2) (hQ : ∀ M', Inv (c + 1) M' → sm_wp X 315 23 [some (.retAddr 1), some (.ref 0), some (.ref 81), some (.ref 142), some (.int (x4 + 7)), none, none] [] M' Q) : sm_wp X 315 1158 [some (.retAddr 1), some (.ref 0), some (.ref 81), some (.ref 142), some (.int x4), none, none] [] (sM mo G I J) Q := by
  rw [bk_315_1158]
  refine ⟨v.1, lw_two (t := 1) (op_judge h hc _) (by decide +kernel) ?_⟩
  intro u l G1 I1 J1 R1 hu hm
  obtain ⟨s, rfl⟩ := hu.1 rfl
  show sm_wp X 315 1168 [some (.retAddr 1), some (.ref 0), some (.ref 81), some (.ref 142), some (.int x4), none, none] [.int s] (sK0 ++ l, G1, I1, J1, R1) Q
  rw [bg_315_1168]
  refine ⟨v.1, sm_wp_mono hm ?_⟩
  rintro w M2 ⟨rfl, hR⟩
  obtain ⟨mo', G', I', J', rfl, hi⟩ := hR
  show sm_wp X 315 1179 [some (.retAddr 1), some (.ref 0), some (.ref 81), some (.ref 142), some (.int x4), none, none] [.int s] (sM mo' G' I' J') Q
  rw [bk_315_1179]
  exact lw_end hQ ⟨mo', G', I', J', rfl, hi⟩
theorem lc_25 (h : inv c mo G I J) (hc : c ≤ 1000) (v : vp6 x4 X.2) (hQ : ∀ M', Inv (c + 1) M' → sm_wp X 315 23 [some (.retAddr 1), some (.ref 0), some (.ref 81), some (.ref 142), some (.int (x4 + 7)), none, none] [] M' Q) : sm_wp X 315 1183 [some (.retAddr 1), some (.ref 0), some (.ref 81), some (.ref 142), some (.int x4), none, none] [] (sM mo G I J) Q := by
  rw [bk_315_1183]
  refine ⟨v.1, lw_two (t := 1) (op_swap h hc _) (by decide +kernel) ?_⟩
  intro u l G1 I1 J1 R1 hu hm
  obtain ⟨s, rfl⟩ := hu.1 rfl
  show sm_wp X 315 1193 [some (.retAddr 1), some (.ref 0), some (.ref 81), some (.ref 142), some (.int x4), none, none] [.int s] (sK0 ++ l, G1, I1, J1, R1) Q
  rw [bg_315_1193]
  refine ⟨v.1, sm_wp_mono hm ?_⟩
  rintro w M2 ⟨rfl, hR⟩
  obtain ⟨mo', G', I', J', rfl, hi⟩ := hR
  show sm_wp X 315 1204 [some (.retAddr 1), some (.ref 0), some (.ref 81), some (.ref 142), some (.int x4), none, none] [.int s] (sM mo' G' I' J') Q
  rw [bk_315_1204]
  exact lw_end hQ ⟨mo', G', I', J', rfl, hi⟩
theorem lc_26 (h : inv c mo G I J) (hc : c ≤ 1000) (v : vp6 x4 X.2) (hQ : ∀ M', Inv (c + 1) M' → sm_wp X 315 23 [some (.retAddr 1), some (.ref 0), some (.ref 81), some (.ref 142), some (.int (x4 + 7)), none, none] [] M' Q) : sm_wp X 315 1208 [some (.retAddr 1), some (.ref 0), some (.ref 81), some (.ref 142), some (.int x4), none, none] [] (sM mo G I J) Q := by
  rw [bk_315_1208]
  refine lw_two (t := 1) (op_article h) (by decide +kernel) ?_
  intro u l G1 I1 J1 R1 hu hm
  obtain ⟨s, rfl⟩ := hu.1 rfl
  show sm_wp X 315 1212 [some (.retAddr 1), some (.ref 0), some (.ref 81), some (.ref 142), some (.int x4), none, none] [.int s] (sK0 ++ l, G1, I1, J1, R1) Q
  rw [bg_315_1212]
  refine sm_wp_mono hm ?_
  rintro w M2 ⟨rfl, hR⟩
  obtain ⟨mo', G', I', J', rfl, hi⟩ := hR
  show sm_wp X 315 1217 [some (.retAddr 1), some (.ref 0), some (.ref 81), some (.ref 142), some (.int x4), none, none] [.int s] (sM mo' G' I' J') Q
  rw [bk_315_1217]
  exact lw_end hQ ⟨mo', G', I', J', rfl, hi⟩
theorem lc_27 (h : inv c mo G I J) (hc : c ≤ 1000) (v : vp6 x4 X.2) (hQ : ∀ M', Inv (c + 1) M' → sm_wp X 315 23 [some (.retAddr 1), some (.ref 0), some (.ref 81), some (.ref 142), some (.int (x4 + 7)), none, none] [] M' Q) : sm_wp X 315 1221 [some (.retAddr 1), some (.ref 0), some (.ref 81), some (.ref 142), some (.int x4), none, none] [] (sM mo G I J) Q := by
  rw [bk_315_1221]
  refine ⟨v.1, v.2.1, v.2.2.1, lw_two (t := 1) (op_draft h _ _ _) (by decide +kernel) ?_⟩
  intro u l G1 I1 J1 R1 hu hm
  obtain ⟨s, rfl⟩ := hu.1 rfl
  show sm_wp X 315 1243 [some (.retAddr 1), some (.ref 0), some (.ref 81), some (.ref 142), some (.int x4), none, none] [.int s] (sK0 ++ l, G1, I1, J1, R1) Q
  rw [bg_315_1243]
  refine ⟨v.1, v.2.1, v.2.2.1, sm_wp_mono hm ?_⟩
  rintro w M2 ⟨rfl, hR⟩
  obtain ⟨mo', G', I', J', rfl, hi⟩ := hR
  show sm_wp X 315 1266 [some (.retAddr 1), some (.ref 0), some (.ref 81), some (.ref 142), some (.int x4), none, none] [.int s] (sM mo' G' I' J') Q
  rw [bk_315_1266]
  exact lw_end hQ ⟨mo', G', I', J', rfl, hi⟩
theorem lc_28 (h : inv c mo G I J) (hc : c ≤ 1000) (v : vp6 x4 X.2) (hQ : ∀ M', Inv (c + 1) M' → sm_wp X 315 23 [some (.retAddr 1), some (.ref 0), some (.ref 81), some (.ref 142), some (.int (x4 + 7)), none, none] [] M' Q) : sm_wp X 315 1270 [some (.retAddr 1), some (.ref 0), some (.ref 81), some (.ref 142), some (.int x4), none, none] [] (sM mo G I J) Q := by
  by_cases hz : X.1 (x4 + 3).toNatClampNeg = 0
  · rw [bk_315_1270, if_pos hz, bk_315_1296]
    refine ⟨v.1, v.2.1, v.2.2.1, lw_two (t := 1) (op_hang h _ _ 0 (Or.inl rfl)) (by decide +kernel) ?_⟩
    intro u l G1 I1 J1 R1 hu hm
    obtain ⟨s, rfl⟩ := hu.1 rfl
    show sm_wp X 315 1300 [some (.retAddr 1), some (.ref 0), some (.ref 81), some (.ref 142), some (.int x4), none, none] [.int s] (sK0 ++ l, G1, I1, J1, R1) Q
    rw [bg_315_1300, if_pos hz, bg_315_1327]
    refine ⟨v.1, v.2.1, v.2.2.1, sm_wp_mono hm ?_⟩
    rintro w M2 ⟨rfl, hR⟩
    obtain ⟨mo', G', I', J', rfl, hi⟩ := hR
    show sm_wp X 315 1331 [some (.retAddr 1), some (.ref 0), some (.ref 81), some (.ref 142), some (.int x4), none, none] [.int s] (sM mo' G' I' J') Q
    rw [bk_315_1331]
    exact lw_end hQ ⟨mo', G', I', J', rfl, hi⟩
  · rw [bk_315_1270, if_neg hz, bk_315_1297]
    refine ⟨v.1, v.2.1, v.2.2.1, lw_two (t := 1) (op_hang h _ _ 1 (Or.inr rfl)) (by decide +kernel) ?_⟩
    intro u l G1 I1 J1 R1 hu hm
    obtain ⟨s, rfl⟩ := hu.1 rfl
    show sm_wp X 315 1300 [some (.retAddr 1), some (.ref 0), some (.ref 81), some (.ref 142), some (.int x4), none, none] [.int s] (sK0 ++ l, G1, I1, J1, R1) Q
    rw [bg_315_1300, if_neg hz, bg_315_1328]
    refine ⟨v.1, v.2.1, v.2.2.1, sm_wp_mono hm ?_⟩
    rintro w M2 ⟨rfl, hR⟩
    obtain ⟨mo', G', I', J', rfl, hi⟩ := hR
    show sm_wp X 315 1331 [some (.retAddr 1), some (.ref 0), some (.ref 81), some (.ref 142), some (.int x4), none, none] [.int s] (sM mo' G' I' J') Q
    rw [bk_315_1331]
    exact lw_end hQ ⟨mo', G', I', J', rfl, hi⟩
theorem lc_29 (h : inv c mo G I J) (hc : c ≤ 1000) (v : vp6 x4 X.2) (hQ : ∀ M', Inv (c + 1) M' → sm_wp X 315 23 [some (.retAddr 1), some (.ref 0), some (.ref 81), some (.ref 142), some (.int (x4 + 7)), none, none] [] M' Q) : sm_wp X 315 1335 [some (.retAddr 1), some (.ref 0), some (.ref 81), some (.ref 142), some (.int x4), none, none] [] (sM mo G I J) Q := by
  by_cases hz : X.1 (x4 + 3).toNatClampNeg = 0
  · rw [bk_315_1335, if_pos hz, bk_315_1361]
    refine ⟨v.1, v.2.1, v.2.2.1, lw_two (t := 1) (op_reserve h _ _ 0 (Or.inl rfl)) (by decide +kernel) ?_⟩
    intro u l G1 I1 J1 R1 hu hm
    obtain ⟨s, rfl⟩ := hu.1 rfl
    show sm_wp X 315 1365 [some (.retAddr 1), some (.ref 0), some (.ref 81), some (.ref 142), some (.int x4), none, none] [.int s] (sK0 ++ l, G1, I1, J1, R1) Q
    rw [bg_315_1365, if_pos hz, bg_315_1392]
    refine ⟨v.1, v.2.1, v.2.2.1, sm_wp_mono hm ?_⟩
    rintro w M2 ⟨rfl, hR⟩
    obtain ⟨mo', G', I', J', rfl, hi⟩ := hR
    show sm_wp X 315 1396 [some (.retAddr 1), some (.ref 0), some (.ref 81), some (.ref 142), some (.int x4), none, none] [.int s] (sM mo' G' I' J') Q
    rw [bk_315_1396]
    exact lw_end hQ ⟨mo', G', I', J', rfl, hi⟩
  · rw [bk_315_1335, if_neg hz, bk_315_1362]
    refine ⟨v.1, v.2.1, v.2.2.1, lw_two (t := 1) (op_reserve h _ _ 1 (Or.inr rfl)) (by decide +kernel) ?_⟩
    intro u l G1 I1 J1 R1 hu hm
    obtain ⟨s, rfl⟩ := hu.1 rfl
    show sm_wp X 315 1365 [some (.retAddr 1), some (.ref 0), some (.ref 81), some (.ref 142), some (.int x4), none, none] [.int s] (sK0 ++ l, G1, I1, J1, R1) Q
    rw [bg_315_1365, if_neg hz, bg_315_1393]
    refine ⟨v.1, v.2.1, v.2.2.1, sm_wp_mono hm ?_⟩
    rintro w M2 ⟨rfl, hR⟩
    obtain ⟨mo', G', I', J', rfl, hi⟩ := hR
    show sm_wp X 315 1396 [some (.retAddr 1), some (.ref 0), some (.ref 81), some (.ref 142), some (.int x4), none, none] [.int s] (sM mo' G' I' J') Q
    rw [bk_315_1396]
    exact lw_end hQ ⟨mo', G', I', J', rfl, hi⟩
theorem lc_30 (h : inv c mo G I J) (hc : c ≤ 1000) (v : vp6 x4 X.2) (hQ : ∀ M', Inv (c + 1) M' → sm_wp X 315 23 [some (.retAddr 1), some (.ref 0), some (.ref 81), some (.ref 142), some (.int (x4 + 7)), none, none] [] M' Q) : sm_wp X 315 1400 [some (.retAddr 1), some (.ref 0), some (.ref 81), some (.ref 142), some (.int x4), none, none] [] (sM mo G I J) Q := by
  rw [bk_315_1400]
  refine ⟨v.1, v.2.1, v.2.2.1, lw_two (t := 1) (op_distance h _ _ _) (by decide +kernel) ?_⟩
  intro u l G1 I1 J1 R1 hu hm
  obtain ⟨s, rfl⟩ := hu.1 rfl
  show sm_wp X 315 1422 [some (.retAddr 1), some (.ref 0), some (.ref 81), some (.ref 142), some (.int x4), none, none] [.int s] (sK0 ++ l, G1, I1, J1, R1) Q
  rw [bg_315_1422]
  refine ⟨v.1, v.2.1, v.2.2.1, sm_wp_mono hm ?_⟩
  rintro w M2 ⟨rfl, hR⟩
  obtain ⟨mo', G', I', J', rfl, hi⟩ := hR
  show sm_wp X 315 1445 [some (.retAddr 1), some (.ref 0), some (.ref 81), some (.ref 142), some (.int x4), none, none] [.int s] (sM mo' G' I' J') Q
  rw [bk_315_1445]
  exact lw_end hQ ⟨mo', G', I', J', rfl, hi⟩
theorem lc_31 (h : inv c mo G I J) (hc : c ≤ 1000) (v : vp6 x4 X.2) (hQ : ∀ M', Inv (c + 1) M' → sm_wp X 315 23 [some (.retAddr 1), some (.ref 0), some (.ref 81), some (.ref 142), some (.int (x4 + 7)), none, none] [] M' Q) : sm_wp X 315 1449 [some (.retAddr 1), some (.ref 0), some (.ref 81), some (.ref 142), some (.int x4), none, none] [] (sM mo G I J) Q := by
  rw [bk_315_1449]
  refine ⟨v.1, v.2.1, lw_two (t := 1) (op_laid h _ _) (by decide +kernel) ?_⟩
  intro u l G1 I1 J1 R1 hu hm
  obtain ⟨s, rfl⟩ := hu.1 rfl
  show sm_wp X 315 1465 [some (.retAddr 1), some (.ref 0), some (.ref 81), some (.ref 142), some (.int x4), none, none] [.int s] (sK0 ++ l, G1, I1, J1, R1) Q
  rw [bg_315_1465]
  refine ⟨v.1, v.2.1, sm_wp_mono hm ?_⟩
  rintro w M2 ⟨rfl, hR⟩
  obtain ⟨mo', G', I', J', rfl, hi⟩ := hR
  show sm_wp X 315 1482 [some (.retAddr 1), some (.ref 0), some (.ref 81), some (.ref 142), some (.int x4), none, none] [.int s] (sM mo' G' I' J') Q
  rw [bk_315_1482]
  exact lw_end hQ ⟨mo', G', I', J', rfl, hi⟩
theorem lc_32 (h : inv c mo G I J) (hc : c ≤ 1000) (v : vp6 x4 X.2) (hQ : ∀ M', Inv (c + 1) M' → sm_wp X 315 23 [some (.retAddr 1), some (.ref 0), some (.ref 81), some (.ref 142), some (.int (x4 + 7)), none, none] [] M' Q) : sm_wp X 315 1486 [some (.retAddr 1), some (.ref 0), some (.ref 81), some (.ref 142), some (.int x4), none, none] [] (sM mo G I J) Q := by
  rw [bk_315_1486]
  refine ⟨v.1, v.2.1, v.2.2.1, lw_two (t := 1) (op_word h _ _ _) (by decide +kernel) ?_⟩
  intro u l G1 I1 J1 R1 hu hm
  obtain ⟨s, rfl⟩ := hu.1 rfl
  show sm_wp X 315 1508 [some (.retAddr 1), some (.ref 0), some (.ref 81), some (.ref 142), some (.int x4), none, none] [.int s] (sK0 ++ l, G1, I1, J1, R1) Q
  rw [bg_315_1508]
  refine ⟨v.1, v.2.1, v.2.2.1, sm_wp_mono hm ?_⟩
  rintro w M2 ⟨rfl, hR⟩
  obtain ⟨mo', G', I', J', rfl, hi⟩ := hR
  show sm_wp X 315 1531 [some (.retAddr 1), some (.ref 0), some (.ref 81), some (.ref 142), some (.int x4), none, none] [.int s] (sM mo' G' I' J') Q
  rw [bk_315_1531]
  exact lw_end hQ ⟨mo', G', I', J', rfl, hi⟩
theorem lc_33 (h : inv c mo G I J) (hc : c ≤ 1000) (v : vp6 x4 X.2) (hQ : ∀ M', Inv (c + 1) M' → sm_wp X 315 23 [some (.retAddr 1), some (.ref 0), some (.ref 81), some (.ref 142), some (.int (x4 + 7)), none, none] [] M' Q) : sm_wp X 315 1535 [some (.retAddr 1), some (.ref 0), some (.ref 81), some (.ref 142), some (.int x4), none, none] [] (sM mo G I J) Q := by
  rw [bk_315_1535]
  refine ⟨v.1, lw_two (t := 1) (op_leave h _) (by decide +kernel) ?_⟩
  intro u l G1 I1 J1 R1 hu hm
  obtain ⟨s, rfl⟩ := hu.1 rfl
  show sm_wp X 315 1545 [some (.retAddr 1), some (.ref 0), some (.ref 81), some (.ref 142), some (.int x4), none, none] [.int s] (sK0 ++ l, G1, I1, J1, R1) Q
  rw [bg_315_1545]
  refine ⟨v.1, sm_wp_mono hm ?_⟩
  rintro w M2 ⟨rfl, hR⟩
  obtain ⟨mo', G', I', J', rfl, hi⟩ := hR
  show sm_wp X 315 1556 [some (.retAddr 1), some (.ref 0), some (.ref 81), some (.ref 142), some (.int x4), none, none] [.int s] (sM mo' G' I' J') Q
  rw [bk_315_1556]
  exact lw_end hQ ⟨mo', G', I', J', rfl, hi⟩
theorem lc_34 (h : inv c mo G I J) (hc : c ≤ 1000) (v : vp6 x4 X.2) (hQ : ∀ M', Inv (c + 1) M' → sm_wp X 315 23 [some (.retAddr 1), some (.ref 0), some (.ref 81), some (.ref 142), some (.int (x4 + 7)), none, none] [] M' Q) : sm_wp X 315 1560 [some (.retAddr 1), some (.ref 0), some (.ref 81), some (.ref 142), some (.int x4), none, none] [] (sM mo G I J) Q := by
  rw [bk_315_1560]
  refine ⟨v.1, v.2.1, v.2.2.1, lw_two (t := 1) (op_way h _ _ _) (by decide +kernel) ?_⟩
  intro u l G1 I1 J1 R1 hu hm
  obtain ⟨s, rfl⟩ := hu.1 rfl
  show sm_wp X 315 1582 [some (.retAddr 1), some (.ref 0), some (.ref 81), some (.ref 142), some (.int x4), none, none] [.int s] (sK0 ++ l, G1, I1, J1, R1) Q
  rw [bg_315_1582]
  refine ⟨v.1, v.2.1, v.2.2.1, sm_wp_mono hm ?_⟩
  rintro w M2 ⟨rfl, hR⟩
  obtain ⟨mo', G', I', J', rfl, hi⟩ := hR
  show sm_wp X 315 1605 [some (.retAddr 1), some (.ref 0), some (.ref 81), some (.ref 142), some (.int x4), none, none] [.int s] (sM mo' G' I' J') Q
  rw [bk_315_1605]
  exact lw_end hQ ⟨mo', G', I', J', rfl, hi⟩
theorem lc_36 (h : inv c mo G I J) (hc : c ≤ 1000) (v : vp6 x4 X.2) (hQ : ∀ M', Inv (c + 1) M' → sm_wp X 315 23 [some (.retAddr 1), some (.ref 0), some (.ref 81), some (.ref 142), some (.int (x4 + 7)), none, none] [] M' Q) : sm_wp X 315 1649 [some (.retAddr 1), some (.ref 0), some (.ref 81), some (.ref 142), some (.int x4), none, none] [] (sM mo G I J) Q := by
  rw [bk_315_1649]
  refine ⟨v.1, lw_two (t := 1) (op_count h _) (by decide +kernel) ?_⟩
  intro u l G1 I1 J1 R1 hu hm
  obtain ⟨s, rfl⟩ := hu.1 rfl
  show sm_wp X 315 1659 [some (.retAddr 1), some (.ref 0), some (.ref 81), some (.ref 142), some (.int x4), none, none] [.int s] (sK0 ++ l, G1, I1, J1, R1) Q
  rw [bg_315_1659]
  refine ⟨v.1, sm_wp_mono hm ?_⟩
  rintro w M2 ⟨rfl, hR⟩
  obtain ⟨mo', G', I', J', rfl, hi⟩ := hR
  show sm_wp X 315 1670 [some (.retAddr 1), some (.ref 0), some (.ref 81), some (.ref 142), some (.int x4), none, none] [.int s] (sM mo' G' I' J') Q
  rw [bk_315_1670]
  exact lw_end hQ ⟨mo', G', I', J', rfl, hi⟩
end L2
