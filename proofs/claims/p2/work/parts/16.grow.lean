/-! Every step, and so every run, of the shadow is the machine's. -/
def sm_gr (M : sm_M) : sm_O → Prop
  | .inl (_, _, M') => cz M ≤ cz M' ∧ sz M ≤ sz M'
  | .inr (.inl (_, _, _, M')) => cz M ≤ cz M' ∧ sz M ≤ sz M'
  | _ => True
theorem gr_rf {M : sm_M} : cz M ≤ cz M ∧ sz M ≤ sz M := ⟨Nat.le_refl _, Nat.le_refl _⟩
set_option maxHeartbeats 4000000 in
theorem sm_step_gr {X : (Nat → Int32) × Nat} {r : sm_R} {L : sm_L} {st : sm_S} {M : sm_M} {o : sm_O} (h : sm_step X r L st M = some o) : sm_gr M o := by
  obtain ⟨q, len, a, bb, cd, k0, kl, sw⟩ := r
  cases q
  all_goals first
    | (cases h; done)
    | (cases h; exact gr_rf)
    | (simp only [sm_step, sm_ldi, sm_ldl, sm_lda, sm_sti, sm_stl, sm_sta, sm_i2, sm_i1, sm_l2, sm_l1, sm_li, sm_r1, sm_get, sm_put, sm_ial, sm_lal, sm_ias, sm_las, sm_aln, sm_new, sm_nwa, sm_inv, Bool.cond_eq_ite] at h
       (repeat' split at h) <;> first
         | (cases h; done)
         | (cases h; exact gr_rf)
         | (cases h; exact trivial)
         | (cases h; exact ⟨by rw [cz_app]; omega, by rw [sz_app]; omega⟩))
theorem sm_look_gr {as : List Value} {M M' : sm_M} {c : sm_C} {v : Option Value} (h : sm_look as M = some (c, v, M')) : cz M ≤ cz M' ∧ sz M ≤ sz M' := by
  unfold sm_look at h
  split at h
  · rename_i x l w o
    cases hb : ((Nat.beq x 0 && Nat.beq o 142) && sm_shp M) with
    | false => rw [hb] at h; cases h
    | true =>
      rw [hb] at h
      simp only [cond_true] at h
      split at h
      · split at h
        · cases h; exact gr_rf
        · split at h
          · cases h; exact gr_rf
          · split at h
            · cases h; exact gr_rf
            · cases h; exact ⟨by simp only [cz]; omega, by simp only [sz]; omega⟩
      · cases h; exact ⟨by simp only [cz]; omega, by simp only [sz]; omega⟩
  · cases h
theorem sm_prim_gr {j : Nat} {as : List Value} {M M' : sm_M} {c : sm_C} {v : Option Value} (h : sm_prim j as M = some (c, v, M')) : cz M ≤ cz M' ∧ sz M ≤ sz M' := by
  unfold sm_prim at h
  cases h0 : Nat.beq j 900 with
  | true =>
    rw [h0] at h
    simp only [cond_true] at h
    split at h
    · rename_i z
      cases hz : Nat.beq z 2 with
      | true => rw [hz] at h; cases h; exact gr_rf
      | false => rw [hz] at h; cases h
    · cases h
  | false =>
    rw [h0] at h
    simp only [cond_false] at h
    cases h1 : Nat.beq j 901 with
    | true =>
      rw [h1] at h
      simp only [cond_true] at h
      split at h
      · rename_i z i
        cases hz : Nat.beq z 2 with
        | true => rw [hz] at h; cases h; exact gr_rf
        | false => rw [hz] at h; cases h
      · cases h
    | false =>
      rw [h1] at h
      simp only [cond_false] at h
      cases h3 : Nat.beq j 903 with
      | true =>
        rw [h3] at h
        simp only [cond_true] at h
        split at h
        · cases h; exact gr_rf
        · cases h
      | false =>
        rw [h3] at h
        simp only [cond_false] at h
        cases h4 : Nat.beq j 904 with
        | true =>
          rw [h4] at h
          simp only [cond_true] at h
          split at h
          · cases h; exact gr_rf
          · cases h
        | false =>
          rw [h4] at h
          simp only [cond_false] at h
          cases h5 : Nat.beq j 905 with
          | true =>
            rw [h5] at h
            simp only [cond_true] at h
            split at h
            · cases h; exact gr_rf
            · cases h
          | false =>
            rw [h5] at h
            simp only [cond_false] at h
            cases h2 : Nat.beq j 902 with
            | true => rw [h2] at h; exact sm_look_gr h
            | false => rw [h2] at h; cases h
theorem sm_run_gr (X : (Nat → Int32) × Nat) : ∀ (n i pc : Nat) (L : sm_L) (st : sm_S) (M : sm_M) (v : Option Value) (M' : sm_M), sm_run X n i pc L st M = some (v, M') → cz M ≤ cz M' ∧ sz M ≤ sz M'
  | 0, _, _, _, _, _, _, _, h => by cases h
  | n + 1, i, pc, L, st, M, v, M', h => by
    have ih := sm_run_gr X n
    have tr : ∀ {M1 : sm_M}, cz M ≤ cz M1 ∧ sz M ≤ sz M1 → cz M1 ≤ cz M' ∧ sz M1 ≤ sz M' → cz M ≤ cz M' ∧ sz M ≤ sz M' := fun a b => ⟨Nat.le_trans a.1 b.1, Nat.le_trans a.2 b.2⟩
    have h : sm_body X (sm_run X n) i pc L st M = some (v, M') := h
    unfold sm_body at h
    cases hc : sm_from (sm_code i) pc with
    | nil => rw [hc] at h; cases h
    | cons z t =>
      obtain ⟨p, ks, q⟩ := z
      rw [hc] at h
      simp only at h
      cases hs : sm_step X q L st M with
      | none => rw [hs] at h; cases h
      | some o =>
        rw [hs] at h
        have hg := sm_step_gr hs
        simp only at h
        rcases o with ⟨L', st', M1⟩ | ⟨c, L', st', M1⟩ | ⟨c, t, L', st'⟩ | ⟨t, L', st'⟩ | ⟨x, l, d, L', st'⟩ | ⟨j, as, L', st'⟩ | ⟨c, w⟩
        · exact tr hg (ih _ _ _ _ _ _ _ h)
        · simp only [sm_act] at h
          split at h
          · exact tr hg (ih _ _ _ _ _ _ _ h)
          · cases h
        · simp only [sm_act] at h
          split at h
          · exact ih _ _ _ _ _ _ _ h
          · exact ih _ _ _ _ _ _ _ h
        · exact ih _ _ _ _ _ _ _ h
        · exact ih _ _ _ _ _ _ _ h
        · simp only [sm_act] at h
          cases hb : Nat.ble 900 j with
          | true =>
            rw [hb] at h
            simp only [cond_true] at h
            cases hp : sm_prim j as M with
            | none => rw [hp] at h; cases h
            | some z =>
              obtain ⟨c, w, M1⟩ := z
              rw [hp] at h
              simp only at h
              split at h
              · exact tr (sm_prim_gr hp) (ih _ _ _ _ _ _ _ h)
              · cases h
          | false =>
            rw [hb] at h
            simp only [cond_false] at h
            cases hp : sm_run X n j 0 (sm_en j as) [] M with
            | none => rw [hp] at h; cases h
            | some z =>
              obtain ⟨w, M1⟩ := z
              rw [hp] at h
              exact tr (ih _ _ _ _ _ _ _ hp) (ih _ _ _ _ _ _ _ h)
        · simp only [sm_act] at h
          split at h
          · cases h; exact gr_rf
          · cases h
