/-! Of any run: the cells that are there stay what they are; what a method gives back. -/
def okO (M : sm_M) : sm_O → Prop
  | .inl (_, _, M') => ∃ l, M'.1 = M.1 ++ l
  | .inr (.inl (_, _, _, M')) => ∃ l, M'.1 = M.1 ++ l
  | _ => True
theorem st_ok {X : (Nat → Int32) × Nat} {r : sm_R} {L : sm_L} {st : sm_S} {M : sm_M} {o : sm_O} (h : sm_step X r L st M = some o) : okO M o := by
  obtain ⟨q, n, a, b, c, k, kl, sw⟩ := r
  cases q
  all_goals simp only [sm_step] at h
  all_goals try (cases h; done)
  all_goals simp only [sm_i2, sm_i1, sm_l2, sm_l1, sm_li, sm_r1, sm_ldi, sm_ldl, sm_lda, sm_sti, sm_stl, sm_sta, sm_get, sm_put, sm_ial, sm_lal, sm_ias, sm_las, sm_aln, sm_new, sm_nwa, sm_inv, sm_go, sm_ck, sm_fk, sm_jp, sm_se, sm_ca, sm_rt, Bool.cond_eq_ite] at h
  all_goals repeat' split at h
  all_goals first | (cases h; done) | (cases h; exact ⟨[], (List.append_nil _).symm⟩) | (cases h; exact ⟨_, rfl⟩) | (cases h; exact trivial)
theorem pr_ok {j : Nat} {as : List Value} {M M' : sm_M} {c : sm_C} {v : Option Value} (h : sm_prim j as M = some (c, v, M')) : M'.1 = M.1 := by
  unfold sm_prim at h
  cases h0 : Nat.beq j 900 with
  | true =>
    rw [h0] at h
    simp only [cond_true] at h
    try simp only [Bool.cond_eq_ite] at h
    repeat' split at h
    all_goals first | (cases h; done) | (cases h; rfl)
  | false =>
  rw [h0] at h
  simp only [cond_false] at h
  cases h1 : Nat.beq j 901 with
  | true =>
    rw [h1] at h
    simp only [cond_true] at h
    try simp only [Bool.cond_eq_ite] at h
    repeat' split at h
    all_goals first | (cases h; done) | (cases h; rfl)
  | false =>
  rw [h1] at h
  simp only [cond_false] at h
  cases h2 : Nat.beq j 903 with
  | true =>
    rw [h2] at h
    simp only [cond_true] at h
    try simp only [Bool.cond_eq_ite] at h
    repeat' split at h
    all_goals first | (cases h; done) | (cases h; rfl)
  | false =>
  rw [h2] at h
  simp only [cond_false] at h
  cases h3 : Nat.beq j 904 with
  | true =>
    rw [h3] at h
    simp only [cond_true] at h
    try simp only [Bool.cond_eq_ite] at h
    repeat' split at h
    all_goals first | (cases h; done) | (cases h; rfl)
  | false =>
  rw [h3] at h
  simp only [cond_false] at h
  cases h4 : Nat.beq j 905 with
  | true =>
    rw [h4] at h
    simp only [cond_true] at h
    try simp only [Bool.cond_eq_ite] at h
    repeat' split at h
    all_goals first | (cases h; done) | (cases h; rfl)
  | false =>
  rw [h4] at h
  simp only [cond_false] at h
  cases h5 : Nat.beq j 902 with
  | true =>
    rw [h5] at h
    simp only [cond_true] at h
    unfold sm_look at h
    simp only [Bool.cond_eq_ite] at h
    repeat' split at h
    all_goals first | (cases h; done) | (cases h; rfl)
  | false =>
  rw [h5] at h
  cases h
theorem sm_kinds {X : (Nat → Int32) × Nat} : ∀ {n i pc : Nat} {L : sm_L} {st : sm_S} {M M' : sm_M} {v : Option Value}, sm_run X n i pc L st M = some (v, M') → ∃ l, M'.1 = M.1 ++ l := by
  intro n
  induction n with
  | zero => intro i pc L st M M' v h; cases h
  | succ n ih =>
    intro i pc L st M M' v h
    have h : sm_body X (sm_run X n) i pc L st M = some (v, M') := h
    unfold sm_body at h
    split at h
    · cases h
    · rename_i p ks r l hc
      split at h
      · cases h
      · rename_i o hs
        have ok := st_ok hs
        rcases o with ⟨L', st', M1⟩ | ⟨c, L', st', M1⟩ | ⟨c, t, L', st'⟩ | ⟨t, L', st'⟩ | ⟨x, l, d, L', st'⟩ | ⟨j, as, L', st'⟩ | ⟨c, w⟩
        · obtain ⟨l1, e1⟩ := ok
          obtain ⟨l2, e2⟩ := ih h
          exact ⟨l1 ++ l2, by rw [e2, e1, List.append_assoc]⟩
        · simp only [sm_act] at h
          split at h
          · obtain ⟨l1, e1⟩ := ok
            obtain ⟨l2, e2⟩ := ih h
            exact ⟨l1 ++ l2, by rw [e2, e1, List.append_assoc]⟩
          · cases h
        · simp only [sm_act] at h
          split at h
          · exact ih h
          · exact ih h
        · exact ih h
        · exact ih h
        · simp only [sm_act] at h
          cases hb : Nat.ble 900 j with
          | true =>
            rw [hb] at h
            simp only [cond_true] at h
            split at h
            · rename_i c w M1 hp
              split at h
              · obtain ⟨l2, e2⟩ := ih h
                exact ⟨l2, by rw [e2, pr_ok hp]⟩
              · cases h
            · cases h
          | false =>
            rw [hb] at h
            simp only [cond_false] at h
            split at h
            · rename_i w M1 hp
              obtain ⟨l1, e1⟩ := ih hp
              obtain ⟨l2, e2⟩ := ih h
              exact ⟨l1 ++ l2, by rw [e2, e1, List.append_assoc]⟩
            · cases h
        · simp only [sm_act] at h
          split at h
          · cases h
            exact ⟨[], (List.append_nil _).symm⟩
          · cases h
/-- of what sort a method's ends are: 1 ints, 2 longs -/
def sm_rs (t : Nat) (q : Instr) : Bool := match q with
  | .ireturn => Nat.beq t 1
  | .lreturn => Nat.beq t 2
  | .return_ => false
  | _ => true
def vS (t : Nat) (v : Option Value) : Prop := (t = 1 → ∃ x, v = some (.int x)) ∧ (t = 2 → ∃ x, v = some (.long x))
theorem st_rt {X : (Nat → Int32) × Nat} {t : Nat} {r : sm_R} {L : sm_L} {st : sm_S} {M : sm_M} {c : sm_C} {v : Option Value} (hr : sm_rs t r.1 = true) (h : sm_step X r L st M = some (.inr (.inr (.inr (.inr (.inr (.inr (c, v)))))))) : vS t v := by
  obtain ⟨q, n, a, b, c, k, kl, sw⟩ := r
  cases q
  all_goals simp only [sm_step] at h
  all_goals try (cases h; done)
  all_goals simp only [sm_i2, sm_i1, sm_l2, sm_l1, sm_li, sm_r1, sm_ldi, sm_ldl, sm_lda, sm_sti, sm_stl, sm_sta, sm_get, sm_put, sm_ial, sm_lal, sm_ias, sm_las, sm_aln, sm_new, sm_nwa, sm_inv, sm_go, sm_ck, sm_fk, sm_jp, sm_se, sm_ca, sm_rt, Bool.cond_eq_ite] at h
  all_goals repeat' split at h
  all_goals try (cases h; done)
  all_goals simp only [sm_rs] at hr
  all_goals try (exact absurd hr (by decide))
  all_goals
    have ht := Nat.eq_of_beq_eq_true hr
    subst ht
    cases h
    refine ⟨fun e => ?_, fun e => ?_⟩
    all_goals first | exact ⟨_, rfl⟩ | exact absurd e (by decide)
theorem sm_ret_s {X : (Nat → Int32) × Nat} {t i : Nat} (hi : ((sm_code i).all fun e => sm_rs t e.2.2.1) = true) : ∀ {n pc : Nat} {L : sm_L} {st : sm_S} {M M' : sm_M} {v : Option Value}, sm_run X n i pc L st M = some (v, M') → vS t v := by
  intro n
  induction n with
  | zero => intro pc L st M M' v h; cases h
  | succ n ih =>
    intro pc L st M M' v h
    have h : sm_body X (sm_run X n) i pc L st M = some (v, M') := h
    unfold sm_body at h
    split at h
    · cases h
    · rename_i p ks r l hc
      split at h
      · cases h
      · rename_i o hs
        have hm : (p, ks, r) ∈ sm_code i := by
          obtain ⟨a, ha⟩ := sm_from_sfx (sm_code i) pc
          rw [ha, hc]
          exact List.mem_append_right _ List.mem_cons_self
        have hr : sm_rs t r.1 = true := List.all_eq_true.mp hi _ hm
        rcases o with ⟨L', st', M1⟩ | ⟨c, L', st', M1⟩ | ⟨c, t, L', st'⟩ | ⟨t, L', st'⟩ | ⟨x, l, d, L', st'⟩ | ⟨j, as, L', st'⟩ | ⟨c, w⟩
        · exact ih h
        · simp only [sm_act] at h
          split at h
          · exact ih h
          · cases h
        · simp only [sm_act] at h
          split at h
          · exact ih h
          · exact ih h
        · exact ih h
        · exact ih h
        · simp only [sm_act] at h
          cases hb : Nat.ble 900 j with
          | true =>
            rw [hb] at h
            simp only [cond_true] at h
            split at h
            · split at h
              · exact ih h
              · cases h
            · cases h
          | false =>
            rw [hb] at h
            simp only [cond_false] at h
            split at h
            · exact ih h
            · cases h
        · simp only [sm_act] at h
          split at h
          · cases h
            exact st_rt hr hs
          · cases h
