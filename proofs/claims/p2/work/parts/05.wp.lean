/-! More fuel does no harm; a stretch of instructions is what its steps are. -/
def sm_le (f g : sm_F) : Prop := ∀ i pc L st M r, f i pc L st M = some r → g i pc L st M = some r
theorem sm_act_le {f g : sm_F} (h : sm_le f g) (i pc : Nat) (M : sm_M) (o : sm_O) (r : Option Value × sm_M) (e : sm_act f i pc M o = some r) : sm_act g i pc M o = some r := by
  rcases o with ⟨L', st', M'⟩ | ⟨c, L', st', M'⟩ | ⟨c, t, L', st'⟩ | ⟨t, L', st'⟩ | ⟨x, l, d, L', st'⟩ | ⟨j, as, L', st'⟩ | ⟨c, v⟩
  · exact h _ _ _ _ _ _ e
  · simp only [sm_act] at e ⊢
    split at e
    · rename_i hc; rw [if_pos hc]; exact h _ _ _ _ _ _ e
    · cases e
  · simp only [sm_act] at e ⊢
    split at e
    · rename_i hc; rw [if_pos hc]; exact h _ _ _ _ _ _ e
    · rename_i hc; rw [if_neg hc]; exact h _ _ _ _ _ _ e
  · exact h _ _ _ _ _ _ e
  · exact h _ _ _ _ _ _ e
  · simp only [sm_act] at e ⊢
    cases hb : Nat.ble 900 j with
    | true =>
      rw [hb] at e
      simp only [cond_true] at e ⊢
      cases hp : sm_prim j as M with
      | none => rw [hp] at e; cases e
      | some z =>
        obtain ⟨c, v, M'⟩ := z
        rw [hp] at e
        simp only at e ⊢
        split at e
        · rename_i hc; rw [if_pos hc]; exact h _ _ _ _ _ _ e
        · cases e
    | false =>
      rw [hb] at e
      simp only [cond_false] at e ⊢
      cases hp : f j 0 (sm_en j as) [] M with
      | none => rw [hp] at e; cases e
      | some z =>
        obtain ⟨v, M'⟩ := z
        rw [hp] at e
        rw [h _ _ _ _ _ _ hp]
        exact h _ _ _ _ _ _ e
  · exact e
theorem sm_body_le (X : (Nat → Int32) × Nat) {f g : sm_F} (h : sm_le f g) : sm_le (sm_body X f) (sm_body X g) := by
  intro i pc L st M r e
  unfold sm_body at e ⊢
  cases hc : sm_from (sm_code i) pc with
  | nil => rw [hc] at e; cases e
  | cons z l =>
    obtain ⟨p, ks, q⟩ := z
    rw [hc] at e
    simp only at e ⊢
    cases hs : sm_step X q L st M with
    | none => rw [hs] at e; cases e
    | some o => rw [hs] at e; exact sm_act_le h _ _ _ _ _ e
theorem sm_mono1 (X : (Nat → Int32) × Nat) : ∀ n, sm_le (sm_run X n) (sm_run X (n + 1))
  | 0 => fun _ _ _ _ _ _ e => by cases e
  | n + 1 => sm_body_le X (sm_mono1 X n)
theorem sm_mono (X : (Nat → Int32) × Nat) {n k : Nat} (h : n ≤ k) : sm_le (sm_run X n) (sm_run X k) := by
  induction h with
  | refl => exact fun _ _ _ _ _ _ e => e
  | step _ ih => exact fun _ _ _ _ _ _ e => sm_mono1 X _ _ _ _ _ _ _ (ih _ _ _ _ _ _ e)
/-- what a step's outcome means -/
def sm_wo (X : (Nat → Int32) × Nat) (i pc : Nat) (M : sm_M) (Q : Option Value → sm_M → Prop) (o : sm_O) : Prop := match o with
  | .inl (L', st', M') => sm_wp X i pc (sm_kl i pc L') st' M' Q
  | .inr (.inl (c, L', st', M')) => c.1 ∧ sm_wp X i pc (sm_kl i pc L') st' M' Q
  | .inr (.inr (.inl (c, t, L', st'))) => @ite _ c.1 c.2 (sm_wp X i t (sm_kl i t L') st' M Q) (sm_wp X i pc (sm_kl i pc L') st' M Q)
  | .inr (.inr (.inr (.inl (t, L', st')))) => sm_wp X i t (sm_kl i t L') st' M Q
  | .inr (.inr (.inr (.inr (.inl (x, l, d, L', st'))))) => sm_wp X i (sm_sw x l d) (sm_kl i (sm_sw x l d) L') st' M Q
  | .inr (.inr (.inr (.inr (.inr (.inl (j, as, L', st')))))) =>
    bif Nat.ble 900 j then (match sm_prim j as M with
      | some (c, v, M') => c.1 ∧ sm_wp X i pc (sm_kl i pc L') (v.toList ++ st') M' Q
      | none => False)
    else sm_wp X j 0 (sm_en j as) [] M (fun v M' => sm_wp X i pc (sm_kl i pc L') (v.toList ++ st') M' Q)
  | .inr (.inr (.inr (.inr (.inr (.inr (c, v)))))) => c.1 ∧ Q v M
theorem sm_wo_iff (X : (Nat → Int32) × Nat) (i pc : Nat) (M : sm_M) (Q : Option Value → sm_M → Prop) (o : sm_O) : sm_wo X i pc M Q o ↔ ∃ n v M', sm_act (sm_run X n) i pc M o = some (v, M') ∧ Q v M' := by
  rcases o with ⟨L', st', M'⟩ | ⟨c, L', st', M'⟩ | ⟨c, t, L', st'⟩ | ⟨t, L', st'⟩ | ⟨x, l, d, L', st'⟩ | ⟨j, as, L', st'⟩ | ⟨c, v⟩
  · exact Iff.rfl
  · simp only [sm_wo, sm_act]
    constructor
    · rintro ⟨hc, n, v, M1, e, q⟩
      exact ⟨n, v, M1, by rw [if_pos hc]; exact e, q⟩
    · rintro ⟨n, v, M1, e, q⟩
      split at e
      · rename_i hc; exact ⟨hc, n, v, M1, e, q⟩
      · cases e
  · simp only [sm_wo, sm_act]
    by_cases hc : c.1
    · simp only [if_pos hc]; exact Iff.rfl
    · simp only [if_neg hc]; exact Iff.rfl
  · exact Iff.rfl
  · exact Iff.rfl
  · simp only [sm_wo, sm_act]
    cases Nat.ble 900 j with
    | true =>
      simp only [cond_true]
      cases sm_prim j as M with
      | none => simp
      | some z =>
        obtain ⟨c, v, M'⟩ := z
        simp only
        constructor
        · rintro ⟨hc, n, w, M1, e, q⟩
          exact ⟨n, w, M1, by rw [if_pos hc]; exact e, q⟩
        · rintro ⟨n, w, M1, e, q⟩
          split at e
          · rename_i hc; exact ⟨hc, n, w, M1, e, q⟩
          · cases e
    | false =>
      simp only [cond_false]
      constructor
      · rintro ⟨n, v, M1, e, k, w, M2, e2, q⟩
        refine ⟨max n k, w, M2, ?_, q⟩
        rw [sm_mono X (Nat.le_max_left n k) _ _ _ _ _ _ e]
        exact sm_mono X (Nat.le_max_right n k) _ _ _ _ _ _ e2
      · rintro ⟨n, w, M2, e, q⟩
        cases hp : sm_run X n j 0 (sm_en j as) [] M with
        | none => rw [hp] at e; cases e
        | some z =>
          obtain ⟨v, M1⟩ := z
          rw [hp] at e
          exact ⟨n, v, M1, hp, n, w, M2, e, q⟩
  · simp only [sm_wo, sm_act]
    constructor
    · rintro ⟨hc, q⟩
      exact ⟨0, v, M, by rw [if_pos hc], q⟩
    · rintro ⟨n, w, M1, e, q⟩
      split at e
      · rename_i hc; cases e; exact ⟨hc, q⟩
      · cases e
theorem sm_wp_step (X : (Nat → Int32) × Nat) {i pc : Nat} {p : Nat} {ks : List Bool} {r : sm_R} {l : sm_T} (hc : sm_from (sm_code i) pc = (p, ks, r) :: l) {L : sm_L} {st : sm_S} {M : sm_M} {Q : Option Value → sm_M → Prop} :
    sm_wp X i pc L st M Q ↔ ∃ o, sm_step X r L st M = some o ∧ sm_wo X i (pc + r.2.1) M Q o := by
  constructor
  · rintro ⟨n, v, M1, e, q⟩
    cases n with
    | zero => cases e
    | succ n =>
      have e : sm_body X (sm_run X n) i pc L st M = some (v, M1) := e
      unfold sm_body at e
      rw [hc] at e
      simp only at e
      cases hs : sm_step X r L st M with
      | none => rw [hs] at e; cases e
      | some o => rw [hs] at e; exact ⟨o, rfl, (sm_wo_iff _ _ _ _ _ _).mpr ⟨n, v, M1, e, q⟩⟩
  · rintro ⟨o, hs, h⟩
    obtain ⟨n, v, M1, e, q⟩ := (sm_wo_iff _ _ _ _ _ _).mp h
    refine ⟨n + 1, v, M1, ?_, q⟩
    show sm_body X (sm_run X n) i pc L st M = some (v, M1)
    unfold sm_body
    rw [hc]
    simp only
    rw [hs]
    exact e
/-- the table's rows follow each other -/
def sm_lin : sm_T → Bool
  | [] => true
  | [e] => Nat.ble 1 e.2.2.2.1
  | e :: e2 :: l => Nat.beq e2.1 (e.1 + e.2.2.2.1) && (Nat.ble 1 e.2.2.2.1 && sm_lin (e2 :: l))
def sm_sfx (t : sm_T) : sm_T → Prop := fun s => ∃ a, t = a ++ s
theorem sm_from_sfx (t : sm_T) (pc : Nat) : sm_sfx t (sm_from t pc) := by
  induction t with
  | nil => exact ⟨[], rfl⟩
  | cons e l ih =>
    unfold sm_from
    cases Nat.beq e.1 pc with
    | true => exact ⟨[], rfl⟩
    | false =>
      obtain ⟨a, h⟩ := ih
      exact ⟨e :: a, by simp only [cond_false, List.cons_append]; rw [← h]⟩
theorem sm_lin_lt : ∀ (l : sm_T) (e : Nat × List Bool × sm_R), sm_lin (e :: l) = true → ∀ x ∈ l, e.1 < x.1
  | [], _, _, x, hx => by cases hx
  | e2 :: l, e, h, x, hx => by
    simp only [sm_lin, Bool.and_eq_true] at h
    have h1 : e2.1 = e.1 + e.2.2.2.1 := Nat.eq_of_beq_eq_true h.1
    have h2 : 1 ≤ e.2.2.2.1 := Nat.le_of_ble_eq_true h.2.1
    rcases List.mem_cons.mp hx with rfl | hx
    · omega
    · have := sm_lin_lt l e2 h.2.2 x hx
      omega
theorem sm_lin_tl {e : Nat × List Bool × sm_R} {l : sm_T} (h : sm_lin (e :: l) = true) : sm_lin l = true := by
  cases l with
  | nil => rfl
  | cons e2 l => simp only [sm_lin, Bool.and_eq_true] at h; exact h.2.2
theorem sm_lin_app : ∀ {a l : sm_T}, sm_lin (a ++ l) = true → sm_lin l = true
  | [], _, h => h
  | _ :: a, _, h => sm_lin_app (a := a) (sm_lin_tl h)
theorem sm_from_app : ∀ (a : sm_T) (e : Nat × List Bool × sm_R) (l : sm_T), sm_lin (a ++ e :: l) = true → sm_from (a ++ e :: l) e.1 = e :: l
  | [], e, l, _ => by
    show sm_from (e :: l) e.1 = _
    unfold sm_from
    rw [show Nat.beq e.1 e.1 = true from Nat.beq_refl e.1]
    rfl
  | x :: a, e, l, h => by
    have hlt := sm_lin_lt (a ++ e :: l) x h e (by simp)
    show sm_from (x :: (a ++ e :: l)) e.1 = _
    unfold sm_from
    rw [show Nat.beq x.1 e.1 = false from (by cases hb : Nat.beq x.1 e.1 with | false => rfl | true => have := Nat.eq_of_beq_eq_true hb; omega)]
    exact sm_from_app a e l (sm_lin_tl h)
theorem sm_from_none : ∀ (t : sm_T) (pc : Nat), (∀ x ∈ t, x.1 ≠ pc) → sm_from t pc = []
  | [], _, _ => rfl
  | e :: l, pc, h => by
    unfold sm_from
    rw [show Nat.beq e.1 pc = false from (by cases hb : Nat.beq e.1 pc with | false => rfl | true => exact absurd (Nat.eq_of_beq_eq_true hb) (h e List.mem_cons_self))]
    exact sm_from_none l pc fun x hx => h x (List.mem_cons_of_mem _ hx)
/-- a suffix of the code, entered at its first row -/
theorem sm_wb_iff (X : (Nat → Int32) × Nat) (i : Nat) (hl : sm_lin (sm_code i) = true) (Q : Option Value → sm_M → Prop) : ∀ (rs : sm_T), sm_sfx (sm_code i) rs → ∀ (fst : Bool) (L : sm_L) (st : sm_S) (M : sm_M),
    sm_wb X i Q rs fst L st M ↔ (match rs with | [] => False | e :: _ => sm_wp X i e.1 (bif fst then L else sm_kl i e.1 L) st M Q) := by
  intro rs
  induction rs with
  | nil => intro _ fst L st M; exact Iff.rfl
  | cons e rs ih =>
    intro hs fst L st M
    obtain ⟨pc, ks, r⟩ := e
    obtain ⟨a, ha⟩ := hs
    have hfrom : sm_from (sm_code i) pc = (pc, ks, r) :: rs := by
      rw [ha] at hl ⊢
      exact sm_from_app a (pc, ks, r) rs hl
    have hkl : sm_kl i pc L = sm_kill ks L := by unfold sm_kl; rw [hfrom]
    have hs' : sm_sfx (sm_code i) rs := ⟨a ++ [(pc, ks, r)], by rw [ha]; simp⟩
    have hlin : sm_lin ((pc, ks, r) :: rs) = true := sm_lin_app (a := a) (by rw [← ha]; exact hl)
    have nxt : ∀ (L' : sm_L) (st' : sm_S) (M' : sm_M), sm_wb X i Q rs false L' st' M' ↔ sm_wp X i (pc + r.2.1) (sm_kl i (pc + r.2.1) L') st' M' Q := by
      intro L' st' M'
      rw [ih hs' false L' st' M']
      cases rs with
      | nil =>
        simp only [false_iff]
        rintro ⟨n, v, M1, e, -⟩
        have h0 : sm_from (sm_code i) (pc + r.2.1) = [] := by
          have h1 : 1 ≤ r.2.1 := Nat.le_of_ble_eq_true hlin
          have hle : ∀ x ∈ sm_code i, x.1 ≤ pc := by
            rw [ha]
            intro x hx
            rcases List.mem_append.mp hx with h | h
            · obtain ⟨b, c, hbc⟩ := List.append_of_mem h
              have hl2 : sm_lin (x :: (c ++ [(pc, ks, r)])) = true := by
                refine sm_lin_app (a := b) ?_
                have : b ++ (x :: (c ++ [(pc, ks, r)])) = a ++ [(pc, ks, r)] := by rw [hbc]; simp
                rw [this, ← ha]; exact hl
              have := sm_lin_lt _ x hl2 (pc, ks, r) (by simp)
              exact Nat.le_of_lt this
            · have : x = (pc, ks, r) := by simpa using h
              rw [this]
              exact Nat.le_refl _
          exact sm_from_none _ _ fun x hx hz => by have := hle x hx; omega
        cases n with
        | zero => cases e
        | succ n =>
          have e : sm_body X (sm_run X n) i (pc + r.2.1) (sm_kl i (pc + r.2.1) L') st' M' = some (v, M1) := e
          unfold sm_body at e
          rw [h0] at e
          cases e
      | cons e2 rs2 =>
        simp only [sm_lin, Bool.and_eq_true] at hlin
        have h1 : e2.1 = pc + r.2.1 := Nat.eq_of_beq_eq_true hlin.1
        simp only [cond_false, h1]
    unfold sm_wb
    cases hb : (fst || ks.isEmpty) with
    | false =>
      simp only [Bool.or_eq_false_iff] at hb
      simp only [cond_false, hb.1]
      rw [hkl]
    | true =>
      simp only [cond_true]
      have hL : (bif fst then L else sm_kl i pc L) = L := by
        cases fst with
        | true => rfl
        | false =>
          simp only [Bool.false_or] at hb
          have : ks = [] := List.isEmpty_iff.mp hb
          rw [hkl, this]
          rfl
      simp only [hL]
      rw [sm_wp_step X hfrom]
      cases hst : sm_step X r L st M with
      | none => simp
      | some o =>
        simp only [Option.some.injEq, exists_eq_left']
        rcases o with ⟨L', st', M'⟩ | ⟨c, L', st', M'⟩ | ⟨c, t, L', st'⟩ | ⟨t, L', st'⟩ | ⟨x, l, d, L', st'⟩ | ⟨j, as, L', st'⟩ | ⟨c, v⟩
        · exact nxt _ _ _
        · exact and_congr_right fun _ => nxt _ _ _
        · simp only [sm_wo]
          by_cases hc : c.1
          · rw [if_pos hc, if_pos hc]
          · rw [if_neg hc, if_neg hc]; exact nxt _ _ _
        · exact Iff.rfl
        · simp only [sm_wo]
          rw [sm_swp_eq]
        · simp only [sm_wo]
          cases Nat.ble 900 j with
          | true =>
            simp only [cond_true]
            cases sm_prim j as M with
            | none => exact Iff.rfl
            | some z => exact and_congr_right fun _ => nxt _ _ _
          | false => exact Iff.rfl
        · exact Iff.rfl
theorem sm_blk (X : (Nat → Int32) × Nat) (i pc : Nat) (hl : sm_lin (sm_code i) = true) {e : Nat × List Bool × sm_R} {rs : sm_T} (hf : sm_from (sm_code i) pc = e :: rs) (he : e.1 = pc) (L : sm_L) (st : sm_S) (M : sm_M) (Q : Option Value → sm_M → Prop) :
    sm_wp X i pc L st M Q = sm_wb X i Q (sm_from (sm_code i) pc) true L st M := by
  have h := sm_wb_iff X i hl Q (sm_from (sm_code i) pc) (sm_from_sfx _ _) true L st M
  rw [hf] at h ⊢
  simp only [cond_true, he] at h
  exact propext h.symm
