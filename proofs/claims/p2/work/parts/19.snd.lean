/-! Every run of the shadow is a run of the machine. -/
/-- the calls that aren't walked -/
def sn_prims (l : Launch) (X : (Nat → Int32) × Nat) (D : va_G) (cA : Nat → ClassId) (b sa : Nat) (ZS : Nat → (Nat → Prop) → State → Prop) : Prop := ∀ (p : Program) (e : Env) (R : Room) (s : State) (m : MethodId) (args : Array Value) (below : List Frame) (meth : Method) (c : Code) (Q : State → Prop) (A : Nat → Prop) (z0 w0 : Nat) (ad0 : Nat → Nat) (n0 i pc : Nat) (L : sm_L) (M M1 : sm_M) (j : Nat) (as rest : List Value) (c0 : sm_C) (v : Option Value),
  sn_C p R s m args meth c D cA A X b ZS i → sn_cf i pc j as rest M → 900 ≤ j → sm_prim j as M = some (c0, v, M1) → c0.1 → cz M1 ≤ z0 + R.cells → sz M1 ≤ w0 + R.slots → sn_J p l e R s m args below meth c Q D cA b sa A z0 w0 ad0 n0 i (pc + 3) L (v.toList ++ rest) M1 → sn_J p l e R s m args below meth c Q D cA b sa A z0 w0 ad0 n0 i pc L (as.reverse ++ rest) M
theorem sm_from_hd : ∀ (t : sm_T) (pc : Nat) (e : Nat × List Bool × sm_R) (l : sm_T), sm_from t pc = e :: l → e.1 = pc
  | [], _, _, _, h => by cases h
  | x :: t, pc, e, l, h => by
    unfold sm_from at h
    cases hb : Nat.beq x.1 pc with
    | true => rw [hb] at h; cases h; exact Nat.eq_of_beq_eq_true hb
    | false => rw [hb] at h; exact sm_from_hd t pc e l h
theorem zip_all {α β : Type} {l : List α} {q : List β} (hl : q.length = l.length) {f : α × β → Bool} (h : (l.zip q).all f = true) {a t : List α} {x : α} (e : l = a ++ x :: t) : ∃ y, f (x, y) = true := by
  have hk : l[a.length]? = some x := by rw [e]; simp
  have hkl : a.length < l.length := (List.getElem?_eq_some_iff.mp hk).1
  obtain ⟨y, hy⟩ : ∃ y, q[a.length]? = some y := ⟨_, List.getElem?_eq_getElem (by rw [hl]; exact hkl)⟩
  have hz : (x, y) ∈ l.zip q := by
    refine List.mem_of_getElem? (i := a.length) ?_
    rw [List.getElem?_zip_eq_some]
    exact ⟨hk, hy⟩
  exact ⟨y, List.all_eq_true.mp h _ hz⟩
theorem lkm_spec {i : Nat} (h : lkm i = true) : (sm_pos i).length = (sm_code i).length ∧ ((sm_code i).zip (sm_pos i)).all (fun e => lkb i e.1.1 e.1.2.2 e.2) = true := by
  unfold lkm at h
  generalize sm_code i = cd at h ⊢
  generalize sm_pos i = ps at h ⊢
  rw [Bool.and_eq_true] at h
  exact ⟨of_decide_eq_true h.1, h.2⟩
theorem lk_at {i pc : Nat} {ks : List Bool} {r : sm_R} {t : sm_T} (hi : i < 316) (h5 : i ≠ 205) (h : sm_from (sm_code i) pc = (pc, ks, r) :: t) : ∃ pp, lkb i pc r pp = true := by
  have hm := lkm_spec ((lkm_all i hi).resolve_left h5)
  obtain ⟨a, ha⟩ := sm_from_sfx (sm_code i) pc
  rw [h] at ha
  obtain ⟨y, hy⟩ := zip_all (f := fun e => lkb i e.1.1 e.1.2.2 e.2) hm.1 hm.2 ha
  exact ⟨y, hy⟩
set_option maxHeartbeats 4000000 in
theorem snd {l : Launch} {X : (Nat → Int32) × Nat} {D : va_G} {cA : Nat → ClassId} {b sa : Nat} {ZS : Nat → (Nat → Prop) → State → Prop} (hcl : sn_Zcl ZS) (hldc : sn_ldcs l X D cA b sa ZS) (hprim : sn_prims l X D cA b sa ZS) : ∀ n, sn_IH l X D cA b sa ZS n := by
  intro n
  induction n with
  | zero => intro i pc L st M v M' h; cases h
  | succ n ih =>
    intro i pc L st M v M' h hi h5 p e R s m args below meth c Q A z0 w0 ad0 n0 C hfc hfs RH
    have gr := sm_run_gr X n
    have h : sm_body X (sm_run X n) i pc L st M = some (v, M') := h
    unfold sm_body at h
    cases hc : sm_from (sm_code i) pc with
    | nil => rw [hc] at h; cases h
    | cons z t =>
      obtain ⟨pc0, ks, r⟩ := z
      have hpc : pc0 = pc := sm_from_hd _ _ _ _ hc
      subst hpc
      obtain ⟨pp, hlk⟩ := lk_at hi h5 hc
      rw [hc] at h
      simp only at h
      cases hs : sm_step X r L st M with
      | none => rw [hs] at h; cases h
      | some o =>
        rw [hs] at h
        simp only at h
        obtain ⟨q, len, a, bb, cd, k0, kl, sw⟩ := r
        refine sn_disp C hldc hs hlk ?_
        have go : ∀ {i2 pc2 : Nat} {L2 : sm_L} {st2 : sm_S} {M2 : sm_M}, i2 = i → sm_run X n i2 pc2 (sm_kl i2 pc2 L2) st2 M2 = some (v, M') → sn_J p l e R s m args below meth c Q D cA b sa A z0 w0 ad0 n0 i pc2 L2 st2 M2 := by
          intro i2 pc2 L2 st2 M2 e2 h2
          subst e2
          exact sj_kill (ih i2 pc2 _ st2 M2 v M' h2 hi h5 p e R s m args below meth c Q A z0 w0 ad0 n0 C hfc hfs RH)
        rcases o with ⟨L', st', M1⟩ | ⟨c0, L', st', M1⟩ | ⟨c0, t, L', st'⟩ | ⟨t, L', st'⟩ | ⟨x, sl, d, L', st'⟩ | ⟨j, as, L', rest⟩ | ⟨c0, w⟩
        · have g := gr _ _ _ _ _ _ _ h
          exact ⟨⟨Nat.le_trans g.1 hfc, Nat.le_trans g.2 hfs⟩, go rfl h⟩
        · simp only [sm_act] at h
          split at h
          · rename_i h0; exact ⟨h0, go rfl h⟩
          · cases h
        · simp only [sm_act] at h
          split at h
          · rename_i h0; exact ⟨fun _ => go rfl h, fun hn => absurd h0 hn⟩
          · rename_i h0; exact ⟨fun hn => absurd hn h0, fun _ => go rfl h⟩
        · exact go rfl h
        · exact go rfl h
        · intro hcf
          have hlen3 : len = 3 := by
            obtain ⟨-, -, nn, cd', ix, -, hk⟩ := hcf
            have hdq : decode (mb i) pc0 = .ok (q, len) := by
              unfold lkb at hlk
              simp only [Bool.and_eq_true, decide_eq_true_eq] at hlk
              exact hlk.1
            rcases hk with ⟨-, -, -, ⟨-, hk⟩ | ⟨-, hk⟩⟩ | ⟨-, ⟨-, hk, -⟩ | ⟨-, hk, -⟩ | ⟨-, hk, -⟩ | ⟨-, hk, -⟩⟩ <;> (rw [hdq] at hk; cases hk; rfl)
          subst hlen3
          simp only [sm_act] at h
          cases hb : Nat.ble 900 j with
          | true =>
            rw [hb] at h
            simp only [cond_true] at h
            cases hp : sm_prim j as M with
            | none => rw [hp] at h; cases h
            | some z =>
              obtain ⟨c0, w, M1⟩ := z
              rw [hp] at h
              simp only at h
              split at h
              · rename_i h0
                have g := gr _ _ _ _ _ _ _ h
                exact hprim p e R s m args below meth c Q A z0 w0 ad0 n0 i pc0 L' M M1 j as rest c0 w C hcf (Nat.le_of_ble_eq_true hb) hp h0 (Nat.le_trans g.1 hfc) (Nat.le_trans g.2 hfs) (go rfl h)
              · cases h
          | false =>
            rw [hb] at h
            simp only [cond_false] at h
            cases hp : sm_run X n j 0 (sm_en j as) [] M with
            | none => rw [hp] at h; cases h
            | some z =>
              obtain ⟨w, M1⟩ := z
              rw [hp] at h
              have g1 := gr _ _ _ _ _ _ _ hp
              have g := gr _ _ _ _ _ _ _ h
              obtain ⟨hc8, hce, nn, cd', ix, hln, hk⟩ := hcf
              rcases hk with ⟨h900, -⟩ | ⟨hkc, hkind⟩
              · rw [show Nat.ble 900 j = true from Nat.ble_eq_true_of_le h900] at hb; cases hb
              · have hkc' := hkc
                simp only [kc, Bool.and_eq_true, decide_eq_true_eq, Bool.or_eq_true] at hkc'
                obtain ⟨⟨⟨⟨hj, hj5⟩, -⟩, -⟩, -⟩ := hkc'
                exact sj_call (pp := 0) hcl C ih hp g1.1 g1.2 (Nat.le_trans g.1 hfc) (Nat.le_trans g.2 hfs) hj hj5 (lkw_all j (by omega) hj) (cw_all j (by omega)) hc8 hce hln hkc hkind (go rfl h)
        · simp only [sm_act] at h
          split at h
          · rename_i h0
            cases h
            exact ⟨h0, fun L' hrt => RH pc0 L' hrt⟩
          · cases h
