section
/-! Memory: fields, arrays, new cells. -/
def kind_ref : FieldType → Bool
  | .object _ => true
  | .array _ => true
  | _ => false
def cl_tyk (a j : Nat) : FieldType := (cl_ty.getD a ty_0) j
def tyc (c : Nat) (ty : FieldType) : Bool := match c with
  | 0 => decide (ty = .int)
  | 1 => decide (ty = .boolean)
  | 2 => decide (ty = .long)
  | _ => kind_ref ty
/-- the classes' rows -/
theorem cl_chk : (List.range 13).all (fun a => decide ((u_ws (cl_at a).1 (cl_at a).2.1 (cl_at a).2.2).length = (cl_lp.getD a []).length) && ((u_ws (cl_at a).1 (cl_at a).2.1 (cl_at a).2.2).zip (cl_lp.getD a [])).all (fun e => wi e.2 e.1)) = true := by decide +kernel
theorem cl_chk2 : (List.range 13).all (fun a => (List.range (cl_at a).2.2).all (fun j => tyc (fct a j) (cl_tyk a j))) = true := by decide +kernel
theorem cl_in {a : Nat} (h : a < 13) : ∀ w ∈ u_ws (cl_at a).1 (cl_at a).2.1 (cl_at a).2.2, w ∈ uw := by
  have h1 := List.all_eq_true.mp cl_chk a (List.mem_range.mpr h)
  simp only [Bool.and_eq_true, decide_eq_true_eq] at h1
  intro w hw
  obtain ⟨k, hk⟩ := List.getElem?_of_mem hw
  have hkl : k < (u_ws (cl_at a).1 (cl_at a).2.1 (cl_at a).2.2).length := (List.getElem?_eq_some_iff.mp hk).1
  obtain ⟨q, hq⟩ : ∃ q, (cl_lp.getD a [])[k]? = some q := ⟨_, List.getElem?_eq_getElem (by rw [← h1.1]; exact hkl)⟩
  have hz : (w, q) ∈ (u_ws (cl_at a).1 (cl_at a).2.1 (cl_at a).2.2).zip (cl_lp.getD a []) := by
    refine List.mem_of_getElem? (i := k) ?_
    rw [List.getElem?_zip_eq_some]
    exact ⟨hk, hq⟩
  exact wi_in (List.all_eq_true.mp h1.2 _ hz)
theorem cl_get {a : Nat} (h : a < 13) : cl_all[a]? = some ((cl_at a).1, (cl_at a).2.1, (cl_at a).2.2) := by
  have hl : a < cl_all.length := h
  show cl_all[a]? = some (cl_at a)
  unfold cl_at
  rw [List.getElem?_eq_getElem hl]
  simp [List.getD, List.getElem?_eq_getElem hl]
theorem cl_tyok {a j : Nat} (h : a < 13) (hj : j < (cl_at a).2.2) : tyc (fct a j) (cl_tyk a j) = true := List.all_eq_true.mp (List.all_eq_true.mp cl_chk2 a (List.mem_range.mpr h)) j (List.mem_range.mpr hj)
theorem cl_13 {P : Nat → Prop} (h0 : P 0) (h1 : P 1) (h2 : P 2) (h3 : P 3) (h4 : P 4) (h5 : P 5) (h6 : P 6) (h7 : P 7) (h8 : P 8) (h9 : P 9) (h10 : P 10) (h11 : P 11) (h12 : P 12) {a : Nat} (h : a < 13) : P a := by
  match a, h with
  | 0, _ => exact h0
  | 1, _ => exact h1
  | 2, _ => exact h2
  | 3, _ => exact h3
  | 4, _ => exact h4
  | 5, _ => exact h5
  | 6, _ => exact h6
  | 7, _ => exact h7
  | 8, _ => exact h8
  | 9, _ => exact h9
  | 10, _ => exact h10
  | 11, _ => exact h11
  | 12, _ => exact h12
  | n + 13, h => omega
theorem cl_desc {a : Nat} (h : a < 13) : ∀ k, k < (cl_at a).2.2 → parseFieldDescriptor ((cl_at a).2.1 k).2.2.1 = some (cl_tyk a k) :=
  cl_13 (P := fun a => ∀ k, k < (cl_at a).2.2 → parseFieldDescriptor ((cl_at a).2.1 k).2.2.1 = some (cl_tyk a k)) tyk_0 tyk_1 tyk_2 tyk_3 tyk_4 tyk_5 tyk_6 tyk_7 tyk_8 tyk_9 tyk_10 tyk_11 tyk_12 h
theorem cl_nm {a : Nat} (h : a < 13) : ∀ x, x < (cl_at a).2.2 → ∀ y, y < (cl_at a).2.2 → x ≠ y → ((cl_at a).2.1 x).2.1 ≠ ((cl_at a).2.1 y).2.1 :=
  cl_13 (P := fun a => ∀ x, x < (cl_at a).2.2 → ∀ y, y < (cl_at a).2.2 → x ≠ y → ((cl_at a).2.1 x).2.1 ≠ ((cl_at a).2.1 y).2.1) nm_0 nm_1 nm_2 nm_3 nm_4 nm_5 nm_6 nm_7 nm_8 nm_9 nm_10 nm_11 nm_12 h
theorem kf_spec {i a b c p ix : Nat} (h : kf i a b c p ix = true) : a < 13 ∧ b < (cl_at a).2.2 ∧ Cond.fieldLink (my i).cls ix ((cl_at a).2.1 b).1 ((cl_at a).2.1 b).2.1 ((cl_at a).2.1 b).2.2.1 ∈ uw ∧ fct a b = c := by
  simp only [kf, Bool.and_eq_true, decide_eq_true_eq] at h
  exact ⟨h.1.1.1, h.1.1.2, wi_in h.1.2, h.2⟩
theorem sn_obj {cA : Nat → ClassId} {ad : Nat → Nat} {b sa : Nat} {M : sm_M} {o a : Nat} (hM : sn_ok M) (ha : a < 13) (hk : Nat.beq (sm_kd M.1 o).1 a = true) :
    o < M.1.length ∧ (sm_kd M.1 o).2 = (cl_at a).2.2 ∧ (sm_rw M.2.2.2.2 o).length = (cl_at a).2.2 ∧ (sn_W cA ad b sa M)[o]? = some (ad o, .inr (a, (List.range (cl_at a).2.2).map (fun j => cv ad b sa (sm_fv (fct a j) M o j)))) := by
  have e : (sm_kd M.1 o).1 = a := Nat.eq_of_beq_eq_true hk
  have ho : o < M.1.length := by
    rcases Nat.lt_or_ge o M.1.length with h | h
    · exact h
    · rw [sm_kd_out _ _ h] at e; omega
  rcases hM.2.1 o ho with ⟨h1, h2, h3⟩ | ⟨h1, h2⟩
  · rw [e] at h2
    refine ⟨ho, h2, h3.trans h2, ?_⟩
    rw [sn_at ho]
    unfold sn_e
    rw [show Nat.ble 100 (sm_kd M.1 o).1 = false from (by rw [e]; cases hb : Nat.ble 100 a with | false => rfl | true => have := Nat.le_of_ble_eq_true hb; omega)]
    simp only [cond_false, e, h2]
  · omega
theorem sn_W_set {cA : Nat → ClassId} {ad : Nat → Nat} {b sa : Nat} {M M' : sm_M} {o : Nat} {e' : va_E} (hK : M'.1 = M.1) (hne : ∀ k, k < M.1.length → k ≠ o → sn_e cA ad b sa M' k (sm_kd M.1 k) = sn_e cA ad b sa M k (sm_kd M.1 k)) (he : sn_e cA ad b sa M' o (sm_kd M.1 o) = e') :
    sn_W cA ad b sa M' = (sn_W cA ad b sa M).set o (ad o, e') := by
  refine List.ext_getElem? fun k => ?_
  by_cases hk : k < M.1.length
  · rw [sn_at (by rw [hK]; exact hk), hK]
    by_cases hko : k = o
    · subst hko
      rw [List.getElem?_set_self (by rw [sn_len]; exact hk), he]
    · rw [List.getElem?_set_ne (Ne.symm hko), sn_at hk, hne k hk hko]
  · rw [List.getElem?_eq_none (by rw [sn_len, hK]; omega), List.getElem?_eq_none (by rw [List.length_set, sn_len]; omega)]
theorem map_range_set {α : Type} {n k : Nat} {f g : Nat → α} {v : α} (hk : g k = v) (hne : ∀ j, j < n → j ≠ k → g j = f j) : (List.range n).map g = ((List.range n).map f).set k v := by
  refine List.ext_getElem? fun j => ?_
  by_cases hj : j < n
  · by_cases hjk : j = k
    · subst hjk
      rw [List.getElem?_set_self (by simpa using hj)]
      simp [hj, hk]
    · rw [List.getElem?_set_ne (Ne.symm hjk)]
      simp [hj, hne j hj hjk]
  · rw [List.getElem?_eq_none (by simp; omega), List.getElem?_eq_none (by simp; omega)]
section SN2
variable {p : Program} {l : Launch} {e : Env} {R : Room} {s : State} {m : MethodId} {args : Array Value} {below : List Frame} {meth : Method} {c : Code} {Q : State → Prop} {D : va_G} {cA : Nat → ClassId} {b sa : Nat} {A : Nat → Prop} {z0 w0 : Nat} {ad0 : Nat → Nat} {n0 : Nat} {i pc : Nat} {X : (Nat → Int32) × Nat} {L : sm_L} {st : sm_S} {M : sm_M}
variable {ZS : Nat → (Nat → Prop) → State → Prop}
theorem sj_get (C : sn_C p R s m args meth c D cA A X b ZS i) {ix a f cd pp o : Nat} (hd : decode (mb i) pc = .ok (.getfield ix, 3)) (hf : kf i a f cd pp ix = true) (hk : Nat.beq (sm_kd M.1 o).1 a = true) (k : sn_J p l e R s m args below meth c Q D cA b sa A z0 w0 ad0 n0 i (pc + 3) L (sm_fv cd M o f :: st) M) : sn_J p l e R s m args below meth c Q D cA b sa A z0 w0 ad0 n0 i pc L (.ref o :: st) M := by
  obtain ⟨hx, hb, hr0, hlk, hml, hown, hmn, hts, hK, hA, hZ, hfr, hlo⟩ := C
  intro ad ls H locs cells slots h1 h2 hr
  obtain ⟨ha, hfN, hlink, hc⟩ := kf_spec hf
  obtain ⟨ho, -, -, hat⟩ := sn_obj (cA := cA) (ad := ad) (b := b) (sa := sa) hr.2.2.2.1 ha hk
  refine va_get (D := D) (ci := a) (v := cv ad b sa (sm_fv cd M o f)) (C := (cl_at a).1) (T := (cl_at a).2.1) (N := (cl_at a).2.2) hx hb hts (cl_in ha) hown hK hr.2.2.2.2.1 o hat (cl_get ha) f hfN (hts _ hlink) (fun _ h9 => h9) ?_ hd ?_
  · simp [hfN, hc]
  · exact k ad ls H locs cells slots h1 h2 (hr.stk (vs_c (sn_fv_ok hr.2.2.2.1 _ _ _) (vs_t hr.2.2.1)))
/-- a field is written: what the three kinds of fields have in common -/
theorem sj_put0 (C : sn_C p R s m args meth c D cA A X b ZS i) {ix a f cd pp o : Nat} {v : Value} {M' : sm_M} (hd : decode (mb i) pc = .ok (.putfield ix, 3)) (hf : kf i a f cd pp ix = true) (hfin : (!((cl_at a).2.1 f).2.2.2 || (decide ((my i).name = "<init>") && decide (((cl_at a).2.1 f).1 = (my i).cls))) = true) (hk : Nat.beq (sm_kd M.1 o).1 a = true)
    (hn : ∀ ad, narrow (cl_tyk a f) (cv ad b sa v) = cv ad b sa v) (hfit : ∀ ad, fits (cl_tyk a f) (cv ad b sa v) = true) (hM1 : M'.1 = M.1) (hM2 : M'.2.1 = M.2.1) (hok : sn_ok M → vv M.1.length v → sn_ok M') (hoth : ∀ j, j ≠ o → (∀ t, sm_fv t M' j = sm_fv t M j) ∧ M'.2.2.1 j = M.2.2.1 j ∧ M'.2.2.2.1 j = M.2.2.2.1 j) (hsame : ∀ j, j < (cl_at a).2.2 → j ≠ f → sm_fv (fct a j) M' o j = sm_fv (fct a j) M o j) (hself : (sm_rw M.2.2.2.2 o).length = (cl_at a).2.2 → o < M.2.2.2.2.length → sm_fv cd M' o f = v)
    (k : sn_J p l e R s m args below meth c Q D cA b sa A z0 w0 ad0 n0 i (pc + 3) L st M') : sn_J p l e R s m args below meth c Q D cA b sa A z0 w0 ad0 n0 i pc L (v :: .ref o :: st) M := by
  obtain ⟨hx, hb, hr0, hlk, hml, hown, hmn, hts, hK, hA, hZ, hfr, hlo⟩ := C
  intro ad ls H locs cells slots h1 h2 hr
  obtain ⟨ha, hfN, hlink, hc⟩ := kf_spec hf
  have hM := hr.2.2.2.1
  obtain ⟨ho, hN, hrl, hat⟩ := sn_obj (cA := cA) (ad := ad) (b := b) (sa := sa) hM ha hk
  have eo : (sm_kd M.1 o).1 = a := Nat.eq_of_beq_eq_true hk
  have hbl : Nat.ble 100 a = false := by cases hb : Nat.ble 100 a with | false => rfl | true => have := Nat.le_of_ble_eq_true hb; omega
  have hW : sn_W cA ad b sa M' = (sn_W cA ad b sa M).set o (ad o, .inr (a, ((List.range (cl_at a).2.2).map (fun j => cv ad b sa (sm_fv (fct a j) M o j))).set f (cv ad b sa v))) := by
    refine sn_W_set hM1 (fun j _ hj => ?_) ?_
    · obtain ⟨q1, q2, q3⟩ := hoth j hj
      unfold sn_e
      rw [q2, q3]
      simp only [q1]
    · unfold sn_e
      rw [eo, hbl]
      simp only [cond_false, hN]
      congr 2
      refine map_range_set ?_ fun j hj hjf => ?_
      · rw [hc, hself hrl (by rw [hM.1]; exact ho)]
      · rw [hsame j hj hjf]
  have kk : ∀ (H1 : Heap) (locs1 : List Loc), va_P D cl_all ((sn_W cA ad b sa M).set o (ad o, .inr (a, ((List.range (cl_at a).2.2).map (fun j => cv ad b sa (sm_fv (fct a j) M o j))).set f (cv ad b sa v)))) H1 → va_D A ((sn_W cA ad b sa M).set o (ad o, .inr (a, ((List.range (cl_at a).2.2).map (fun j => cv ad b sa (sm_fv (fct a j) M o j))).set f (cv ad b sa v)))) → va_S A s.heap H1 locs1 → W p l e R s m args below meth c H1 locs1 cells slots Q (F0 m (pc + 3) ls (st.map (cv ad b sa))) := by
    intro H1 locs1 hP1 hD1 hS1
    rw [← hW] at hP1 hD1
    exact k ad ls H1 locs1 cells slots (by unfold sn_cn cz at h1 ⊢; rw [hM1, hM2]; exact h1) (by unfold sz at h2 ⊢; rw [hM1, hM2]; exact h2) ⟨hr.1, by rw [hM1]; exact hr.2.1, by rw [hM1]; exact vs_t (vs_t hr.2.2.1), hok hM (vs_h hr.2.2.1), hP1, hD1, hS1⟩
  have hll : f < ((List.range (cl_at a).2.2).map (fun j => cv ad b sa (sm_fv (fct a j) M o j))).length := by simpa using hfN
  cases hfb : ((cl_at a).2.1 f).2.2.2 with
  | false => exact va_put (D := D) (ci := a) (ty := cl_tyk a f) (C := (cl_at a).1) (T := (cl_at a).2.1) (N := (cl_at a).2.2) hx hb hts (cl_in ha) (cl_tyk a) (cl_desc ha) (cl_nm ha) hown hK hr.2.2.2.2.1 hr.2.2.2.2.2.1 hr.2.2.2.2.2.2 o hat (cl_get ha) f hfN (hts _ hlink) (fun _ h9 => h9) hfb (cl_desc ha f hfN) (hn ad) (hfit ad) hll hd kk
  | true =>
    rw [hfb] at hfin
    simp only [Bool.not_true, Bool.false_or, Bool.and_eq_true, decide_eq_true_eq] at hfin
    exact va_putF (D := D) (ci := a) (ty := cl_tyk a f) (C := (cl_at a).1) (T := (cl_at a).2.1) (N := (cl_at a).2.2) hx hb hts (cl_in ha) (cl_tyk a) (cl_desc ha) (cl_nm ha) hown hK hr.2.2.2.2.1 hr.2.2.2.2.2.1 hr.2.2.2.2.2.2 o hat (cl_get ha) f hfN (hts _ hlink) (fun _ h9 => h9) hfb (hmn.trans hfin.1) hfin.2 (cl_desc ha f hfN) (hn ad) (hfit ad) hll hd kk
end SN2
end
section
/-! Memory, continued: the kinds of fields; arrays; new cells. -/
theorem up2_at {α : Type} {I : Nat → Nat → α} {a k : Nat} {v : α} {j : Nat} : up2 I a k v a j = if j = k then v else I a j := by rw [up2_self]; rfl
theorem sn_ok_I {M : sm_M} {o f : Nat} {x : Int32} (h : sn_ok M) (ho : o < M.1.length) : sn_ok (M.1, M.2.1, up2 M.2.2.1 o f x, M.2.2.2.1, M.2.2.2.2) := by
  refine ⟨h.1, h.2.1, h.2.2.1, fun k hk j => ⟨?_, (h.2.2.2 k hk j).2⟩⟩
  show up2 M.2.2.1 o f x k j = 0
  have hk : M.1.length ≤ k := hk
  rw [up2_ne (by omega)]
  exact (h.2.2.2 k hk j).1
theorem sn_ok_J {M : sm_M} {o f : Nat} {x : Int64} (h : sn_ok M) (ho : o < M.1.length) : sn_ok (M.1, M.2.1, M.2.2.1, up2 M.2.2.2.1 o f x, M.2.2.2.2) := by
  refine ⟨h.1, h.2.1, h.2.2.1, fun k hk j => ⟨(h.2.2.2 k hk j).1, ?_⟩⟩
  show up2 M.2.2.2.1 o f x k j = 0
  have hk : M.1.length ≤ k := hk
  rw [up2_ne (by omega)]
  exact (h.2.2.2 k hk j).2
theorem sn_len_in {K : List (Nat × Nat)} {t o : Nat} {j : Int32} (h : vp_in j (sm_len K t o)) (ht : t ≠ 99) : o < K.length ∧ (sm_kd K o).1 = t ∧ sm_len K t o = (sm_kd K o).2 := by
  unfold sm_len at h ⊢
  cases hb : Nat.beq (sm_kd K o).1 t with
  | false => rw [hb] at h; exact absurd (Or.inr (Nat.zero_le _)) h
  | true =>
    have e : (sm_kd K o).1 = t := Nat.eq_of_beq_eq_true hb
    refine ⟨?_, e, rfl⟩
    rcases Nat.lt_or_ge o K.length with h1 | h1
    · exact h1
    · rw [sm_kd_out _ _ h1] at e; exact absurd e.symm ht
theorem sn_arr {cA : Nat → ClassId} {ad : Nat → Nat} {b sa : Nat} {M : sm_M} {o t : Nat} (ho : o < M.1.length) (e : (sm_kd M.1 o).1 = t) (ht : 100 ≤ t) (h3 : t ≠ 103) : (sn_W cA ad b sa M)[o]? = some (ad o, .inl (cA t, (sm_kd M.1 o).2, .inl (M.2.2.1 o))) := by
  rw [sn_at ho]
  unfold sn_e
  rw [e, show Nat.ble 100 t = true from Nat.ble_eq_true_of_le ht, show Nat.beq t 103 = false from (by cases hb : Nat.beq t 103 with | false => rfl | true => exact absurd (Nat.eq_of_beq_eq_true hb) h3)]
  rfl
theorem sn_arrL {cA : Nat → ClassId} {ad : Nat → Nat} {b sa : Nat} {M : sm_M} {o : Nat} (ho : o < M.1.length) (e : (sm_kd M.1 o).1 = 103) : (sn_W cA ad b sa M)[o]? = some (ad o, .inl (cA 103, (sm_kd M.1 o).2, .inr (.inl (M.2.2.2.1 o)))) := by
  rw [sn_at ho]
  unfold sn_e
  rw [e]
  rfl
section SN3
variable {p : Program} {l : Launch} {e : Env} {R : Room} {s : State} {m : MethodId} {args : Array Value} {below : List Frame} {meth : Method} {c : Code} {Q : State → Prop} {D : va_G} {cA : Nat → ClassId} {b sa : Nat} {A : Nat → Prop} {z0 w0 : Nat} {ad0 : Nat → Nat} {n0 : Nat} {i pc : Nat} {X : (Nat → Int32) × Nat} {L : sm_L} {st : sm_S} {M : sm_M}
variable {ZS : Nat → (Nat → Prop) → State → Prop}
theorem sj_puti (C : sn_C p R s m args meth c D cA A X b ZS i) {ix a f cd pp o : Nat} {x : Int32} (hd : decode (mb i) pc = .ok (.putfield ix, 3)) (hf : kf i a f cd pp ix = true) (hfin : (!((cl_at a).2.1 f).2.2.2 || (decide ((my i).name = "<init>") && decide (((cl_at a).2.1 f).1 = (my i).cls))) = true) (hk : Nat.beq (sm_kd M.1 o).1 a = true)
    (hcd : cd = 0 ∨ (cd = 1 ∧ sm_zb x)) (k : sn_J p l e R s m args below meth c Q D cA b sa A z0 w0 ad0 n0 i (pc + 3) L st (M.1, M.2.1, up2 M.2.2.1 o f x, M.2.2.2.1, M.2.2.2.2)) : sn_J p l e R s m args below meth c Q D cA b sa A z0 w0 ad0 n0 i pc L (.int x :: .ref o :: st) M := by
  obtain ⟨ha, hfN, hlink, hc⟩ := kf_spec hf
  have hty := cl_tyok ha hfN
  rw [hc] at hty
  have hnf : narrow (cl_tyk a f) (.int x) = .int x ∧ fits (cl_tyk a f) (.int x) = true := by
    rcases hcd with rfl | ⟨rfl, hz⟩
    · have : cl_tyk a f = .int := of_decide_eq_true hty
      rw [this]
      exact ⟨vp_nar_int x, rfl⟩
    · have : cl_tyk a f = .boolean := of_decide_eq_true hty
      rw [this]
      rcases hz with rfl | rfl <;> exact ⟨by decide, by decide⟩
  have hc3 : Nat.beq cd 3 = false ∧ Nat.beq cd 2 = false := by rcases hcd with rfl | ⟨rfl, -⟩ <;> exact ⟨rfl, rfl⟩
  refine sj_put0 (M' := (M.1, M.2.1, up2 M.2.2.1 o f x, M.2.2.2.1, M.2.2.2.2)) C hd hf hfin hk (fun _ => hnf.1) (fun _ => hnf.2) rfl rfl (fun h _ => sn_ok_I h (sn_obj (cA := cA) (ad := id) (b := 0) (sa := 0) h ha hk).1) (fun j hj => ⟨fun t => ?_, up2_ne hj, rfl⟩) (fun j _ hjf => ?_) (fun _ _ => ?_) k
  · funext z
    unfold sm_fv
    simp only [up2_ne hj]
  · unfold sm_fv
    simp only [up2_at, if_neg hjf]
  · unfold sm_fv
    simp only [hc3.1, hc3.2, cond_false, up2_at, if_true]
theorem sj_putl (C : sn_C p R s m args meth c D cA A X b ZS i) {ix a f pp o : Nat} {x : Int64} (hd : decode (mb i) pc = .ok (.putfield ix, 3)) (hf : kf i a f 2 pp ix = true) (hfin : (!((cl_at a).2.1 f).2.2.2 || (decide ((my i).name = "<init>") && decide (((cl_at a).2.1 f).1 = (my i).cls))) = true) (hk : Nat.beq (sm_kd M.1 o).1 a = true)
    (k : sn_J p l e R s m args below meth c Q D cA b sa A z0 w0 ad0 n0 i (pc + 3) L st (M.1, M.2.1, M.2.2.1, up2 M.2.2.2.1 o f x, M.2.2.2.2)) : sn_J p l e R s m args below meth c Q D cA b sa A z0 w0 ad0 n0 i pc L (.long x :: .ref o :: st) M := by
  obtain ⟨ha, hfN, hlink, hc⟩ := kf_spec hf
  have hty := cl_tyok ha hfN
  rw [hc] at hty
  have hnf : narrow (cl_tyk a f) (.long x) = .long x ∧ fits (cl_tyk a f) (.long x) = true := by
    have : cl_tyk a f = .long := of_decide_eq_true hty
    rw [this]
    exact ⟨rfl, rfl⟩
  refine sj_put0 (M' := (M.1, M.2.1, M.2.2.1, up2 M.2.2.2.1 o f x, M.2.2.2.2)) C hd hf hfin hk (fun _ => hnf.1) (fun _ => hnf.2) rfl rfl (fun h _ => sn_ok_J h (sn_obj (cA := cA) (ad := id) (b := 0) (sa := 0) h ha hk).1) (fun j hj => ⟨fun t => ?_, rfl, up2_ne hj⟩) (fun j _ hjf => ?_) (fun _ _ => ?_) k
  · funext z
    unfold sm_fv
    simp only [up2_ne hj]
  · unfold sm_fv
    simp only [up2_at, if_neg hjf]
  · unfold sm_fv
    simp only [show Nat.beq 2 3 = false from rfl, show Nat.beq 2 2 = true from rfl, cond_false, cond_true, up2_at, if_true]
theorem sj_putr (C : sn_C p R s m args meth c D cA A X b ZS i) {ix a f pp o : Nat} {x : Nat} (hd : decode (mb i) pc = .ok (.putfield ix, 3)) (hf : kf i a f 3 pp ix = true) (hfin : (!((cl_at a).2.1 f).2.2.2 || (decide ((my i).name = "<init>") && decide (((cl_at a).2.1 f).1 = (my i).cls))) = true) (hk : Nat.beq (sm_kd M.1 o).1 a = true)
    (k : sn_J p l e R s m args below meth c Q D cA b sa A z0 w0 ad0 n0 i (pc + 3) L st (M.1, M.2.1, M.2.2.1, M.2.2.2.1, sm_set M.2.2.2.2 o (sm_set (sm_rw M.2.2.2.2 o) f (some x)))) : sn_J p l e R s m args below meth c Q D cA b sa A z0 w0 ad0 n0 i pc L (.ref x :: .ref o :: st) M := by
  intro ad ls H locs cells slots h1 h2 hr
  obtain ⟨ha, hfN, hlink, hc⟩ := kf_spec hf
  have hty := cl_tyok ha hfN
  rw [hc] at hty
  have hkr : kind_ref (cl_tyk a f) = true := hty
  have hM := hr.2.2.2.1
  obtain ⟨ho, hN, hrl, -⟩ := sn_obj (cA := cA) (ad := id) (b := 0) (sa := 0) hM ha hk
  have hoR : o < M.2.2.2.2.length := by rw [hM.1]; exact ho
  have hnf : ∀ y, narrow (cl_tyk a f) (.ref y) = .ref y ∧ fits (cl_tyk a f) (.ref y) = true := by
    intro y
    cases ht : cl_tyk a f with
    | object _ => exact ⟨rfl, rfl⟩
    | array _ => exact ⟨rfl, rfl⟩
    | _ => rw [ht] at hkr; cases hkr
  refine sj_put0 (v := .ref x) (sa := sa) (M' := (M.1, M.2.1, M.2.2.1, M.2.2.2.1, sm_set M.2.2.2.2 o (sm_set (sm_rw M.2.2.2.2 o) f (some x)))) C hd hf hfin hk (fun ad => (hnf (ad x)).1) (fun ad => (hnf (ad x)).2) rfl rfl (fun h hv => ?_) (fun j hj => ⟨fun t => ?_, rfl, rfl⟩) (fun j hj hjf => ?_) (fun h3 h4 => ?_) k ad ls H locs cells slots h1 h2 hr
  · refine ⟨(sm_set_len _ _ _).trans h.1, fun z hz => ?_, fun z j r hz => ?_, h.2.2.2⟩
    · show _ ∨ _
      rw [show sm_rw (sm_set M.2.2.2.2 o (sm_set (sm_rw M.2.2.2.2 o) f (some x))) z = _ from sm_rw_set _ _ _ _ hoR]
      by_cases hzo : z = o
      · subst hzo
        rw [if_pos rfl, sm_set_len]
        exact h.2.1 z hz
      · rw [if_neg hzo]
        exact h.2.1 z hz
    · have hz : sm_on (sm_rw (sm_set M.2.2.2.2 o (sm_set (sm_rw M.2.2.2.2 o) f (some x))) z) j = some r := hz
      rw [sm_rw_set _ _ _ _ hoR] at hz
      by_cases hzo : z = o
      · rw [if_pos hzo, sm_on_set _ _ _ _ (by rw [hrl]; exact hfN)] at hz
        by_cases hjf : j = f
        · rw [if_pos hjf] at hz
          have : x = r := Option.some.inj hz
          exact this ▸ hv x rfl
        · rw [if_neg hjf] at hz
          exact h.2.2.1 _ _ _ hz
      · rw [if_neg hzo] at hz
        exact h.2.2.1 _ _ _ hz
  · funext z
    unfold sm_fv
    simp only [sm_rw_set _ _ _ _ hoR, if_neg hj]
  · unfold sm_fv
    simp only [sm_rw_set _ _ _ _ hoR, if_true, sm_on_set _ _ _ _ (show f < (sm_rw M.2.2.2.2 o).length by rw [hrl]; exact hfN), if_neg hjf]
  · unfold sm_fv
    simp only [show Nat.beq 3 3 = true from rfl, cond_true, sm_rw_set _ _ _ _ hoR, if_true, sm_on_set _ _ _ _ (show f < (sm_rw M.2.2.2.2 o).length by rw [hrl]; exact hfN)]
theorem sj_iald (C : sn_C p R s m args meth c D cA A X b ZS i) {o : Nat} {j : Int32} (hd : decode (mb i) pc = .ok (.iaload, 1)) (hin : vp_in j (sm_len M.1 100 o))
    (k : sn_J p l e R s m args below meth c Q D cA b sa A z0 w0 ad0 n0 i (pc + 1) L (.int (M.2.2.1 o j.toNatClampNeg) :: st) M) : sn_J p l e R s m args below meth c Q D cA b sa A z0 w0 ad0 n0 i pc L (.int j :: .ref o :: st) M := by
  obtain ⟨hx, hb, hr0, hlk, hml, hown, hmn, hts, hK, hA, hZ, hfr, hlo⟩ := C
  intro ad ls H locs cells slots h1 h2 hr
  obtain ⟨ho, ht, hn⟩ := sn_len_in hin (by decide)
  rw [hn] at hin
  exact va_iald hx hb hK hr.2.2.2.2.1 o 0 (sn_arr ho ht (by decide) (by decide)) rfl hin hd (k ad ls H locs cells slots h1 h2 (hr.stk (vs_c vv_int (vs_t (vs_t hr.2.2.1)))))
theorem sj_bald (C : sn_C p R s m args meth c D cA A X b ZS i) {o t : Nat} {j : Int32} (hd : decode (mb i) pc = .ok (.baload, 1)) (ht0 : t = 101 ∨ t = 102) (hin : vp_in j (sm_len M.1 t o))
    (k : sn_J p l e R s m args below meth c Q D cA b sa A z0 w0 ad0 n0 i (pc + 1) L (.int (M.2.2.1 o j.toNatClampNeg) :: st) M) : sn_J p l e R s m args below meth c Q D cA b sa A z0 w0 ad0 n0 i pc L (.int j :: .ref o :: st) M := by
  obtain ⟨hx, hb, hr0, hlk, hml, hown, hmn, hts, hK, hA, hZ, hfr, hlo⟩ := C
  intro ad ls H locs cells slots h1 h2 hr
  obtain ⟨ho, ht, hn⟩ := sn_len_in hin (by omega)
  rw [hn] at hin
  have kk := k ad ls H locs cells slots h1 h2 (hr.stk (vs_c vv_int (vs_t (vs_t hr.2.2.1))))
  rcases ht0 with rfl | rfl
  · exact va_zald hx hb hK hr.2.2.2.2.1 o 1 (sn_arr ho ht (by decide) (by decide)) rfl hin hd kk
  · exact va_bald hx hb hK hr.2.2.2.2.1 o 2 (sn_arr ho ht (by decide) (by decide)) rfl hin hd kk
theorem sj_lald (C : sn_C p R s m args meth c D cA A X b ZS i) {o : Nat} {j : Int32} (hd : decode (mb i) pc = .ok (.laload, 1)) (hin : vp_in j (sm_len M.1 103 o))
    (k : sn_J p l e R s m args below meth c Q D cA b sa A z0 w0 ad0 n0 i (pc + 1) L (.long (M.2.2.2.1 o j.toNatClampNeg) :: st) M) : sn_J p l e R s m args below meth c Q D cA b sa A z0 w0 ad0 n0 i pc L (.int j :: .ref o :: st) M := by
  obtain ⟨hx, hb, hr0, hlk, hml, hown, hmn, hts, hK, hA, hZ, hfr, hlo⟩ := C
  intro ad ls H locs cells slots h1 h2 hr
  obtain ⟨ho, ht, hn⟩ := sn_len_in hin (by decide)
  rw [hn] at hin
  exact va_lald hx hb hK hr.2.2.2.2.1 o 3 (sn_arrL ho ht) rfl hin hd (k ad ls H locs cells slots h1 h2 (hr.stk (vs_c vv_long (vs_t (vs_t hr.2.2.1)))))
theorem sj_sld (C : sn_C p R s m args meth c D cA A X b ZS i) {j : Int32} (hd : decode (mb i) pc = .ok (.iaload, 1)) (hin : vp_in j X.2)
    (k : sn_J p l e R s m args below meth c Q D cA b sa A z0 w0 ad0 n0 i (pc + 1) L (.int (X.1 j.toNatClampNeg) :: st) M) : sn_J p l e R s m args below meth c Q D cA b sa A z0 w0 ad0 n0 i pc L (.int j :: .retAddr 1 :: st) M := by
  obtain ⟨hx, hb, hr0, hlk, hml, hown, hmn, hts, hK, hA, hZ, hfr, hlo⟩ := C
  intro ad ls H locs cells slots h1 h2 hr
  exact va_sld hx hb hZ.1 hZ.2.1 hZ.2.2.1 hr.2.2.2.2.2.2 hin hd (k ad ls H locs cells slots h1 h2 (hr.stk (vs_c vv_int (vs_t (vs_t hr.2.2.1)))))
theorem sj_slen (C : sn_C p R s m args meth c D cA A X b ZS i) (hd : decode (mb i) pc = .ok (.arraylength, 1))
    (k : sn_J p l e R s m args below meth c Q D cA b sa A z0 w0 ad0 n0 i (pc + 1) L (.int (Int32.ofNat X.2) :: st) M) : sn_J p l e R s m args below meth c Q D cA b sa A z0 w0 ad0 n0 i pc L (.retAddr 1 :: st) M := by
  obtain ⟨hx, hb, hr0, hlk, hml, hown, hmn, hts, hK, hA, hZ, hfr, hlo⟩ := C
  intro ad ls H locs cells slots h1 h2 hr
  exact va_slen hx hb hZ.1 hZ.2.1 hZ.2.2.1 hr.2.2.2.2.2.2 hd (k ad ls H locs cells slots h1 h2 (hr.stk (vs_c vv_int (vs_t hr.2.2.1))))
theorem sj_alen (C : sn_C p R s m args meth c D cA A X b ZS i) {o t : Nat} (hd : decode (mb i) pc = .ok (.arraylength, 1)) (h100 : 100 ≤ t) (h103 : t ≤ 103) (hk : Nat.beq (sm_kd M.1 o).1 t = true)
    (k : sn_J p l e R s m args below meth c Q D cA b sa A z0 w0 ad0 n0 i (pc + 1) L (.int (Int32.ofNat (sm_kd M.1 o).2) :: st) M) : sn_J p l e R s m args below meth c Q D cA b sa A z0 w0 ad0 n0 i pc L (.ref o :: st) M := by
  obtain ⟨hx, hb, hr0, hlk, hml, hown, hmn, hts, hK, hA, hZ, hfr, hlo⟩ := C
  intro ad ls H locs cells slots h1 h2 hr
  have et : (sm_kd M.1 o).1 = t := Nat.eq_of_beq_eq_true hk
  have ho : o < M.1.length := by
    rcases Nat.lt_or_ge o M.1.length with h | h
    · exact h
    · rw [sm_kd_out _ _ h] at et; omega
  have kk := k ad ls H locs cells slots h1 h2 (hr.stk (vs_c vv_int (vs_t hr.2.2.1)))
  have h4 : t = 100 ∨ t = 101 ∨ t = 102 ∨ t = 103 := by omega
  rcases h4 with rfl | rfl | rfl | rfl
  · exact va_alen hx hb hK hr.2.2.2.2.1 o 0 (sn_arr ho et (by decide) (by decide)) rfl rfl hd kk
  · exact va_alen hx hb hK hr.2.2.2.2.1 o 1 (sn_arr ho et (by decide) (by decide)) rfl rfl hd kk
  · exact va_alen hx hb hK hr.2.2.2.2.1 o 2 (sn_arr ho et (by decide) (by decide)) rfl rfl hd kk
  · exact va_alen hx hb hK hr.2.2.2.2.1 o 3 (sn_arrL ho et) rfl rfl hd kk
/-- an element is written -/
theorem sj_ast0 (C : sn_C p R s m args meth c D cA A X b ZS i) {o t : Nat} {j x y : Int32} {q : Instr} (ht0 : (t = 100 ∧ y = x ∧ q = .iastore) ∨ (t = 101 ∧ y = vp_nar .boolean x ∧ q = .bastore) ∨ (t = 102 ∧ y = vp_nar .byte x ∧ q = .bastore)) (hd : decode (mb i) pc = .ok (q, 1)) (hin : vp_in j (sm_len M.1 t o))
    (k : sn_J p l e R s m args below meth c Q D cA b sa A z0 w0 ad0 n0 i (pc + 1) L st (M.1, M.2.1, up2 M.2.2.1 o j.toNatClampNeg y, M.2.2.2.1, M.2.2.2.2)) : sn_J p l e R s m args below meth c Q D cA b sa A z0 w0 ad0 n0 i pc L (.int x :: .int j :: .ref o :: st) M := by
  obtain ⟨hx, hb, hr0, hlk, hml, hown, hmn, hts, hK, hA, hZ, hfr, hlo⟩ := C
  intro ad ls H locs cells slots h1 h2 hr
  have hM := hr.2.2.2.1
  obtain ⟨ho, ht, hn⟩ := sn_len_in hin (by omega)
  rw [hn] at hin
  have hat := sn_arr (cA := cA) (ad := ad) (b := b) (sa := sa) ho ht (by omega) (by omega)
  have hW : sn_W cA ad b sa (M.1, M.2.1, up2 M.2.2.1 o j.toNatClampNeg y, M.2.2.2.1, M.2.2.2.2) = (sn_W cA ad b sa M).set o (ad o, .inl (cA t, (sm_kd M.1 o).2, .inl (upd (M.2.2.1 o) j.toNatClampNeg y))) := by
    refine sn_W_set rfl (fun z _ hz => ?_) ?_
    · unfold sn_e sm_fv
      simp only [up2_ne hz]
    · unfold sn_e
      rw [ht, show Nat.ble 100 t = true from Nat.ble_eq_true_of_le (by omega), show Nat.beq t 103 = false from (by cases hb : Nat.beq t 103 with | false => rfl | true => have := Nat.eq_of_beq_eq_true hb; omega)]
      simp only [cond_true, cond_false]
      rw [up2_self]
      rfl
  have kk : ∀ (H1 : Heap) (locs1 : List Loc), va_P D cl_all ((sn_W cA ad b sa M).set o (ad o, .inl (cA t, (sm_kd M.1 o).2, .inl (upd (M.2.2.1 o) j.toNatClampNeg y)))) H1 → va_D A ((sn_W cA ad b sa M).set o (ad o, .inl (cA t, (sm_kd M.1 o).2, .inl (upd (M.2.2.1 o) j.toNatClampNeg y)))) → va_S A s.heap H1 locs1 → W p l e R s m args below meth c H1 locs1 cells slots Q (F0 m (pc + 1) ls (st.map (cv ad b sa))) := by
    intro H1 locs1 hP1 hD1 hS1
    rw [← hW] at hP1 hD1
    exact k ad ls H1 locs1 cells slots h1 h2 ⟨hr.1, hr.2.1, vs_t (vs_t (vs_t hr.2.2.1)), sn_ok_I hM ho, hP1, hD1, hS1⟩
  rcases ht0 with ⟨rfl, rfl, rfl⟩ | ⟨rfl, rfl, rfl⟩ | ⟨rfl, rfl, rfl⟩
  · exact va_iast hx hb hK hr.2.2.2.2.1 hr.2.2.2.2.2.1 hr.2.2.2.2.2.2 o 0 hat rfl hin hd kk
  · exact va_zast hx hb hK hr.2.2.2.2.1 hr.2.2.2.2.2.1 hr.2.2.2.2.2.2 o 1 hat rfl hin hd kk
  · exact va_bast hx hb hK hr.2.2.2.2.1 hr.2.2.2.2.2.1 hr.2.2.2.2.2.2 o 2 hat rfl hin hd kk
theorem sj_last (C : sn_C p R s m args meth c D cA A X b ZS i) {o : Nat} {j : Int32} {x : Int64} (hd : decode (mb i) pc = .ok (.lastore, 1)) (hin : vp_in j (sm_len M.1 103 o))
    (k : sn_J p l e R s m args below meth c Q D cA b sa A z0 w0 ad0 n0 i (pc + 1) L st (M.1, M.2.1, M.2.2.1, up2 M.2.2.2.1 o j.toNatClampNeg x, M.2.2.2.2)) : sn_J p l e R s m args below meth c Q D cA b sa A z0 w0 ad0 n0 i pc L (.long x :: .int j :: .ref o :: st) M := by
  obtain ⟨hx, hb, hr0, hlk, hml, hown, hmn, hts, hK, hA, hZ, hfr, hlo⟩ := C
  intro ad ls H locs cells slots h1 h2 hr
  have hM := hr.2.2.2.1
  obtain ⟨ho, ht, hn⟩ := sn_len_in hin (by decide)
  rw [hn] at hin
  have hW : sn_W cA ad b sa (M.1, M.2.1, M.2.2.1, up2 M.2.2.2.1 o j.toNatClampNeg x, M.2.2.2.2) = (sn_W cA ad b sa M).set o (ad o, .inl (cA 103, (sm_kd M.1 o).2, .inr (.inl (vp_updL (M.2.2.2.1 o) j.toNatClampNeg x)))) := by
    refine sn_W_set rfl (fun z _ hz => ?_) ?_
    · unfold sn_e sm_fv
      simp only [up2_ne hz]
    · unfold sn_e
      rw [ht]
      simp only [show Nat.ble 100 103 = true from rfl, show Nat.beq 103 103 = true from rfl, cond_true]
      rw [up2_self]
      rfl
  refine va_last hx hb hK hr.2.2.2.2.1 hr.2.2.2.2.2.1 hr.2.2.2.2.2.2 o 3 (sn_arrL ho ht) rfl hin hd fun H1 locs1 hP1 hD1 hS1 => ?_
  rw [← hW] at hP1 hD1
  exact k ad ls H1 locs1 cells slots h1 h2 ⟨hr.1, hr.2.1, vs_t (vs_t (vs_t hr.2.2.1)), sn_ok_J hM ho, hP1, hD1, hS1⟩
end SN3
end
section
/-! New cells. -/
theorem sn_fv_app {M : sm_M} {q : Nat × Nat} {r : List (Option Nat)} (h : sn_ok M) (t k : Nat) (hk : k < M.1.length) : sm_fv t (M.1 ++ [q], M.2.1, M.2.2.1, M.2.2.2.1, M.2.2.2.2 ++ [r]) k = sm_fv t M k := by
  funext j
  unfold sm_fv
  simp only [sm_rw_app M.2.2.2.2 r k (by rw [h.1]; exact hk)]
/-- the world with one cell more -/
theorem sn_W_app {cA : Nat → ClassId} {ad : Nat → Nat} {b sa a' : Nat} {M : sm_M} {q : Nat × Nat} {r : List (Option Nat)} {e0 : va_E} (h : sn_ok M) (he : sn_e cA (va_up ad M.1.length a') b sa (M.1 ++ [q], M.2.1, M.2.2.1, M.2.2.2.1, M.2.2.2.2 ++ [r]) M.1.length q = e0) :
    sn_W cA (va_up ad M.1.length a') b sa (M.1 ++ [q], M.2.1, M.2.2.1, M.2.2.2.1, M.2.2.2.2 ++ [r]) = sn_W cA ad b sa M ++ [(a', e0)] := by
  unfold sn_W
  rw [show (M.1 ++ [q], M.2.1, M.2.2.1, M.2.2.2.1, M.2.2.2.2 ++ [r]).1.length = M.1.length + 1 by simp, List.range_succ, List.map_append, List.map_singleton]
  congr 1
  · refine List.map_congr_left fun k hk => ?_
    have hk : k < M.1.length := List.mem_range.mp hk
    have h1 : sm_kd (M.1 ++ [q]) k = sm_kd M.1 k := sm_kd_app _ _ _ hk
    have h2 : va_up ad M.1.length a' k = ad k := by simp [va_up, Nat.ne_of_lt hk]
    refine Prod.ext h2 ?_
    show sn_e cA _ b sa _ k (sm_kd (M.1 ++ [q]) k) = sn_e cA ad b sa M k (sm_kd M.1 k)
    rw [h1]
    unfold sn_e
    simp only [sn_fv_app h _ k hk]
    congr 3
    refine List.map_congr_left fun j _ => ?_
    exact cv_ext (sn_fv_ok h _ _ _) fun z hz => by simp [va_up, Nat.ne_of_lt hz]
  · have h1 : sm_kd (M.1 ++ [q]) M.1.length = q := sm_kd_new _ _
    have h2 : va_up ad M.1.length a' M.1.length = a' := by simp [va_up]
    show [(va_up ad M.1.length a' M.1.length, sn_e cA _ b sa _ M.1.length (sm_kd (M.1 ++ [q]) M.1.length))] = _
    rw [h1, h2, he]
theorem sn_ok_app {M : sm_M} {q : Nat × Nat} {r : List (Option Nat)} (h : sn_ok M) (hq : (q.1 < 13 ∧ q.2 = (cl_at q.1).2.2 ∧ r.length = q.2) ∨ (100 ≤ q.1 ∧ q.1 ≤ 103)) (hr : ∀ j, sm_on r j = none) : sn_ok (M.1 ++ [q], M.2.1, M.2.2.1, M.2.2.2.1, M.2.2.2.2 ++ [r]) := by
  refine ⟨by simp [h.1], fun k hk => ?_, fun k j x hx => ?_, fun k hk j => ?_⟩
  · have hk : k < M.1.length + 1 := by simpa using hk
    show (((sm_kd (M.1 ++ [q]) k).1 < 13 ∧ (sm_kd (M.1 ++ [q]) k).2 = _ ∧ (sm_rw (M.2.2.2.2 ++ [r]) k).length = _) ∨ _)
    by_cases hk2 : k < M.1.length
    · rw [sm_kd_app _ _ _ hk2, sm_rw_app _ _ _ (by rw [h.1]; exact hk2)]
      exact h.2.1 k hk2
    · have e : k = M.1.length := by omega
      subst e
      rw [sm_kd_new, show sm_rw (M.2.2.2.2 ++ [r]) M.1.length = r by rw [← h.1]; exact sm_rw_new _ _]
      exact hq
  · have hx : sm_on (sm_rw (M.2.2.2.2 ++ [r]) k) j = some x := hx
    show x < (M.1 ++ [q]).length
    rw [List.length_append]
    by_cases hk2 : k < M.2.2.2.2.length
    · rw [sm_rw_app _ _ _ hk2] at hx
      have := h.2.2.1 _ _ _ hx
      omega
    · by_cases hk3 : k = M.2.2.2.2.length
      · subst hk3
        rw [sm_rw_new, hr] at hx
        cases hx
      · rw [sm_rw_out _ _ (by rw [List.length_append]; simp; omega)] at hx
        cases hx
  · have hk : (M.1 ++ [q]).length ≤ k := hk
    rw [List.length_append] at hk
    exact h.2.2.2 k (by simp at hk; omega) j
theorem sn_en_ext {ad ad' : Nat → Nat} {b sa n : Nat} (he : ∀ k, k < n → ad' k = ad k) : ∀ (L : sm_L) (j : Nat), (∀ k v, sm_nth L k = some v → vv n v) → sn_en ad' b sa j L = sn_en ad b sa j L
  | [], _, _ => rfl
  | none :: l, j, h => sn_en_ext he l (j + 1) fun k v hk => h (k + 1) v hk
  | some v :: l, j, h => by
    show (j, cv ad' b sa v) :: sn_en ad' b sa (j + 1) l = (j, cv ad b sa v) :: sn_en ad b sa (j + 1) l
    rw [sn_en_ext he l (j + 1) fun k v hk => h (k + 1) v hk, cv_ext (h 0 v rfl) he]
theorem sn_st_ext {ad ad' : Nat → Nat} {b sa n : Nat} (he : ∀ k, k < n → ad' k = ad k) {st : sm_S} (h : ∀ v ∈ st, vv n v) : st.map (cv ad' b sa) = st.map (cv ad b sa) := List.map_congr_left fun v hv => cv_ext (h v hv) he
theorem sz_app {M : sm_M} {q : Nat × Nat} {r : List (Option Nat)} : sz (M.1 ++ [q], M.2.1, M.2.2.1, M.2.2.2.1, M.2.2.2.2 ++ [r]) = sz M + q.2 := by
  simp [sz]; omega
theorem cz_app {M : sm_M} {q : Nat × Nat} {r : List (Option Nat)} : cz (M.1 ++ [q], M.2.1, M.2.2.1, M.2.2.2.1, M.2.2.2.2 ++ [r]) = cz M + 1 := by
  simp [cz]; omega
theorem fct_le (a j : Nat) : fct a j ≤ 3 := by
  unfold fct fcode
  (repeat' split) <;> omega
theorem fv_default {M : sm_M} {a j n : Nat} (ha : a < 13) (hj : j < (cl_at a).2.2) (h : sn_ok M) (ad : Nat → Nat) (b sa : Nat) : defaultValue (cl_tyk a j) = cv ad b sa (sm_fv (fct a j) (M.1 ++ [(a, n)], M.2.1, M.2.2.1, M.2.2.2.1, M.2.2.2.2 ++ [List.replicate n none]) M.1.length j) := by
  have hty := cl_tyok ha hj
  have hz := h.2.2.2 M.1.length (Nat.le_refl _) j
  unfold sm_fv
  simp only [hz.1, hz.2]
  have hrr : sm_rw (M.2.2.2.2 ++ [List.replicate n none]) M.1.length = List.replicate n none := by rw [← h.1]; exact sm_rw_new _ _
  rw [hrr, sm_on_rep]
  match hc : fct a j, hty with
  | 0, hty => rw [hc] at *; have : cl_tyk a j = .int := of_decide_eq_true hty; rw [this]; rfl
  | 1, hty => have : cl_tyk a j = .boolean := of_decide_eq_true hty; rw [this]; rfl
  | 2, hty => have : cl_tyk a j = .long := of_decide_eq_true hty; rw [this]; rfl
  | k + 3, hty =>
    have hk3 : k = 0 := by
      have := fct_le a j
      omega
    subst hk3
    have hkr : kind_ref (cl_tyk a j) = true := hty
    cases ht : cl_tyk a j with
    | object _ => rfl
    | array _ => rfl
    | _ => rw [ht] at hkr; cases hkr
section SN4
variable {p : Program} {l : Launch} {e : Env} {R : Room} {s : State} {m : MethodId} {args : Array Value} {below : List Frame} {meth : Method} {c : Code} {Q : State → Prop} {D : va_G} {cA : Nat → ClassId} {b sa : Nat} {A : Nat → Prop} {z0 w0 : Nat} {ad0 : Nat → Nat} {n0 : Nat} {i pc : Nat} {X : (Nat → Int32) × Nat} {L : sm_L} {st : sm_S} {M : sm_M}
variable {ZS : Nat → (Nat → Prop) → State → Prop}
theorem sj_new (C : sn_C p R s m args meth c D cA A X b ZS i) {ix a n : Nat} (hd : decode (mb i) pc = .ok (.new ix, 3)) (ha : a < 13) (hn : n = (cl_at a).2.2) (hlink : Cond.classLink (my i).cls ix (cl_at a).1 ∈ uw) (hin1 : Cond.instantiable (cl_at a).1 (cl_at a).2.2 ∈ uw) (hin2 : Cond.initialized (cl_at a).1 ∈ uw) (hrc : cz M + 1 ≤ z0 + R.cells) (hrs : sz M + n ≤ w0 + R.slots)
    (k : sn_J p l e R s m args below meth c Q D cA b sa A z0 w0 ad0 n0 i (pc + 3) L (.ref M.1.length :: st) (M.1 ++ [(a, n)], M.2.1, M.2.2.1, M.2.2.2.1, M.2.2.2.2 ++ [List.replicate n none])) : sn_J p l e R s m args below meth c Q D cA b sa A z0 w0 ad0 n0 i pc L st M := by
  subst hn
  obtain ⟨hx, hb, hr0, hlk, hml, hown, hmn, hts, hK, hA, hZ, hfr, hlo⟩ := C
  intro ad ls H locs cells slots h1 h2 hr
  have h1' := h1.1
  have hM := hr.2.2.2.1
  have hbl : Nat.ble 100 a = false := by cases hb : Nat.ble 100 a with | false => rfl | true => have := Nat.le_of_ble_eq_true hb; omega
  have hee : ∀ k, k < M.1.length → ∀ q, va_up ad M.1.length q k = ad k := fun k hk q => by simp [va_up, Nat.ne_of_lt hk]
  refine va_new (D := D) (ci := a) (fs := (List.range (cl_at a).2.2).map (fun j => cv ad b sa (sm_fv (fct a j) (M.1 ++ [(a, (cl_at a).2.2)], M.2.1, M.2.2.1, M.2.2.2.1, M.2.2.2.2 ++ [List.replicate (cl_at a).2.2 none]) M.1.length j))) (C := (cl_at a).1) (T := (cl_at a).2.1) (N := (cl_at a).2.2) hx hb hts (cl_in ha) (cl_tyk a) (cl_desc ha) hown (hts _ hlink) (hts _ hin1) (hts _ hin2) hK hr.2.2.2.2.1 hr.2.2.2.2.2.1 hr.2.2.2.2.2.2 hA (cl_get ha) ?_ (by omega) (by omega) hd ?_
  · intro j hj
    rw [fv_default (n := (cl_at a).2.2) ha hj hM ad b sa]
    simp [vp_V, hj]
  · intro q H1 hP1 hD1 hS1
    have hWe : sn_W cA (va_up ad M.1.length q) b sa (M.1 ++ [(a, (cl_at a).2.2)], M.2.1, M.2.2.1, M.2.2.2.1, M.2.2.2.2 ++ [List.replicate (cl_at a).2.2 none]) = sn_W cA ad b sa M ++ [(q, .inr (a, (List.range (cl_at a).2.2).map (fun j => cv ad b sa (sm_fv (fct a j) (M.1 ++ [(a, (cl_at a).2.2)], M.2.1, M.2.2.1, M.2.2.2.1, M.2.2.2.2 ++ [List.replicate (cl_at a).2.2 none]) M.1.length j))))] := by
      refine sn_W_app hM ?_
      unfold sn_e
      simp only [hbl, cond_false]
      congr 2
      refine List.map_congr_left fun j hj => ?_
      rw [← fv_default (n := (cl_at a).2.2) ha (List.mem_range.mp hj) hM, ← fv_default (n := (cl_at a).2.2) ha (List.mem_range.mp hj) hM]
    rw [← hWe] at hP1 hD1
    have kk := k (va_up ad M.1.length q) ls H1 locs (cells + 1) (slots + (cl_at a).2.2) ⟨by rw [cz_app]; omega, Nat.le_trans h1.2.1 (by simp), fun k hk => (hee k (Nat.lt_of_lt_of_le hk h1.2.1) q).trans (h1.2.2 k hk)⟩ (by rw [sz_app]; omega) ⟨by rw [sn_en_ext (fun k hk => hee k hk q) L 0 hr.2.1]; exact hr.1, fun j v hj => vv_mono (hr.2.1 j v hj) (by simp), vs_c (vv_ref (by simp)) (fun v hv => vv_mono (hr.2.2.1 v hv) (by simp)), sn_ok_app hM (Or.inl ⟨ha, rfl, by simp⟩) (sm_on_rep _), hP1, hD1, hS1⟩
    rw [List.map_cons, sn_st_ext (fun k hk => hee k hk q) hr.2.2.1] at kk
    have e0 : cv (va_up ad M.1.length q) b sa (.ref M.1.length) = .ref q := by show Value.ref (va_up ad M.1.length q M.1.length) = _; simp [va_up]
    rw [e0] at kk
    exact kk
theorem sj_nwa (C : sn_C p R s m args meth c D cA A X b ZS i) {t : ArrayType} {a : Nat} {n : Int32} (hd : decode (mb i) pc = .ok (.newarray t, 2)) (hat : atag t = a) (ha : 100 ≤ a) (hcls : Cond.arrayClass (newarray.typeOf t) ∈ uw) (hn0 : 0 ≤ n) (hn1 : n ≤ 65536) (hrc : cz M + 1 ≤ z0 + R.cells) (hrs : sz M + n.toNatClampNeg ≤ w0 + R.slots)
    (k : sn_J p l e R s m args below meth c Q D cA b sa A z0 w0 ad0 n0 i (pc + 2) L (.ref M.1.length :: st) (M.1 ++ [(a, n.toNatClampNeg)], M.2.1, M.2.2.1, M.2.2.2.1, M.2.2.2.2 ++ [[]])) : sn_J p l e R s m args below meth c Q D cA b sa A z0 w0 ad0 n0 i pc L (.int n :: st) M := by
  obtain ⟨hx, hb, hr0, hlk, hml, hown, hmn, hts, hK, hA, hZ, hfr, hlo⟩ := C
  intro ad ls H locs cells slots h1 h2 hr
  have h1' := h1.1
  have hM := hr.2.2.2.1
  have hst := vs_t hr.2.2.1
  have hz := hM.2.2.2 M.1.length (Nat.le_refl _)
  have hI : M.2.2.1 M.1.length = fun _ => 0 := funext fun j => (hz j).1
  have hJ : M.2.2.2.1 M.1.length = fun _ => 0 := funext fun j => (hz j).2
  have hNn : ¬ n < 0 := by
    intro h
    rw [Int32.lt_iff_toInt_lt] at h
    rw [Int32.le_iff_toInt_le] at hn0
    omega
  have hNb : n.toNatClampNeg ≤ 65536 := by
    rw [Int32.le_iff_toInt_le] at hn1
    have e1 : (65536 : Int32).toInt = 65536 := by decide
    rw [e1] at hn1
    unfold Int32.toNatClampNeg
    omega
  have hee : ∀ k, k < M.1.length → ∀ q, va_up ad M.1.length q k = ad k := fun k hk q => by simp [va_up, Nat.ne_of_lt hk]
  have go : ∀ (ty : FieldType) (t0 : Nat) (a0 : vp_A), newarray.typeOf t = ty → (sn_ty cA)[t0]? = some (cA a, ty) → (∀ cA' : ClassId, vp_cell cA' a0 = arrV cA' n.toNatClampNeg (fun _ => defaultValue ty)) → n.toNatClampNeg * componentBytes ty ≤ 536870912 → (∀ (U : State) (c1 c2 : ClassId), va_RA U c1 ty → va_RA U c2 ty → c1 = c2) →
      (∀ q, sn_e cA (va_up ad M.1.length q) b sa (M.1 ++ [(a, n.toNatClampNeg)], M.2.1, M.2.2.1, M.2.2.2.1, M.2.2.2.2 ++ [[]]) M.1.length (a, n.toNatClampNeg) = .inl (cA a, a0)) → a ≤ 103 →
      W p l e R s m args below meth c H locs cells slots Q (F0 m pc ls ((.int n :: st : sm_S).map (cv ad b sa))) := by
    intro ty t0 a0 hty ht0 ha0 hby huni hse h103
    refine va_newa hx hb (hts _ hcls) hty hK hr.2.2.2.2.1 hr.2.2.2.2.2.1 hr.2.2.2.2.2.2 hA (a0 := a0) ha0 hNn rfl hby (by omega) (by omega) hd ?_
    intro q cA' H1 hK1 hP1 hD1 hS1
    have hcc : cA' = cA a := huni s cA' (cA a) (hK1.2 4 (cA', ty) (by simp)).2 (hK.2 t0 _ ht0).2
    subst hcc
    have hWe : sn_W cA (va_up ad M.1.length q) b sa (M.1 ++ [(a, n.toNatClampNeg)], M.2.1, M.2.2.1, M.2.2.2.1, M.2.2.2.2 ++ [[]]) = sn_W cA ad b sa M ++ [(q, .inl (cA a, a0))] := sn_W_app hM (hse q)
    rw [← hWe] at hP1 hD1
    have kk := k (va_up ad M.1.length q) ls H1 locs (cells + 1) (slots + n.toNatClampNeg) ⟨by rw [cz_app]; omega, Nat.le_trans h1.2.1 (by simp), fun k hk => (hee k (Nat.lt_of_lt_of_le hk h1.2.1) q).trans (h1.2.2 k hk)⟩ (by rw [sz_app]; omega) ⟨by rw [sn_en_ext (fun k hk => hee k hk q) L 0 hr.2.1]; exact hr.1, fun j v hj => vv_mono (hr.2.1 j v hj) (by simp), vs_c (vv_ref (by simp)) (fun v hv => vv_mono (hst v hv) (by simp)), sn_ok_app hM (Or.inr ⟨ha, h103⟩) (fun _ => rfl), hP1, hD1, hS1⟩
    rw [List.map_cons, sn_st_ext (fun k hk => hee k hk q) hst] at kk
    have e0 : cv (va_up ad M.1.length q) b sa (.ref M.1.length) = .ref q := by show Value.ref (va_up ad M.1.length q M.1.length) = _; simp [va_up]
    rw [e0] at kk
    exact kk
  cases t with
  | int =>
    have : a = 100 := hat.symm
    subst this
    exact go .int 0 (n.toNatClampNeg, .inl (fun _ => 0)) rfl rfl (fun _ => rfl) (by show _ * 4 ≤ _; omega) (fun U c1 c2 q1 q2 => Option.some.inj (q1.symm.trans q2)) (fun q => by unfold sn_e; simp only [hI]; rfl) (by decide)
  | boolean =>
    have : a = 101 := hat.symm
    subst this
    exact go .boolean 1 (n.toNatClampNeg, .inl (fun _ => 0)) rfl rfl (fun _ => rfl) (by show _ * 1 ≤ _; omega) (fun U c1 c2 q1 q2 => Option.some.inj (q1.symm.trans q2)) (fun q => by unfold sn_e; simp only [hI]; rfl) (by decide)
  | byte =>
    have : a = 102 := hat.symm
    subst this
    exact go .byte 2 (n.toNatClampNeg, .inl (fun _ => 0)) rfl rfl (fun _ => rfl) (by show _ * 1 ≤ _; omega) (fun U c1 c2 q1 q2 => Option.some.inj (q1.symm.trans q2)) (fun q => by unfold sn_e; simp only [hI]; rfl) (by decide)
  | long =>
    have : a = 103 := hat.symm
    subst this
    exact go .long 3 (n.toNatClampNeg, .inr (.inl (fun _ => 0))) rfl rfl (fun _ => rfl) (by show _ * 8 ≤ _; omega) (fun U c1 c2 q1 q2 => Option.some.inj (q1.symm.trans q2)) (fun q => by unfold sn_e; simp only [hJ]; rfl) (by decide)
  | _ => rw [show atag _ = 0 from rfl] at hat; omega
end SN4
end
section
/-! Calls, and the whole run. -/
/-- a return of v at pc -/
def sn_rt (i pc : Nat) (v : Option Value) : Prop := (v = none ∧ decode (mb i) pc = .ok (.return_, 1) ∧ mr i = none) ∨ (∃ x, v = some (.int x) ∧ decode (mb i) pc = .ok (.ireturn, 1) ∧ (mr i = some .int ∨ (mr i = some .boolean ∧ sm_zb x))) ∨ (∃ x, v = some (.long x) ∧ decode (mb i) pc = .ok (.lreturn, 1) ∧ mr i = some .long)
/-- from a run of n steps to the machine -/
def sn_IH (l : Launch) (X : (Nat → Int32) × Nat) (D : va_G) (cA : Nat → ClassId) (b sa : Nat) (ZS : Nat → (Nat → Prop) → State → Prop) (n : Nat) : Prop :=
  ∀ (i pc : Nat) (L : sm_L) (st : sm_S) (M : sm_M) (v : Option Value) (M' : sm_M), sm_run X n i pc L st M = some (v, M') → i < 316 → i ≠ 205 → ∀ (p : Program) (e : Env) (R : Room) (s : State) (m : MethodId) (args : Array Value) (below : List Frame) (meth : Method) (c : Code) (Q : State → Prop) (A : Nat → Prop) (z0 w0 : Nat) (ad0 : Nat → Nat) (n0 : Nat),
    sn_C p R s m args meth c D cA A X b ZS i → cz M' ≤ z0 + R.cells → sz M' ≤ w0 + R.slots → (∀ pc' L', sn_rt i pc' v → sn_J p l e R s m args below meth c Q D cA b sa A z0 w0 ad0 n0 i pc' L' v.toList M') → sn_J p l e R s m args below meth c Q D cA b sa A z0 w0 ad0 n0 i pc L st M
def sn_Pc (X : (Nat → Int32) × Nat) (D : va_G) (cA : Nat → ClassId) (b sa : Nat) (ZS : (Nat → Prop) → State → Prop) (ad : Nat → Nat) (M : sm_M) (hz : Nat) : State → Prop := fun U =>
  U.heap.size = hz ∧ va_P D cl_all (sn_W cA ad b sa M) U.heap ∧ va_K D cl_all (sn_ty cA) U ∧ va_D (fun _ => True) (sn_W cA ad b sa M) ∧ sn_Z X b ZS (va_A (sn_W cA ad b sa M) hz) U
def sn_Qc (D : va_G) (cA : Nat → ClassId) (b sa : Nat) (ad : Nat → Nat) (M : sm_M) (hz : Nat) (v : Option Value) (M1 : sm_M) : Array Value → State → Outcome → State → Prop := fun _ st oc t =>
  (∃ ad' : Nat → Nat, (∀ k, k < M.1.length → ad' k = ad k) ∧ M.1.length ≤ M1.1.length ∧ oc = .returned v ∧ (v = none ∨ (∃ x, v = some (.int x)) ∨ ∃ x, v = some (.long x)) ∧ sn_ok M1 ∧ va_P D cl_all (sn_W cA ad' b sa M1) t.heap ∧ va_D (va_A (sn_W cA ad b sa M) hz) (sn_W cA ad' b sa M1)) ∧ va_F (va_A (sn_W cA ad b sa M) hz) st t
theorem lg_sl_len (ad : Nat → Nat) (b sa : Nat) : ∀ as : List Value, (lg_sl (as.map (cv ad b sa))).length = sm_cat as
  | [] => rfl
  | v :: l => by
    have ih := lg_sl_len ad b sa l
    unfold lg_sl at ih ⊢
    rw [List.map_cons, List.flatMap_cons, List.length_append, ih, cv_cat]
    rw [show sm_cat (v :: l) = (bif sm_long (some v) then 2 else 1) + sm_cat l from rfl]
    cases hv : sm_long (some v) with
    | true => rw [if_pos ((sm_long_iff v).mp hv)]; rfl
    | false => rw [if_neg (by rw [(sm_long_not v).mp hv]; decide)]; rfl
theorem cat_sum (ad : Nat → Nat) (b sa : Nat) : ∀ as : List Value, ((as.map (cv ad b sa)).map fun v => v.category).sum = sm_cat as
  | [] => rfl
  | v :: l => by
    rw [List.map_cons, List.map_cons, List.sum_cons, cat_sum ad b sa l, cv_cat]
    rw [show sm_cat (v :: l) = (bif sm_long (some v) then 2 else 1) + sm_cat l from rfl]
    cases hv : sm_long (some v) with
    | true => rw [(sm_long_iff v).mp hv]; rfl
    | false => rw [(sm_long_not v).mp hv]; rfl
set_option maxHeartbeats 4000000 in
theorem sn_met {l : Launch} {X : (Nat → Int32) × Nat} {D : va_G} {cA : Nat → ClassId} {b sa : Nat} {ZS : Nat → (Nat → Prop) → State → Prop} {n : Nat} (ih : sn_IH l X D cA b sa ZS n) {j : Nat} {as : List Value} {M M1 : sm_M} {v : Option Value} (hrun : sm_run X n j 0 (sm_en j as) [] M = some (v, M1)) (hj : j < 316) (hj5 : j ≠ 205) (hpl : plainName (my j).cls = true) (hent : sm_cat as ≤ (sm_mi j).2) (hvs : ∀ w ∈ as, vv M.1.length w) (hok : sn_ok M) (ad : Nat → Nat) (hz : Nat) :
    Met l (my j) (Cond.code (my j) (mb j) (sm_mi j).2 (mr j) :: uw) ({ frames := (mrm j).1, cells := cz M1 - cz M, slots := sz M1 - sz M, locals := (mrm j).2 } : Room) (va_Pc (as.map (cv ad b sa)) (sn_Pc X D cA b sa (ZS j) ad M hz)) (sn_Qc D cA b sa ad M hz v M1) (cz M1 - cz M) (sz M1 - sz M) (va_A (sn_W cA ad b sa M) hz) := by
  refine Met.ofW (cc := mb j) (maxL := (sm_mi j).2) (ret := mr j) hpl rfl ?_
  intro p e s m args below meth c s₁ B hml hv
  obtain ⟨rfl, hsz, hP, hK, hD0, hZ⟩ := hv
  subst hsz
  have hts := atoms_spec (ws := (Cond.code (my j) (mb j) (sm_mi j).2 (mr j) :: uw)) B.pre
  rw [lg_entry_eq]
  have hl := lv_entry (as.map (cv ad b sa)) (n := (sm_mi j).2) (by rw [lg_sl_len]; exact hent)
  have hC : sn_C p (headSpec (Cond.code (my j) (mb j) (sm_mi j).2 (mr j) :: uw) ({ frames := (mrm j).1, cells := cz M1 - cz M, slots := sz M1 - sz M, locals := (mrm j).2 } : Room)).room s m (as.map (cv ad b sa)).toArray meth c D cA (va_A (sn_W cA ad b sa M) s.heap.size) X b ZS j :=
    ⟨B.exec, B.bytes, B.returns, B.notSynchronized, hml, findClass_of_methodNamed B.named, (name_of_methodNamed B.named B.method).1, fun w hw => hts w (List.mem_cons_of_mem _ hw), hK, fun q h => Or.inr h, hZ, Nat.le_refl _, Nat.le_refl _⟩
  refine ih j 0 (sm_en j as) [] M v M1 hrun hj hj5 p e _ s m _ below meth c _ (va_A (sn_W cA ad b sa M) s.heap.size) (cz M) (sz M) ad M.1.length hC (show cz M1 ≤ cz M + (cz M1 - cz M) by omega) (show sz M1 ≤ sz M + (sz M1 - sz M) by omega) ?_ ad _ s.heap [] 0 0 ⟨by omega, Nat.le_refl _, fun _ _ => rfl⟩ (by omega) ⟨lv_less hl ?_, ?_, vs_nil, hok, hP, hD0.self, va_S.rf⟩
  · intro pc' L' hrt ad' ls' H' locs' cells' slots' h1 h2 hr
    have e1 : cells' = cz M1 - cz M := by have := h1.1; omega
    have e2 : slots' = sz M1 - sz M := by omega
    subst e1; subst e2
    have hpv : v = none ∨ (∃ x, v = some (.int x)) ∨ ∃ x, v = some (.long x) := by
      rcases hrt with ⟨h, -⟩ | ⟨x, h, -⟩ | ⟨x, h, -⟩
      · exact Or.inl h
      · exact Or.inr (Or.inl ⟨x, h⟩)
      · exact Or.inr (Or.inr ⟨x, h⟩)
    have hq : ∀ t : State, t.heap = H' → sn_Qc D cA b sa ad M s.heap.size v M1 (as.map (cv ad b sa)).toArray s (.returned v) t := fun t ht => ⟨⟨ad', h1.2.2, h1.2.1, rfl, hpv, hr.2.2.2.1, by rw [ht]; exact hr.2.2.2.2.1, hr.2.2.2.2.2.1⟩, hr.2.2.2.2.2.2.F ht⟩
    have hS := hr.2.2.2.2.2.2.2.2
    rcases hrt with ⟨rfl, hd, hm⟩ | ⟨x, rfl, hd, hm⟩ | ⟨x, rfl, hd, hm⟩
    · exact W.vret B.exec B.bytes (B.returns.trans hm) (fun t ht _ => hq t ht) hS hd B.notSynchronized
    · rcases hm with hm | ⟨hm, hz⟩
      · exact W.iret B.exec B.bytes (B.returns.trans hm) (fun t ht _ => hq t ht) hS hd B.notSynchronized
      · exact W.zret B.exec B.bytes (B.returns.trans hm) (by rcases hz with rfl | rfl <;> decide) (fun t ht _ => hq t ht) hS hd B.notSynchronized
    · exact W.lret B.exec B.bytes (B.returns.trans hm) (fun t ht _ => hq t ht) hS hd B.notSynchronized
  · intro q hq
    obtain ⟨k, w, a1, a2, a3⟩ := (sn_en_mem _ _ _).mp hq
    have := (sm_nth_ent ad b sa as 0 k w (sm_nth_pad _ _ _ _ a2)).1
    rw [← a3] at this
    rw [show q = (0 + k, q.2) from Prod.ext a1 rfl]
    exact this
  · intro k w hk
    exact hvs w (sm_nth_ent ad b sa as 0 k w (sm_nth_pad _ _ _ _ hk)).2
theorem sm_take_spec : ∀ (n : Nat) (st acc as r : List Value), sm_take n st acc = some (as, r) → ∃ pre, pre.length = n ∧ st = pre ++ r ∧ as = pre.reverse ++ acc
  | 0, st, acc, as, r, h => by
    have h : some (acc, st) = some (as, r) := h
    obtain ⟨rfl, rfl⟩ := Prod.mk.inj (Option.some.inj h)
    exact ⟨[], rfl, rfl, rfl⟩
  | n + 1, [], _, _, _, h => by cases h
  | n + 1, v :: st, acc, as, r, h => by
    obtain ⟨pre, h1, h2, h3⟩ := sm_take_spec n st (v :: acc) as r h
    exact ⟨v :: pre, by simp [h1], by simp [h2], by simp [h3]⟩
theorem uw_good {l : List Cond} (h : ∀ w ∈ l, w ∈ uw) : GoodIn uw l := fun w hw => ⟨h w hw, good_of_word (List.mem_filter.mp (h w hw)).2⟩
/-- what ZS must keep -/
def sn_Zcl (ZS : Nat → (Nat → Prop) → State → Prop) : Prop := ∀ (i j : Nat) (A A' : Nat → Prop) (s U : State), j ≠ 315 → ZS i A s → (∀ q, A' q → A q) → (∀ q : Nat, q < s.heap.size → ¬ A q → U.heap[q]? = s.heap[q]?) → s.heap.size ≤ U.heap.size → (U.vm = s.vm ∨ s.WarmedH U.vm) → ZS j A' U
theorem sn_Z.next {X : (Nat → Int32) × Nat} {b : Nat} {ZS : Nat → (Nat → Prop) → State → Prop} (hcl : sn_Zcl ZS) {i j : Nat} (hj : j ≠ 315) {A A' : Nat → Prop} {s U : State} (h : sn_Z X b (ZS i) A s) (hA : ∀ q, A' q → A q) (hh : ∀ q : Nat, q < s.heap.size → ¬ A q → U.heap[q]? = s.heap[q]?) (hs : s.heap.size ≤ U.heap.size) (hv : U.vm = s.vm ∨ s.WarmedH U.vm) : sn_Z X b (ZS j) A' U := by
  obtain ⟨h1, h2, h3, h4, h5⟩ := h
  have hal : s.vm.Alike U.vm := by
    rcases hv with e | e
    · rw [e]; exact Vm.Alike.refl _
    · exact e.alike
  refine ⟨(h1.moved hal).kept (hh b h2 h3), Nat.lt_of_lt_of_le h2 hs, fun z => h3 (hA b z), fun w hw hn => ?_, hcl i j A A' s U hj h5 hA hh hs hv⟩
  have h6 := h4 w hw hn
  cases w with
  | methodLinkNest a i x g =>
    rcases hv with e | e
    · exact va_Nw.same rfl e.symm h6
    · exact va_Nw.warmM e h6
  | _ => cases hn
section SN5
variable {p : Program} {l : Launch} {e : Env} {R : Room} {s : State} {m : MethodId} {args : Array Value} {below : List Frame} {meth : Method} {c : Code} {Q : State → Prop} {D : va_G} {cA : Nat → ClassId} {b sa : Nat} {A : Nat → Prop} {z0 w0 : Nat} {ad0 : Nat → Nat} {n0 : Nat} {i pc : Nat} {X : (Nat → Int32) × Nat} {L : sm_L} {st : sm_S} {M : sm_M}
variable {ZS : Nat → (Nat → Prop) → State → Prop}
theorem sn_AA {H0 H : Heap} {locs : List Loc} {ws : va_W} (hD : va_D A ws) (hS : va_S A H0 H locs) (hA : ∀ q, H0.size ≤ q → A q) : ∀ q, va_A ws H.size q → A q := by
  rintro q (⟨k, e, h⟩ | h)
  · exact hD.2 k (q, e) h
  · exact hA q (Nat.le_trans hS.1 h)
/-- behind a call -/
theorem sj_after {ad : Nat → Nat} {ls : Array Slot} {H : Heap} {locs : List Loc} {cells slots : Nat} {st0 : List Value} {rest : sm_S} {v : Option Value} {M1 : sm_M} {As : Array Value} (hA : ∀ q, s.heap.size ≤ q → A q) (h1 : sn_cn z0 ad0 n0 ad cells M) (h2 : slots + w0 = sz M) (hr : sn_rel (sm_mi i).2 A s.heap D cA b sa ad ls H locs L rest M) (hcz : cz M ≤ cz M1) (hsz : sz M ≤ sz M1)
    (hrun : va_Run p l e R s m args below meth c H locs cells slots (cz M1 - cz M) (sz M1 - sz M) (F0 m pc ls st0) (rest.map (cv ad b sa)) (sn_Qc D cA b sa ad M H.size v M1 As) (va_A (sn_W cA ad b sa M) H.size))
    (k : sn_J p l e R s m args below meth c Q D cA b sa A z0 w0 ad0 n0 i (pc + 3) L (v.toList ++ rest) M1) : W p l e R s m args below meth c H locs cells slots Q (F0 m pc ls st0) := by
  intro T hT X0
  obtain ⟨v', st₀, t, T', L', h0, X', hL, e1, e2, ⟨⟨ad', hee, hlen, hv, hpl, hok, hP, hD⟩, hz, hk⟩, st⟩ := hrun T hT X0
  cases hv
  rw [h0] at hz hk
  have hS := hr.2.2.2.2.2.2
  have hAA := sn_AA hr.2.2.2.2.2.1 hS hA
  have hvl : ∀ w ∈ v.toList, vv M1.1.length w := by
    rcases hpl with rfl | ⟨x, rfl⟩ | ⟨x, rfl⟩
    · exact vs_nil
    · exact vs_c vv_int vs_nil
    · exact vs_c vv_long vs_nil
  have hvm : v.toList.map (cv ad' b sa) = v.toList := by rcases hpl with rfl | ⟨x, rfl⟩ | ⟨x, rfl⟩ <;> rfl
  have hS' : va_S A s.heap T'.heap (locs ++ L') := ⟨Nat.le_trans hS.1 (by rw [e1]; exact hz), fun q q1 q2 => by rw [e1, hk q (Nat.lt_of_lt_of_le q1 hS.1) (fun z => q2 (hAA q z))]; exact hS.2.1 q q1 q2, fun q hq => by
      rcases List.mem_append.mp hq with h | h
      · exact hS.2.2 q h
      · exact hAA _ (hL q h)⟩
  have kk := k ad' ls T'.heap (locs ++ L') (cells + (cz M1 - cz M)) (slots + (sz M1 - sz M)) ⟨by have := h1.1; omega, Nat.le_trans h1.2.1 hlen, fun z hz => (hee z (Nat.lt_of_lt_of_le hz h1.2.1)).trans (h1.2.2 z hz)⟩ (by omega)
    ⟨by rw [sn_en_ext hee L 0 hr.2.1]; exact hr.1, fun j w hj => vv_mono (hr.2.1 j w hj) hlen, fun w hw => (List.mem_append.mp hw).elim (hvl w) (fun h => vv_mono (hr.2.2.1 w h) hlen), hok, by rw [e1]; exact hP, hD.weaken (fun _ _ _ h => hAA _ h), hS'⟩
  rw [List.map_append, hvm, sn_st_ext hee hr.2.2.1] at kk
  obtain ⟨t2, a1, b1⟩ := kk T' rfl X'
  exact ⟨t2, st t2 a1, b1⟩
theorem sn_blind (hcl : sn_Zcl ZS) {j : Nat} (hj : j ≠ 315) {As : List Value} {ad : Nat → Nat} {hz : Nat} : FrameBlind (va_Pc As (sn_Pc X D cA b sa (ZS j) ad M hz)) := by
  intro a U g mk q
  obtain ⟨q0, q1, qP, qK, qD, qZ⟩ := q
  exact ⟨q0, q1, qP, va_K.moved (u := U) (U := U.calling g mk a) (Vm.Alike.refl U.vm) qK, qD, qZ.next hcl hj (fun _ h => h) (fun _ _ _ => rfl) (Nat.le_refl _) (Or.inl rfl)⟩
theorem sn_pre (hcl : sn_Zcl ZS) {i j : Nat} (hj : j ≠ 315) (hK : va_K D cl_all (sn_ty cA) s) (hA : ∀ q, s.heap.size ≤ q → A q) (hZ : sn_Z X b (ZS i) A s) {ad : Nat → Nat} {nL : Nat} {ls : Array Slot} {H : Heap} {locs : List Loc} (hr : sn_rel nL A s.heap D cA b sa ad ls H locs L st M) (As : List Value) (U : State) (hU : U.heap = H) (hW : s.WarmedH U.vm) : va_Pc As (sn_Pc X D cA b sa (ZS j) ad M H.size) As.toArray U :=
  ⟨rfl, by rw [hU], by rw [hU]; exact hr.2.2.2.2.1, va_K.moved hW.alike hK, hr.2.2.2.2.2.1.weaken (fun _ _ _ _ => trivial), hZ.next hcl hj (sn_AA hr.2.2.2.2.2.1 hr.2.2.2.2.2.2 hA) (fun q h1 h2 => by rw [hU]; exact hr.2.2.2.2.2.2.2.1 q h1 h2) (by rw [hU]; exact hr.2.2.2.2.2.2.1) (Or.inr hW)⟩
/-- a call of a method that is walked -/
theorem sj_call (hcl : sn_Zcl ZS) (C : sn_C p R s m args meth c D cA A X b ZS i) {n : Nat} (ih : sn_IH l X D cA b sa ZS n) {j nn cd ix pp : Nat} {as rest : List Value} {v : Option Value} {M1 : sm_M} (hrun : sm_run X n j 0 (sm_en j as) [] M = some (v, M1)) (hcz : cz M ≤ cz M1) (hsz : sz M ≤ sz M1) (hfc : cz M1 ≤ z0 + R.cells) (hfs : sz M1 ≤ w0 + R.slots) (hj : j < 311 ∨ j = 314) (hj5 : j ≠ 205) (hw : lkw j = true) (hcw : lw_tbl[(mq j).2.1]? = some (.code (my j) (mb j) (sm_mi j).2 (mr j)))
    (hcat : sm_cat rest ≤ 8) (hent : sm_cat as ≤ (sm_mi j).2) (hlen : as.length = nn)
    (hkc : kc i j (bif Nat.beq cd 0 || Nat.beq cd 3 then nn - 1 else nn) = true)
    (hkind : (cd = 0 ∧ decode (mb i) pc = .ok (.invokevirtual ix, 3) ∧ (mq j).1 = 0 ∧ Cond.methodLink (my i).cls ix (my j) ∈ uw ∧ (sm_mi j).1 < 13 ∧ (cl_at (sm_mi j).1).1 = (my j).cls ∧ ∃ o as', as = .ref o :: as' ∧ Nat.beq (sm_kd M.1 o).1 (sm_mi j).1 = true) ∨ (cd = 1 ∧ decode (mb i) pc = .ok (.invokestatic ix, 3) ∧ (mq j).1 = 1 ∧ Cond.methodLink (my i).cls ix (my j) ∈ uw) ∨ (cd = 2 ∧ decode (mb i) pc = .ok (.invokestatic ix, 3) ∧ (mq j).1 = 1 ∧ Cond.methodLinkNest (my i).cls ix (my j) "PowersHouse" ∈ lw_tbl) ∨ (cd = 3 ∧ decode (mb i) pc = .ok (.invokespecial ix, 3) ∧ (mq j).1 = 2 ∧ Cond.methodLink (my i).cls ix (my j) ∈ uw ∧ (my j).name = "<init>" ∧ mr j = none ∧ ∃ o as', as = .ref o :: as'))
    (k : sn_J p l e R s m args below meth c Q D cA b sa A z0 w0 ad0 n0 i (pc + 3) L (v.toList ++ rest) M1) : sn_J p l e R s m args below meth c Q D cA b sa A z0 w0 ad0 n0 i pc L (as.reverse ++ rest) M := by
  obtain ⟨hx, hb, hr0, hlk, hml, hown, hmn, hts, hK, hA, hZ, hfr, hlo⟩ := C
  intro ad ls H locs cells slots h1 h2 hr
  have hj15 : j ≠ 315 := by omega
  have hcode : Cond.code (my j) (mb j) (sm_mi j).2 (mr j) ∈ uw := List.mem_filter.mpr ⟨List.mem_of_getElem? hcw, rfl⟩
  simp only [lkw, Bool.and_eq_true, decide_eq_true_eq] at hw
  obtain ⟨⟨⟨⟨hini, hmh⟩, hvh⟩, hpl⟩, hkd⟩ := hw
  have hini := wi_in hini
  simp only [kc, Bool.and_eq_true, decide_eq_true_eq, Bool.or_eq_true] at hkc
  obtain ⟨⟨⟨⟨-, -⟩, hrf⟩, hrl⟩, hpar⟩ := hkc
  have hrest : ∀ w ∈ rest, vv M.1.length w := fun w hw => hr.2.2.1 w (List.mem_append_right _ hw)
  have has : ∀ w ∈ as, vv M.1.length w := fun w hw => hr.2.2.1 w (List.mem_append_left _ (List.mem_reverse.mpr hw))
  have hmet := sn_met ih hrun (by omega) hj5 hpl hent has hr.2.2.2.1 ad H.size
  have hrr : sn_rel (sm_mi i).2 A s.heap D cA b sa ad ls H locs L rest M := hr.stk hrest
  have hroom : (mrm j).1 + 1 ≤ R.frames ∧ 8 + ((sm_mi j).2 + 11) + (mrm j).2 ≤ R.locals := ⟨by omega, by omega⟩
  have hff : cells + (cz M1 - cz M) ≤ R.cells ∧ slots + (sz M1 - sz M) ≤ R.slots := ⟨by have := h1.1; omega, by omega⟩
  have hW8 : ((rest.map (cv ad b sa)).map fun v => v.category).sum ≤ 8 := by rw [cat_sum]; exact hcat
  have hall : ∀ w ∈ (Cond.code (my j) (mb j) (sm_mi j).2 (mr j) :: uw), w ∈ uw := fun w hw => (List.mem_cons.mp hw).elim (fun e => e ▸ hcode) id
  rcases hkind with ⟨rfl, hd, hq, hlink, h13, hcn, o, as', rfl, hko⟩ | ⟨rfl, hd, hq, hlink⟩ | ⟨rfl, hd, hq, hlink⟩ | ⟨rfl, hd, hq, hlink, hnm, hret, o, as', rfl⟩
  · rw [hq] at hkd
    simp only [Bool.and_eq_true] at hkd
    obtain ⟨ho, -, -, hat⟩ := sn_obj (cA := cA) (ad := ad) (b := b) (sa := sa) hr.2.2.2.1 h13 hko
    have hnn : as'.length = nn - 1 := by rw [← hlen]; simp
    refine sj_after hA h1 h2 hrr hcz hsz (va_runV (Ts := uw) (own := (my i).cls) (C := (my j).cls) (b := ad o) (As := as'.map (cv ad b sa)) (n := as'.length) ⟨hx, hb, hml, hown, hts⟩ hmet (cwV (ws' := uw) as'.length hts (uw_good fun w hw => ?_) rfl rfl rfl ⟨rfl, hmh, hvh, ?_⟩ hroom) ⟨sn_blind hcl hj15, ?_, fun U hU hW => sn_pre hcl hj15 hK hA hZ hr _ U hU hW⟩ rfl (by simp) hr.1.1 (by simp [cv]) (lv_room hW8) hd hff) k
    · rcases List.mem_append.mp hw with h | h
      · simp only [List.mem_cons, List.not_mem_nil, or_false] at h
        rcases h with rfl | rfl | rfl | rfl
        · exact hlink
        · exact wi_in hkd.1
        · exact wi_in hkd.2
        · exact hini
      · exact hall w h
    · rw [hnn]; exact hpar
    · rw [← hcn]
      exact va_recv (q := ((cl_at (sm_mi j).1).1, (cl_at (sm_mi j).1).2.1, (cl_at (sm_mi j).1).2.2)) hK hr.2.2.2.2.1 (cl_get h13) hat
  · rw [hq] at hkd
    refine sj_after hA h1 h2 hrr hcz hsz (va_runS (Ts := uw) (own := (my i).cls) (As := as.map (cv ad b sa)) (n := as.length) ⟨hx, hb, hml, hown, hts⟩ hmet (va_cwS (ws' := uw) as.length hts (uw_good fun w hw => ?_) rfl rfl rfl ⟨hmh, hvh, by rw [hlen]; exact hpar⟩ hroom) ⟨sn_blind hcl hj15, fun U hU hW => sn_pre hcl hj15 hK hA hZ hr _ U hU hW⟩ rfl (by simp) hr.1.1 (by simp) (lv_room hW8) hd hff) k
    rcases List.mem_append.mp hw with h | h
    · simp only [List.mem_cons, List.not_mem_nil, or_false] at h
      rcases h with rfl | rfl | rfl
      · exact hlink
      · exact wi_in hkd
      · exact hini
    · exact hall w h
  · rw [hq] at hkd
    refine sj_after hA h1 h2 hrr hcz hsz (va_runSN (Ts := uw) (own := (my i).cls) (host := "PowersHouse") (As := as.map (cv ad b sa)) (n := as.length) ⟨hx, hb, hml, hown, hts⟩ hmet ⟨va_cnB (ws' := uw) as.length hts (uw_good hall) rfl rfl rfl (hZ.2.2.2.1 _ hlink rfl) (hts _ hini) ⟨hmh, hvh, by rw [hlen]; exact hpar⟩ hroom, hts _ (wi_in hkd), trivial⟩ ⟨sn_blind hcl hj15, fun U hU hW => sn_pre hcl hj15 hK hA hZ hr _ U hU hW⟩ rfl (by simp) hr.1.1 (by simp) (lv_room hW8) hd hff) k
  · rw [hq] at hkd
    have hnn : as'.length = nn - 1 := by rw [← hlen]; simp
    rw [hret] at hmet hcode hall
    refine sj_after hA h1 h2 hrr hcz hsz (va_runI (Ts := uw) (own := (my i).cls) (b := ad o) (As := as'.map (cv ad b sa)) (n := as'.length) ⟨hx, hb, hml, hown, hts⟩ hmet (cwI (ws' := uw) as'.length hts (uw_good hall) rfl rfl rfl (hts _ hini) (hts _ hlink) (hts _ (wi_in hkd)) hnm ⟨hmh, hvh, by rw [hnn]; exact hpar⟩ hroom) ⟨sn_blind hcl hj15, fun U hU hW => sn_pre hcl hj15 hK hA hZ hr _ U hU hW⟩ rfl (by simp) hr.1.1 (by simp [cv]) (lv_room hW8) hd hff) k
end SN5
end
section
/-! Every step, and so every run, of the shadow is the machine's. -/
def sm_gr (M : sm_M) : sm_O → Prop
  | .inl (_, _, M') => cz M ≤ cz M' ∧ sz M ≤ sz M'
  | .inr (.inl (_, _, _, M')) => cz M ≤ cz M' ∧ sz M ≤ sz M'
  | _ => True
theorem gr_rf {M : sm_M} : cz M ≤ cz M ∧ sz M ≤ sz M := ⟨Nat.le_refl _, Nat.le_refl _⟩
set_option maxHeartbeats 4000000 in
theorem sm_step_gr {X : (Nat → Int32) × Nat} {r : sm_R} {L : sm_L} {st : sm_S} {M : sm_M} {o : sm_O} (h : sm_step X r L st M = some o) : sm_gr M o := by
  obtain ⟨q, len, a, bb, cd, k0, kl, sw⟩ := r
  cases q
  all_goals first
    | (cases h; done)
    | (cases h; exact gr_rf)
    | (simp only [sm_step, sm_ldi, sm_ldl, sm_lda, sm_sti, sm_stl, sm_sta, sm_i2, sm_i1, sm_l2, sm_l1, sm_li, sm_r1, sm_get, sm_put, sm_ial, sm_lal, sm_ias, sm_las, sm_aln, sm_new, sm_nwa, sm_inv, Bool.cond_eq_ite] at h
       (repeat' split at h) <;> first
         | (cases h; done)
         | (cases h; exact gr_rf)
         | (cases h; exact trivial)
         | (cases h; exact ⟨by rw [cz_app]; omega, by rw [sz_app]; omega⟩))
theorem sm_look_gr {as : List Value} {M M' : sm_M} {c : sm_C} {v : Option Value} (h : sm_look as M = some (c, v, M')) : cz M ≤ cz M' ∧ sz M ≤ sz M' := by
  unfold sm_look at h
  split at h
  · rename_i x l w o
    cases hb : ((Nat.beq x 0 && Nat.beq o 142) && sm_shp M) with
    | false => rw [hb] at h; cases h
    | true =>
      rw [hb] at h
      simp only [cond_true] at h
      split at h
      · split at h
        · cases h; exact gr_rf
        · split at h
          · cases h; exact gr_rf
          · split at h
            · cases h; exact gr_rf
            · cases h; exact ⟨by simp only [cz]; omega, by simp only [sz]; omega⟩
      · cases h; exact ⟨by simp only [cz]; omega, by simp only [sz]; omega⟩
  · cases h
theorem sm_prim_gr {j : Nat} {as : List Value} {M M' : sm_M} {c : sm_C} {v : Option Value} (h : sm_prim j as M = some (c, v, M')) : cz M ≤ cz M' ∧ sz M ≤ sz M' := by
  unfold sm_prim at h
  cases h0 : Nat.beq j 900 with
  | true =>
    rw [h0] at h
    simp only [cond_true] at h
    split at h
    · rename_i z
      cases hz : Nat.beq z 2 with
      | true => rw [hz] at h; cases h; exact gr_rf
      | false => rw [hz] at h; cases h
    · cases h
  | false =>
    rw [h0] at h
    simp only [cond_false] at h
    cases h1 : Nat.beq j 901 with
    | true =>
      rw [h1] at h
      simp only [cond_true] at h
      split at h
      · rename_i z i
        cases hz : Nat.beq z 2 with
        | true => rw [hz] at h; cases h; exact gr_rf
        | false => rw [hz] at h; cases h
      · cases h
    | false =>
      rw [h1] at h
      simp only [cond_false] at h
      cases h3 : Nat.beq j 903 with
      | true =>
        rw [h3] at h
        simp only [cond_true] at h
        split at h
        · cases h; exact gr_rf
        · cases h
      | false =>
        rw [h3] at h
        simp only [cond_false] at h
        cases h4 : Nat.beq j 904 with
        | true =>
          rw [h4] at h
          simp only [cond_true] at h
          split at h
          · cases h; exact gr_rf
          · cases h
        | false =>
          rw [h4] at h
          simp only [cond_false] at h
          cases h5 : Nat.beq j 905 with
          | true =>
            rw [h5] at h
            simp only [cond_true] at h
            split at h
            · cases h; exact gr_rf
            · cases h
          | false =>
            rw [h5] at h
            simp only [cond_false] at h
            cases h2 : Nat.beq j 902 with
            | true => rw [h2] at h; exact sm_look_gr h
            | false => rw [h2] at h; cases h
theorem sm_run_gr (X : (Nat → Int32) × Nat) : ∀ (n i pc : Nat) (L : sm_L) (st : sm_S) (M : sm_M) (v : Option Value) (M' : sm_M), sm_run X n i pc L st M = some (v, M') → cz M ≤ cz M' ∧ sz M ≤ sz M'
  | 0, _, _, _, _, _, _, _, h => by cases h
  | n + 1, i, pc, L, st, M, v, M', h => by
    have ih := sm_run_gr X n
    have tr : ∀ {M1 : sm_M}, cz M ≤ cz M1 ∧ sz M ≤ sz M1 → cz M1 ≤ cz M' ∧ sz M1 ≤ sz M' → cz M ≤ cz M' ∧ sz M ≤ sz M' := fun a b => ⟨Nat.le_trans a.1 b.1, Nat.le_trans a.2 b.2⟩
    have h : sm_body X (sm_run X n) i pc L st M = some (v, M') := h
    unfold sm_body at h
    cases hc : sm_from (sm_code i) pc with
    | nil => rw [hc] at h; cases h
    | cons z t =>
      obtain ⟨p, ks, q⟩ := z
      rw [hc] at h
      simp only at h
      cases hs : sm_step X q L st M with
      | none => rw [hs] at h; cases h
      | some o =>
        rw [hs] at h
        have hg := sm_step_gr hs
        simp only at h
        rcases o with ⟨L', st', M1⟩ | ⟨c, L', st', M1⟩ | ⟨c, t, L', st'⟩ | ⟨t, L', st'⟩ | ⟨x, l, d, L', st'⟩ | ⟨j, as, L', st'⟩ | ⟨c, w⟩
        · exact tr hg (ih _ _ _ _ _ _ _ h)
        · simp only [sm_act] at h
          split at h
          · exact tr hg (ih _ _ _ _ _ _ _ h)
          · cases h
        · simp only [sm_act] at h
          split at h
          · exact ih _ _ _ _ _ _ _ h
          · exact ih _ _ _ _ _ _ _ h
        · exact ih _ _ _ _ _ _ _ h
        · exact ih _ _ _ _ _ _ _ h
        · simp only [sm_act] at h
          cases hb : Nat.ble 900 j with
          | true =>
            rw [hb] at h
            simp only [cond_true] at h
            cases hp : sm_prim j as M with
            | none => rw [hp] at h; cases h
            | some z =>
              obtain ⟨c, w, M1⟩ := z
              rw [hp] at h
              simp only at h
              split at h
              · exact tr (sm_prim_gr hp) (ih _ _ _ _ _ _ _ h)
              · cases h
          | false =>
            rw [hb] at h
            simp only [cond_false] at h
            cases hp : sm_run X n j 0 (sm_en j as) [] M with
            | none => rw [hp] at h; cases h
            | some z =>
              obtain ⟨w, M1⟩ := z
              rw [hp] at h
              exact tr (ih _ _ _ _ _ _ _ hp) (ih _ _ _ _ _ _ _ h)
        · simp only [sm_act] at h
          split at h
          · cases h; exact gr_rf
          · cases h
end
section
/-! The dispatch. -/
theorem lkc_all : (List.range 13).all (fun a => wi (cl_q.getD a (0, 0)).1 (.instantiable (cl_at a).1 (cl_at a).2.2) && wi (cl_q.getD a (0, 0)).2 (.initialized (cl_at a).1)) = true := by decide +kernel
/-- of a call: what the tables have tested -/
def sn_cf (i pc j : Nat) (as rest : List Value) (M : sm_M) : Prop := sm_cat rest ≤ 8 ∧ sm_cat as ≤ (sm_mi j).2 ∧ ∃ nn cd ix, as.length = nn ∧
  ((900 ≤ j ∧ cd = 5 ∧ (∃ pp, kp i j nn cd pp ix = true) ∧ ((j ≤ 901 ∧ decode (mb i) pc = .ok (.invokevirtual ix, 3)) ∨ (902 ≤ j ∧ decode (mb i) pc = .ok (.invokestatic ix, 3)))) ∨
   (kc i j (bif Nat.beq cd 0 || Nat.beq cd 3 then nn - 1 else nn) = true ∧
    ((cd = 0 ∧ decode (mb i) pc = .ok (.invokevirtual ix, 3) ∧ (mq j).1 = 0 ∧ Cond.methodLink (my i).cls ix (my j) ∈ uw ∧ (sm_mi j).1 < 13 ∧ (cl_at (sm_mi j).1).1 = (my j).cls ∧ ∃ o as', as = .ref o :: as' ∧ Nat.beq (sm_kd M.1 o).1 (sm_mi j).1 = true) ∨ (cd = 1 ∧ decode (mb i) pc = .ok (.invokestatic ix, 3) ∧ (mq j).1 = 1 ∧ Cond.methodLink (my i).cls ix (my j) ∈ uw) ∨ (cd = 2 ∧ decode (mb i) pc = .ok (.invokestatic ix, 3) ∧ (mq j).1 = 1 ∧ Cond.methodLinkNest (my i).cls ix (my j) "PowersHouse" ∈ lw_tbl) ∨ (cd = 3 ∧ decode (mb i) pc = .ok (.invokespecial ix, 3) ∧ (mq j).1 = 2 ∧ Cond.methodLink (my i).cls ix (my j) ∈ uw ∧ (my j).name = "<init>" ∧ mr j = none ∧ ∃ o as', as = .ref o :: as'))))
section SN6
variable {p : Program} {l : Launch} {e : Env} {R : Room} {s : State} {m : MethodId} {args : Array Value} {below : List Frame} {meth : Method} {c : Code} {Q : State → Prop} {D : va_G} {cA : Nat → ClassId} {b sa : Nat} {A : Nat → Prop} {z0 w0 : Nat} {ad0 : Nat → Nat} {n0 : Nat} {i pc : Nat} {X : (Nat → Int32) × Nat} {L : sm_L} {st : sm_S} {M : sm_M}
variable {ZS : Nat → (Nat → Prop) → State → Prop}
/-- what a step's outcome asks for -/
def sn_O (p : Program) (l : Launch) (e : Env) (R : Room) (s : State) (m : MethodId) (args : Array Value) (below : List Frame) (meth : Method) (c : Code) (Q : State → Prop) (D : va_G) (cA : Nat → ClassId) (b sa : Nat) (A : Nat → Prop) (z0 w0 : Nat) (ad0 : Nat → Nat) (n0 : Nat) (i pc len : Nat) (M : sm_M) : sm_O → Prop
  | .inl (L', st', M') => (cz M' ≤ z0 + R.cells ∧ sz M' ≤ w0 + R.slots) ∧ sn_J p l e R s m args below meth c Q D cA b sa A z0 w0 ad0 n0 i (pc + len) L' st' M'
  | .inr (.inl (c0, L', st', M')) => c0.1 ∧ sn_J p l e R s m args below meth c Q D cA b sa A z0 w0 ad0 n0 i (pc + len) L' st' M'
  | .inr (.inr (.inl (c0, t, L', st'))) => (c0.1 → sn_J p l e R s m args below meth c Q D cA b sa A z0 w0 ad0 n0 i t L' st' M) ∧ (¬ c0.1 → sn_J p l e R s m args below meth c Q D cA b sa A z0 w0 ad0 n0 i (pc + len) L' st' M)
  | .inr (.inr (.inr (.inl (t, L', st')))) => sn_J p l e R s m args below meth c Q D cA b sa A z0 w0 ad0 n0 i t L' st' M
  | .inr (.inr (.inr (.inr (.inl (x, sl, d, L', st'))))) => sn_J p l e R s m args below meth c Q D cA b sa A z0 w0 ad0 n0 i (sm_sw x sl d) L' st' M
  | .inr (.inr (.inr (.inr (.inr (.inl (j, as, L', rest)))))) => sn_cf i pc j as rest M → sn_J p l e R s m args below meth c Q D cA b sa A z0 w0 ad0 n0 i pc L' (as.reverse ++ rest) M
  | .inr (.inr (.inr (.inr (.inr (.inr (c0, v)))))) => c0.1 ∧ ∀ L', sn_rt i pc v → sn_J p l e R s m args below meth c Q D cA b sa A z0 w0 ad0 n0 i pc L' v.toList M
/-- the String constant is put on the stack -/
def sn_ldcs (l : Launch) (X : (Nat → Int32) × Nat) (D : va_G) (cA : Nat → ClassId) (b sa : Nat) (ZS : Nat → (Nat → Prop) → State → Prop) : Prop := ∀ (p : Program) (e : Env) (R : Room) (s : State) (m : MethodId) (args : Array Value) (below : List Frame) (meth : Method) (c : Code) (Q : State → Prop) (A : Nat → Prop) (z0 w0 : Nat) (ad0 : Nat → Nat) (n0 i pc : Nat) (L : sm_L) (st : sm_S) (M : sm_M),
  sn_C p R s m args meth c D cA A X b ZS i → decode (mb i) pc = .ok (.ldc 64, 2) → (my i).cls = "PowersHouse$Tape" → sn_J p l e R s m args below meth c Q D cA b sa A z0 w0 ad0 n0 i (pc + 2) L (.retAddr 2 :: st) M → sn_J p l e R s m args below meth c Q D cA b sa A z0 w0 ad0 n0 i pc L st M
theorem sw_in {x : Int32} : ∀ (sw : List (Int32 × Nat)) (d : Nat) (k : Nat) (y : Int32) (t : Nat), sw[k]? = some (y, t) → y = x → (∀ j, j < k → ∀ z, (sw.map (fun e => e.1))[j]? = some z → z ≠ x) → sm_sw x sw d = t
  | [], _, _, _, _, h, _, _ => by simp at h
  | (y0, t0) :: r, d, 0, y, t, h, hy, _ => by
    have : (y0, t0) = (y, t) := Option.some.inj h
    obtain ⟨rfl, rfl⟩ := Prod.mk.inj this
    simp [sm_sw, hy]
  | (y0, t0) :: r, d, k + 1, y, t, h, hy, hn => by
    have h0 : y0 ≠ x := hn 0 (by omega) y0 rfl
    show (if x = y0 then t0 else sm_sw x r d) = t
    rw [if_neg (fun e => h0 e.symm)]
    exact sw_in r d k y t h hy fun j hj z hz => hn (j + 1) (by omega) z hz
theorem sw_out {x : Int32} : ∀ (sw : List (Int32 × Nat)) (d : Nat), (∀ e ∈ sw, e.1 ≠ x) → sm_sw x sw d = d
  | [], _, _ => rfl
  | (y0, t0) :: r, d, h => by
    show (if x = y0 then t0 else sm_sw x r d) = d
    rw [if_neg (fun e => h _ List.mem_cons_self e.symm)]
    exact sw_out r d fun e he => h e (List.mem_cons_of_mem _ he)
theorem sj_switch (C : sn_C p R s m args meth c D cA A X b ZS i) {d lo hi : Int} {offs : Array Int} {len : Nat} {x : Int32} {a : Nat} {sw : List (Int32 × Nat)} (hd : decode (mb i) pc = .ok (.tableswitch d lo hi offs, len)) (ha : (pc : Int) + d = (a : Int)) (hlh : lo ≤ hi) (hsw : sw.map (fun e => e.1.toInt) = (List.range (hi - lo + 1).toNat).map (fun (j : Nat) => lo + (j : Int))) (hof : offs.toList.map (fun o => (pc : Int) + o) = sw.map (fun e => (e.2 : Int)))
    (k : sn_J p l e R s m args below meth c Q D cA b sa A z0 w0 ad0 n0 i (sm_sw x sw a) L st M) : sn_J p l e R s m args below meth c Q D cA b sa A z0 w0 ad0 n0 i pc L (.int x :: st) M := by
  obtain ⟨hx, hb, hr0, hlk, hml, hown, hmn, hts, hK, hA, hZ, hfr, hlo⟩ := C
  intro ad ls H locs cells slots h1 h2 hr
  have kk := k ad ls H locs cells slots h1 h2 (hr.stk (vs_t hr.2.2.1))
  have hat : ∀ (j : Nat) (e : Int32 × Nat), sw[j]? = some e → e.1.toInt = lo + (j : Int) ∧ j < (hi - lo + 1).toNat := by
    intro j e he
    have q1 : (sw.map (fun e => e.1.toInt))[j]? = some e.1.toInt := by rw [List.getElem?_map, he]; rfl
    rw [hsw, List.getElem?_map] at q1
    by_cases hj : j < (hi - lo + 1).toNat
    · rw [List.getElem?_range hj] at q1
      exact ⟨(Option.some.inj q1).symm, hj⟩
    · rw [List.getElem?_eq_none (by simpa using hj)] at q1
      cases q1
  by_cases hin : x.toInt < lo ∨ hi < x.toInt
  · rw [sw_out sw a (fun e he hex => ?_)] at kk
    · exact lv_tableOut hx hb hd hin ha kk
    · obtain ⟨j, hj⟩ := List.getElem?_of_mem he
      have := hat j e hj
      rw [hex] at this
      omega
  · have h3 : ¬ x.toInt < lo := fun z => hin (Or.inl z)
    have h4 : ¬ hi < x.toInt := fun z => hin (Or.inr z)
    have hjl : (x.toInt - lo).toNat < (hi - lo + 1).toNat := by omega
    have hlen : sw.length = (hi - lo + 1).toNat := by have := congrArg List.length hsw; simpa using this
    obtain ⟨e, he⟩ : ∃ e, sw[(x.toInt - lo).toNat]? = some e := ⟨_, List.getElem?_eq_getElem (by rw [hlen]; exact hjl)⟩
    have hex : e.1 = x := Int32.toInt_inj.mp (by rw [(hat _ e he).1]; omega)
    have hq : (offs.toList.map (fun o => (pc : Int) + o))[(x.toInt - lo).toNat]? = some (e.2 : Int) := by rw [hof, List.getElem?_map, he]; rfl
    rw [List.getElem?_map] at hq
    cases ho : offs.toList[(x.toInt - lo).toNat]? with
    | none => rw [ho] at hq; cases hq
    | some o =>
      rw [ho] at hq
      have hq : (pc : Int) + o = (e.2 : Int) := Option.some.inj hq
      rw [sw_in sw a _ e.1 e.2 he hex (fun j hj z hz hzx => ?_)] at kk
      · exact lv_tableIn hx hb hd h3 h4 (by rw [← Array.getElem?_toList]; exact ho) hq kk
      · rw [List.getElem?_map] at hz
        cases hs : sw[j]? with
        | none => rw [hs] at hz; cases hz
        | some e2 =>
          rw [hs] at hz
          have hz : e2.1 = z := Option.some.inj hz
          have := (hat j e2 hs).1
          rw [hz, hzx] at this
          omega
theorem kp_905 {i a b c p ix : Nat} (h : kp i a b c p ix = true) : c = 5 := by
  simp only [kp, Bool.and_eq_true, decide_eq_true_eq] at h
  exact h.1
theorem kp_900 {i a b c p ix : Nat} (h : kp i a b c p ix = true) : 900 ≤ a := by
  simp only [kp, Bool.and_eq_true] at h
  have h2 := h.2
  split at h2 <;> first | omega | cases h2
theorem arr_in (t : ArrayType) (h : atag t ≠ 0) : Cond.arrayClass (newarray.typeOf t) ∈ uw := by
  cases t
  case int => exact wi_in (p := 222) (by decide +kernel)
  case boolean => exact wi_in (p := 1882) (by decide +kernel)
  case byte => exact wi_in (p := 251) (by decide +kernel)
  case long => exact wi_in (p := 426) (by decide +kernel)
  all_goals exact absurd rfl h
theorem mr_chk : (List.range 316).all (fun j => !(Nat.beq (mq j).1 2) || decide (mr j = none)) = true := by decide +kernel
theorem mr_init {i j n : Nat} (h : kc i j n = true) (h2 : (mq j).1 = 2) : mr j = none := by
  simp only [kc, Bool.and_eq_true, decide_eq_true_eq, Bool.or_eq_true] at h
  have hj : j < 316 := by omega
  have := List.all_eq_true.mp mr_chk j (List.mem_range.mpr hj)
  rw [h2] at this
  simpa using this
theorem oi_1 : Cond.instanceMethod Lib.objectInit ∈ uw := wi_in (p := 150) (by decide +kernel)
theorem oi_2 : Cond.code Lib.objectInit ⟨#[0xb1]⟩ 1 none ∈ uw := wi_in (p := 151) (by decide +kernel)
theorem sj_objinit (C : sn_C p R s m args meth c D cA A X b ZS i) {ix x : Nat} {rest : sm_S} (hd : decode (mb i) pc = .ok (.invokespecial ix, 3)) (hl : Cond.methodLink (my i).cls ix Lib.objectInit ∈ uw) (hf1 : 1 ≤ (mrm i).1) (hf2 : 20 ≤ (mrm i).2) (hcat : sm_cat rest ≤ 8) (k : sn_J p l e R s m args below meth c Q D cA b sa A z0 w0 ad0 n0 i (pc + 3) L rest M) : sn_J p l e R s m args below meth c Q D cA b sa A z0 w0 ad0 n0 i pc L ([Value.ref x].reverse ++ rest) M := by
  obtain ⟨hx, hb, hr0, hlk, hml, hown, hmn, hts, hK, hA, hZ, hfr, hlo⟩ := C
  intro ad ls H locs cells slots h1 h2 hr
  have hrest : ∀ w ∈ rest, vv M.1.length w := fun w hw => hr.2.2.1 w (List.mem_append_right _ hw)
  have h8 : ((rest.map (cv ad b sa)).map fun v => v.category).sum ≤ 8 := by rw [cat_sum]; exact hcat
  refine W.objInit hx hb hown (hts _ hl) (hts _ oi_1) (hts _ oi_2) rfl (by rw [hml]; exact hr.1.1) (a := ad x) (rest := rest.map (cv ad b sa)) rfl hd (by omega) ?_ (k ad ls H locs cells slots h1 h2 (hr.stk hrest))
  have := lv_room (m := m) (pc := pc) (ls := ls) (rest := rest.map (cv ad b sa)) h8
  show 2 * (F0 m pc ls _).monitorRoom + _ + 12 ≤ _
  have h9 : 2 * (F0 m pc ls ((([Value.ref x].reverse ++ rest : sm_S)).map (cv ad b sa))).monitorRoom + ((rest.map (cv ad b sa)).map fun v => v.category).sum ≤ 8 := lv_room h8
  omega
set_option maxHeartbeats 8000000 in
theorem sn_disp (C : sn_C p R s m args meth c D cA A X b ZS i) (hldc : sn_ldcs l X D cA b sa ZS) {q : Instr} {len a bb cd pp : Nat} {k0 : Int32} {kl : Int64} {sw : List (Int32 × Nat)} {o : sm_O} (hs : sm_step X (q, len, a, bb, cd, k0, kl, sw) L st M = some o) (hlk : lkb i pc (q, len, a, bb, cd, k0, kl, sw) pp = true) (hO : sn_O p l e R s m args below meth c Q D cA b sa A z0 w0 ad0 n0 i pc len M o) : sn_J p l e R s m args below meth c Q D cA b sa A z0 w0 ad0 n0 i pc L st M := by
  cases q
  case iconst n =>
    cases hs
    simp only [lkb, Bool.and_eq_true, decide_eq_true_eq] at hlk
    obtain ⟨hd, hv, rfl⟩ := hlk
    exact sj_iconst C hd hv hO.2
  case bipush n =>
    cases hs
    simp only [lkb, Bool.and_eq_true, decide_eq_true_eq] at hlk
    obtain ⟨hd, hv, rfl⟩ := hlk
    exact sj_bipush C hd hv hO.2
  case sipush n =>
    cases hs
    simp only [lkb, Bool.and_eq_true, decide_eq_true_eq] at hlk
    obtain ⟨hd, hv, rfl⟩ := hlk
    exact sj_sipush C hd hv hO.2
  case lconst n =>
    cases hs
    simp only [lkb, Bool.and_eq_true, decide_eq_true_eq] at hlk
    obtain ⟨hd, hv, rfl⟩ := hlk
    exact sj_lconst C hd hv hO.2
  case ldc ix =>
    simp only [sm_step, Bool.cond_eq_ite] at hs
    simp only [lkb, Bool.and_eq_true, decide_eq_true_eq, Bool.cond_eq_ite] at hlk
    obtain ⟨hd, rfl, hv⟩ := hlk
    split at hs
    · rename_i ha; cases hs; rw [if_pos ha] at hv; simp only [Bool.and_eq_true, decide_eq_true_eq] at hv; obtain ⟨hv1, rfl⟩ := hv; exact hldc p e R s m args below meth c Q A z0 w0 ad0 n0 i pc L st M C hd hv1 hO.2
    · rename_i ha; cases hs; rw [if_neg ha] at hv; exact sj_ldc C hd (wi_in hv) hO.2
  case ldc_w ix =>
    cases hs
    simp only [lkb, Bool.and_eq_true, decide_eq_true_eq] at hlk
    obtain ⟨hd, hv, rfl⟩ := hlk
    exact sj_ldcw C hd (wi_in hv) hO.2
  case ldc2_w ix =>
    cases hs
    simp only [lkb, Bool.and_eq_true, decide_eq_true_eq] at hlk
    obtain ⟨hd, hv, rfl⟩ := hlk
    exact sj_ldc2 C hd (wi_in hv) hO.2
  case iload n =>
    simp only [lkb, Bool.and_eq_true, decide_eq_true_eq] at hlk
    obtain ⟨hd, rfl⟩ := hlk
    simp only [sm_step, sm_ldi] at hs
    split at hs
    · rename_i x hn; cases hs; exact sj_iload C hd hn hO.2
    · cases hs
  case iload_n n =>
    simp only [lkb, Bool.and_eq_true, decide_eq_true_eq] at hlk
    obtain ⟨hd, rfl⟩ := hlk
    simp only [sm_step, sm_ldi] at hs
    split at hs
    · rename_i x hn; cases hs; exact sj_iload_n C hd hn hO.2
    · cases hs
  case lload n =>
    simp only [lkb, Bool.and_eq_true, decide_eq_true_eq] at hlk
    obtain ⟨hd, rfl⟩ := hlk
    simp only [sm_step, sm_ldl] at hs
    split at hs
    · rename_i x hn; cases hs; exact sj_lload C hd hn hO.2
    · cases hs
  case lload_n n =>
    simp only [lkb, Bool.and_eq_true, decide_eq_true_eq] at hlk
    obtain ⟨hd, rfl⟩ := hlk
    simp only [sm_step, sm_ldl] at hs
    split at hs
    · rename_i x hn; cases hs; exact sj_lload_n C hd hn hO.2
    · cases hs
  case aload n =>
    simp only [lkb, Bool.and_eq_true, decide_eq_true_eq] at hlk
    obtain ⟨hd, rfl⟩ := hlk
    simp only [sm_step, sm_lda, Bool.cond_eq_ite] at hs
    split at hs
    · rename_i x hn; cases hs; exact sj_aload C hd hn hO.2
    · rename_i x hn
      split at hs
      · rename_i hx0; cases hs; simp only [Bool.or_eq_true] at hx0; exact sj_aload_ra C (hx0.imp Nat.eq_of_beq_eq_true Nat.eq_of_beq_eq_true) hd hn hO.2
      · cases hs
    · cases hs
  case aload_n n =>
    simp only [lkb, Bool.and_eq_true, decide_eq_true_eq] at hlk
    obtain ⟨hd, rfl⟩ := hlk
    simp only [sm_step, sm_lda, Bool.cond_eq_ite] at hs
    split at hs
    · rename_i x hn; cases hs; exact sj_aload_n C hd hn hO.2
    · rename_i x hn
      split at hs
      · rename_i hx0; cases hs; simp only [Bool.or_eq_true] at hx0; exact sj_aload_n_ra C (hx0.imp Nat.eq_of_beq_eq_true Nat.eq_of_beq_eq_true) hd hn hO.2
      · cases hs
    · cases hs
  case istore n =>
    simp only [lkb, Bool.and_eq_true, decide_eq_true_eq] at hlk
    obtain ⟨hd, rfl, hn⟩ := hlk
    simp only [sm_step, sm_sti] at hs
    split at hs
    · cases hs; exact sj_istore C hd hn hO.2
    · cases hs
  case istore_n n =>
    simp only [lkb, Bool.and_eq_true, decide_eq_true_eq] at hlk
    obtain ⟨hd, rfl, hn⟩ := hlk
    simp only [sm_step, sm_sti] at hs
    split at hs
    · cases hs; exact sj_istore_n C hd hn hO.2
    · cases hs
  case lstore n =>
    simp only [lkb, Bool.and_eq_true, decide_eq_true_eq] at hlk
    obtain ⟨hd, rfl, hn⟩ := hlk
    simp only [sm_step, sm_stl] at hs
    split at hs
    · cases hs; exact sj_lstore C hd hn hO.2
    · cases hs
  case lstore_n n =>
    simp only [lkb, Bool.and_eq_true, decide_eq_true_eq] at hlk
    obtain ⟨hd, rfl, hn⟩ := hlk
    simp only [sm_step, sm_stl] at hs
    split at hs
    · cases hs; exact sj_lstore_n C hd hn hO.2
    · cases hs
  case astore n =>
    simp only [lkb, Bool.and_eq_true, decide_eq_true_eq] at hlk
    obtain ⟨hd, rfl, hn⟩ := hlk
    simp only [sm_step, sm_sta] at hs
    split at hs
    · cases hs; exact sj_astore C hd hn hO.2
    · cases hs
  case astore_n n =>
    simp only [lkb, Bool.and_eq_true, decide_eq_true_eq] at hlk
    obtain ⟨hd, rfl, hn⟩ := hlk
    simp only [sm_step, sm_sta] at hs
    split at hs
    · cases hs; exact sj_astore_n C hd hn hO.2
    · cases hs
  case iinc n v =>
    simp only [lkb, Bool.and_eq_true, decide_eq_true_eq] at hlk
    obtain ⟨hd, ⟨hv, rfl⟩, hn⟩ := hlk
    simp only [sm_step] at hs
    split at hs
    · rename_i x hx; cases hs; exact sj_iinc C hd hv hn hx hO.2
    · cases hs
  case iadd =>
    simp only [lkb, Bool.and_eq_true, decide_eq_true_eq] at hlk
    obtain ⟨hd, rfl⟩ := hlk
    simp only [sm_step, sm_i2] at hs
    split at hs
    · cases hs; exact sj_iadd C hd hO.2
    · cases hs
  case isub =>
    simp only [lkb, Bool.and_eq_true, decide_eq_true_eq] at hlk
    obtain ⟨hd, rfl⟩ := hlk
    simp only [sm_step, sm_i2] at hs
    split at hs
    · cases hs; exact sj_isub C hd hO.2
    · cases hs
  case imul =>
    simp only [lkb, Bool.and_eq_true, decide_eq_true_eq] at hlk
    obtain ⟨hd, rfl⟩ := hlk
    simp only [sm_step, sm_i2] at hs
    split at hs
    · cases hs; exact sj_imul C hd hO.2
    · cases hs
  case iand =>
    simp only [lkb, Bool.and_eq_true, decide_eq_true_eq] at hlk
    obtain ⟨hd, rfl⟩ := hlk
    simp only [sm_step, sm_i2] at hs
    split at hs
    · cases hs; exact sj_iand C hd hO.2
    · cases hs
  case ior =>
    simp only [lkb, Bool.and_eq_true, decide_eq_true_eq] at hlk
    obtain ⟨hd, rfl⟩ := hlk
    simp only [sm_step, sm_i2] at hs
    split at hs
    · cases hs; exact sj_ior C hd hO.2
    · cases hs
  case ixor =>
    simp only [lkb, Bool.and_eq_true, decide_eq_true_eq] at hlk
    obtain ⟨hd, rfl⟩ := hlk
    simp only [sm_step, sm_i2] at hs
    split at hs
    · cases hs; exact sj_ixor C hd hO.2
    · cases hs
  case ishl =>
    simp only [lkb, Bool.and_eq_true, decide_eq_true_eq] at hlk
    obtain ⟨hd, rfl⟩ := hlk
    simp only [sm_step, sm_i2] at hs
    split at hs
    · cases hs; exact sj_ishl C hd hO.2
    · cases hs
  case ishr =>
    simp only [lkb, Bool.and_eq_true, decide_eq_true_eq] at hlk
    obtain ⟨hd, rfl⟩ := hlk
    simp only [sm_step, sm_i2] at hs
    split at hs
    · cases hs; exact sj_ishr C hd hO.2
    · cases hs
  case iushr =>
    simp only [lkb, Bool.and_eq_true, decide_eq_true_eq] at hlk
    obtain ⟨hd, rfl⟩ := hlk
    simp only [sm_step, sm_i2] at hs
    split at hs
    · cases hs; exact sj_iushr C hd hO.2
    · cases hs
  case idiv =>
    simp only [lkb, Bool.and_eq_true, decide_eq_true_eq] at hlk
    obtain ⟨hd, rfl⟩ := hlk
    simp only [sm_step, sm_i2] at hs
    split at hs
    · cases hs; exact sj_idiv C hd hO.1 hO.2
    · cases hs
  case irem =>
    simp only [lkb, Bool.and_eq_true, decide_eq_true_eq] at hlk
    obtain ⟨hd, rfl⟩ := hlk
    simp only [sm_step, sm_i2] at hs
    split at hs
    · cases hs; exact sj_irem C hd hO.1 hO.2
    · cases hs
  case ladd =>
    simp only [lkb, Bool.and_eq_true, decide_eq_true_eq] at hlk
    obtain ⟨hd, rfl⟩ := hlk
    simp only [sm_step, sm_l2] at hs
    split at hs
    · cases hs; exact sj_ladd C hd hO.2
    · cases hs
  case lsub =>
    simp only [lkb, Bool.and_eq_true, decide_eq_true_eq] at hlk
    obtain ⟨hd, rfl⟩ := hlk
    simp only [sm_step, sm_l2] at hs
    split at hs
    · cases hs; exact sj_lsub C hd hO.2
    · cases hs
  case lmul =>
    simp only [lkb, Bool.and_eq_true, decide_eq_true_eq] at hlk
    obtain ⟨hd, rfl⟩ := hlk
    simp only [sm_step, sm_l2] at hs
    split at hs
    · cases hs; exact sj_lmul C hd hO.2
    · cases hs
  case land =>
    simp only [lkb, Bool.and_eq_true, decide_eq_true_eq] at hlk
    obtain ⟨hd, rfl⟩ := hlk
    simp only [sm_step, sm_l2] at hs
    split at hs
    · cases hs; exact sj_land C hd hO.2
    · cases hs
  case lor =>
    simp only [lkb, Bool.and_eq_true, decide_eq_true_eq] at hlk
    obtain ⟨hd, rfl⟩ := hlk
    simp only [sm_step, sm_l2] at hs
    split at hs
    · cases hs; exact sj_lor C hd hO.2
    · cases hs
  case lcmp =>
    simp only [lkb, Bool.and_eq_true, decide_eq_true_eq] at hlk
    obtain ⟨hd, rfl⟩ := hlk
    simp only [sm_step, sm_l2] at hs
    split at hs
    · cases hs; exact sj_lcmp C hd hO.2
    · cases hs
  case ldiv =>
    simp only [lkb, Bool.and_eq_true, decide_eq_true_eq] at hlk
    obtain ⟨hd, rfl⟩ := hlk
    simp only [sm_step, sm_l2] at hs
    split at hs
    · cases hs; exact sj_ldiv C hd hO.1 hO.2
    · cases hs
  case lrem =>
    simp only [lkb, Bool.and_eq_true, decide_eq_true_eq] at hlk
    obtain ⟨hd, rfl⟩ := hlk
    simp only [sm_step, sm_l2] at hs
    split at hs
    · cases hs; exact sj_lrem C hd hO.1 hO.2
    · cases hs
  case lshl =>
    simp only [lkb, Bool.and_eq_true, decide_eq_true_eq] at hlk
    obtain ⟨hd, rfl⟩ := hlk
    simp only [sm_step, sm_li] at hs
    split at hs
    · cases hs; exact sj_lshl C hd hO.2
    · cases hs
  case lushr =>
    simp only [lkb, Bool.and_eq_true, decide_eq_true_eq] at hlk
    obtain ⟨hd, rfl⟩ := hlk
    simp only [sm_step, sm_li] at hs
    split at hs
    · cases hs; exact sj_lushr C hd hO.2
    · cases hs
  case ineg =>
    simp only [lkb, Bool.and_eq_true, decide_eq_true_eq] at hlk
    obtain ⟨hd, rfl⟩ := hlk
    simp only [sm_step, sm_i1] at hs
    split at hs
    · cases hs; exact sj_ineg C hd hO.2
    · cases hs
  case i2l =>
    simp only [lkb, Bool.and_eq_true, decide_eq_true_eq] at hlk
    obtain ⟨hd, rfl⟩ := hlk
    simp only [sm_step, sm_i1] at hs
    split at hs
    · cases hs; exact sj_i2l C hd hO.2
    · cases hs
  case i2b =>
    simp only [lkb, Bool.and_eq_true, decide_eq_true_eq] at hlk
    obtain ⟨hd, rfl⟩ := hlk
    simp only [sm_step, sm_i1] at hs
    split at hs
    · cases hs; exact sj_i2b C hd hO.2
    · cases hs
  case lneg =>
    simp only [lkb, Bool.and_eq_true, decide_eq_true_eq] at hlk
    obtain ⟨hd, rfl⟩ := hlk
    simp only [sm_step, sm_l1] at hs
    split at hs
    · cases hs; exact sj_lneg C hd hO.2
    · cases hs
  case l2i =>
    simp only [lkb, Bool.and_eq_true, decide_eq_true_eq] at hlk
    obtain ⟨hd, rfl⟩ := hlk
    simp only [sm_step, sm_l1] at hs
    split at hs
    · cases hs; exact sj_l2i C hd hO.2
    · cases hs
  case pop =>
    simp only [lkb, Bool.and_eq_true, decide_eq_true_eq] at hlk
    obtain ⟨hd, rfl⟩ := hlk
    simp only [sm_step, Bool.cond_eq_ite] at hs
    split at hs
    · split at hs
      · cases hs
      · rename_i hv; cases hs; exact sj_pop C hd (by simpa using hv) hO.2
    · cases hs
  case dup =>
    simp only [lkb, Bool.and_eq_true, decide_eq_true_eq] at hlk
    obtain ⟨hd, rfl⟩ := hlk
    simp only [sm_step, Bool.cond_eq_ite] at hs
    split at hs
    · split at hs
      · cases hs
      · rename_i hv; cases hs; exact sj_dup C hd (by simpa using hv) hO.2
    · cases hs
  case pop2 =>
    simp only [lkb, Bool.and_eq_true, decide_eq_true_eq] at hlk
    obtain ⟨hd, rfl⟩ := hlk
    simp only [sm_step, Bool.cond_eq_ite] at hs
    split at hs
    · split at hs
      · rename_i hv; cases hs; exact sj_pop2 C hd hv hO.2
      · cases hs
    · cases hs
  case dup2 =>
    simp only [lkb, Bool.and_eq_true, decide_eq_true_eq] at hlk
    obtain ⟨hd, rfl⟩ := hlk
    simp only [sm_step, Bool.cond_eq_ite] at hs
    split at hs
    · split at hs
      · cases hs
      · rename_i hv; cases hs; simp only [Bool.or_eq_true, not_or, Bool.not_eq_true] at hv; exact sj_dup2 C hd hv.1 hv.2 hO.2
    · cases hs
  case ifCond cc oo =>
    simp only [lkb, Bool.and_eq_true, decide_eq_true_eq] at hlk
    obtain ⟨hd, ht, rfl⟩ := hlk
    simp only [sm_step, sm_i1] at hs
    split at hs
    · cases cc <;> cases hs
      · exact sj_if_eq C hd ht hO.1 hO.2
      · exact sj_if_ne C hd ht hO.1 hO.2
      · exact sj_if_lt C hd ht hO.1 hO.2
      · exact sj_if_ge C hd ht hO.1 hO.2
      · exact sj_if_gt C hd ht hO.1 hO.2
      · exact sj_if_le C hd ht hO.1 hO.2
    · cases hs
  case if_icmp cc oo =>
    simp only [lkb, Bool.and_eq_true, decide_eq_true_eq] at hlk
    obtain ⟨hd, ht, rfl⟩ := hlk
    simp only [sm_step, sm_i2] at hs
    split at hs
    · cases cc <;> cases hs
      · exact sj_icmp_eq C hd ht hO.1 hO.2
      · exact sj_icmp_ne C hd ht hO.1 hO.2
      · exact sj_icmp_lt C hd ht hO.1 hO.2
      · exact sj_icmp_ge C hd ht hO.1 hO.2
      · exact sj_icmp_gt C hd ht hO.1 hO.2
      · exact sj_icmp_le C hd ht hO.1 hO.2
    · cases hs
  case goto oo =>
    cases hs
    simp only [lkb, Bool.and_eq_true, decide_eq_true_eq] at hlk
    obtain ⟨hd, ht, rfl⟩ := hlk
    exact sj_goto C hd ht hO
  case tableswitch d0 lo hi offs =>
    simp only [lkb, Bool.and_eq_true, decide_eq_true_eq] at hlk
    obtain ⟨hd, ⟨⟨ha, hlh⟩, hsw⟩, hof⟩ := hlk
    simp only [sm_step, sm_i1] at hs
    split at hs
    · cases hs; exact sj_switch C hd ha hlh hsw hof hO
    · cases hs
  case getfield ix =>
    simp only [lkb, Bool.and_eq_true, decide_eq_true_eq] at hlk
    obtain ⟨hd, hf, rfl⟩ := hlk
    simp only [sm_step, sm_get, sm_r1, Bool.cond_eq_ite] at hs
    split at hs
    · split at hs
      · rename_i hk; cases hs; exact sj_get C hd hf hk hO.2
      · cases hs
    · cases hs
  case putfield ix =>
    simp only [lkb, Bool.and_eq_true, decide_eq_true_eq] at hlk
    obtain ⟨hd, ⟨hf, rfl⟩, hfin⟩ := hlk
    have hfin : (!((cl_at a).2.1 bb).2.2.2 || (decide ((my i).name = "<init>") && decide (((cl_at a).2.1 bb).1 = (my i).cls))) = true := hfin
    simp only [sm_step, sm_put, Bool.cond_eq_ite] at hs
    split at hs
    · split at hs
      · rename_i hk
        split at hs
        · rename_i h0; cases hs; exact sj_puti C hd hf hfin hk (Or.inl (Nat.eq_of_beq_eq_true h0)) hO.2
        · split at hs
          · rename_i h0; cases hs; exact sj_puti C hd hf hfin hk (Or.inr ⟨Nat.eq_of_beq_eq_true h0, hO.1⟩) hO.2
          · cases hs
      · cases hs
    · split at hs
      · rename_i hk; cases hs; simp only [Bool.and_eq_true] at hk; have e2 := Nat.eq_of_beq_eq_true hk.2; subst e2; exact sj_putl C hd hf hfin hk.1 hO.2
      · cases hs
    · split at hs
      · rename_i hk; cases hs; simp only [Bool.and_eq_true] at hk; have e2 := Nat.eq_of_beq_eq_true hk.2; subst e2; exact sj_putr C hd hf hfin hk.1 hO.2
      · cases hs
    · cases hs
  case iaload =>
    simp only [lkb, Bool.and_eq_true, decide_eq_true_eq] at hlk
    obtain ⟨hd, rfl⟩ := hlk
    simp only [sm_step, sm_ial, Bool.cond_eq_ite] at hs
    split at hs
    · cases hs; exact sj_iald C hd hO.1 hO.2
    · split at hs
      · rename_i hz; cases hs; simp only [Bool.and_eq_true] at hz; have e2 := Nat.eq_of_beq_eq_true hz.1; subst e2; exact sj_sld C hd hO.1 hO.2
      · cases hs
    · cases hs
  case baload =>
    simp only [lkb, Bool.and_eq_true, decide_eq_true_eq, Bool.or_eq_true] at hlk
    obtain ⟨hd, ht, rfl⟩ := hlk
    simp only [sm_step, sm_ial, Bool.cond_eq_ite] at hs
    split at hs
    · cases hs; exact sj_bald C hd ht hO.1 hO.2
    · split at hs
      · rename_i hz; simp only [Bool.and_eq_true] at hz; have e2 := Nat.eq_of_beq_eq_true hz.2; omega
      · cases hs
    · cases hs
  case laload =>
    simp only [lkb, Bool.and_eq_true, decide_eq_true_eq] at hlk
    obtain ⟨hd, rfl⟩ := hlk
    simp only [sm_step, sm_lal] at hs
    split at hs
    · cases hs; exact sj_lald C hd hO.1 hO.2
    · cases hs
  case iastore =>
    simp only [lkb, Bool.and_eq_true, decide_eq_true_eq] at hlk
    obtain ⟨hd, rfl⟩ := hlk
    simp only [sm_step, sm_ias] at hs
    split at hs
    · cases hs; exact sj_ast0 C (t := 100) (Or.inl ⟨rfl, rfl, rfl⟩) hd hO.1 hO.2
    · cases hs
  case bastore =>
    simp only [lkb, Bool.and_eq_true, decide_eq_true_eq, Bool.or_eq_true] at hlk
    obtain ⟨hd, ht, rfl⟩ := hlk
    simp only [sm_step, sm_ias] at hs
    split at hs
    · cases hs
      rcases ht with rfl | rfl
      · exact sj_ast0 C (t := 101) (Or.inr (Or.inl ⟨rfl, rfl, rfl⟩)) hd hO.1 hO.2
      · exact sj_ast0 C (t := 102) (Or.inr (Or.inr ⟨rfl, rfl, rfl⟩)) hd hO.1 hO.2
    · cases hs
  case lastore =>
    simp only [lkb, Bool.and_eq_true, decide_eq_true_eq] at hlk
    obtain ⟨hd, rfl⟩ := hlk
    simp only [sm_step, sm_las] at hs
    split at hs
    · cases hs; exact sj_last C hd hO.1 hO.2
    · cases hs
  case arraylength =>
    simp only [lkb, Bool.and_eq_true, decide_eq_true_eq] at hlk
    obtain ⟨hd, ⟨h100, h103⟩, rfl⟩ := hlk
    simp only [sm_step, sm_aln, Bool.cond_eq_ite] at hs
    split at hs
    · split at hs
      · rename_i hk; cases hs; exact sj_alen C hd h100 h103 hk hO.2
      · cases hs
    · split at hs
      · rename_i hz; cases hs; have e2 := Nat.eq_of_beq_eq_true hz; subst e2; exact sj_slen C hd hO.2
      · cases hs
    · cases hs
  case new ix =>
    simp only [lkb, Bool.and_eq_true, decide_eq_true_eq] at hlk
    obtain ⟨hd, ⟨⟨ha, hn⟩, hl⟩, rfl⟩ := hlk
    cases hs
    have hc := List.all_eq_true.mp lkc_all a (List.mem_range.mpr ha)
    simp only [Bool.and_eq_true] at hc
    have h9 := hO.1
    rw [cz_app, sz_app] at h9
    exact sj_new C hd ha hn (wi_in hl) (wi_in hc.1) (wi_in hc.2) h9.1 h9.2 hO.2
  case newarray t0 =>
    simp only [lkb, Bool.and_eq_true, decide_eq_true_eq] at hlk
    obtain ⟨hd, ⟨ha, h100⟩, rfl⟩ := hlk
    simp only [sm_step, sm_nwa, Bool.cond_eq_ite] at hs
    split at hs
    · split at hs
      · rename_i hn; cases hs; simp only [Bool.and_eq_true, decide_eq_true_eq] at hn; have h9 := hO.1; rw [cz_app, sz_app] at h9; exact sj_nwa C hd ha h100 (arr_in t0 (by omega)) hn.1 hn.2 h9.1 h9.2 hO.2
      · cases hs
    · cases hs
  case invokevirtual ix =>
    simp only [lkb, Bool.and_eq_true, decide_eq_true_eq, Bool.cond_eq_ite] at hlk
    obtain ⟨hd, rfl, hv⟩ := hlk
    simp only [sm_step, sm_inv, Bool.cond_eq_ite] at hs
    split at hs
    · rename_i as r ht
      obtain ⟨pre, hpl, rfl, has⟩ := sm_take_spec _ _ _ _ _ ht
      rw [List.append_nil] at has
      have hpre : pre = as.reverse := by rw [has, List.reverse_reverse]
      have hal : as.length = bb := by rw [has, List.length_reverse]; exact hpl
      split at hs
      · rename_i hcat
        simp only [Bool.and_eq_true] at hcat
        have hc1 := Nat.le_of_ble_eq_true hcat.1
        have hc2 := Nat.le_of_ble_eq_true hcat.2
        split at hs
        · rename_i h0
          split at hs
          · rename_i o as' 
            split at hs
            · rename_i hko; cases hs; rw [if_pos h0] at hv; simp only [Bool.and_eq_true, decide_eq_true_eq] at hv
              have e0 := Nat.eq_of_beq_eq_true h0; subst e0
              rw [hpre]; exact hO ⟨hc1, hc2, bb, 0, ix, hal, Or.inr ⟨hv.1.1.1.1.1, Or.inl ⟨rfl, hd, hv.1.1.1.2, wi_in hv.1.1.2, hv.1.2, hv.2, _, _, rfl, hko⟩⟩⟩
            · cases hs
          · cases hs
        · rename_i h0
          rw [if_neg h0] at hv
          simp only [Bool.and_eq_true, decide_eq_true_eq] at hv
          have e5 := kp_905 hv.2; subst e5
          simp only [show Nat.beq 5 3 = false from rfl, show Nat.beq 5 4 = false from rfl, Bool.false_eq_true, if_false] at hs
          cases hs
          rw [hpre]; exact hO ⟨hc1, hc2, bb, 5, ix, hal, Or.inl ⟨kp_900 hv.2, rfl, ⟨_, hv.2⟩, Or.inl ⟨hv.1, hd⟩⟩⟩
      · cases hs
    · cases hs
  case invokestatic ix =>
    simp only [lkb, Bool.and_eq_true, decide_eq_true_eq, Bool.cond_eq_ite] at hlk
    obtain ⟨hd, rfl, hv⟩ := hlk
    simp only [sm_step, sm_inv, Bool.cond_eq_ite] at hs
    split at hs
    · rename_i as r ht
      obtain ⟨pre, hpl, rfl, has⟩ := sm_take_spec _ _ _ _ _ ht
      rw [List.append_nil] at has
      have hpre : pre = as.reverse := by rw [has, List.reverse_reverse]
      have hal : as.length = bb := by rw [has, List.length_reverse]; exact hpl
      split at hs
      · rename_i hcat
        simp only [Bool.and_eq_true] at hcat
        have hc1 := Nat.le_of_ble_eq_true hcat.1
        have hc2 := Nat.le_of_ble_eq_true hcat.2
        by_cases h1 : Nat.beq cd 1 = true
        · rw [if_pos h1] at hv; simp only [Bool.and_eq_true, decide_eq_true_eq] at hv
          have e1 := Nat.eq_of_beq_eq_true h1; subst e1
          simp only [show Nat.beq 1 0 = false from rfl, show Nat.beq 1 3 = false from rfl, show Nat.beq 1 4 = false from rfl, Bool.false_eq_true, if_false] at hs
          cases hs
          rw [hpre]; exact hO ⟨hc1, hc2, bb, 1, ix, hal, Or.inr ⟨hv.1.1, Or.inr (Or.inl ⟨rfl, hd, hv.1.2, wi_in hv.2⟩)⟩⟩
        · rw [if_neg h1] at hv
          by_cases h2 : Nat.beq cd 2 = true
          · rw [if_pos h2] at hv; simp only [Bool.and_eq_true, decide_eq_true_eq] at hv
            have e1 := Nat.eq_of_beq_eq_true h2; subst e1
            simp only [show Nat.beq 2 0 = false from rfl, show Nat.beq 2 3 = false from rfl, show Nat.beq 2 4 = false from rfl, Bool.false_eq_true, if_false] at hs
            cases hs
            rw [hpre]; exact hO ⟨hc1, hc2, bb, 2, ix, hal, Or.inr ⟨hv.1.1, Or.inr (Or.inr (Or.inl ⟨rfl, hd, hv.1.2, wn_in hv.2⟩))⟩⟩
          · rw [if_neg h2] at hv
            simp only [Bool.and_eq_true, decide_eq_true_eq] at hv
            have e5 := kp_905 hv.2; subst e5
            simp only [show Nat.beq 5 0 = false from rfl, show Nat.beq 5 3 = false from rfl, show Nat.beq 5 4 = false from rfl, Bool.false_eq_true, if_false] at hs
            cases hs
            rw [hpre]; exact hO ⟨hc1, hc2, bb, 5, ix, hal, Or.inl ⟨kp_900 hv.2, rfl, ⟨_, hv.2⟩, Or.inr ⟨hv.1, hd⟩⟩⟩
      · cases hs
    · cases hs
  case invokespecial ix =>
    simp only [lkb, Bool.and_eq_true, decide_eq_true_eq, Bool.cond_eq_ite] at hlk
    obtain ⟨hd, rfl, hv⟩ := hlk
    simp only [sm_step, sm_inv, Bool.cond_eq_ite] at hs
    split at hs
    · rename_i as r ht
      obtain ⟨pre, hpl, rfl, has⟩ := sm_take_spec _ _ _ _ _ ht
      rw [List.append_nil] at has
      have hpre : pre = as.reverse := by rw [has, List.reverse_reverse]
      have hal : as.length = bb := by rw [has, List.length_reverse]; exact hpl
      split at hs
      · rename_i hcat
        simp only [Bool.and_eq_true] at hcat
        have hc1 := Nat.le_of_ble_eq_true hcat.1
        have hc2 := Nat.le_of_ble_eq_true hcat.2
        by_cases h3 : Nat.beq cd 3 = true
        · rw [if_pos h3] at hv; simp only [Bool.and_eq_true, decide_eq_true_eq] at hv
          have e1 := Nat.eq_of_beq_eq_true h3; subst e1
          simp only [show Nat.beq 3 0 = false from rfl, show Nat.beq 3 3 = true from rfl, Bool.false_eq_true, if_false, if_true] at hs
          split at hs
          · cases hs
            rw [hpre]; exact hO ⟨hc1, hc2, bb, 3, ix, hal, Or.inr ⟨hv.1.1.1.1, Or.inr (Or.inr (Or.inr ⟨rfl, hd, hv.1.1.2, wi_in hv.1.2, hv.2, mr_init hv.1.1.1.1 hv.1.1.2, _, _, rfl⟩))⟩⟩
          · cases hs
        · rw [if_neg h3] at hv; simp only [Bool.and_eq_true, decide_eq_true_eq] at hv
          obtain ⟨⟨⟨⟨rfl, rfl⟩, hl⟩, hf1⟩, hf2⟩ := hv
          simp only [show Nat.beq 4 0 = false from rfl, show Nat.beq 4 3 = false from rfl, show Nat.beq 4 4 = true from rfl, Bool.false_eq_true, if_false, if_true] at hs
          split at hs
          · cases hs
            rw [hpre]; exact sj_objinit C hd (wi_in hl) hf1 hf2 hc1 hO.2
          · cases hs
      · cases hs
    · cases hs
  case ireturn =>
    simp only [lkb, Bool.and_eq_true, decide_eq_true_eq, Bool.cond_eq_ite] at hlk
    obtain ⟨hd, rfl, hv⟩ := hlk
    simp only [sm_step, Bool.cond_eq_ite] at hs
    split at hs
    · split at hs
      · rename_i h1; cases hs; rw [if_pos h1] at hv; exact hO.2 L (Or.inr (Or.inl ⟨_, rfl, hd, Or.inr ⟨of_decide_eq_true hv, hO.1⟩⟩))
      · rename_i h1; cases hs; rw [if_neg h1] at hv; exact hO.2 L (Or.inr (Or.inl ⟨_, rfl, hd, Or.inl (of_decide_eq_true hv)⟩))
    · cases hs
  case lreturn =>
    simp only [lkb, Bool.and_eq_true, decide_eq_true_eq] at hlk
    obtain ⟨hd, hv, rfl⟩ := hlk
    simp only [sm_step] at hs
    split at hs
    · cases hs; exact hO.2 L (Or.inr (Or.inr ⟨_, rfl, hd, hv⟩))
    · cases hs
  case return_ =>
    simp only [lkb, Bool.and_eq_true, decide_eq_true_eq] at hlk
    obtain ⟨hd, hv, rfl⟩ := hlk
    simp only [sm_step] at hs
    split at hs
    · cases hs; exact hO.2 L (Or.inl ⟨rfl, hd, hv⟩)
    · cases hs
  all_goals cases hs
end SN6
end
