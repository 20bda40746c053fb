/-! Memory: fields, arrays, new cells. -/
def kind_ref : FieldType → Bool
  | .object _ => true
  | .array _ => true
  | _ => false
def cl_tyk (a j : Nat) : FieldType := (cl_ty.getD a ty_0) j
def tyc (c : Nat) (ty : FieldType) : Bool := match c with
  | 0 => decide (ty = .int)
  | 1 => decide (ty = .boolean)
  | 2 => decide (ty = .long)
  | _ => kind_ref ty
/-- the classes' rows -/
theorem cl_chk : (List.range 13).all (fun a => decide ((u_ws (cl_at a).1 (cl_at a).2.1 (cl_at a).2.2).length = (cl_lp.getD a []).length) && ((u_ws (cl_at a).1 (cl_at a).2.1 (cl_at a).2.2).zip (cl_lp.getD a [])).all (fun e => wi e.2 e.1)) = true := by decide +kernel
theorem cl_chk2 : (List.range 13).all (fun a => (List.range (cl_at a).2.2).all (fun j => tyc (fct a j) (cl_tyk a j))) = true := by decide +kernel
theorem cl_in {a : Nat} (h : a < 13) : ∀ w ∈ u_ws (cl_at a).1 (cl_at a).2.1 (cl_at a).2.2, w ∈ uw := by
  have h1 := List.all_eq_true.mp cl_chk a (List.mem_range.mpr h)
  simp only [Bool.and_eq_true, decide_eq_true_eq] at h1
  intro w hw
  obtain ⟨k, hk⟩ := List.getElem?_of_mem hw
  have hkl : k < (u_ws (cl_at a).1 (cl_at a).2.1 (cl_at a).2.2).length := (List.getElem?_eq_some_iff.mp hk).1
  obtain ⟨q, hq⟩ : ∃ q, (cl_lp.getD a [])[k]? = some q := ⟨_, List.getElem?_eq_getElem (by rw [← h1.1]; exact hkl)⟩
  have hz : (w, q) ∈ (u_ws (cl_at a).1 (cl_at a).2.1 (cl_at a).2.2).zip (cl_lp.getD a []) := by
    refine List.mem_of_getElem? (i := k) ?_
    rw [List.getElem?_zip_eq_some]
    exact ⟨hk, hq⟩
  exact wi_in (List.all_eq_true.mp h1.2 _ hz)
theorem cl_get {a : Nat} (h : a < 13) : cl_all[a]? = some ((cl_at a).1, (cl_at a).2.1, (cl_at a).2.2) := by
  have hl : a < cl_all.length := h
  show cl_all[a]? = some (cl_at a)
  unfold cl_at
  rw [List.getElem?_eq_getElem hl]
  simp [List.getD, List.getElem?_eq_getElem hl]
theorem cl_tyok {a j : Nat} (h : a < 13) (hj : j < (cl_at a).2.2) : tyc (fct a j) (cl_tyk a j) = true := List.all_eq_true.mp (List.all_eq_true.mp cl_chk2 a (List.mem_range.mpr h)) j (List.mem_range.mpr hj)
theorem cl_13 {P : Nat → Prop} (h0 : P 0) (h1 : P 1) (h2 : P 2) (h3 : P 3) (h4 : P 4) (h5 : P 5) (h6 : P 6) (h7 : P 7) (h8 : P 8) (h9 : P 9) (h10 : P 10) (h11 : P 11) (h12 : P 12) {a : Nat} (h : a < 13) : P a := by
  match a, h with
  | 0, _ => exact h0
  | 1, _ => exact h1
  | 2, _ => exact h2
  | 3, _ => exact h3
  | 4, _ => exact h4
  | 5, _ => exact h5
  | 6, _ => exact h6
  | 7, _ => exact h7
  | 8, _ => exact h8
  | 9, _ => exact h9
  | 10, _ => exact h10
  | 11, _ => exact h11
  | 12, _ => exact h12
  | n + 13, h => omega
theorem cl_desc {a : Nat} (h : a < 13) : ∀ k, k < (cl_at a).2.2 → parseFieldDescriptor ((cl_at a).2.1 k).2.2.1 = some (cl_tyk a k) :=
  cl_13 (P := fun a => ∀ k, k < (cl_at a).2.2 → parseFieldDescriptor ((cl_at a).2.1 k).2.2.1 = some (cl_tyk a k)) tyk_0 tyk_1 tyk_2 tyk_3 tyk_4 tyk_5 tyk_6 tyk_7 tyk_8 tyk_9 tyk_10 tyk_11 tyk_12 h
theorem cl_nm {a : Nat} (h : a < 13) : ∀ x, x < (cl_at a).2.2 → ∀ y, y < (cl_at a).2.2 → x ≠ y → ((cl_at a).2.1 x).2.1 ≠ ((cl_at a).2.1 y).2.1 :=
  cl_13 (P := fun a => ∀ x, x < (cl_at a).2.2 → ∀ y, y < (cl_at a).2.2 → x ≠ y → ((cl_at a).2.1 x).2.1 ≠ ((cl_at a).2.1 y).2.1) nm_0 nm_1 nm_2 nm_3 nm_4 nm_5 nm_6 nm_7 nm_8 nm_9 nm_10 nm_11 nm_12 h
theorem kf_spec {i a b c p ix : Nat} (h : kf i a b c p ix = true) : a < 13 ∧ b < (cl_at a).2.2 ∧ Cond.fieldLink (my i).cls ix ((cl_at a).2.1 b).1 ((cl_at a).2.1 b).2.1 ((cl_at a).2.1 b).2.2.1 ∈ uw ∧ fct a b = c := by
  simp only [kf, Bool.and_eq_true, decide_eq_true_eq] at h
  exact ⟨h.1.1.1, h.1.1.2, wi_in h.1.2, h.2⟩
theorem sn_obj {cA : Nat → ClassId} {ad : Nat → Nat} {b sa : Nat} {M : sm_M} {o a : Nat} (hM : sn_ok M) (ha : a < 13) (hk : Nat.beq (sm_kd M.1 o).1 a = true) :
    o < M.1.length ∧ (sm_kd M.1 o).2 = (cl_at a).2.2 ∧ (sm_rw M.2.2.2.2 o).length = (cl_at a).2.2 ∧ (sn_W cA ad b sa M)[o]? = some (ad o, .inr (a, (List.range (cl_at a).2.2).map (fun j => cv ad b sa (sm_fv (fct a j) M o j)))) := by
  have e : (sm_kd M.1 o).1 = a := Nat.eq_of_beq_eq_true hk
  have ho : o < M.1.length := by
    rcases Nat.lt_or_ge o M.1.length with h | h
    · exact h
    · rw [sm_kd_out _ _ h] at e; omega
  rcases hM.2.1 o ho with ⟨h1, h2, h3⟩ | ⟨h1, h2⟩
  · rw [e] at h2
    refine ⟨ho, h2, h3.trans h2, ?_⟩
    rw [sn_at ho]
    unfold sn_e
    rw [show Nat.ble 100 (sm_kd M.1 o).1 = false from (by rw [e]; cases hb : Nat.ble 100 a with | false => rfl | true => have := Nat.le_of_ble_eq_true hb; omega)]
    simp only [cond_false, e, h2]
  · omega
theorem sn_W_set {cA : Nat → ClassId} {ad : Nat → Nat} {b sa : Nat} {M M' : sm_M} {o : Nat} {e' : va_E} (hK : M'.1 = M.1) (hne : ∀ k, k < M.1.length → k ≠ o → sn_e cA ad b sa M' k (sm_kd M.1 k) = sn_e cA ad b sa M k (sm_kd M.1 k)) (he : sn_e cA ad b sa M' o (sm_kd M.1 o) = e') :
    sn_W cA ad b sa M' = (sn_W cA ad b sa M).set o (ad o, e') := by
  refine List.ext_getElem? fun k => ?_
  by_cases hk : k < M.1.length
  · rw [sn_at (by rw [hK]; exact hk), hK]
    by_cases hko : k = o
    · subst hko
      rw [List.getElem?_set_self (by rw [sn_len]; exact hk), he]
    · rw [List.getElem?_set_ne (Ne.symm hko), sn_at hk, hne k hk hko]
  · rw [List.getElem?_eq_none (by rw [sn_len, hK]; omega), List.getElem?_eq_none (by rw [List.length_set, sn_len]; omega)]
theorem map_range_set {α : Type} {n k : Nat} {f g : Nat → α} {v : α} (hk : g k = v) (hne : ∀ j, j < n → j ≠ k → g j = f j) : (List.range n).map g = ((List.range n).map f).set k v := by
  refine List.ext_getElem? fun j => ?_
  by_cases hj : j < n
  · by_cases hjk : j = k
    · subst hjk
      rw [List.getElem?_set_self (by simpa using hj)]
      simp [hj, hk]
    · rw [List.getElem?_set_ne (Ne.symm hjk)]
      simp [hj, hne j hj hjk]
  · rw [List.getElem?_eq_none (by simp; omega), List.getElem?_eq_none (by simp; omega)]
section SN2
variable {p : Program} {l : Launch} {e : Env} {R : Room} {s : State} {m : MethodId} {args : Array Value} {below : List Frame} {meth : Method} {c : Code} {Q : State → Prop} {D : va_G} {cA : Nat → ClassId} {b sa : Nat} {A : Nat → Prop} {z0 w0 : Nat} {ad0 : Nat → Nat} {n0 : Nat} {i pc : Nat} {X : (Nat → Int32) × Nat} {L : sm_L} {st : sm_S} {M : sm_M}
variable {ZS : Nat → (Nat → Prop) → State → Prop}
theorem sj_get (C : sn_C p R s m args meth c D cA A X b ZS i) {ix a f cd pp o : Nat} (hd : decode (mb i) pc = .ok (.getfield ix, 3)) (hf : kf i a f cd pp ix = true) (hk : Nat.beq (sm_kd M.1 o).1 a = true) (k : sn_J p l e R s m args below meth c Q D cA b sa A z0 w0 ad0 n0 i (pc + 3) L (sm_fv cd M o f :: st) M) : sn_J p l e R s m args below meth c Q D cA b sa A z0 w0 ad0 n0 i pc L (.ref o :: st) M := by
  obtain ⟨hx, hb, hr0, hlk, hml, hown, hmn, hts, hK, hA, hZ, hfr, hlo⟩ := C
  intro ad ls H locs cells slots h1 h2 hr
  obtain ⟨ha, hfN, hlink, hc⟩ := kf_spec hf
  obtain ⟨ho, -, -, hat⟩ := sn_obj (cA := cA) (ad := ad) (b := b) (sa := sa) hr.2.2.2.1 ha hk
  refine va_get (D := D) (ci := a) (v := cv ad b sa (sm_fv cd M o f)) (C := (cl_at a).1) (T := (cl_at a).2.1) (N := (cl_at a).2.2) hx hb hts (cl_in ha) hown hK hr.2.2.2.2.1 o hat (cl_get ha) f hfN (hts _ hlink) (fun _ h9 => h9) ?_ hd ?_
  · simp [hfN, hc]
  · exact k ad ls H locs cells slots h1 h2 (hr.stk (vs_c (sn_fv_ok hr.2.2.2.1 _ _ _) (vs_t hr.2.2.1)))
/-- a field is written: what the three kinds of fields have in common -/
theorem sj_put0 (C : sn_C p R s m args meth c D cA A X b ZS i) {ix a f cd pp o : Nat} {v : Value} {M' : sm_M} (hd : decode (mb i) pc = .ok (.putfield ix, 3)) (hf : kf i a f cd pp ix = true) (hfin : (!((cl_at a).2.1 f).2.2.2 || (decide ((my i).name = "<init>") && decide (((cl_at a).2.1 f).1 = (my i).cls))) = true) (hk : Nat.beq (sm_kd M.1 o).1 a = true)
    (hn : ∀ ad, narrow (cl_tyk a f) (cv ad b sa v) = cv ad b sa v) (hfit : ∀ ad, fits (cl_tyk a f) (cv ad b sa v) = true) (hM1 : M'.1 = M.1) (hM2 : M'.2.1 = M.2.1) (hok : sn_ok M → vv M.1.length v → sn_ok M') (hoth : ∀ j, j ≠ o → (∀ t, sm_fv t M' j = sm_fv t M j) ∧ M'.2.2.1 j = M.2.2.1 j ∧ M'.2.2.2.1 j = M.2.2.2.1 j) (hsame : ∀ j, j < (cl_at a).2.2 → j ≠ f → sm_fv (fct a j) M' o j = sm_fv (fct a j) M o j) (hself : (sm_rw M.2.2.2.2 o).length = (cl_at a).2.2 → o < M.2.2.2.2.length → sm_fv cd M' o f = v)
    (k : sn_J p l e R s m args below meth c Q D cA b sa A z0 w0 ad0 n0 i (pc + 3) L st M') : sn_J p l e R s m args below meth c Q D cA b sa A z0 w0 ad0 n0 i pc L (v :: .ref o :: st) M := by
  obtain ⟨hx, hb, hr0, hlk, hml, hown, hmn, hts, hK, hA, hZ, hfr, hlo⟩ := C
  intro ad ls H locs cells slots h1 h2 hr
  obtain ⟨ha, hfN, hlink, hc⟩ := kf_spec hf
  have hM := hr.2.2.2.1
  obtain ⟨ho, hN, hrl, hat⟩ := sn_obj (cA := cA) (ad := ad) (b := b) (sa := sa) hM ha hk
  have eo : (sm_kd M.1 o).1 = a := Nat.eq_of_beq_eq_true hk
  have hbl : Nat.ble 100 a = false := by cases hb : Nat.ble 100 a with | false => rfl | true => have := Nat.le_of_ble_eq_true hb; omega
  have hW : sn_W cA ad b sa M' = (sn_W cA ad b sa M).set o (ad o, .inr (a, ((List.range (cl_at a).2.2).map (fun j => cv ad b sa (sm_fv (fct a j) M o j))).set f (cv ad b sa v))) := by
    refine sn_W_set hM1 (fun j _ hj => ?_) ?_
    · obtain ⟨q1, q2, q3⟩ := hoth j hj
      unfold sn_e
      rw [q2, q3]
      simp only [q1]
    · unfold sn_e
      rw [eo, hbl]
      simp only [cond_false, hN]
      congr 2
      refine map_range_set ?_ fun j hj hjf => ?_
      · rw [hc, hself hrl (by rw [hM.1]; exact ho)]
      · rw [hsame j hj hjf]
  have kk : ∀ (H1 : Heap) (locs1 : List Loc), va_P D cl_all ((sn_W cA ad b sa M).set o (ad o, .inr (a, ((List.range (cl_at a).2.2).map (fun j => cv ad b sa (sm_fv (fct a j) M o j))).set f (cv ad b sa v)))) H1 → va_D A ((sn_W cA ad b sa M).set o (ad o, .inr (a, ((List.range (cl_at a).2.2).map (fun j => cv ad b sa (sm_fv (fct a j) M o j))).set f (cv ad b sa v)))) → va_S A s.heap H1 locs1 → W p l e R s m args below meth c H1 locs1 cells slots Q (F0 m (pc + 3) ls (st.map (cv ad b sa))) := by
    intro H1 locs1 hP1 hD1 hS1
    rw [← hW] at hP1 hD1
    exact k ad ls H1 locs1 cells slots (by unfold sn_cn cz at h1 ⊢; rw [hM1, hM2]; exact h1) (by unfold sz at h2 ⊢; rw [hM1, hM2]; exact h2) ⟨hr.1, by rw [hM1]; exact hr.2.1, by rw [hM1]; exact vs_t (vs_t hr.2.2.1), hok hM (vs_h hr.2.2.1), hP1, hD1, hS1⟩
  have hll : f < ((List.range (cl_at a).2.2).map (fun j => cv ad b sa (sm_fv (fct a j) M o j))).length := by simpa using hfN
  cases hfb : ((cl_at a).2.1 f).2.2.2 with
  | false => exact va_put (D := D) (ci := a) (ty := cl_tyk a f) (C := (cl_at a).1) (T := (cl_at a).2.1) (N := (cl_at a).2.2) hx hb hts (cl_in ha) (cl_tyk a) (cl_desc ha) (cl_nm ha) hown hK hr.2.2.2.2.1 hr.2.2.2.2.2.1 hr.2.2.2.2.2.2 o hat (cl_get ha) f hfN (hts _ hlink) (fun _ h9 => h9) hfb (cl_desc ha f hfN) (hn ad) (hfit ad) hll hd kk
  | true =>
    rw [hfb] at hfin
    simp only [Bool.not_true, Bool.false_or, Bool.and_eq_true, decide_eq_true_eq] at hfin
    exact va_putF (D := D) (ci := a) (ty := cl_tyk a f) (C := (cl_at a).1) (T := (cl_at a).2.1) (N := (cl_at a).2.2) hx hb hts (cl_in ha) (cl_tyk a) (cl_desc ha) (cl_nm ha) hown hK hr.2.2.2.2.1 hr.2.2.2.2.2.1 hr.2.2.2.2.2.2 o hat (cl_get ha) f hfN (hts _ hlink) (fun _ h9 => h9) hfb (hmn.trans hfin.1) hfin.2 (cl_desc ha f hfN) (hn ad) (hfit ad) hll hd kk
end SN2
