/-! New cells. -/
theorem sn_fv_app {M : sm_M} {q : Nat × Nat} {r : List (Option Nat)} (h : sn_ok M) (t k : Nat) (hk : k < M.1.length) : sm_fv t (M.1 ++ [q], M.2.1, M.2.2.1, M.2.2.2.1, M.2.2.2.2 ++ [r]) k = sm_fv t M k := by
  funext j
  unfold sm_fv
  simp only [sm_rw_app M.2.2.2.2 r k (by rw [h.1]; exact hk)]
/-- the world with one cell more -/
theorem sn_W_app {cA : Nat → ClassId} {ad : Nat → Nat} {b sa a' : Nat} {M : sm_M} {q : Nat × Nat} {r : List (Option Nat)} {e0 : va_E} (h : sn_ok M) (he : sn_e cA (va_up ad M.1.length a') b sa (M.1 ++ [q], M.2.1, M.2.2.1, M.2.2.2.1, M.2.2.2.2 ++ [r]) M.1.length q = e0) :
    sn_W cA (va_up ad M.1.length a') b sa (M.1 ++ [q], M.2.1, M.2.2.1, M.2.2.2.1, M.2.2.2.2 ++ [r]) = sn_W cA ad b sa M ++ [(a', e0)] := by
  unfold sn_W
  rw [show (M.1 ++ [q], M.2.1, M.2.2.1, M.2.2.2.1, M.2.2.2.2 ++ [r]).1.length = M.1.length + 1 by simp, List.range_succ, List.map_append, List.map_singleton]
  congr 1
  · refine List.map_congr_left fun k hk => ?_
    have hk : k < M.1.length := List.mem_range.mp hk
    have h1 : sm_kd (M.1 ++ [q]) k = sm_kd M.1 k := sm_kd_app _ _ _ hk
    have h2 : va_up ad M.1.length a' k = ad k := by simp [va_up, Nat.ne_of_lt hk]
    refine Prod.ext h2 ?_
    show sn_e cA _ b sa _ k (sm_kd (M.1 ++ [q]) k) = sn_e cA ad b sa M k (sm_kd M.1 k)
    rw [h1]
    unfold sn_e
    simp only [sn_fv_app h _ k hk]
    congr 3
    refine List.map_congr_left fun j _ => ?_
    exact cv_ext (sn_fv_ok h _ _ _) fun z hz => by simp [va_up, Nat.ne_of_lt hz]
  · have h1 : sm_kd (M.1 ++ [q]) M.1.length = q := sm_kd_new _ _
    have h2 : va_up ad M.1.length a' M.1.length = a' := by simp [va_up]
    show [(va_up ad M.1.length a' M.1.length, sn_e cA _ b sa _ M.1.length (sm_kd (M.1 ++ [q]) M.1.length))] = _
    rw [h1, h2, he]
theorem sn_ok_app {M : sm_M} {q : Nat × Nat} {r : List (Option Nat)} (h : sn_ok M) (hq : (q.1 < 13 ∧ q.2 = (cl_at q.1).2.2 ∧ r.length = q.2) ∨ (100 ≤ q.1 ∧ q.1 ≤ 103)) (hr : ∀ j, sm_on r j = none) : sn_ok (M.1 ++ [q], M.2.1, M.2.2.1, M.2.2.2.1, M.2.2.2.2 ++ [r]) := by
  refine ⟨by simp [h.1], fun k hk => ?_, fun k j x hx => ?_, fun k hk j => ?_⟩
  · have hk : k < M.1.length + 1 := by simpa using hk
    show (((sm_kd (M.1 ++ [q]) k).1 < 13 ∧ (sm_kd (M.1 ++ [q]) k).2 = _ ∧ (sm_rw (M.2.2.2.2 ++ [r]) k).length = _) ∨ _)
    by_cases hk2 : k < M.1.length
    · rw [sm_kd_app _ _ _ hk2, sm_rw_app _ _ _ (by rw [h.1]; exact hk2)]
      exact h.2.1 k hk2
    · have e : k = M.1.length := by omega
      subst e
      rw [sm_kd_new, show sm_rw (M.2.2.2.2 ++ [r]) M.1.length = r by rw [← h.1]; exact sm_rw_new _ _]
      exact hq
  · have hx : sm_on (sm_rw (M.2.2.2.2 ++ [r]) k) j = some x := hx
    show x < (M.1 ++ [q]).length
    rw [List.length_append]
    by_cases hk2 : k < M.2.2.2.2.length
    · rw [sm_rw_app _ _ _ hk2] at hx
      have := h.2.2.1 _ _ _ hx
      omega
    · by_cases hk3 : k = M.2.2.2.2.length
      · subst hk3
        rw [sm_rw_new, hr] at hx
        cases hx
      · rw [sm_rw_out _ _ (by rw [List.length_append]; simp; omega)] at hx
        cases hx
  · have hk : (M.1 ++ [q]).length ≤ k := hk
    rw [List.length_append] at hk
    exact h.2.2.2 k (by simp at hk; omega) j
theorem sn_en_ext {ad ad' : Nat → Nat} {b sa n : Nat} (he : ∀ k, k < n → ad' k = ad k) : ∀ (L : sm_L) (j : Nat), (∀ k v, sm_nth L k = some v → vv n v) → sn_en ad' b sa j L = sn_en ad b sa j L
  | [], _, _ => rfl
  | none :: l, j, h => sn_en_ext he l (j + 1) fun k v hk => h (k + 1) v hk
  | some v :: l, j, h => by
    show (j, cv ad' b sa v) :: sn_en ad' b sa (j + 1) l = (j, cv ad b sa v) :: sn_en ad b sa (j + 1) l
    rw [sn_en_ext he l (j + 1) fun k v hk => h (k + 1) v hk, cv_ext (h 0 v rfl) he]
theorem sn_st_ext {ad ad' : Nat → Nat} {b sa n : Nat} (he : ∀ k, k < n → ad' k = ad k) {st : sm_S} (h : ∀ v ∈ st, vv n v) : st.map (cv ad' b sa) = st.map (cv ad b sa) := List.map_congr_left fun v hv => cv_ext (h v hv) he
theorem sz_app {M : sm_M} {q : Nat × Nat} {r : List (Option Nat)} : sz (M.1 ++ [q], M.2.1, M.2.2.1, M.2.2.2.1, M.2.2.2.2 ++ [r]) = sz M + q.2 := by
  simp [sz]; omega
theorem cz_app {M : sm_M} {q : Nat × Nat} {r : List (Option Nat)} : cz (M.1 ++ [q], M.2.1, M.2.2.1, M.2.2.2.1, M.2.2.2.2 ++ [r]) = cz M + 1 := by
  simp [cz]; omega
theorem fct_le (a j : Nat) : fct a j ≤ 3 := by
  unfold fct fcode
  (repeat' split) <;> omega
theorem fv_default {M : sm_M} {a j n : Nat} (ha : a < 13) (hj : j < (cl_at a).2.2) (h : sn_ok M) (ad : Nat → Nat) (b sa : Nat) : defaultValue (cl_tyk a j) = cv ad b sa (sm_fv (fct a j) (M.1 ++ [(a, n)], M.2.1, M.2.2.1, M.2.2.2.1, M.2.2.2.2 ++ [List.replicate n none]) M.1.length j) := by
  have hty := cl_tyok ha hj
  have hz := h.2.2.2 M.1.length (Nat.le_refl _) j
  unfold sm_fv
  simp only [hz.1, hz.2]
  have hrr : sm_rw (M.2.2.2.2 ++ [List.replicate n none]) M.1.length = List.replicate n none := by rw [← h.1]; exact sm_rw_new _ _
  rw [hrr, sm_on_rep]
  match hc : fct a j, hty with
  | 0, hty => rw [hc] at *; have : cl_tyk a j = .int := of_decide_eq_true hty; rw [this]; rfl
  | 1, hty => have : cl_tyk a j = .boolean := of_decide_eq_true hty; rw [this]; rfl
  | 2, hty => have : cl_tyk a j = .long := of_decide_eq_true hty; rw [this]; rfl
  | k + 3, hty =>
    have hk3 : k = 0 := by
      have := fct_le a j
      omega
    subst hk3
    have hkr : kind_ref (cl_tyk a j) = true := hty
    cases ht : cl_tyk a j with
    | object _ => rfl
    | array _ => rfl
    | _ => rw [ht] at hkr; cases hkr
section SN4
variable {p : Program} {l : Launch} {e : Env} {R : Room} {s : State} {m : MethodId} {args : Array Value} {below : List Frame} {meth : Method} {c : Code} {Q : State → Prop} {D : va_G} {cA : Nat → ClassId} {b sa : Nat} {A : Nat → Prop} {z0 w0 : Nat} {ad0 : Nat → Nat} {n0 : Nat} {i pc : Nat} {X : (Nat → Int32) × Nat} {L : sm_L} {st : sm_S} {M : sm_M}
variable {ZS : Nat → (Nat → Prop) → State → Prop}
theorem sj_new (C : sn_C p R s m args meth c D cA A X b ZS i) {ix a n : Nat} (hd : decode (mb i) pc = .ok (.new ix, 3)) (ha : a < 13) (hn : n = (cl_at a).2.2) (hlink : Cond.classLink (my i).cls ix (cl_at a).1 ∈ uw) (hin1 : Cond.instantiable (cl_at a).1 (cl_at a).2.2 ∈ uw) (hin2 : Cond.initialized (cl_at a).1 ∈ uw) (hrc : cz M + 1 ≤ z0 + R.cells) (hrs : sz M + n ≤ w0 + R.slots)
    (k : sn_J p l e R s m args below meth c Q D cA b sa A z0 w0 ad0 n0 i (pc + 3) L (.ref M.1.length :: st) (M.1 ++ [(a, n)], M.2.1, M.2.2.1, M.2.2.2.1, M.2.2.2.2 ++ [List.replicate n none])) : sn_J p l e R s m args below meth c Q D cA b sa A z0 w0 ad0 n0 i pc L st M := by
  subst hn
  obtain ⟨hx, hb, hr0, hlk, hml, hown, hmn, hts, hK, hA, hZ, hfr, hlo⟩ := C
  intro ad ls H locs cells slots h1 h2 hr
  have h1' := h1.1
  have hM := hr.2.2.2.1
  have hbl : Nat.ble 100 a = false := by cases hb : Nat.ble 100 a with | false => rfl | true => have := Nat.le_of_ble_eq_true hb; omega
  have hee : ∀ k, k < M.1.length → ∀ q, va_up ad M.1.length q k = ad k := fun k hk q => by simp [va_up, Nat.ne_of_lt hk]
  refine va_new (D := D) (ci := a) (fs := (List.range (cl_at a).2.2).map (fun j => cv ad b sa (sm_fv (fct a j) (M.1 ++ [(a, (cl_at a).2.2)], M.2.1, M.2.2.1, M.2.2.2.1, M.2.2.2.2 ++ [List.replicate (cl_at a).2.2 none]) M.1.length j))) (C := (cl_at a).1) (T := (cl_at a).2.1) (N := (cl_at a).2.2) hx hb hts (cl_in ha) (cl_tyk a) (cl_desc ha) hown (hts _ hlink) (hts _ hin1) (hts _ hin2) hK hr.2.2.2.2.1 hr.2.2.2.2.2.1 hr.2.2.2.2.2.2 hA (cl_get ha) ?_ (by omega) (by omega) hd ?_
  · intro j hj
    rw [fv_default (n := (cl_at a).2.2) ha hj hM ad b sa]
    simp [vp_V, hj]
  · intro q H1 hP1 hD1 hS1
    have hWe : sn_W cA (va_up ad M.1.length q) b sa (M.1 ++ [(a, (cl_at a).2.2)], M.2.1, M.2.2.1, M.2.2.2.1, M.2.2.2.2 ++ [List.replicate (cl_at a).2.2 none]) = sn_W cA ad b sa M ++ [(q, .inr (a, (List.range (cl_at a).2.2).map (fun j => cv ad b sa (sm_fv (fct a j) (M.1 ++ [(a, (cl_at a).2.2)], M.2.1, M.2.2.1, M.2.2.2.1, M.2.2.2.2 ++ [List.replicate (cl_at a).2.2 none]) M.1.length j))))] := by
      refine sn_W_app hM ?_
      unfold sn_e
      simp only [hbl, cond_false]
      congr 2
      refine List.map_congr_left fun j hj => ?_
      rw [← fv_default (n := (cl_at a).2.2) ha (List.mem_range.mp hj) hM, ← fv_default (n := (cl_at a).2.2) ha (List.mem_range.mp hj) hM]
    rw [← hWe] at hP1 hD1
    have kk := k (va_up ad M.1.length q) ls H1 locs (cells + 1) (slots + (cl_at a).2.2) ⟨by rw [cz_app]; omega, Nat.le_trans h1.2.1 (by simp), fun k hk => (hee k (Nat.lt_of_lt_of_le hk h1.2.1) q).trans (h1.2.2 k hk)⟩ (by rw [sz_app]; omega) ⟨by rw [sn_en_ext (fun k hk => hee k hk q) L 0 hr.2.1]; exact hr.1, fun j v hj => vv_mono (hr.2.1 j v hj) (by simp), vs_c (vv_ref (by simp)) (fun v hv => vv_mono (hr.2.2.1 v hv) (by simp)), sn_ok_app hM (Or.inl ⟨ha, rfl, by simp⟩) (sm_on_rep _), hP1, hD1, hS1⟩
    rw [List.map_cons, sn_st_ext (fun k hk => hee k hk q) hr.2.2.1] at kk
    have e0 : cv (va_up ad M.1.length q) b sa (.ref M.1.length) = .ref q := by show Value.ref (va_up ad M.1.length q M.1.length) = _; simp [va_up]
    rw [e0] at kk
    exact kk
theorem sj_nwa (C : sn_C p R s m args meth c D cA A X b ZS i) {t : ArrayType} {a : Nat} {n : Int32} (hd : decode (mb i) pc = .ok (.newarray t, 2)) (hat : atag t = a) (ha : 100 ≤ a) (hcls : Cond.arrayClass (newarray.typeOf t) ∈ uw) (hn0 : 0 ≤ n) (hn1 : n ≤ 65536) (hrc : cz M + 1 ≤ z0 + R.cells) (hrs : sz M + n.toNatClampNeg ≤ w0 + R.slots)
    (k : sn_J p l e R s m args below meth c Q D cA b sa A z0 w0 ad0 n0 i (pc + 2) L (.ref M.1.length :: st) (M.1 ++ [(a, n.toNatClampNeg)], M.2.1, M.2.2.1, M.2.2.2.1, M.2.2.2.2 ++ [[]])) : sn_J p l e R s m args below meth c Q D cA b sa A z0 w0 ad0 n0 i pc L (.int n :: st) M := by
  obtain ⟨hx, hb, hr0, hlk, hml, hown, hmn, hts, hK, hA, hZ, hfr, hlo⟩ := C
  intro ad ls H locs cells slots h1 h2 hr
  have h1' := h1.1
  have hM := hr.2.2.2.1
  have hst := vs_t hr.2.2.1
  have hz := hM.2.2.2 M.1.length (Nat.le_refl _)
  have hI : M.2.2.1 M.1.length = fun _ => 0 := funext fun j => (hz j).1
  have hJ : M.2.2.2.1 M.1.length = fun _ => 0 := funext fun j => (hz j).2
  have hNn : ¬ n < 0 := by
    intro h
    rw [Int32.lt_iff_toInt_lt] at h
    rw [Int32.le_iff_toInt_le] at hn0
    omega
  have hNb : n.toNatClampNeg ≤ 65536 := by
    rw [Int32.le_iff_toInt_le] at hn1
    have e1 : (65536 : Int32).toInt = 65536 := by decide
    rw [e1] at hn1
    unfold Int32.toNatClampNeg
    omega
  have hee : ∀ k, k < M.1.length → ∀ q, va_up ad M.1.length q k = ad k := fun k hk q => by simp [va_up, Nat.ne_of_lt hk]
  have go : ∀ (ty : FieldType) (t0 : Nat) (a0 : vp_A), newarray.typeOf t = ty → (sn_ty cA)[t0]? = some (cA a, ty) → (∀ cA' : ClassId, vp_cell cA' a0 = arrV cA' n.toNatClampNeg (fun _ => defaultValue ty)) → n.toNatClampNeg * componentBytes ty ≤ 536870912 → (∀ (U : State) (c1 c2 : ClassId), va_RA U c1 ty → va_RA U c2 ty → c1 = c2) →
      (∀ q, sn_e cA (va_up ad M.1.length q) b sa (M.1 ++ [(a, n.toNatClampNeg)], M.2.1, M.2.2.1, M.2.2.2.1, M.2.2.2.2 ++ [[]]) M.1.length (a, n.toNatClampNeg) = .inl (cA a, a0)) → a ≤ 103 →
      W p l e R s m args below meth c H locs cells slots Q (F0 m pc ls ((.int n :: st : sm_S).map (cv ad b sa))) := by
    intro ty t0 a0 hty ht0 ha0 hby huni hse h103
    refine va_newa hx hb (hts _ hcls) hty hK hr.2.2.2.2.1 hr.2.2.2.2.2.1 hr.2.2.2.2.2.2 hA (a0 := a0) ha0 hNn rfl hby (by omega) (by omega) hd ?_
    intro q cA' H1 hK1 hP1 hD1 hS1
    have hcc : cA' = cA a := huni s cA' (cA a) (hK1.2 4 (cA', ty) (by simp)).2 (hK.2 t0 _ ht0).2
    subst hcc
    have hWe : sn_W cA (va_up ad M.1.length q) b sa (M.1 ++ [(a, n.toNatClampNeg)], M.2.1, M.2.2.1, M.2.2.2.1, M.2.2.2.2 ++ [[]]) = sn_W cA ad b sa M ++ [(q, .inl (cA a, a0))] := sn_W_app hM (hse q)
    rw [← hWe] at hP1 hD1
    have kk := k (va_up ad M.1.length q) ls H1 locs (cells + 1) (slots + n.toNatClampNeg) ⟨by rw [cz_app]; omega, Nat.le_trans h1.2.1 (by simp), fun k hk => (hee k (Nat.lt_of_lt_of_le hk h1.2.1) q).trans (h1.2.2 k hk)⟩ (by rw [sz_app]; omega) ⟨by rw [sn_en_ext (fun k hk => hee k hk q) L 0 hr.2.1]; exact hr.1, fun j v hj => vv_mono (hr.2.1 j v hj) (by simp), vs_c (vv_ref (by simp)) (fun v hv => vv_mono (hst v hv) (by simp)), sn_ok_app hM (Or.inr ⟨ha, h103⟩) (fun _ => rfl), hP1, hD1, hS1⟩
    rw [List.map_cons, sn_st_ext (fun k hk => hee k hk q) hst] at kk
    have e0 : cv (va_up ad M.1.length q) b sa (.ref M.1.length) = .ref q := by show Value.ref (va_up ad M.1.length q M.1.length) = _; simp [va_up]
    rw [e0] at kk
    exact kk
  cases t with
  | int =>
    have : a = 100 := hat.symm
    subst this
    exact go .int 0 (n.toNatClampNeg, .inl (fun _ => 0)) rfl rfl (fun _ => rfl) (by show _ * 4 ≤ _; omega) (fun U c1 c2 q1 q2 => Option.some.inj (q1.symm.trans q2)) (fun q => by unfold sn_e; simp only [hI]; rfl) (by decide)
  | boolean =>
    have : a = 101 := hat.symm
    subst this
    exact go .boolean 1 (n.toNatClampNeg, .inl (fun _ => 0)) rfl rfl (fun _ => rfl) (by show _ * 1 ≤ _; omega) (fun U c1 c2 q1 q2 => Option.some.inj (q1.symm.trans q2)) (fun q => by unfold sn_e; simp only [hI]; rfl) (by decide)
  | byte =>
    have : a = 102 := hat.symm
    subst this
    exact go .byte 2 (n.toNatClampNeg, .inl (fun _ => 0)) rfl rfl (fun _ => rfl) (by show _ * 1 ≤ _; omega) (fun U c1 c2 q1 q2 => Option.some.inj (q1.symm.trans q2)) (fun q => by unfold sn_e; simp only [hI]; rfl) (by decide)
  | long =>
    have : a = 103 := hat.symm
    subst this
    exact go .long 3 (n.toNatClampNeg, .inr (.inl (fun _ => 0))) rfl rfl (fun _ => rfl) (by show _ * 8 ≤ _; omega) (fun U c1 c2 q1 q2 => Option.some.inj (q1.symm.trans q2)) (fun q => by unfold sn_e; simp only [hJ]; rfl) (by decide)
  | _ => rw [show atag _ = 0 from rfl] at hat; omega
end SN4
