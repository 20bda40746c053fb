/-! Memory, continued: the kinds of fields; arrays; new cells. -/
theorem up2_at {α : Type} {I : Nat → Nat → α} {a k : Nat} {v : α} {j : Nat} : up2 I a k v a j = if j = k then v else I a j := by rw [up2_self]; rfl
theorem sn_ok_I {M : sm_M} {o f : Nat} {x : Int32} (h : sn_ok M) (ho : o < M.1.length) : sn_ok (M.1, M.2.1, up2 M.2.2.1 o f x, M.2.2.2.1, M.2.2.2.2) := by
  refine ⟨h.1, h.2.1, h.2.2.1, fun k hk j => ⟨?_, (h.2.2.2 k hk j).2⟩⟩
  show up2 M.2.2.1 o f x k j = 0
  have hk : M.1.length ≤ k := hk
  rw [up2_ne (by omega)]
  exact (h.2.2.2 k hk j).1
theorem sn_ok_J {M : sm_M} {o f : Nat} {x : Int64} (h : sn_ok M) (ho : o < M.1.length) : sn_ok (M.1, M.2.1, M.2.2.1, up2 M.2.2.2.1 o f x, M.2.2.2.2) := by
  refine ⟨h.1, h.2.1, h.2.2.1, fun k hk j => ⟨(h.2.2.2 k hk j).1, ?_⟩⟩
  show up2 M.2.2.2.1 o f x k j = 0
  have hk : M.1.length ≤ k := hk
  rw [up2_ne (by omega)]
  exact (h.2.2.2 k hk j).2
theorem sn_len_in {K : List (Nat × Nat)} {t o : Nat} {j : Int32} (h : vp_in j (sm_len K t o)) (ht : t ≠ 99) : o < K.length ∧ (sm_kd K o).1 = t ∧ sm_len K t o = (sm_kd K o).2 := by
  unfold sm_len at h ⊢
  cases hb : Nat.beq (sm_kd K o).1 t with
  | false => rw [hb] at h; exact absurd (Or.inr (Nat.zero_le _)) h
  | true =>
    have e : (sm_kd K o).1 = t := Nat.eq_of_beq_eq_true hb
    refine ⟨?_, e, rfl⟩
    rcases Nat.lt_or_ge o K.length with h1 | h1
    · exact h1
    · rw [sm_kd_out _ _ h1] at e; exact absurd e.symm ht
theorem sn_arr {cA : Nat → ClassId} {ad : Nat → Nat} {b sa : Nat} {M : sm_M} {o t : Nat} (ho : o < M.1.length) (e : (sm_kd M.1 o).1 = t) (ht : 100 ≤ t) (h3 : t ≠ 103) : (sn_W cA ad b sa M)[o]? = some (ad o, .inl (cA t, (sm_kd M.1 o).2, .inl (M.2.2.1 o))) := by
  rw [sn_at ho]
  unfold sn_e
  rw [e, show Nat.ble 100 t = true from Nat.ble_eq_true_of_le ht, show Nat.beq t 103 = false from (by cases hb : Nat.beq t 103 with | false => rfl | true => exact absurd (Nat.eq_of_beq_eq_true hb) h3)]
  rfl
theorem sn_arrL {cA : Nat → ClassId} {ad : Nat → Nat} {b sa : Nat} {M : sm_M} {o : Nat} (ho : o < M.1.length) (e : (sm_kd M.1 o).1 = 103) : (sn_W cA ad b sa M)[o]? = some (ad o, .inl (cA 103, (sm_kd M.1 o).2, .inr (.inl (M.2.2.2.1 o)))) := by
  rw [sn_at ho]
  unfold sn_e
  rw [e]
  rfl
section SN3
variable {p : Program} {l : Launch} {e : Env} {R : Room} {s : State} {m : MethodId} {args : Array Value} {below : List Frame} {meth : Method} {c : Code} {Q : State → Prop} {D : va_G} {cA : Nat → ClassId} {b sa : Nat} {A : Nat → Prop} {z0 w0 : Nat} {ad0 : Nat → Nat} {n0 : Nat} {i pc : Nat} {X : (Nat → Int32) × Nat} {L : sm_L} {st : sm_S} {M : sm_M}
variable {ZS : Nat → (Nat → Prop) → State → Prop}
theorem sj_puti (C : sn_C p R s m args meth c D cA A X b ZS i) {ix a f cd pp o : Nat} {x : Int32} (hd : decode (mb i) pc = .ok (.putfield ix, 3)) (hf : kf i a f cd pp ix = true) (hfin : (!((cl_at a).2.1 f).2.2.2 || (decide ((my i).name = "<init>") && decide (((cl_at a).2.1 f).1 = (my i).cls))) = true) (hk : Nat.beq (sm_kd M.1 o).1 a = true)
    (hcd : cd = 0 ∨ (cd = 1 ∧ sm_zb x)) (k : sn_J p l e R s m args below meth c Q D cA b sa A z0 w0 ad0 n0 i (pc + 3) L st (M.1, M.2.1, up2 M.2.2.1 o f x, M.2.2.2.1, M.2.2.2.2)) : sn_J p l e R s m args below meth c Q D cA b sa A z0 w0 ad0 n0 i pc L (.int x :: .ref o :: st) M := by
  obtain ⟨ha, hfN, hlink, hc⟩ := kf_spec hf
  have hty := cl_tyok ha hfN
  rw [hc] at hty
  have hnf : narrow (cl_tyk a f) (.int x) = .int x ∧ fits (cl_tyk a f) (.int x) = true := by
    rcases hcd with rfl | ⟨rfl, hz⟩
    · have : cl_tyk a f = .int := of_decide_eq_true hty
      rw [this]
      exact ⟨vp_nar_int x, rfl⟩
    · have : cl_tyk a f = .boolean := of_decide_eq_true hty
      rw [this]
      rcases hz with rfl | rfl <;> exact ⟨by decide, by decide⟩
  have hc3 : Nat.beq cd 3 = false ∧ Nat.beq cd 2 = false := by rcases hcd with rfl | ⟨rfl, -⟩ <;> exact ⟨rfl, rfl⟩
  refine sj_put0 (M' := (M.1, M.2.1, up2 M.2.2.1 o f x, M.2.2.2.1, M.2.2.2.2)) C hd hf hfin hk (fun _ => hnf.1) (fun _ => hnf.2) rfl rfl (fun h _ => sn_ok_I h (sn_obj (cA := cA) (ad := id) (b := 0) (sa := 0) h ha hk).1) (fun j hj => ⟨fun t => ?_, up2_ne hj, rfl⟩) (fun j _ hjf => ?_) (fun _ _ => ?_) k
  · funext z
    unfold sm_fv
    simp only [up2_ne hj]
  · unfold sm_fv
    simp only [up2_at, if_neg hjf]
  · unfold sm_fv
    simp only [hc3.1, hc3.2, cond_false, up2_at, if_true]
theorem sj_putl (C : sn_C p R s m args meth c D cA A X b ZS i) {ix a f pp o : Nat} {x : Int64} (hd : decode (mb i) pc = .ok (.putfield ix, 3)) (hf : kf i a f 2 pp ix = true) (hfin : (!((cl_at a).2.1 f).2.2.2 || (decide ((my i).name = "<init>") && decide (((cl_at a).2.1 f).1 = (my i).cls))) = true) (hk : Nat.beq (sm_kd M.1 o).1 a = true)
    (k : sn_J p l e R s m args below meth c Q D cA b sa A z0 w0 ad0 n0 i (pc + 3) L st (M.1, M.2.1, M.2.2.1, up2 M.2.2.2.1 o f x, M.2.2.2.2)) : sn_J p l e R s m args below meth c Q D cA b sa A z0 w0 ad0 n0 i pc L (.long x :: .ref o :: st) M := by
  obtain ⟨ha, hfN, hlink, hc⟩ := kf_spec hf
  have hty := cl_tyok ha hfN
  rw [hc] at hty
  have hnf : narrow (cl_tyk a f) (.long x) = .long x ∧ fits (cl_tyk a f) (.long x) = true := by
    have : cl_tyk a f = .long := of_decide_eq_true hty
    rw [this]
    exact ⟨rfl, rfl⟩
  refine sj_put0 (M' := (M.1, M.2.1, M.2.2.1, up2 M.2.2.2.1 o f x, M.2.2.2.2)) C hd hf hfin hk (fun _ => hnf.1) (fun _ => hnf.2) rfl rfl (fun h _ => sn_ok_J h (sn_obj (cA := cA) (ad := id) (b := 0) (sa := 0) h ha hk).1) (fun j hj => ⟨fun t => ?_, rfl, up2_ne hj⟩) (fun j _ hjf => ?_) (fun _ _ => ?_) k
  · funext z
    unfold sm_fv
    simp only [up2_ne hj]
  · unfold sm_fv
    simp only [up2_at, if_neg hjf]
  · unfold sm_fv
    simp only [show Nat.beq 2 3 = false from rfl, show Nat.beq 2 2 = true from rfl, cond_false, cond_true, up2_at, if_true]
theorem sj_putr (C : sn_C p R s m args meth c D cA A X b ZS i) {ix a f pp o : Nat} {x : Nat} (hd : decode (mb i) pc = .ok (.putfield ix, 3)) (hf : kf i a f 3 pp ix = true) (hfin : (!((cl_at a).2.1 f).2.2.2 || (decide ((my i).name = "<init>") && decide (((cl_at a).2.1 f).1 = (my i).cls))) = true) (hk : Nat.beq (sm_kd M.1 o).1 a = true)
    (k : sn_J p l e R s m args below meth c Q D cA b sa A z0 w0 ad0 n0 i (pc + 3) L st (M.1, M.2.1, M.2.2.1, M.2.2.2.1, sm_set M.2.2.2.2 o (sm_set (sm_rw M.2.2.2.2 o) f (some x)))) : sn_J p l e R s m args below meth c Q D cA b sa A z0 w0 ad0 n0 i pc L (.ref x :: .ref o :: st) M := by
  intro ad ls H locs cells slots h1 h2 hr
  obtain ⟨ha, hfN, hlink, hc⟩ := kf_spec hf
  have hty := cl_tyok ha hfN
  rw [hc] at hty
  have hkr : kind_ref (cl_tyk a f) = true := hty
  have hM := hr.2.2.2.1
  obtain ⟨ho, hN, hrl, -⟩ := sn_obj (cA := cA) (ad := id) (b := 0) (sa := 0) hM ha hk
  have hoR : o < M.2.2.2.2.length := by rw [hM.1]; exact ho
  have hnf : ∀ y, narrow (cl_tyk a f) (.ref y) = .ref y ∧ fits (cl_tyk a f) (.ref y) = true := by
    intro y
    cases ht : cl_tyk a f with
    | object _ => exact ⟨rfl, rfl⟩
    | array _ => exact ⟨rfl, rfl⟩
    | _ => rw [ht] at hkr; cases hkr
  refine sj_put0 (v := .ref x) (sa := sa) (M' := (M.1, M.2.1, M.2.2.1, M.2.2.2.1, sm_set M.2.2.2.2 o (sm_set (sm_rw M.2.2.2.2 o) f (some x)))) C hd hf hfin hk (fun ad => (hnf (ad x)).1) (fun ad => (hnf (ad x)).2) rfl rfl (fun h hv => ?_) (fun j hj => ⟨fun t => ?_, rfl, rfl⟩) (fun j hj hjf => ?_) (fun h3 h4 => ?_) k ad ls H locs cells slots h1 h2 hr
  · refine ⟨(sm_set_len _ _ _).trans h.1, fun z hz => ?_, fun z j r hz => ?_, h.2.2.2⟩
    · show _ ∨ _
      rw [show sm_rw (sm_set M.2.2.2.2 o (sm_set (sm_rw M.2.2.2.2 o) f (some x))) z = _ from sm_rw_set _ _ _ _ hoR]
      by_cases hzo : z = o
      · subst hzo
        rw [if_pos rfl, sm_set_len]
        exact h.2.1 z hz
      · rw [if_neg hzo]
        exact h.2.1 z hz
    · have hz : sm_on (sm_rw (sm_set M.2.2.2.2 o (sm_set (sm_rw M.2.2.2.2 o) f (some x))) z) j = some r := hz
      rw [sm_rw_set _ _ _ _ hoR] at hz
      by_cases hzo : z = o
      · rw [if_pos hzo, sm_on_set _ _ _ _ (by rw [hrl]; exact hfN)] at hz
        by_cases hjf : j = f
        · rw [if_pos hjf] at hz
          have : x = r := Option.some.inj hz
          exact this ▸ hv x rfl
        · rw [if_neg hjf] at hz
          exact h.2.2.1 _ _ _ hz
      · rw [if_neg hzo] at hz
        exact h.2.2.1 _ _ _ hz
  · funext z
    unfold sm_fv
    simp only [sm_rw_set _ _ _ _ hoR, if_neg hj]
  · unfold sm_fv
    simp only [sm_rw_set _ _ _ _ hoR, if_true, sm_on_set _ _ _ _ (show f < (sm_rw M.2.2.2.2 o).length by rw [hrl]; exact hfN), if_neg hjf]
  · unfold sm_fv
    simp only [show Nat.beq 3 3 = true from rfl, cond_true, sm_rw_set _ _ _ _ hoR, if_true, sm_on_set _ _ _ _ (show f < (sm_rw M.2.2.2.2 o).length by rw [hrl]; exact hfN)]
theorem sj_iald (C : sn_C p R s m args meth c D cA A X b ZS i) {o : Nat} {j : Int32} (hd : decode (mb i) pc = .ok (.iaload, 1)) (hin : vp_in j (sm_len M.1 100 o))
    (k : sn_J p l e R s m args below meth c Q D cA b sa A z0 w0 ad0 n0 i (pc + 1) L (.int (M.2.2.1 o j.toNatClampNeg) :: st) M) : sn_J p l e R s m args below meth c Q D cA b sa A z0 w0 ad0 n0 i pc L (.int j :: .ref o :: st) M := by
  obtain ⟨hx, hb, hr0, hlk, hml, hown, hmn, hts, hK, hA, hZ, hfr, hlo⟩ := C
  intro ad ls H locs cells slots h1 h2 hr
  obtain ⟨ho, ht, hn⟩ := sn_len_in hin (by decide)
  rw [hn] at hin
  exact va_iald hx hb hK hr.2.2.2.2.1 o 0 (sn_arr ho ht (by decide) (by decide)) rfl hin hd (k ad ls H locs cells slots h1 h2 (hr.stk (vs_c vv_int (vs_t (vs_t hr.2.2.1)))))
theorem sj_bald (C : sn_C p R s m args meth c D cA A X b ZS i) {o t : Nat} {j : Int32} (hd : decode (mb i) pc = .ok (.baload, 1)) (ht0 : t = 101 ∨ t = 102) (hin : vp_in j (sm_len M.1 t o))
    (k : sn_J p l e R s m args below meth c Q D cA b sa A z0 w0 ad0 n0 i (pc + 1) L (.int (M.2.2.1 o j.toNatClampNeg) :: st) M) : sn_J p l e R s m args below meth c Q D cA b sa A z0 w0 ad0 n0 i pc L (.int j :: .ref o :: st) M := by
  obtain ⟨hx, hb, hr0, hlk, hml, hown, hmn, hts, hK, hA, hZ, hfr, hlo⟩ := C
  intro ad ls H locs cells slots h1 h2 hr
  obtain ⟨ho, ht, hn⟩ := sn_len_in hin (by omega)
  rw [hn] at hin
  have kk := k ad ls H locs cells slots h1 h2 (hr.stk (vs_c vv_int (vs_t (vs_t hr.2.2.1))))
  rcases ht0 with rfl | rfl
  · exact va_zald hx hb hK hr.2.2.2.2.1 o 1 (sn_arr ho ht (by decide) (by decide)) rfl hin hd kk
  · exact va_bald hx hb hK hr.2.2.2.2.1 o 2 (sn_arr ho ht (by decide) (by decide)) rfl hin hd kk
theorem sj_lald (C : sn_C p R s m args meth c D cA A X b ZS i) {o : Nat} {j : Int32} (hd : decode (mb i) pc = .ok (.laload, 1)) (hin : vp_in j (sm_len M.1 103 o))
    (k : sn_J p l e R s m args below meth c Q D cA b sa A z0 w0 ad0 n0 i (pc + 1) L (.long (M.2.2.2.1 o j.toNatClampNeg) :: st) M) : sn_J p l e R s m args below meth c Q D cA b sa A z0 w0 ad0 n0 i pc L (.int j :: .ref o :: st) M := by
  obtain ⟨hx, hb, hr0, hlk, hml, hown, hmn, hts, hK, hA, hZ, hfr, hlo⟩ := C
  intro ad ls H locs cells slots h1 h2 hr
  obtain ⟨ho, ht, hn⟩ := sn_len_in hin (by decide)
  rw [hn] at hin
  exact va_lald hx hb hK hr.2.2.2.2.1 o 3 (sn_arrL ho ht) rfl hin hd (k ad ls H locs cells slots h1 h2 (hr.stk (vs_c vv_long (vs_t (vs_t hr.2.2.1)))))
theorem sj_sld (C : sn_C p R s m args meth c D cA A X b ZS i) {j : Int32} (hd : decode (mb i) pc = .ok (.iaload, 1)) (hin : vp_in j X.2)
    (k : sn_J p l e R s m args below meth c Q D cA b sa A z0 w0 ad0 n0 i (pc + 1) L (.int (X.1 j.toNatClampNeg) :: st) M) : sn_J p l e R s m args below meth c Q D cA b sa A z0 w0 ad0 n0 i pc L (.int j :: .retAddr 1 :: st) M := by
  obtain ⟨hx, hb, hr0, hlk, hml, hown, hmn, hts, hK, hA, hZ, hfr, hlo⟩ := C
  intro ad ls H locs cells slots h1 h2 hr
  exact va_sld hx hb hZ.1 hZ.2.1 hZ.2.2.1 hr.2.2.2.2.2.2 hin hd (k ad ls H locs cells slots h1 h2 (hr.stk (vs_c vv_int (vs_t (vs_t hr.2.2.1)))))
theorem sj_slen (C : sn_C p R s m args meth c D cA A X b ZS i) (hd : decode (mb i) pc = .ok (.arraylength, 1))
    (k : sn_J p l e R s m args below meth c Q D cA b sa A z0 w0 ad0 n0 i (pc + 1) L (.int (Int32.ofNat X.2) :: st) M) : sn_J p l e R s m args below meth c Q D cA b sa A z0 w0 ad0 n0 i pc L (.retAddr 1 :: st) M := by
  obtain ⟨hx, hb, hr0, hlk, hml, hown, hmn, hts, hK, hA, hZ, hfr, hlo⟩ := C
  intro ad ls H locs cells slots h1 h2 hr
  exact va_slen hx hb hZ.1 hZ.2.1 hZ.2.2.1 hr.2.2.2.2.2.2 hd (k ad ls H locs cells slots h1 h2 (hr.stk (vs_c vv_int (vs_t hr.2.2.1))))
theorem sj_alen (C : sn_C p R s m args meth c D cA A X b ZS i) {o t : Nat} (hd : decode (mb i) pc = .ok (.arraylength, 1)) (h100 : 100 ≤ t) (h103 : t ≤ 103) (hk : Nat.beq (sm_kd M.1 o).1 t = true)
    (k : sn_J p l e R s m args below meth c Q D cA b sa A z0 w0 ad0 n0 i (pc + 1) L (.int (Int32.ofNat (sm_kd M.1 o).2) :: st) M) : sn_J p l e R s m args below meth c Q D cA b sa A z0 w0 ad0 n0 i pc L (.ref o :: st) M := by
  obtain ⟨hx, hb, hr0, hlk, hml, hown, hmn, hts, hK, hA, hZ, hfr, hlo⟩ := C
  intro ad ls H locs cells slots h1 h2 hr
  have et : (sm_kd M.1 o).1 = t := Nat.eq_of_beq_eq_true hk
  have ho : o < M.1.length := by
    rcases Nat.lt_or_ge o M.1.length with h | h
    · exact h
    · rw [sm_kd_out _ _ h] at et; omega
  have kk := k ad ls H locs cells slots h1 h2 (hr.stk (vs_c vv_int (vs_t hr.2.2.1)))
  have h4 : t = 100 ∨ t = 101 ∨ t = 102 ∨ t = 103 := by omega
  rcases h4 with rfl | rfl | rfl | rfl
  · exact va_alen hx hb hK hr.2.2.2.2.1 o 0 (sn_arr ho et (by decide) (by decide)) rfl rfl hd kk
  · exact va_alen hx hb hK hr.2.2.2.2.1 o 1 (sn_arr ho et (by decide) (by decide)) rfl rfl hd kk
  · exact va_alen hx hb hK hr.2.2.2.2.1 o 2 (sn_arr ho et (by decide) (by decide)) rfl rfl hd kk
  · exact va_alen hx hb hK hr.2.2.2.2.1 o 3 (sn_arrL ho et) rfl rfl hd kk
/-- an element is written -/
theorem sj_ast0 (C : sn_C p R s m args meth c D cA A X b ZS i) {o t : Nat} {j x y : Int32} {q : Instr} (ht0 : (t = 100 ∧ y = x ∧ q = .iastore) ∨ (t = 101 ∧ y = vp_nar .boolean x ∧ q = .bastore) ∨ (t = 102 ∧ y = vp_nar .byte x ∧ q = .bastore)) (hd : decode (mb i) pc = .ok (q, 1)) (hin : vp_in j (sm_len M.1 t o))
    (k : sn_J p l e R s m args below meth c Q D cA b sa A z0 w0 ad0 n0 i (pc + 1) L st (M.1, M.2.1, up2 M.2.2.1 o j.toNatClampNeg y, M.2.2.2.1, M.2.2.2.2)) : sn_J p l e R s m args below meth c Q D cA b sa A z0 w0 ad0 n0 i pc L (.int x :: .int j :: .ref o :: st) M := by
  obtain ⟨hx, hb, hr0, hlk, hml, hown, hmn, hts, hK, hA, hZ, hfr, hlo⟩ := C
  intro ad ls H locs cells slots h1 h2 hr
  have hM := hr.2.2.2.1
  obtain ⟨ho, ht, hn⟩ := sn_len_in hin (by omega)
  rw [hn] at hin
  have hat := sn_arr (cA := cA) (ad := ad) (b := b) (sa := sa) ho ht (by omega) (by omega)
  have hW : sn_W cA ad b sa (M.1, M.2.1, up2 M.2.2.1 o j.toNatClampNeg y, M.2.2.2.1, M.2.2.2.2) = (sn_W cA ad b sa M).set o (ad o, .inl (cA t, (sm_kd M.1 o).2, .inl (upd (M.2.2.1 o) j.toNatClampNeg y))) := by
    refine sn_W_set rfl (fun z _ hz => ?_) ?_
    · unfold sn_e sm_fv
      simp only [up2_ne hz]
    · unfold sn_e
      rw [ht, show Nat.ble 100 t = true from Nat.ble_eq_true_of_le (by omega), show Nat.beq t 103 = false from (by cases hb : Nat.beq t 103 with | false => rfl | true => have := Nat.eq_of_beq_eq_true hb; omega)]
      simp only [cond_true, cond_false]
      rw [up2_self]
      rfl
  have kk : ∀ (H1 : Heap) (locs1 : List Loc), va_P D cl_all ((sn_W cA ad b sa M).set o (ad o, .inl (cA t, (sm_kd M.1 o).2, .inl (upd (M.2.2.1 o) j.toNatClampNeg y)))) H1 → va_D A ((sn_W cA ad b sa M).set o (ad o, .inl (cA t, (sm_kd M.1 o).2, .inl (upd (M.2.2.1 o) j.toNatClampNeg y)))) → va_S A s.heap H1 locs1 → W p l e R s m args below meth c H1 locs1 cells slots Q (F0 m (pc + 1) ls (st.map (cv ad b sa))) := by
    intro H1 locs1 hP1 hD1 hS1
    rw [← hW] at hP1 hD1
    exact k ad ls H1 locs1 cells slots h1 h2 ⟨hr.1, hr.2.1, vs_t (vs_t (vs_t hr.2.2.1)), sn_ok_I hM ho, hP1, hD1, hS1⟩
  rcases ht0 with ⟨rfl, rfl, rfl⟩ | ⟨rfl, rfl, rfl⟩ | ⟨rfl, rfl, rfl⟩
  · exact va_iast hx hb hK hr.2.2.2.2.1 hr.2.2.2.2.2.1 hr.2.2.2.2.2.2 o 0 hat rfl hin hd kk
  · exact va_zast hx hb hK hr.2.2.2.2.1 hr.2.2.2.2.2.1 hr.2.2.2.2.2.2 o 1 hat rfl hin hd kk
  · exact va_bast hx hb hK hr.2.2.2.2.1 hr.2.2.2.2.2.1 hr.2.2.2.2.2.2 o 2 hat rfl hin hd kk
theorem sj_last (C : sn_C p R s m args meth c D cA A X b ZS i) {o : Nat} {j : Int32} {x : Int64} (hd : decode (mb i) pc = .ok (.lastore, 1)) (hin : vp_in j (sm_len M.1 103 o))
    (k : sn_J p l e R s m args below meth c Q D cA b sa A z0 w0 ad0 n0 i (pc + 1) L st (M.1, M.2.1, M.2.2.1, up2 M.2.2.2.1 o j.toNatClampNeg x, M.2.2.2.2)) : sn_J p l e R s m args below meth c Q D cA b sa A z0 w0 ad0 n0 i pc L (.long x :: .int j :: .ref o :: st) M := by
  obtain ⟨hx, hb, hr0, hlk, hml, hown, hmn, hts, hK, hA, hZ, hfr, hlo⟩ := C
  intro ad ls H locs cells slots h1 h2 hr
  have hM := hr.2.2.2.1
  obtain ⟨ho, ht, hn⟩ := sn_len_in hin (by decide)
  rw [hn] at hin
  have hW : sn_W cA ad b sa (M.1, M.2.1, M.2.2.1, up2 M.2.2.2.1 o j.toNatClampNeg x, M.2.2.2.2) = (sn_W cA ad b sa M).set o (ad o, .inl (cA 103, (sm_kd M.1 o).2, .inr (.inl (vp_updL (M.2.2.2.1 o) j.toNatClampNeg x)))) := by
    refine sn_W_set rfl (fun z _ hz => ?_) ?_
    · unfold sn_e sm_fv
      simp only [up2_ne hz]
    · unfold sn_e
      rw [ht]
      simp only [show Nat.ble 100 103 = true from rfl, show Nat.beq 103 103 = true from rfl, cond_true]
      rw [up2_self]
      rfl
  refine va_last hx hb hK hr.2.2.2.2.1 hr.2.2.2.2.2.1 hr.2.2.2.2.2.2 o 3 (sn_arrL ho ht) rfl hin hd fun H1 locs1 hP1 hD1 hS1 => ?_
  rw [← hW] at hP1 hD1
  exact k ad ls H1 locs1 cells slots h1 h2 ⟨hr.1, hr.2.1, vs_t (vs_t (vs_t hr.2.2.1)), sn_ok_J hM ho, hP1, hD1, hS1⟩
end SN3
