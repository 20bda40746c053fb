/-! The law's look: it catches. -/
theorem lk_ofWH {l : Launch} {y : MethodName} {ws ws' : List Cond} {rm : Room} {Pc : Array Value → State → Prop} {Qc : Array Value → State → Outcome → State → Prop} {mc ms : Nat} {free : Addr → Prop} {cc : ByteArray} {maxL : Nat} {ret : Option FieldType} {hh : List (Nat × Nat × Nat × Nat)}
    (hy : plainName y.cls = true) (hw : ws = Cond.codeWith y cc maxL ret hh :: ws')
    (body : ∀ p e s m args below meth c s₁, BodyLoose p l y (headSpec ws rm) cc maxL ret e s m args below meth c s₁ → c.maxLocals = maxL → Pc args s →
      W p l e (headSpec ws rm).room s m args below meth c s.heap [] 0 0 (MQ below Qc args s mc ms free) (entryFrame m args maxL)) : Met l y ws rm Pc Qc mc ms free := by
  refine MetFree.of_bodyS (code := cc) (maxLocals := maxL) (ret := ret) hy ?_ ?_
  · intro args s m h hn
    obtain ⟨m9, meth, c, hn9, h1, h2, h3, h4, -, h5, h6, -⟩ := Cond.codeWith_spec (atoms_spec (ws := ws) h _ (by rw [hw]; exact List.mem_cons_self))
    cases hn.symm.trans hn9
    exact ⟨meth, c, h1, h2, h3, h4, h5, h6⟩
  · intro p e s m args below meth c s₁ B hml hP _
    have hh0 : s₁.heap = s.heap := by rw [B.state]; rfl
    obtain ⟨t, a1, o, b1, b2, b3⟩ := body p e s m args below meth c s₁ B hml hP s₁ hh0 (Stand.of_body B)
    exact ⟨t, o, a1, b1, b2, ⟨b3.1, b3.2⟩⟩
def yLk : MethodName := ⟨"PowersHouseLaw", "look", "(LPowersHouse;II[J)I"⟩
def lkH : List (Nat × Nat × Nat × Nat) := [(0, 10, 13, 13), (0, 10, 17, 15)]
theorem lk_cw : Cond.codeWith yLk method_3_code 5 (some .int) lkH ∈ uw := lk_in_uw (by decide +kernel)
theorem lk_l13 : Cond.classLink "PowersHouseLaw" 13 lkE1 ∈ uw := lk_in_uw (by decide +kernel)
theorem lk_l15 : Cond.classLink "PowersHouseLaw" 15 lkE2 ∈ uw := lk_in_uw (by decide +kernel)
theorem lk_t1 : Cond.castable lkE1 lkE1 ∈ lkB := List.mem_cons_self
theorem lk_t2 : Cond.castable lkE2 lkE2 ∈ lkB := List.mem_cons_of_mem _ List.mem_cons_self
theorem lk_ml : Cond.methodLink "PowersHouseLaw" 7 (my 205) ∈ uw := lk_in_uw (by decide +kernel)
theorem lk_im : Cond.instanceMethod (my 205) ∈ uw := lk_in_uw (by decide +kernel)
theorem lk_se : Cond.selects "PowersHouse" (my 205) (my 205) ∈ uw := lk_in_uw (by decide +kernel)
theorem lk_in0 : Cond.initialized "PowersHouse" ∈ uw := lk_in_uw (by decide +kernel)
theorem lk_co : Cond.code (my 205) (mb 205) (sm_mi 205).2 (mr 205) ∈ uw := lk_in_uw (by decide +kernel)
theorem lk_ml2 : Cond.methodLink "PowersHouseLaw" 171 yLk ∈ uw := lk_in_uw (by decide +kernel)
theorem lk_st2 : Cond.static yLk ∈ uw := lk_in_uw (by decide +kernel)
theorem lk_in2 : Cond.initialized "PowersHouseLaw" ∈ uw := lk_in_uw (by decide +kernel)
theorem lkl_0 : decode method_3_code 0 = .ok (.aload_n 3, 1) := by decide +kernel
theorem lkl_1 : decode method_3_code 1 = .ok (.iconst 0, 1) := by decide +kernel
theorem lkl_2 : decode method_3_code 2 = .ok (.aload_n 0, 1) := by decide +kernel
theorem lkl_3 : decode method_3_code 3 = .ok (.iload_n 1, 1) := by decide +kernel
theorem lkl_4 : decode method_3_code 4 = .ok (.iload_n 2, 1) := by decide +kernel
theorem lkl_5 : decode method_3_code 5 = .ok (.invokevirtual 7, 3) := by decide +kernel
theorem lkl_8 : decode method_3_code 8 = .ok (.i2l, 1) := by decide +kernel
theorem lkl_9 : decode method_3_code 9 = .ok (.lastore, 1) := by decide +kernel
theorem lkl_10 : decode method_3_code 10 = .ok (.goto 11, 3) := by decide +kernel
theorem lkl_13 : decode method_3_code 13 = .ok (.astore 4, 2) := by decide +kernel
theorem lkl_15 : decode method_3_code 15 = .ok (.iconst 1, 1) := by decide +kernel
theorem lkl_16 : decode method_3_code 16 = .ok (.ireturn, 1) := by decide +kernel
theorem lkl_17 : decode method_3_code 17 = .ok (.astore 4, 2) := by decide +kernel
theorem lkl_19 : decode method_3_code 19 = .ok (.iconst 2, 1) := by decide +kernel
theorem lkl_20 : decode method_3_code 20 = .ok (.ireturn, 1) := by decide +kernel
theorem lkl_21 : decode method_3_code 21 = .ok (.iconst 0, 1) := by decide +kernel
theorem lkl_22 : decode method_3_code 22 = .ok (.ireturn, 1) := by decide +kernel
/-- what the shadow's look comes to -/
theorem lk_cases {M M1 : sm_M} {x y : Int32} {c0 : sm_C} {v : Option Value} (h : sm_look [.ref 0, .int x, .int y, .ref 142] M = some (c0, v, M1)) : sm_shp M = true ∧
    ((∃ r, lk_ans M x y r ∧ v = some (.int 0) ∧ M1 = (M.1, M.2.1, M.2.2.1, up2 M.2.2.2.1 142 0 r.toInt64, M.2.2.2.2)) ∨
    ∃ E k, lk_thr M x y E ∧ ((E = lkE1 ∧ k = 1) ∨ (E = lkE2 ∧ k = 2)) ∧ v = some (.int k) ∧ M1 = (M.1, (M.2.1.1 + 1, M.2.1.2 + 6), M.2.2.1, M.2.2.2.1, M.2.2.2.2)) := by
  unfold sm_look at h
  simp only [show Nat.beq 0 0 = true from rfl, show Nat.beq 142 142 = true from rfl, Bool.true_and] at h
  cases hs : sm_shp M with
  | false => rw [hs] at h; cases h
  | true =>
    rw [hs] at h
    simp only [cond_true] at h
    refine ⟨rfl, ?_⟩
    split at h
    · rename_i hi
      split at h
      · rename_i hy; cases h; exact Or.inl ⟨_, ⟨hi, Or.inl ⟨hy, rfl⟩⟩, rfl, rfl⟩
      · rename_i h0
        split at h
        · rename_i hy; cases h; exact Or.inl ⟨_, ⟨hi, Or.inr (Or.inl ⟨hy, rfl⟩)⟩, rfl, rfl⟩
        · rename_i h1
          split at h
          · rename_i hy; cases h; exact Or.inl ⟨_, ⟨hi, Or.inr (Or.inr ⟨hy, rfl⟩)⟩, rfl, rfl⟩
          · rename_i h2; cases h; exact Or.inr ⟨lkE2, 2, Or.inr ⟨hi, h0, h1, h2, rfl⟩, Or.inr ⟨rfl, rfl⟩, rfl, rfl⟩
    · rename_i hi
      cases h
      exact Or.inr ⟨lkE1, 1, Or.inl ⟨hi, rfl⟩, Or.inl ⟨rfl, rfl⟩, rfl, rfl⟩
theorem lk_fun {M : sm_M} {x y r r' : Int32} (h : lk_ans M x y r) (g : lk_ans M x y r') : r = r' := by
  obtain ⟨-, h⟩ := h
  obtain ⟨-, g⟩ := g
  rcases h with ⟨rfl, rfl⟩ | ⟨rfl, rfl⟩ | ⟨rfl, rfl⟩ <;> rcases g with ⟨e, rfl⟩ | ⟨e, rfl⟩ | ⟨e, rfl⟩ <;> first | rfl | exact absurd e (by decide)
theorem lk_thf {M : sm_M} {x y : Int32} {E E' : String} (h : lk_thr M x y E) (g : lk_thr M x y E') : E = E' := by
  rcases h with ⟨a, rfl⟩ | ⟨a, -, -, -, rfl⟩ <;> rcases g with ⟨e, rfl⟩ | ⟨e, -, -, -, rfl⟩ <;> first | rfl | exact absurd e a | exact absurd a e
theorem lk_E12 : ¬ lkE1 = lkE2 := by decide
set_option maxRecDepth 100000 in
set_option maxHeartbeats 4000000 in
theorem lk_law {l : Launch} (hl : l.stackTraces = false) {X : (Nat → Int32) × Nat} {D : va_G} {cA : Nat → ClassId} {b sa sv t1 t2 : Nat} {M M1 : sm_M} (hok : sn_ok M) {x y : Int32} {c0 : sm_C} {v : Option Value} (hlk : sm_look [.ref 0, .int x, .int y, .ref 142] M = some (c0, v, M1)) (ad : Nat → Nat) (hz : Nat) :
    Met l yLk (Cond.codeWith yLk method_3_code 5 (some .int) lkH :: uw) ({ frames := 7, cells := cz M1 - cz M, slots := sz M1 - sz M, locals := 130 } : Room) (va_Pc [.ref (ad 0), .int x, .int y, .ref (ad 142)] (lkPc X D cA b sa sv t1 t2 ad M hz)) (sn_Qc D cA b sa ad M hz v M1) (cz M1 - cz M) (sz M1 - sz M) (va_A (sn_W cA ad b sa M) hz) := by
  obtain ⟨hsh, hcs⟩ := lk_cases hlk
  have hm : ((∃ r, lk_ans M x y r) ∧ cz M1 - cz M = 0 ∧ sz M1 - sz M = 0) ∨ (cz M1 - cz M = 1 ∧ sz M1 - sz M = 6) := by
    rcases hcs with ⟨r, ha, -, rfl⟩ | ⟨E, k, -, -, -, rfl⟩
    · exact Or.inl ⟨⟨r, ha⟩, Nat.sub_self _, Nat.sub_self _⟩
    · refine Or.inr ⟨?_, ?_⟩
      · show M.1.length + (M.2.1.1 + 1) - (M.1.length + M.2.1.1) = 1
        omega
      · show (M.1.map (fun q => q.2)).sum + (M.2.1.2 + 6) - ((M.1.map (fun q => q.2)).sum + M.2.1.2) = 6
        omega
  obtain ⟨k0, k1, k2, k4, k5, k142, g0, -, -, -⟩ := lk_shp hsh
  refine lk_ofWH (cc := method_3_code) (maxL := 5) (ret := some .int) (hh := lkH) (by decide +kernel) rfl ?_
  intro p e s m args below meth c s₁ B hml hv
  obtain ⟨rfl, ⟨hsz, hP, hK, hD0, hZ⟩, hE⟩ := hv
  subst hsz
  have hts := atoms_spec (ws := (Cond.codeWith yLk method_3_code 5 (some .int) lkH :: uw)) B.pre
  have htu : ∀ w ∈ uw, w.before _ s = true := fun w hw => hts w (List.mem_cons_of_mem _ hw)
  have hx := B.exec
  have hb := B.bytes
  have hr := B.returns
  have hlocks := B.notSynchronized
  have hown : s.vm.findClass "PowersHouseLaw" = some m.cls := findClass_of_methodNamed B.named
  have htab : c.exceptionTable.toList = tableOf lkH := vx_table (x := yLk) B (hts _ List.mem_cons_self)
  have hD : va_D (va_A (sn_W cA ad b sa M) s.heap.size) (sn_W cA ad b sa M) := hD0.self
  have hS : va_S (va_A (sn_W cA ad b sa M) s.heap.size) s.heap s.heap [] := va_S.rf
  obtain ⟨-, -, -, hat⟩ := sn_obj (cA := cA) (ad := ad) (b := b) (sa := sa) hok (a := 11) (o := 0) (by decide) (by rw [k0]; rfl)
  rw [lg_entry_eq]
  have hlv := lv_entry [.ref (ad 0), .int x, .int y, .ref (ad 142)] (n := 5) (Nat.le_of_ble_eq_true rfl)
  generalize (lg_sl [.ref (ad 0), .int x, .int y, .ref (ad 142)] ++ List.replicate (5 - (lg_sl [.ref (ad 0), .int x, .int y, .ref (ad 142)]).length) Slot.unset).toArray = ls at hlv ⊢
  refine lv_aload_n hx hb lkl_0 rfl (lv_at hlv 3 rfl) ?_
  refine lv_iconst (v := 0) hx hb lkl_1 (by decide) ?_
  refine lv_aload_n hx hb lkl_2 rfl (lv_at hlv 0 rfl) ?_
  refine lv_iload_n hx hb lkl_3 rfl (lv_at hlv 1 rfl) ?_
  refine lv_iload_n hx hb lkl_4 rfl (lv_at hlv 2 rfl) ?_
  have hcw : CallW (headSpec (Cond.codeWith yLk method_3_code 5 (some .int) lkH :: uw) ({ frames := 7, cells := cz M1 - cz M, slots := sz M1 - sz M, locals := 130 } : Room)).room s (([.ref (ad 0), .int x, .int y, .ref (ad 142)] : List Value).toArray) "PowersHouseLaw" "PowersHouse" 7 (my 205) (mb 205) (sm_mi 205).2 (mr 205) (Cond.code (my 205) (mb 205) (sm_mi 205).2 (mr 205) :: uw) ({ frames := 6, cells := cz M1 - cz M, slots := sz M1 - sz M, locals := 90 } : Room) (cz M1 - cz M) (sz M1 - sz M) 2 := by
    refine cwV (ws' := uw) 2 htu (uw_good fun w hw => ?_) rfl rfl rfl (by decide +kernel) ⟨(show 6 + 1 ≤ 7 by omega), (show 8 + (3 + 11) + 90 ≤ 130 by omega)⟩
    rcases List.mem_append.mp hw with h | h
    · simp only [List.mem_cons, List.not_mem_nil, or_false] at h
      rcases h with rfl | rfl | rfl | rfl
      · exact lk_ml
      · exact lk_im
      · exact lk_se
      · exact lk_in0
    · rcases List.mem_cons.mp h with rfl | h
      · exact lk_co
      · exact h
  have hpv : PreV s s.heap "PowersHouse" (ad 0) (va_Pc [.ref (ad 0), .int x, .int y] (lkPc X D cA b sa sv t1 t2 ad M s.heap.size)) [.int x, .int y] := by
    refine ⟨?_, va_recv (q := ((cl_at 11).1, (cl_at 11).2.1, (cl_at 11).2.2)) hK hP (cl_get (by decide)) hat, fun U hU hW => ?_⟩
    · intro a U g mk q
      obtain ⟨q0, qs, qE⟩ := q
      exact ⟨q0, (sn_blind (X := X) (D := D) (cA := cA) (b := b) (sa := sa) (M := M) (zs_cl sa sv _) (j := 205) (by decide) (ad := ad) (hz := s.heap.size) a U g mk ⟨q0, qs⟩).2, qE.next (fun _ h => h) (fun _ _ _ => rfl) (Or.inl rfl)⟩
    · exact ⟨rfl, ⟨by rw [hU], by rw [hU]; exact hP, va_K.moved hW.alike hK, hD0, hZ.next (zs_cl sa sv _) (j := 205) (by decide) (fun _ h => h) (fun q _ _ => by rw [hU]) (by rw [hU]; exact Nat.le_refl _) (Or.inr hW)⟩, hE.next (fun _ h => h) (fun q _ _ => by rw [hU]) (Or.inr hW)⟩
  have hrun := vx_runV (rest := [.int 0, .ref (ad 142)]) (nL := 5) (g := F0 m 5 ls [.int y, .int x, .ref (ad 0), .int 0, .ref (ad 142)]) (below := below) (meth := meth) (locs := []) (cells := 0) (slots := 0) (e := e) (⟨hx, hb, hml, hown, htu⟩ : CallFix p m c method_3_code 5 s _ uw "PowersHouseLaw") (lk_met hl hok hsh hm ad s.heap.size) hcw hpv rfl rfl hlv.1 rfl (lv_room (Nat.le_of_ble_eq_true rfl)) lkl_5 ⟨(show 0 + (cz M1 - cz M) ≤ cz M1 - cz M by omega), (show 0 + (sz M1 - sz M) ≤ sz M1 - sz M by omega)⟩
  refine vx_calli hrun hS (fun _ _ h => h) (fun _ h => h) (fun _ _ h => h) ?_ ?_
  · intro E ce q9 u t H1 locs1 ht hal _ hth hsz1 hk1 hS1 hcell hvm hcl
    obtain ⟨hth, hPt⟩ := hth
    have hP1 : va_P D cl_all (sn_W cA ad b sa M) H1 := ht ▸ hPt
    rcases hcs with ⟨r, ha, -, -⟩ | ⟨E', k, hth', hEk, rfl, hM1⟩
    · exact (lk_no hth ha).elim
    have hE' := lk_thf hth hth'
    subst hE'
    have hfin : ∀ t : State, t.heap = H1 → sn_Qc D cA b sa ad M s.heap.size (some (.int k)) M1 (([.ref (ad 0), .int x, .int y, .ref (ad 142)] : List Value).toArray) s (.returned (some (.int k))) t := by
      intro t' ht'
      subst hM1
      exact ⟨⟨ad, fun _ _ => rfl, Nat.le_refl _, rfl, Or.inr (Or.inl ⟨_, rfl⟩), hok, by rw [ht']; exact hP1, hD⟩, hS1.F ht'⟩
    rcases hEk with ⟨rfl, rfl⟩ | ⟨rfl, rfl⟩
    · refine vx_catch (name := lkE1) hown [] ⟨0, 10, 13, 13⟩ [⟨0, 10, 17, 15⟩] (htab.trans rfl) (fun z hz => absurd hz List.not_mem_nil) (by decide) (by decide) (htu _ lk_l13) (va_Nw.use rfl (hE.2.2.2.2.2 _ lk_t1)) hcell hvm hcl ?_
      refine lv_astore hx hb lkl_13 hlv (by decide) rfl fun ls2 hl2 => ?_
      refine lv_iconst (v := 1) hx hb lkl_15 (by decide) ?_
      refine W.widen (k := cz M1 - cz M) (n := sz M1 - sz M) (by omega) (by omega) ?_
      exact W.iret hx hb hr (fun t ht _ => hfin t ht) hS1.2.2 lkl_16 hlocks
    · refine vx_catch (name := lkE2) hown [⟨0, 10, 13, 13⟩] ⟨0, 10, 17, 15⟩ [] (htab.trans rfl) (fun z hz => ?_) (by decide) (by decide) (htu _ lk_l15) (va_Nw.use rfl (hE.2.2.2.2.2 _ lk_t2)) hcell hvm hcl ?_
      · rw [List.mem_singleton.mp hz]
        exact Or.inr ⟨by decide, lkE1, htu _ lk_l13, hE.2.2.2.2.1⟩
      refine lv_astore hx hb lkl_17 hlv (by decide) rfl fun ls2 hl2 => ?_
      refine lv_iconst (v := 2) hx hb lkl_19 (by decide) ?_
      refine W.widen (k := cz M1 - cz M) (n := sz M1 - sz M) (by omega) (by omega) ?_
      exact W.iret hx hb hr (fun t ht _ => hfin t ht) hS1.2.2 lkl_20 hlocks
  · intro r u t H1 locs1 ht hal hans hPt hsz1 hk1 hS1
    have hP1 : va_P D cl_all (sn_W cA ad b sa M) H1 := ht ▸ hPt
    rcases hcs with ⟨r', ha, rfl, hM1⟩ | ⟨E', k, hth', -, -, -⟩
    rotate_left
    · exact (lk_no hth' hans).elim
    have hrr := lk_fun hans ha
    subst hrr
    have ho : 142 < M.1.length := lk_lt k142 (by decide)
    have hWs : sn_W cA ad b sa M1 = (sn_W cA ad b sa M).set 142 (ad 142, .inl (cA 103, (sm_kd M.1 142).2, .inr (.inl (vp_updL (M.2.2.2.1 142) (0 : Int32).toNatClampNeg r.toInt64)))) := by
      subst hM1
      refine sn_W_set rfl (fun z _ hz => ?_) ?_
      · unfold sn_e sm_fv
        simp only [up2_ne hz]
      · unfold sn_e
        rw [k142]
        simp only [show Nat.ble 100 103 = true from rfl, show Nat.beq 103 103 = true from rfl, cond_true]
        rw [up2_self]
        rfl
    refine lv_i2l (v := r.toInt64) hx hb lkl_8 rfl ?_
    refine va_last hx hb hK hP1 hD hS1 142 3 (sn_arrL ho (by rw [k142])) rfl (show vp_in 0 (sm_kd M.1 142).2 by rw [k142]; exact (show ¬ ((0 : Int32) < 0 ∨ (1 : Nat) ≤ (0 : Int32).toNatClampNeg) by decide)) lkl_9 fun H2 locs2 hP2 hD2 hS2 => ?_
    rw [← hWs] at hP2 hD2
    refine lv_goto (tgt := 21) hx hb lkl_10 (by decide) ?_
    refine lv_iconst (v := 0) hx hb lkl_21 (by decide) ?_
    refine W.widen (k := cz M1 - cz M) (n := sz M1 - sz M) (by omega) (by omega) ?_
    refine W.iret hx hb hr (fun t' ht' _ => ?_) hS2.2.2 lkl_22 hlocks
    have hok1 : sn_ok M1 := by
      subst hM1
      exact sn_ok_J hok ho
    have hlen : M.1.length ≤ M1.1.length := by subst hM1; exact Nat.le_refl _
    exact ⟨⟨ad, fun _ _ => rfl, hlen, rfl, Or.inr (Or.inl ⟨_, rfl⟩), hok1, by rw [ht']; exact hP2, hD2⟩, hS2.F ht'⟩
