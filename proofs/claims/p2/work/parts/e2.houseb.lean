/-! PowersHouse.look's contract. -/
theorem lk_lt {K : List (Nat × Nat)} {n : Nat} {q : Nat × Nat} (h : sm_kd K n = q) (hq : q ≠ (99, 0)) : n < K.length := by
  rcases Nat.lt_or_ge n K.length with g | g
  · exact g
  · rw [sm_kd_out K n g] at h
    exact absurd h.symm hq
theorem lk_no {M : sm_M} {x y r : Int32} {E : String} (h : lk_thr M x y E) (g : lk_ans M x y r) : False := by
  obtain ⟨gi, g⟩ := g
  rcases h with ⟨h, -⟩ | ⟨-, h0, h1, h2, -⟩
  · exact h gi
  · rcases g with ⟨e, -⟩ | ⟨e, -⟩ | ⟨e, -⟩
    · exact h0 e
    · exact h1 e
    · exact h2 e
abbrev lkPc (X : (Nat → Int32) × Nat) (D : va_G) (cA : Nat → ClassId) (b sa sv t1 t2 : Nat) (ad : Nat → Nat) (M : sm_M) (hz : Nat) : State → Prop := fun U => sn_Pc X D cA b sa (zs0 sa sv 205) ad M hz U ∧ lk_EX t1 t2 (va_A (sn_W cA ad b sa M) hz) U
abbrev lkQi (D : va_G) (cA : Nat → ClassId) (b sa : Nat) (ad : Nat → Nat) (M : sm_M) (hz : Nat) (x y : Int32) : Array Value → State → Outcome → State → Prop := va_Qi (fun r (_ : Unit) => lk_ans M x y r) (fun _ t => va_P D cl_all (sn_W cA ad b sa M) t.heap) (va_A (sn_W cA ad b sa M) hz)
abbrev lkXC (D : va_G) (cA : Nat → ClassId) (b sa : Nat) (ad : Nat → Nat) (M : sm_M) (hz : Nat) (x y : Int32) : String → State → State → Prop := vx_X (fun (_ : Unit) => True) (fun E _ t => lk_thr M x y E ∧ va_P D cl_all (sn_W cA ad b sa M) t.heap) (va_A (sn_W cA ad b sa M) hz)
set_option maxRecDepth 100000 in
set_option maxHeartbeats 4000000 in
theorem lk_met {l : Launch} (hl : l.stackTraces = false) {X : (Nat → Int32) × Nat} {D : va_G} {cA : Nat → ClassId} {b sa sv t1 t2 : Nat} {M : sm_M} (hok : sn_ok M) (hsh : sm_shp M = true) {x y : Int32} {mc ms : Nat} (hm : ((∃ r, lk_ans M x y r) ∧ mc = 0 ∧ ms = 0) ∨ (mc = 1 ∧ ms = 6)) (ad : Nat → Nat) (hz : Nat) :
    vx_Met l (my 205) (Cond.code (my 205) (mb 205) (sm_mi 205).2 (mr 205) :: uw) ({ frames := 6, cells := mc, slots := ms, locals := 90 } : Room) (va_Pc [.ref (ad 0), .int x, .int y] (lkPc X D cA b sa sv t1 t2 ad M hz)) (lkQi D cA b sa ad M hz x y) (lkXC D cA b sa ad M hz x y) mc ms (va_A (sn_W cA ad b sa M) hz) := by
  obtain ⟨k0, k1, k2, k4, k5, -, g0, -, -, -⟩ := lk_shp hsh
  refine vx_ofW (cc := mb 205) (maxL := (sm_mi 205).2) (ret := mr 205) (by decide +kernel) rfl ?_
  intro p e s m args below meth c s₁ B hml hno hv
  obtain ⟨rfl, ⟨hsz, hP, hK, hD0, hZ⟩, hE⟩ := hv
  subst hsz
  have hts := atoms_spec (ws := (Cond.code (my 205) (mb 205) (sm_mi 205).2 (mr 205) :: uw)) B.pre
  have htu : ∀ w ∈ uw, w.before _ s = true := fun w hw => hts w (List.mem_cons_of_mem _ hw)
  have hown : s.vm.findClass "PowersHouse" = some m.cls := findClass_of_methodNamed B.named
  rw [lg_entry_eq]
  have hlv := lv_entry [.ref (ad 0), .int x, .int y] (n := (sm_mi 205).2) (Nat.le_of_ble_eq_true rfl)
  generalize (lg_sl [.ref (ad 0), .int x, .int y] ++ List.replicate ((sm_mi 205).2 - (lg_sl [.ref (ad 0), .int x, .int y]).length) Slot.unset).toArray = ls0 at hlv ⊢
  have hC : sn_C p (headSpec (Cond.code (my 205) (mb 205) (sm_mi 205).2 (mr 205) :: uw) ({ frames := 6, cells := mc, slots := ms, locals := 90 } : Room)).room s m (([.ref (ad 0), .int x, .int y] : List Value).toArray) meth c D cA (va_A (sn_W cA ad b sa M) s.heap.size) X b (zs0 sa sv) 205 :=
    ⟨B.exec, B.bytes, B.returns, B.notSynchronized, hml, findClass_of_methodNamed B.named, (name_of_methodNamed B.named B.method).1, htu, hK, fun q h => Or.inr h, hZ, (show 2 ≤ 6 by omega), (show 42 ≤ 90 by omega)⟩
  have hst : sm_fv 3 M 0 0 = .ref 1 := by
    show sm_ro (sm_on (sm_rw M.2.2.2.2 0) 0) = _
    rw [g0]
  have hkd : Nat.beq (sm_kd M.1 0).1 11 = true := by rw [k0]; rfl
  have hret : ∀ (pc : Nat) (r : Int32), decode (mb 205) pc = .ok (.ireturn, 1) → lk_ans M x y r → sn_J p l e (headSpec (Cond.code (my 205) (mb 205) (sm_mi 205).2 (mr 205) :: uw) ({ frames := 6, cells := mc, slots := ms, locals := 90 } : Room)).room s m (([.ref (ad 0), .int x, .int y] : List Value).toArray) below meth c (vx_MQ below (lkQi D cA b sa ad M s.heap.size x y) (lkXC D cA b sa ad M s.heap.size x y) (([.ref (ad 0), .int x, .int y] : List Value).toArray) s mc ms (va_A (sn_W cA ad b sa M) s.heap.size)) D cA b sa (va_A (sn_W cA ad b sa M) s.heap.size) (cz M) (sz M) ad M.1.length 205 pc [some (.ref 0), some (.int x), some (.int y)] [.int r] M := by
    intro pc r hd hans ad' ls H locs cells slots h1 h2 hr
    have e1 : cells = 0 := by have := h1.1; omega
    have e2 : slots = 0 := by omega
    subst e1; subst e2
    refine vx_ret ?_
    refine W.widen (k := mc) (n := ms) (Nat.zero_le _) (Nat.zero_le _) ?_
    have hP2 : va_P D cl_all (sn_W cA ad b sa M) H := by rw [← sn_W_ext (b := b) (sa := sa) (cA := cA) hok h1.2.2]; exact hr.2.2.2.2.1
    exact W.iret B.exec B.bytes B.returns (fun t ht _ => ⟨⟨r, (), rfl, hans, by show va_P D cl_all (sn_W cA ad b sa M) t.heap; rw [ht]; exact hP2⟩, hr.2.2.2.2.2.2.F ht⟩) hr.2.2.2.2.2.2.2.2 hd B.notSynchronized
  have hthr1 : lk_thr M x y lkE1 → sn_J p l e (headSpec (Cond.code (my 205) (mb 205) (sm_mi 205).2 (mr 205) :: uw) ({ frames := 6, cells := mc, slots := ms, locals := 90 } : Room)).room s m (([.ref (ad 0), .int x, .int y] : List Value).toArray) below meth c (vx_MQ below (lkQi D cA b sa ad M s.heap.size x y) (lkXC D cA b sa ad M s.heap.size x y) (([.ref (ad 0), .int x, .int y] : List Value).toArray) s mc ms (va_A (sn_W cA ad b sa M) s.heap.size)) D cA b sa (va_A (sn_W cA ad b sa M) s.heap.size) (cz M) (sz M) ad M.1.length 205 11 [some (.ref 0), some (.int x), some (.int y)] [] M := by
    intro hth ad' ls H locs cells slots h1 h2 hr
    have e1 : cells = 0 := by have := h1.1; omega
    have e2 : slots = 0 := by omega
    subst e1; subst e2
    have hmc : mc = 1 ∧ ms = 6 := by
      rcases hm with ⟨⟨r, g⟩, -⟩ | h
      · exact (lk_no hth g).elim
      · exact h
    obtain ⟨hmc, hms⟩ := hmc
    have hS := hr.2.2.2.2.2.2
    have hP2 : va_P D cl_all (sn_W cA ad b sa M) H := by rw [← sn_W_ext (b := b) (sa := sa) (cA := cA) hok h1.2.2]; exact hr.2.2.2.2.1
    refine vx_throwSW (names := lkN) (cls := lkE1) (own := "PowersHouse") (A := va_A (sn_W cA ad b sa M) s.heap.size) B.exec B.bytes hl hown lk_fit1 lk_fit (htu _ lk_c1) (htu _ lk_i1) hE.2.2.1 (fun w hw => (lk_a1 w hw).elim (htu w) (fun g => va_Nw.use (lkB_ot w g) (hE.2.2.2.2.2 w g))) lk_g1 hE.1 hE.2.1 hS (hr.1.1.trans hml.symm) lkd_11 lkd_14 lkd_15 lkd_18 lkd_21 (fun x hx => (hno x hx).elim) (show 2 + 3 < 6 by omega) (show 0 + (13 * (2 + 1) + 43) ≤ 90 by omega) (show 0 + 1 ≤ mc by omega) (show 0 + 6 ≤ ms by omega) B.notSynchronized (fun t hal hsz hq => ?_) hS.2.2 (by omega) (by omega)
    refine ⟨(), trivial, ⟨hth, va_P.kept hP2 fun k q hk => hq _ (vx_lt hP2 hk)⟩, Nat.le_trans hS.1 hsz, fun q q1 q2 => ?_⟩
    rw [hq q (Nat.lt_of_lt_of_le q1 hS.1)]
    exact hS.2.1 q q1 q2
  have hthr2 : lk_thr M x y lkE2 → sn_J p l e (headSpec (Cond.code (my 205) (mb 205) (sm_mi 205).2 (mr 205) :: uw) ({ frames := 6, cells := mc, slots := ms, locals := 90 } : Room)).room s m (([.ref (ad 0), .int x, .int y] : List Value).toArray) below meth c (vx_MQ below (lkQi D cA b sa ad M s.heap.size x y) (lkXC D cA b sa ad M s.heap.size x y) (([.ref (ad 0), .int x, .int y] : List Value).toArray) s mc ms (va_A (sn_W cA ad b sa M) s.heap.size)) D cA b sa (va_A (sn_W cA ad b sa M) s.heap.size) (cz M) (sz M) ad M.1.length 205 75 [some (.ref 0), some (.int x), some (.int y)] [] M := by
    intro hth ad' ls H locs cells slots h1 h2 hr
    have e1 : cells = 0 := by have := h1.1; omega
    have e2 : slots = 0 := by omega
    subst e1; subst e2
    have hmc : mc = 1 ∧ ms = 6 := by
      rcases hm with ⟨⟨r, g⟩, -⟩ | h
      · exact (lk_no hth g).elim
      · exact h
    obtain ⟨hmc, hms⟩ := hmc
    have hS := hr.2.2.2.2.2.2
    have hP2 : va_P D cl_all (sn_W cA ad b sa M) H := by rw [← sn_W_ext (b := b) (sa := sa) (cA := cA) hok h1.2.2]; exact hr.2.2.2.2.1
    refine lk_throwW (Y9 := lkY) (names := lkN2) (cls := lkE2) (own := "PowersHouse") (A := va_A (sn_W cA ad b sa M) s.heap.size) B.exec B.bytes hl lkrx_0 lkrx_1 lkrx_2 lkrx_5 hown lk_fit2 lk_fitY lk_fitN (htu _ lk_c2) (htu _ lk_i2) hE.2.2.2.1 (fun w hw => (lk_a2 w hw).elim (htu w) (fun g => va_Nw.use (lkB_ot w g) (hE.2.2.2.2.2 w g))) lk_g2 hE.1 hE.2.1 hS (hr.1.1.trans hml.symm) lkd_75 lkd_78 lkd_79 lkd_82 lkd_85 (fun x hx => (hno x hx).elim) (show 1 + 4 < 6 by omega) (show 0 + (13 * (1 + 2) + 43) ≤ 90 by omega) (show 0 + 1 ≤ mc by omega) (show 0 + 6 ≤ ms by omega) B.notSynchronized (fun t hal hsz hq => ?_) hS.2.2 (by omega) (by omega)
    refine ⟨(), trivial, ⟨hth, va_P.kept hP2 fun k q hk => hq _ (vx_lt hP2 hk)⟩, Nat.le_trans hS.1 hsz, fun q q1 q2 => ?_⟩
    rw [hq q (Nat.lt_of_lt_of_le q1 hS.1)]
    exact hS.2.1 q q1 q2
  have hfc : cz M ≤ cz M + (headSpec (Cond.code (my 205) (mb 205) (sm_mi 205).2 (mr 205) :: uw) ({ frames := 6, cells := mc, slots := ms, locals := 90 } : Room)).room.cells := Nat.le_add_right _ _
  have hfs : sz M ≤ sz M + (headSpec (Cond.code (my 205) (mb 205) (sm_mi 205).2 (mr 205) :: uw) ({ frames := 6, cells := mc, slots := ms, locals := 90 } : Room)).room.slots := Nat.le_add_right _ _
  have J : sn_J p l e (headSpec (Cond.code (my 205) (mb 205) (sm_mi 205).2 (mr 205) :: uw) ({ frames := 6, cells := mc, slots := ms, locals := 90 } : Room)).room s m (([.ref (ad 0), .int x, .int y] : List Value).toArray) below meth c (vx_MQ below (lkQi D cA b sa ad M s.heap.size x y) (lkXC D cA b sa ad M s.heap.size x y) (([.ref (ad 0), .int x, .int y] : List Value).toArray) s mc ms (va_A (sn_W cA ad b sa M) s.heap.size)) D cA b sa (va_A (sn_W cA ad b sa M) s.heap.size) (cz M) (sz M) ad M.1.length 205 0 [some (.ref 0), some (.int x), some (.int y)] [] M := by
    refine sj_aload_n hC lkd_0 rfl ?_
    refine sj_get hC lkd_1 lk_hf hkd ?_
    rw [hst]
    refine sj_iload_n hC lkd_4 rfl ?_
    obtain ⟨n, k, hrun, hk⟩ := lk_r90 (X := X) (x := x) hsh
    refine lk_call hC ⟨n, hrun⟩ hfc hfs (by decide) (by decide) k1 lkd_5 lk_k90 rfl lk_l90 rfl (by decide) rfl ?_
    refine sj_if_ne hC lkd_8 (t := 22) (by decide) (fun hne => ?_) (fun heq => ?_)
    · have hi : lk_in M x := hk.elim And.left (fun z => absurd z.2 hne)
      refine sj_iload_n hC lkd_22 rfl ?_
      refine sj_switch hC lkd_23 (a := 75) (sw := [(0, 48), (1, 57), (2, 66)]) (by decide) (by decide) (by decide) (by decide) ?_
      simp only [sm_sw]
      split
      · rename_i hy
        refine sj_aload_n hC lkd_48 rfl ?_
        refine sj_get hC lkd_49 lk_hf hkd ?_
        rw [hst]
        refine sj_iload_n hC lkd_52 rfl ?_
        refine lk_call hC (lk_r117 hsh hi) hfc hfs (by decide) (by decide) k1 lkd_53 lk_k117 rfl lk_l117 rfl (by decide) rfl ?_
        exact hret 56 _ lkd_56 ⟨hi, Or.inl ⟨hy, rfl⟩⟩
      · rename_i hy0
        split
        · rename_i hy
          refine sj_aload_n hC lkd_57 rfl ?_
          refine sj_get hC lkd_58 lk_hf hkd ?_
          rw [hst]
          refine sj_iload_n hC lkd_61 rfl ?_
          refine lk_call hC (lk_r95 hsh hi) hfc hfs (by decide) (by decide) k1 lkd_62 lk_k95 rfl lk_l95 rfl (by decide) rfl ?_
          exact hret 65 _ lkd_65 ⟨hi, Or.inr (Or.inl ⟨hy, rfl⟩)⟩
        · rename_i hy1
          split
          · rename_i hy
            refine sj_aload_n hC lkd_66 rfl ?_
            refine sj_get hC lkd_67 lk_hf hkd ?_
            rw [hst]
            refine sj_iload_n hC lkd_70 rfl ?_
            refine lk_call hC (lk_r98 hsh hi) hfc hfs (by decide) (by decide) k1 lkd_71 lk_k98 rfl lk_l98 rfl (by decide) rfl ?_
            exact hret 74 _ lkd_74 ⟨hi, Or.inr (Or.inr ⟨hy, rfl⟩)⟩
          · rename_i hy2
            exact hthr2 (Or.inr ⟨hi, hy0, hy1, hy2, rfl⟩)
    · have hi : ¬ lk_in M x := hk.elim (fun z => absurd (by rw [z.2]; decide) heq) And.left
      exact hthr1 (Or.inl ⟨hi, rfl⟩)
  refine J ad ls0 s.heap [] 0 0 ⟨by omega, Nat.le_refl _, fun _ _ => rfl⟩ (by omega) ⟨hlv, ?_, vs_nil, hok, hP, hD0.self, va_S.rf⟩
  intro k w hk
  match k, hk with
  | 0, hk => cases hk; exact vv_ref (lk_lt k0 (by decide))
  | 1, hk => cases hk; exact vv_int
  | 2, hk => cases hk; exact vv_int
  | k + 3, hk => cases hk
