/-! The String's calls as steps of the shadow. -/
theorem st_in {sa sv : Nat} {A : Nat → Prop} {s U : State} {H : Heap} {locs : List Loc} (h : st_Z sa sv A s) (hS : va_S A s.heap H locs) (hU : U.heap = H) (hW : s.WarmedH U.vm) : st_Z sa sv nw U := h.next (fun _ h => h.elim) (fun q h1 h2 => by rw [hU]; exact hS.2.1 q h1 h2) (Or.inr hW)
section SN8
variable {p : Program} {l : Launch} {e : Env} {R : Room} {s : State} {m : MethodId} {args : Array Value} {below : List Frame} {meth : Method} {c : Code} {Q : State → Prop} {D : va_G} {cA : Nat → ClassId} {b sa sv : Nat} {A : Nat → Prop} {z0 w0 : Nat} {ad0 : Nat → Nat} {n0 : Nat} {i pc : Nat} {X : (Nat → Int32) × Nat} {L : sm_L} {st : sm_S} {M : sm_M}
variable {ZS : Nat → (Nat → Prop) → State → Prop}
theorem pm_len (C : sn_C p R s m args meth c D cA A X b ZS i) (hz : st_Z sa sv A s) {ix : Nat} {rest : sm_S} (hd : decode (mb i) pc = .ok (.invokevirtual ix, 3)) (hl : Cond.methodLink (my i).cls ix ys_length ∈ uw) (hf1 : 4 ≤ (mrm i).1) (hf2 : 80 ≤ (mrm i).2) (hcat : sm_cat rest ≤ 8) (hcc : cz M ≤ z0 + R.cells) (hss : sz M ≤ w0 + R.slots)
    (k : sn_J p l e R s m args below meth c Q D cA b sa A z0 w0 ad0 n0 i (pc + 3) L (.int 95 :: rest) M) : sn_J p l e R s m args below meth c Q D cA b sa A z0 w0 ad0 n0 i pc L (.retAddr 2 :: rest) M := by
  obtain ⟨hx, hb, hr0, hlk, hml, hown, hmn, hts, hK, hA, hZ, hfr, hlo⟩ := C
  intro ad ls H locs cells slots h1 h2 hr
  have h8 : ((rest.map (cv ad b sa)).map fun v => v.category).sum ≤ 8 := by rw [cat_sum]; exact hcat
  have h1' := h1.1
  have hS := hr.2.2.2.2.2.2
  refine W.callR (W.runV (As := []) (rest := rest.map (cv ad b sa)) (C := "java/lang/String") (b := sa) (nL := (sm_mi i).2) ⟨hx, hb, hml, hown, hts⟩ (cm_length l sa sv) (cwV (ws' := uw) 0 hts (uw_good fun w hw => ?_) rfl rfl rfl (by decide +kernel) ⟨by show 1 + 1 ≤ _; omega, by show 8 + (1 + 11) + 20 ≤ _; omega⟩) ⟨st_bl, ?_, fun U hU hW => ⟨rfl, st_in hz hS hU hW⟩⟩ rfl rfl hr.1.1 rfl (lv_room h8) hd ⟨by omega, by omega⟩) (k ad ls H locs cells slots h1 h2 (hr.stk (vs_c vv_int (vs_t hr.2.2.1))))
  · rcases List.mem_append.mp hw with h | h
    · simp only [List.mem_cons, List.not_mem_nil, or_false] at h
      rcases h with rfl | rfl | rfl | rfl
      · exact hl
      · exact im_length
      · exact se_length
      · exact wsn_length
    · exact wsi_length w h
  · obtain ⟨cell, g1, g2, g3, g4⟩ := hz.2.1
    exact ⟨cell, by rw [hS.2.1 sa (Array.getElem?_eq_some_iff.mp g1).1 g4]; exact g1, g2, g3⟩
theorem pm_chr (C : sn_C p R s m args meth c D cA A X b ZS i) (hz : st_Z sa sv A s) {ix : Nat} {rest : sm_S} {x : Int32} (hin : vp_in x 95) (hd : decode (mb i) pc = .ok (.invokevirtual ix, 3)) (hl : Cond.methodLink (my i).cls ix ys_charAt ∈ uw) (hf1 : 4 ≤ (mrm i).1) (hf2 : 85 ≤ (mrm i).2) (hcat : sm_cat rest ≤ 8) (hcc : cz M ≤ z0 + R.cells) (hss : sz M ≤ w0 + R.slots)
    (k : sn_J p l e R s m args below meth c Q D cA b sa A z0 w0 ad0 n0 i (pc + 3) L (.int (sm_words.getD x.toNatClampNeg 0) :: rest) M) : sn_J p l e R s m args below meth c Q D cA b sa A z0 w0 ad0 n0 i pc L (.int x :: .retAddr 2 :: rest) M := by
  obtain ⟨hx, hb, hr0, hlk, hml, hown, hmn, hts, hK, hA, hZ, hfr, hlo⟩ := C
  intro ad ls H locs cells slots h1 h2 hr
  have h8 : ((rest.map (cv ad b sa)).map fun v => v.category).sum ≤ 8 := by rw [cat_sum]; exact hcat
  have h1' := h1.1
  have hS := hr.2.2.2.2.2.2
  refine W.callR (W.runV (As := [.int x]) (rest := rest.map (cv ad b sa)) (C := "java/lang/String") (b := sa) (nL := (sm_mi i).2) ⟨hx, hb, hml, hown, hts⟩ (cm_charAt l sa sv x hin) (cwV (ws' := uw) 1 hts (uw_good fun w hw => ?_) rfl rfl rfl (by decide +kernel) ⟨by show 3 + 1 ≤ _; omega, by show 8 + (2 + 11) + 64 ≤ _; omega⟩) ⟨st_bl, ?_, fun U hU hW => ⟨rfl, st_in hz hS hU hW⟩⟩ rfl rfl hr.1.1 rfl (lv_room h8) hd ⟨by omega, by omega⟩) (k ad ls H locs cells slots h1 h2 (hr.stk (vs_c vv_int (vs_t (vs_t hr.2.2.1)))))
  · rcases List.mem_append.mp hw with h | h
    · simp only [List.mem_cons, List.not_mem_nil, or_false] at h
      rcases h with rfl | rfl | rfl | rfl
      · exact hl
      · exact im_charAt
      · exact se_charAt
      · exact wsn_charAt
    · exact wsi_charAt w h
  · obtain ⟨cell, g1, g2, g3, g4⟩ := hz.2.1
    exact ⟨cell, by rw [hS.2.1 sa (Array.getElem?_eq_some_iff.mp g1).1 g4]; exact g1, g2, g3⟩
end SN8
/-- what lies outside: the String constant; for the law itself, LF -/
def zs (sa sv : Nat) (LF : (Nat → Prop) → State → Prop) (i : Nat) (A : Nat → Prop) (s : State) : Prop := st_Z sa sv A s ∧ (i = 315 → LF A s)
theorem zs_cl (sa sv : Nat) (LF : (Nat → Prop) → State → Prop) : sn_Zcl (zs sa sv LF) := fun i j A A' s U hj h hA hh hs hv => ⟨h.1.next hA hh hv, fun e => absurd e hj⟩
theorem zs_ldc (l : Launch) (X : (Nat → Int32) × Nat) (D : va_G) (cA : Nat → ClassId) (b sa sv : Nat) (LF : (Nat → Prop) → State → Prop) : sn_ldcs l X D cA b sa (zs sa sv LF) := by
  intro p e R s m args below meth c Q A z0 w0 ad0 n0 i pc L st M C hd hcls k
  obtain ⟨hx, hb, hr0, hlk, hml, hown, hmn, hts, hK, hA, hZ, hfr, hlo⟩ := C
  intro ad ls H locs cells slots h1 h2 hr
  exact va_ldcS hx hb (own := "PowersHouse$Tape") (by rw [← hcls]; exact hown) hZ.2.2.2.2.1.1 hd (k ad ls H locs cells slots h1 h2 (hr.stk (vs_c vv_ra hr.2.2.1)))
/-- the law's look: as a rule, still to be proved -/
def sn_lookr (l : Launch) (X : (Nat → Int32) × Nat) (D : va_G) (cA : Nat → ClassId) (b sa : Nat) (ZS : Nat → (Nat → Prop) → State → Prop) : Prop := ∀ (p : Program) (e : Env) (R : Room) (s : State) (m : MethodId) (args : Array Value) (below : List Frame) (meth : Method) (c : Code) (Q : State → Prop) (A : Nat → Prop) (z0 w0 : Nat) (ad0 : Nat → Nat) (n0 pc : Nat) (L : sm_L) (M M1 : sm_M) (as rest : List Value) (c0 : sm_C) (v : Option Value),
  sn_C p R s m args meth c D cA A X b ZS 315 → decode (mb 315) pc = .ok (.invokestatic 171, 3) → sm_cat rest ≤ 8 → sm_look as M = some (c0, v, M1) → cz M1 ≤ z0 + R.cells → sz M1 ≤ w0 + R.slots → sn_J p l e R s m args below meth c Q D cA b sa A z0 w0 ad0 n0 315 (pc + 3) L (v.toList ++ rest) M1 → sn_J p l e R s m args below meth c Q D cA b sa A z0 w0 ad0 n0 315 pc L (as.reverse ++ rest) M
set_option maxHeartbeats 2000000 in
theorem zs_prims {l : Launch} {X : (Nat → Int32) × Nat} {D : va_G} {cA : Nat → ClassId} {b sa sv : Nat} {LF : (Nat → Prop) → State → Prop} (hlook : sn_lookr l X D cA b sa (zs sa sv LF)) : sn_prims l X D cA b sa (zs sa sv LF) := by
  intro p e R s m args below meth c Q A z0 w0 ad0 n0 i pc L M M1 j as rest c0 v C hcf h900 hp h0 hcc hss k
  obtain ⟨hc8, -, nn, cd, ix, hln, hk⟩ := hcf
  have hz : st_Z sa sv A s := C.2.2.2.2.2.2.2.2.2.2.1.2.2.2.2.1
  have hkp : (∃ pp, kp i j nn cd pp ix = true) ∧ ((j ≤ 901 ∧ decode (mb i) pc = .ok (.invokevirtual ix, 3)) ∨ (902 ≤ j ∧ decode (mb i) pc = .ok (.invokestatic ix, 3))) := by
    rcases hk with ⟨-, -, h1, h2⟩ | ⟨hkc, -⟩
    · exact ⟨h1, h2⟩
    · simp only [kc, Bool.and_eq_true, decide_eq_true_eq, Bool.or_eq_true] at hkc
      omega
  obtain ⟨⟨pp, hkp⟩, hd⟩ := hkp
  simp only [kp, Bool.and_eq_true, decide_eq_true_eq] at hkp
  obtain ⟨-, hkp⟩ := hkp
  split at hkp
  · simp only [Bool.and_eq_true, decide_eq_true_eq] at hkp
    have hd : decode (mb i) pc = .ok (.invokevirtual ix, 3) := hd.elim (fun h => h.2) (fun h => by have := h.1; omega)
    simp only [sm_prim, show Nat.beq 900 900 = true from rfl, cond_true] at hp
    split at hp
    · rename_i z
      cases hz2 : Nat.beq z 2 with
      | false => rw [hz2] at hp; cases hp
      | true =>
        rw [hz2] at hp
        have e2 := Nat.eq_of_beq_eq_true hz2
        subst e2
        cases hp
        exact pm_len C hz hd (wi_in hkp.1.1.2) hkp.1.2 hkp.2 hc8 hcc hss k
    · cases hp
  · simp only [Bool.and_eq_true, decide_eq_true_eq] at hkp
    have hd : decode (mb i) pc = .ok (.invokevirtual ix, 3) := hd.elim (fun h => h.2) (fun h => by have := h.1; omega)
    simp only [sm_prim, show Nat.beq 901 900 = false from rfl, show Nat.beq 901 901 = true from rfl, cond_true, cond_false] at hp
    split at hp
    · rename_i z x
      cases hz2 : Nat.beq z 2 with
      | false => rw [hz2] at hp; cases hp
      | true =>
        rw [hz2] at hp
        have e2 := Nat.eq_of_beq_eq_true hz2
        subst e2
        cases hp
        exact pm_chr C hz h0 hd (wi_in hkp.1.1.2) hkp.1.2 hkp.2 hc8 hcc hss k
    · cases hp
  · simp only [Bool.and_eq_true, decide_eq_true_eq] at hkp
    obtain ⟨⟨-, rfl⟩, rfl⟩ := hkp
    have hd : decode (mb 315) pc = .ok (.invokestatic 171, 3) := hd.elim (fun h => by have := h.1; omega) (fun h => h.2)
    have hp : sm_look as M = some (c0, v, M1) := hp
    exact hlook p e R s m args below meth c Q A z0 w0 ad0 n0 pc L M M1 as rest c0 v C hd hc8 hp hcc hss k
  · simp only [Bool.and_eq_true, decide_eq_true_eq] at hkp
    have hd : decode (mb i) pc = .ok (.invokestatic ix, 3) := hd.elim (fun h => by have := h.1; omega) (fun h => h.2)
    simp only [sm_prim, show Nat.beq 903 900 = false from rfl, show Nat.beq 903 901 = false from rfl, show Nat.beq 903 903 = true from rfl, cond_true, cond_false] at hp
    split at hp
    · cases hp
      exact pm_max C hd (wi_in hkp.1.1.2) hkp.1.2 hkp.2 hc8 hcc hss k
    · cases hp
  · simp only [Bool.and_eq_true, decide_eq_true_eq] at hkp
    have hd : decode (mb i) pc = .ok (.invokestatic ix, 3) := hd.elim (fun h => by have := h.1; omega) (fun h => h.2)
    simp only [sm_prim, show Nat.beq 904 900 = false from rfl, show Nat.beq 904 901 = false from rfl, show Nat.beq 904 903 = false from rfl, show Nat.beq 904 904 = true from rfl, cond_true, cond_false] at hp
    split at hp
    · cases hp
      exact pm_min C hd (wi_in hkp.1.1.2) hkp.1.2 hkp.2 hc8 hcc hss k
    · cases hp
  · simp only [Bool.and_eq_true, decide_eq_true_eq] at hkp
    have hd : decode (mb i) pc = .ok (.invokestatic ix, 3) := hd.elim (fun h => by have := h.1; omega) (fun h => h.2)
    simp only [sm_prim, show Nat.beq 905 900 = false from rfl, show Nat.beq 905 901 = false from rfl, show Nat.beq 905 903 = false from rfl, show Nat.beq 905 904 = false from rfl, show Nat.beq 905 905 = true from rfl, cond_true, cond_false] at hp
    split at hp
    · cases hp
      exact pm_abs C hd (wi_in hkp.1.1.2) hkp.1.2 hkp.2 hc8 hcc hss k
    · cases hp
  · cases hkp
