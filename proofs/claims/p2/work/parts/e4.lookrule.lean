/-! The law's look as a rule. -/
theorem lkB_tbl : (lkB.all fun w => decide (w ∈ lw_tbl)) = true := by decide +kernel
theorem law_EX {b : Nat} {A : Nat → Prop} {s : State} (h : law_F b A s) : ∃ t1 t2, lk_EX t1 t2 A s := by
  obtain ⟨rfl, hts, hgv⟩ := h
  have hs := flat_of_before _ hgv
  have hA : ∀ a : Nat, a < s.heap.size → ¬ s.heap.size ≤ a := fun a h => Nat.not_le.mpr h
  obtain ⟨a1, c1, cA1, kA1, q1, -⟩ := Cond.exactly_spec (args := #[Value.ref b]) (first := s) (o := none) (s := s) (idx := []) (t := .string "PowersHouse" 321) (cls := "java/lang/String") (hs (.exactly (.string "PowersHouse" 321) "java/lang/String") (by decide +kernel))
  obtain ⟨a2, c2, cA2, kA2, q2, -⟩ := Cond.exactly_spec (args := #[Value.ref b]) (first := s) (o := none) (s := s) (idx := []) (t := .string "PowersHouse" 331) (cls := "java/lang/String") (hs (.exactly (.string "PowersHouse" 331) "java/lang/String") (by decide +kernel))
  exact ⟨a1, a2, vx_Zqof (hts _ (by decide +kernel)) (hts _ (by decide +kernel)) (hs _ (by decide +kernel)) hA, vx_Zqof (hts _ (by decide +kernel)) (hts _ (by decide +kernel)) (hs _ (by decide +kernel)) hA, vk_R.of (hts _ (by decide +kernel)) q1, vk_R.of (hts _ (by decide +kernel)) q2, va_Nc.of (hs _ (by decide +kernel)), fun w hw => va_Nw.of (lkB_ot w hw) (hts w (of_decide_eq_true (List.all_eq_true.mp lkB_tbl w hw)))⟩
set_option maxRecDepth 100000 in
set_option maxHeartbeats 4000000 in
theorem lk_lookr {l : Launch} (hl : l.stackTraces = false) {X : (Nat → Int32) × Nat} {D : va_G} {cA : Nat → ClassId} {b sa sv : Nat} : sn_lookr l X D cA b sa (zs sa sv (law_F b)) := by
  intro p e R s m args below meth c Q A z0 w0 ad0 n0 pc L M M1 as rest c0 v C hd hcat hlk hcc hss k
  obtain ⟨x, y, rfl⟩ : ∃ x y, as = [.ref 0, .int x, .int y, .ref 142] := by
    have h := hlk
    unfold sm_look at h
    split at h
    · rename_i a q w o
      cases hb : (Nat.beq a 0 && Nat.beq o 142) with
      | false => rw [hb] at h; cases h
      | true =>
        have g := lk_and hb
        exact ⟨q, w, by rw [Nat.eq_of_beq_eq_true g.1, Nat.eq_of_beq_eq_true g.2]⟩
    · cases h
  have hgr := sm_look_gr hlk
  obtain ⟨hx, hb, hr0, hlks, hml, hown, hmn, hts, hK, hA, hZ, hfr, hlo⟩ := C
  have hF : law_F b A s := hZ.2.2.2.2.2 rfl
  obtain ⟨t1, t2, hE⟩ := law_EX hF
  have hfr : 8 ≤ R.frames := hfr
  have hlo : 193 ≤ R.locals := hlo
  have hZ0 : sn_Z X b (zs0 sa sv 205) A s := ⟨hZ.1, hZ.2.1, hZ.2.2.1, hZ.2.2.2.1, hZ.2.2.2.2.1, fun h => absurd h (by decide)⟩
  intro ad ls H locs cells slots h1 h2 hr
  have h1' := h1.1
  have hok := hr.2.2.2.1
  have hrest : ∀ w ∈ rest, vv M.1.length w := fun w hw => hr.2.2.1 w (List.mem_append_right _ hw)
  have hrr := hr.stk hrest
  have hP := hr.2.2.2.2.1
  have hD := hr.2.2.2.2.2.1
  have hS := hr.2.2.2.2.2.2
  have hAA := sn_AA hD hS hA
  have h8 : ((rest.map (cv ad b sa)).map fun v => v.category).sum ≤ 8 := by rw [cat_sum]; exact hcat
  have hpre : PreS s H (va_Pc [.ref (ad 0), .int x, .int y, .ref (ad 142)] (lkPc X D cA b sa sv t1 t2 ad M H.size)) [.ref (ad 0), .int x, .int y, .ref (ad 142)] := by
    refine ⟨?_, fun U hU hW => ?_⟩
    · intro a U g mk q
      obtain ⟨q0, qs, qE⟩ := q
      exact ⟨q0, (sn_blind (X := X) (D := D) (cA := cA) (b := b) (sa := sa) (M := M) (zs_cl sa sv _) (j := 205) (by decide) (ad := ad) (hz := H.size) a U g mk ⟨q0, qs⟩).2, qE.next (fun _ h => h) (fun _ _ _ => rfl) (Or.inl rfl)⟩
    · exact ⟨rfl, ⟨by rw [hU], by rw [hU]; exact hP, va_K.moved hW.alike hK, hD.weaken (fun _ _ _ _ => trivial), hZ0.next (zs_cl sa sv _) (j := 205) (by decide) hAA (fun q q1 q2 => by rw [hU]; exact hS.2.1 q q1 q2) (by rw [hU]; exact hS.1) (Or.inr hW)⟩, hE.next hAA (fun q q1 q2 => by rw [hU]; exact hS.2.1 q q1 q2) (Or.inr hW)⟩
  have hcw : vx_CSW R s args "PowersHouseLaw" 171 yLk method_3_code 5 (some .int) lkH (Cond.codeWith yLk method_3_code 5 (some .int) lkH :: uw) ({ frames := 7, cells := cz M1 - cz M, slots := sz M1 - sz M, locals := 130 } : Room) (cz M1 - cz M) (sz M1 - sz M) 4 := by
    refine vx_cwSW (ws' := uw) 4 hts (uw_good fun w hw => ?_) rfl rfl rfl (by decide +kernel) ⟨(show 7 + 1 ≤ R.frames by omega), (show 8 + (5 + 11) + 130 ≤ R.locals by omega)⟩
    rcases List.mem_append.mp hw with h | h
    · simp only [List.mem_cons, List.not_mem_nil, or_false] at h
      rcases h with rfl | rfl | rfl
      · exact lk_ml2
      · exact lk_st2
      · exact lk_in2
    · rcases List.mem_cons.mp h with rfl | h
      · exact lk_cw
      · exact h
  exact sj_after hA h1 h2 hrr hgr.1 hgr.2 (vx_runSW (nL := (sm_mi 315).2) (As := [.ref (ad 0), .int x, .int y, .ref (ad 142)]) (Ts := uw) ⟨hx, hb, hml, hown, hts⟩ (lk_law hl hok hlk ad H.size) hcw hpre rfl rfl hr.1.1 (by simp [cv]) (lv_room h8) hd ⟨by omega, by omega⟩) k
