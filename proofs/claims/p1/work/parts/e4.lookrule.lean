/-! The law's look as a rule. -/
def lk_d1 (pc : Nat) : Bool := match decode (mb 315) pc with
  | .ok (.invokestatic ix, _) => decide (ix = 171)
  | _ => true
theorem lk_da_0 : ((List.range' 0 48).all lk_d1) = true := by decide +kernel
theorem lk_da_48 : ((List.range' 48 48).all lk_d1) = true := by decide +kernel
theorem lk_da_96 : ((List.range' 96 48).all lk_d1) = true := by decide +kernel
theorem lk_da_144 : ((List.range' 144 48).all lk_d1) = true := by decide +kernel
theorem lk_da_192 : ((List.range' 192 48).all lk_d1) = true := by decide +kernel
theorem lk_da_240 : ((List.range' 240 48).all lk_d1) = true := by decide +kernel
theorem lk_da_288 : ((List.range' 288 48).all lk_d1) = true := by decide +kernel
theorem lk_da_336 : ((List.range' 336 48).all lk_d1) = true := by decide +kernel
theorem lk_da_384 : ((List.range' 384 48).all lk_d1) = true := by decide +kernel
theorem lk_da_432 : ((List.range' 432 48).all lk_d1) = true := by decide +kernel
theorem lk_da_480 : ((List.range' 480 48).all lk_d1) = true := by decide +kernel
theorem lk_da_528 : ((List.range' 528 48).all lk_d1) = true := by decide +kernel
theorem lk_da_576 : ((List.range' 576 48).all lk_d1) = true := by decide +kernel
theorem lk_da_624 : ((List.range' 624 48).all lk_d1) = true := by decide +kernel
theorem lk_da_672 : ((List.range' 672 48).all lk_d1) = true := by decide +kernel
theorem lk_da_720 : ((List.range' 720 48).all lk_d1) = true := by decide +kernel
theorem lk_da_768 : ((List.range' 768 48).all lk_d1) = true := by decide +kernel
theorem lk_da_816 : ((List.range' 816 48).all lk_d1) = true := by decide +kernel
theorem lk_da_864 : ((List.range' 864 48).all lk_d1) = true := by decide +kernel
theorem lk_da_912 : ((List.range' 912 48).all lk_d1) = true := by decide +kernel
theorem lk_da_960 : ((List.range' 960 48).all lk_d1) = true := by decide +kernel
theorem lk_da_1008 : ((List.range' 1008 48).all lk_d1) = true := by decide +kernel
theorem lk_da_1056 : ((List.range' 1056 48).all lk_d1) = true := by decide +kernel
theorem lk_da_1104 : ((List.range' 1104 48).all lk_d1) = true := by decide +kernel
theorem lk_da_1152 : ((List.range' 1152 48).all lk_d1) = true := by decide +kernel
theorem lk_da_1200 : ((List.range' 1200 48).all lk_d1) = true := by decide +kernel
theorem lk_da_1248 : ((List.range' 1248 48).all lk_d1) = true := by decide +kernel
theorem lk_da_1296 : ((List.range' 1296 48).all lk_d1) = true := by decide +kernel
theorem lk_da_1344 : ((List.range' 1344 48).all lk_d1) = true := by decide +kernel
theorem lk_da_1392 : ((List.range' 1392 48).all lk_d1) = true := by decide +kernel
theorem lk_da_1440 : ((List.range' 1440 48).all lk_d1) = true := by decide +kernel
theorem lk_da_1488 : ((List.range' 1488 48).all lk_d1) = true := by decide +kernel
theorem lk_da_1536 : ((List.range' 1536 48).all lk_d1) = true := by decide +kernel
theorem lk_da_1584 : ((List.range' 1584 48).all lk_d1) = true := by decide +kernel
theorem lk_da_1632 : ((List.range' 1632 48).all lk_d1) = true := by decide +kernel
theorem lk_da_1680 : ((List.range' 1680 31).all lk_d1) = true := by decide +kernel
theorem lk_size : (mb 315).size = 1711 := by decide +kernel
theorem lk_dall {pc : Nat} (h : pc < 1711) : lk_d1 pc = true := by
  have g : ∀ (a n : Nat), ((List.range' a n).all lk_d1) = true → a ≤ pc → pc < a + n → lk_d1 pc = true := fun a n h1 h2 h3 => List.all_eq_true.mp h1 pc (List.mem_range'_1.mpr ⟨h2, h3⟩)
  by_cases h0 : pc < 48
  · exact g 0 48 lk_da_0 (by omega) (by omega)
  by_cases h48 : pc < 96
  · exact g 48 48 lk_da_48 (by omega) (by omega)
  by_cases h96 : pc < 144
  · exact g 96 48 lk_da_96 (by omega) (by omega)
  by_cases h144 : pc < 192
  · exact g 144 48 lk_da_144 (by omega) (by omega)
  by_cases h192 : pc < 240
  · exact g 192 48 lk_da_192 (by omega) (by omega)
  by_cases h240 : pc < 288
  · exact g 240 48 lk_da_240 (by omega) (by omega)
  by_cases h288 : pc < 336
  · exact g 288 48 lk_da_288 (by omega) (by omega)
  by_cases h336 : pc < 384
  · exact g 336 48 lk_da_336 (by omega) (by omega)
  by_cases h384 : pc < 432
  · exact g 384 48 lk_da_384 (by omega) (by omega)
  by_cases h432 : pc < 480
  · exact g 432 48 lk_da_432 (by omega) (by omega)
  by_cases h480 : pc < 528
  · exact g 480 48 lk_da_480 (by omega) (by omega)
  by_cases h528 : pc < 576
  · exact g 528 48 lk_da_528 (by omega) (by omega)
  by_cases h576 : pc < 624
  · exact g 576 48 lk_da_576 (by omega) (by omega)
  by_cases h624 : pc < 672
  · exact g 624 48 lk_da_624 (by omega) (by omega)
  by_cases h672 : pc < 720
  · exact g 672 48 lk_da_672 (by omega) (by omega)
  by_cases h720 : pc < 768
  · exact g 720 48 lk_da_720 (by omega) (by omega)
  by_cases h768 : pc < 816
  · exact g 768 48 lk_da_768 (by omega) (by omega)
  by_cases h816 : pc < 864
  · exact g 816 48 lk_da_816 (by omega) (by omega)
  by_cases h864 : pc < 912
  · exact g 864 48 lk_da_864 (by omega) (by omega)
  by_cases h912 : pc < 960
  · exact g 912 48 lk_da_912 (by omega) (by omega)
  by_cases h960 : pc < 1008
  · exact g 960 48 lk_da_960 (by omega) (by omega)
  by_cases h1008 : pc < 1056
  · exact g 1008 48 lk_da_1008 (by omega) (by omega)
  by_cases h1056 : pc < 1104
  · exact g 1056 48 lk_da_1056 (by omega) (by omega)
  by_cases h1104 : pc < 1152
  · exact g 1104 48 lk_da_1104 (by omega) (by omega)
  by_cases h1152 : pc < 1200
  · exact g 1152 48 lk_da_1152 (by omega) (by omega)
  by_cases h1200 : pc < 1248
  · exact g 1200 48 lk_da_1200 (by omega) (by omega)
  by_cases h1248 : pc < 1296
  · exact g 1248 48 lk_da_1248 (by omega) (by omega)
  by_cases h1296 : pc < 1344
  · exact g 1296 48 lk_da_1296 (by omega) (by omega)
  by_cases h1344 : pc < 1392
  · exact g 1344 48 lk_da_1344 (by omega) (by omega)
  by_cases h1392 : pc < 1440
  · exact g 1392 48 lk_da_1392 (by omega) (by omega)
  by_cases h1440 : pc < 1488
  · exact g 1440 48 lk_da_1440 (by omega) (by omega)
  by_cases h1488 : pc < 1536
  · exact g 1488 48 lk_da_1488 (by omega) (by omega)
  by_cases h1536 : pc < 1584
  · exact g 1536 48 lk_da_1536 (by omega) (by omega)
  by_cases h1584 : pc < 1632
  · exact g 1584 48 lk_da_1584 (by omega) (by omega)
  by_cases h1632 : pc < 1680
  · exact g 1632 48 lk_da_1632 (by omega) (by omega)
  exact g 1680 31 lk_da_1680 (by omega) (by omega)
theorem dec_out {cd : ByteArray} {pc : Nat} (h : ¬ pc < cd.size) {r : Instr × Nat} (e : decode cd pc = .ok r) : False := by
  have hu : (Jvm.ClassFile.Reader.u1 : Jvm.ClassFile.Decoder Nat) cd pc = Except.error (HasTruncated.truncated pc) := by
    show (if h : pc < cd.size then ((do set (pc + 1); pure cd[pc].toNat) : Jvm.ClassFile.Decoder Nat) else throw (HasTruncated.truncated pc)) cd pc = _
    rw [dif_neg h]
    rfl
  have hi : (Jvm.ClassFile.Decoder.instr pc).runAt cd pc = Except.error (HasTruncated.truncated pc) := by
    show (bind (Jvm.ClassFile.Reader.u1 : Jvm.ClassFile.Decoder Nat) _ : Jvm.ClassFile.Decoder Instr) cd pc = _
    show Except.bind ((Jvm.ClassFile.Reader.u1 : Jvm.ClassFile.Decoder Nat) cd pc) _ = _
    rw [hu]
    rfl
  unfold decode at e
  rw [hi] at e
  cases e
theorem lk_dec {pc ix : Nat} (h : decode (mb 315) pc = .ok (.invokestatic ix, 3)) : ix = 171 := by
  by_cases hp : pc < 1711
  · have := lk_dall hp
    unfold lk_d1 at this
    rw [h] at this
    exact of_decide_eq_true this
  · exact (dec_out (by rw [lk_size]; exact hp) h).elim
theorem lkB_tbl : (lkB.all fun w => decide (w ∈ lw_tbl)) = true := by decide +kernel
theorem law_EX {b : Nat} {A : Nat → Prop} {s : State} (h : law_F b A s) : ∃ t1 t2, lk_EX t1 t2 A s := by
  obtain ⟨rfl, hts, hgv⟩ := h
  have hs := flat_of_before _ hgv
  have hA : ∀ a : Nat, a < s.heap.size → ¬ s.heap.size ≤ a := fun a h => Nat.not_le.mpr h
  obtain ⟨a1, c1, cA1, kA1, q1, -⟩ := Cond.exactly_spec (args := #[Value.ref b]) (first := s) (o := none) (s := s) (idx := []) (t := .string "PowersHouse" 321) (cls := "java/lang/String") (hs (.exactly (.string "PowersHouse" 321) "java/lang/String") (by decide +kernel))
  obtain ⟨a2, c2, cA2, kA2, q2, -⟩ := Cond.exactly_spec (args := #[Value.ref b]) (first := s) (o := none) (s := s) (idx := []) (t := .string "PowersHouse" 331) (cls := "java/lang/String") (hs (.exactly (.string "PowersHouse" 331) "java/lang/String") (by decide +kernel))
  exact ⟨a1, a2, vx_Zqof (hts _ (by decide +kernel)) (hts _ (by decide +kernel)) (hs _ (by decide +kernel)) hA, vx_Zqof (hts _ (by decide +kernel)) (hts _ (by decide +kernel)) (hs _ (by decide +kernel)) hA, vk_R.of (hts _ (by decide +kernel)) q1, vk_R.of (hts _ (by decide +kernel)) q2, va_Nc.of (hs _ (by decide +kernel)), fun w hw => va_Nw.of (lkB_ot w hw) (hts w (of_decide_eq_true (List.all_eq_true.mp lkB_tbl w hw)))⟩
set_option maxRecDepth 100000 in
set_option maxHeartbeats 4000000 in
theorem lk_lookr {l : Launch} (hl : l.stackTraces = false) {X : (Nat → Int32) × Nat} {D : va_G} {cA : Nat → ClassId} {b sa sv : Nat} : sn_lookr l X D cA b sa (zs sa sv (law_F b)) := by
  intro p e R s m args below meth c Q A z0 w0 ad0 n0 pc ix L M M1 as rest c0 v C hd hcat hlk hcc hss k
  have hix := lk_dec hd
  subst hix
  obtain ⟨x, y, rfl⟩ : ∃ x y, as = [.ref 0, .int x, .int y, .ref 142] := by
    have h := hlk
    unfold sm_look at h
    split at h
    · rename_i a q w o
      cases hb : (Nat.beq a 0 && Nat.beq o 142) with
      | false => rw [hb] at h; cases h
      | true =>
        have g := lk_and hb
        exact ⟨q, w, by rw [Nat.eq_of_beq_eq_true g.1, Nat.eq_of_beq_eq_true g.2]⟩
    · cases h
  have hgr := sm_look_gr hlk
  obtain ⟨hx, hb, hr0, hlks, hml, hown, hmn, hts, hK, hA, hZ, hfr, hlo⟩ := C
  have hF : law_F b A s := hZ.2.2.2.2.2 rfl
  obtain ⟨t1, t2, hE⟩ := law_EX hF
  have hfr : 11 ≤ R.frames := hfr
  have hlo : 396 ≤ R.locals := hlo
  have hZ0 : sn_Z X b (zs0 sa sv 205) A s := ⟨hZ.1, hZ.2.1, hZ.2.2.1, hZ.2.2.2.1, hZ.2.2.2.2.1, fun h => absurd h (by decide)⟩
  intro ad ls H locs cells slots h1 h2 hr
  have h1' := h1.1
  have hok := hr.2.2.2.1
  have hrest : ∀ w ∈ rest, vv M.1.length w := fun w hw => hr.2.2.1 w (List.mem_append_right _ hw)
  have hrr := hr.stk hrest
  have hP := hr.2.2.2.2.1
  have hD := hr.2.2.2.2.2.1
  have hS := hr.2.2.2.2.2.2
  have hAA := sn_AA hD hS hA
  have h8 : ((rest.map (cv ad b sa)).map fun v => v.category).sum ≤ 8 := by rw [cat_sum]; exact hcat
  have hpre : PreS s H (va_Pc [.ref (ad 0), .int x, .int y, .ref (ad 142)] (lkPc X D cA b sa sv t1 t2 ad M H.size)) [.ref (ad 0), .int x, .int y, .ref (ad 142)] := by
    refine ⟨?_, fun U hU hW => ?_⟩
    · intro a U g mk q
      obtain ⟨q0, qs, qE⟩ := q
      exact ⟨q0, (sn_blind (X := X) (D := D) (cA := cA) (b := b) (sa := sa) (M := M) (zs_cl sa sv _) (j := 205) (by decide) (ad := ad) (hz := H.size) a U g mk ⟨q0, qs⟩).2, qE.next (fun _ h => h) (fun _ _ _ => rfl) (Or.inl rfl)⟩
    · exact ⟨rfl, ⟨by rw [hU], by rw [hU]; exact hP, va_K.moved hW.alike hK, hD.weaken (fun _ _ _ _ => trivial), hZ0.next (zs_cl sa sv _) (j := 205) (by decide) hAA (fun q q1 q2 => by rw [hU]; exact hS.2.1 q q1 q2) (by rw [hU]; exact hS.1) (Or.inr hW)⟩, hE.next hAA (fun q q1 q2 => by rw [hU]; exact hS.2.1 q q1 q2) (Or.inr hW)⟩
  have hcw : vx_CSW R s args "PowersHouseLaw" 171 yLk method_3_code 5 (some .int) lkH (Cond.codeWith yLk method_3_code 5 (some .int) lkH :: uw) ({ frames := 7, cells := cz M1 - cz M, slots := sz M1 - sz M, locals := 130 } : Room) (cz M1 - cz M) (sz M1 - sz M) 4 := by
    refine vx_cwSW (ws' := uw) 4 hts (uw_good fun w hw => ?_) rfl rfl rfl (by decide +kernel) ⟨(show 7 + 1 ≤ R.frames by omega), (show 8 + (5 + 11) + 130 ≤ R.locals by omega)⟩
    rcases List.mem_append.mp hw with h | h
    · simp only [List.mem_cons, List.not_mem_nil, or_false] at h
      rcases h with rfl | rfl | rfl
      · exact lk_ml2
      · exact lk_st2
      · exact lk_in2
    · rcases List.mem_cons.mp h with rfl | h
      · exact lk_cw
      · exact h
  exact sj_after hA h1 h2 hrr hgr.1 hgr.2 (vx_runSW (nL := (sm_mi 315).2) (As := [.ref (ad 0), .int x, .int y, .ref (ad 142)]) (Ts := uw) ⟨hx, hb, hml, hown, hts⟩ (lk_law hl hok hlk ad H.size) hcw hpre rfl rfl hr.1.1 (by simp [cv]) (lv_room h8) hd ⟨by omega, by omega⟩) k
