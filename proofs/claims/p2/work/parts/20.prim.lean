/-! The calls of Math that aren't walked. -/
section SN7
variable {p : Program} {l : Launch} {e : Env} {R : Room} {s : State} {m : MethodId} {args : Array Value} {below : List Frame} {meth : Method} {c : Code} {Q : State → Prop} {D : va_G} {cA : Nat → ClassId} {b sa : Nat} {A : Nat → Prop} {z0 w0 : Nat} {ad0 : Nat → Nat} {n0 : Nat} {i pc : Nat} {X : (Nat → Int32) × Nat} {L : sm_L} {st : sm_S} {M : sm_M}
variable {ZS : Nat → (Nat → Prop) → State → Prop}
theorem mth_ini : Cond.initialized "java/lang/Math" ∈ uw := wi_in (p := 133) (by decide +kernel)
theorem mth_s3 : Cond.static Lib.Math.max.name ∈ uw := wi_in (p := 644) (by decide +kernel)
theorem mth_s4 : Cond.static Lib.Math.min.name ∈ uw := wi_in (p := 641) (by decide +kernel)
theorem mth_s5 : Cond.static Lib.MathLoose.abs_long.x ∈ uw := wi_in (p := 1066) (by decide +kernel)
set_option maxRecDepth 100000 in
theorem mth_c3 : Cond.code Lib.Math.max.name Lib.Math.max.code 2 (some .int) ∈ uw := List.mem_filter.mpr ⟨List.mem_of_getElem? (show lw_tbl[645]? = some (Cond.code Lib.Math.max.name Lib.Math.max.code 2 (some .int)) from rfl), rfl⟩
set_option maxRecDepth 100000 in
theorem mth_c4 : Cond.code Lib.Math.min.name Lib.Math.min.code 2 (some .int) ∈ uw := List.mem_filter.mpr ⟨List.mem_of_getElem? (show lw_tbl[642]? = some (Cond.code Lib.Math.min.name Lib.Math.min.code 2 (some .int)) from rfl), rfl⟩
set_option maxRecDepth 100000 in
theorem mth_c5 : Cond.code Lib.MathLoose.abs_long.x Lib.MathLoose.abs_long.code 2 (some .long) ∈ uw := List.mem_filter.mpr ⟨List.mem_of_getElem? (show lw_tbl[1067]? = some (Cond.code Lib.MathLoose.abs_long.x Lib.MathLoose.abs_long.code 2 (some .long)) from rfl), rfl⟩
theorem pm_max (C : sn_C p R s m args meth c D cA A X b ZS i) {ix : Nat} {rest : sm_S} {x y : Int32} (hd : decode (mb i) pc = .ok (.invokestatic ix, 3)) (hl : Cond.methodLink (my i).cls ix Lib.Math.max.name ∈ uw) (hf1 : 1 ≤ (mrm i).1) (hf2 : 21 ≤ (mrm i).2) (hcat : sm_cat rest ≤ 8) (hcc : cz M ≤ z0 + R.cells) (hss : sz M ≤ w0 + R.slots)
    (k : sn_J p l e R s m args below meth c Q D cA b sa A z0 w0 ad0 n0 i (pc + 3) L (.int (if x < y then y else x) :: rest) M) : sn_J p l e R s m args below meth c Q D cA b sa A z0 w0 ad0 n0 i pc L (.int y :: .int x :: rest) M := by
  obtain ⟨hx, hb, hr0, hlk, hml, hown, hmn, hts, hK, hA, hZ, hfr, hlo⟩ := C
  intro ad ls H locs cells slots h1 h2 hr
  have h8 : ((rest.map (cv ad b sa)).map fun v => v.category).sum ≤ 8 := by rw [cat_sum]; exact hcat
  have h1' := h1.1
  exact va_mmax hx hb (hml.trans hr.1.1.symm) hown (hts _ hl) (hts _ mth_s3) (hts _ mth_ini) (hts _ mth_c3) (by omega) (by omega) (by omega) (by omega) hd (k ad ls H locs cells slots h1 h2 (hr.stk (vs_c vv_int (vs_t (vs_t hr.2.2.1)))))
theorem pm_min (C : sn_C p R s m args meth c D cA A X b ZS i) {ix : Nat} {rest : sm_S} {x y : Int32} (hd : decode (mb i) pc = .ok (.invokestatic ix, 3)) (hl : Cond.methodLink (my i).cls ix Lib.Math.min.name ∈ uw) (hf1 : 1 ≤ (mrm i).1) (hf2 : 21 ≤ (mrm i).2) (hcat : sm_cat rest ≤ 8) (hcc : cz M ≤ z0 + R.cells) (hss : sz M ≤ w0 + R.slots)
    (k : sn_J p l e R s m args below meth c Q D cA b sa A z0 w0 ad0 n0 i (pc + 3) L (.int (if y < x then y else x) :: rest) M) : sn_J p l e R s m args below meth c Q D cA b sa A z0 w0 ad0 n0 i pc L (.int y :: .int x :: rest) M := by
  obtain ⟨hx, hb, hr0, hlk, hml, hown, hmn, hts, hK, hA, hZ, hfr, hlo⟩ := C
  intro ad ls H locs cells slots h1 h2 hr
  have h8 : ((rest.map (cv ad b sa)).map fun v => v.category).sum ≤ 8 := by rw [cat_sum]; exact hcat
  have h1' := h1.1
  exact va_mmin hx hb (hml.trans hr.1.1.symm) hown (hts _ hl) (hts _ mth_s4) (hts _ mth_ini) (hts _ mth_c4) (by omega) (by omega) (by omega) (by omega) hd (k ad ls H locs cells slots h1 h2 (hr.stk (vs_c vv_int (vs_t (vs_t hr.2.2.1)))))
theorem pm_abs (C : sn_C p R s m args meth c D cA A X b ZS i) {ix : Nat} {rest : sm_S} {x : Int64} (hd : decode (mb i) pc = .ok (.invokestatic ix, 3)) (hl : Cond.methodLink (my i).cls ix Lib.MathLoose.abs_long.x ∈ uw) (hf1 : 1 ≤ (mrm i).1) (hf2 : 21 ≤ (mrm i).2) (hcat : sm_cat rest ≤ 8) (hcc : cz M ≤ z0 + R.cells) (hss : sz M ≤ w0 + R.slots)
    (k : sn_J p l e R s m args below meth c Q D cA b sa A z0 w0 ad0 n0 i (pc + 3) L (.long (if 0 < x then x else -x) :: rest) M) : sn_J p l e R s m args below meth c Q D cA b sa A z0 w0 ad0 n0 i pc L (.long x :: rest) M := by
  obtain ⟨hx, hb, hr0, hlk, hml, hown, hmn, hts, hK, hA, hZ, hfr, hlo⟩ := C
  intro ad ls H locs cells slots h1 h2 hr
  have h8 : ((rest.map (cv ad b sa)).map fun v => v.category).sum ≤ 8 := by rw [cat_sum]; exact hcat
  have h1' := h1.1
  exact va_mabs_long hx hb (hml.trans hr.1.1.symm) hown (hts _ hl) (hts _ mth_s5) (hts _ mth_ini) (hts _ mth_c5) (by omega) (by omega) (by omega) (by omega) hd (k ad ls H locs cells slots h1 h2 (hr.stk (vs_c vv_long (vs_t hr.2.2.1))))
end SN7
