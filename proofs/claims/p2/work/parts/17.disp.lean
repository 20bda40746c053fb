/-! The dispatch. -/
theorem lkc_all : (List.range 13).all (fun a => wi (cl_q.getD a (0, 0)).1 (.instantiable (cl_at a).1 (cl_at a).2.2) && wi (cl_q.getD a (0, 0)).2 (.initialized (cl_at a).1)) = true := by decide +kernel
/-- of a call: what the tables have tested -/
def sn_cf (i pc j : Nat) (as rest : List Value) (M : sm_M) : Prop := sm_cat rest ≤ 8 ∧ sm_cat as ≤ (sm_mi j).2 ∧ ∃ nn cd ix, as.length = nn ∧
  ((900 ≤ j ∧ cd = 5 ∧ (∃ pp, kp i j nn cd pp ix = true) ∧ ((j ≤ 901 ∧ decode (mb i) pc = .ok (.invokevirtual ix, 3)) ∨ (902 ≤ j ∧ decode (mb i) pc = .ok (.invokestatic ix, 3)))) ∨
   (kc i j (bif Nat.beq cd 0 || Nat.beq cd 3 then nn - 1 else nn) = true ∧
    ((cd = 0 ∧ decode (mb i) pc = .ok (.invokevirtual ix, 3) ∧ (mq j).1 = 0 ∧ Cond.methodLink (my i).cls ix (my j) ∈ uw ∧ (sm_mi j).1 < 13 ∧ (cl_at (sm_mi j).1).1 = (my j).cls ∧ ∃ o as', as = .ref o :: as' ∧ Nat.beq (sm_kd M.1 o).1 (sm_mi j).1 = true) ∨ (cd = 1 ∧ decode (mb i) pc = .ok (.invokestatic ix, 3) ∧ (mq j).1 = 1 ∧ Cond.methodLink (my i).cls ix (my j) ∈ uw) ∨ (cd = 2 ∧ decode (mb i) pc = .ok (.invokestatic ix, 3) ∧ (mq j).1 = 1 ∧ Cond.methodLinkNest (my i).cls ix (my j) "PowersHouse" ∈ lw_tbl) ∨ (cd = 3 ∧ decode (mb i) pc = .ok (.invokespecial ix, 3) ∧ (mq j).1 = 2 ∧ Cond.methodLink (my i).cls ix (my j) ∈ uw ∧ (my j).name = "<init>" ∧ mr j = none ∧ ∃ o as', as = .ref o :: as'))))
section SN6
variable {p : Program} {l : Launch} {e : Env} {R : Room} {s : State} {m : MethodId} {args : Array Value} {below : List Frame} {meth : Method} {c : Code} {Q : State → Prop} {D : va_G} {cA : Nat → ClassId} {b sa : Nat} {A : Nat → Prop} {z0 w0 : Nat} {ad0 : Nat → Nat} {n0 : Nat} {i pc : Nat} {X : (Nat → Int32) × Nat} {L : sm_L} {st : sm_S} {M : sm_M}
variable {ZS : Nat → (Nat → Prop) → State → Prop}
/-- what a step's outcome asks for -/
def sn_O (p : Program) (l : Launch) (e : Env) (R : Room) (s : State) (m : MethodId) (args : Array Value) (below : List Frame) (meth : Method) (c : Code) (Q : State → Prop) (D : va_G) (cA : Nat → ClassId) (b sa : Nat) (A : Nat → Prop) (z0 w0 : Nat) (ad0 : Nat → Nat) (n0 : Nat) (i pc len : Nat) (M : sm_M) : sm_O → Prop
  | .inl (L', st', M') => (cz M' ≤ z0 + R.cells ∧ sz M' ≤ w0 + R.slots) ∧ sn_J p l e R s m args below meth c Q D cA b sa A z0 w0 ad0 n0 i (pc + len) L' st' M'
  | .inr (.inl (c0, L', st', M')) => c0.1 ∧ sn_J p l e R s m args below meth c Q D cA b sa A z0 w0 ad0 n0 i (pc + len) L' st' M'
  | .inr (.inr (.inl (c0, t, L', st'))) => (c0.1 → sn_J p l e R s m args below meth c Q D cA b sa A z0 w0 ad0 n0 i t L' st' M) ∧ (¬ c0.1 → sn_J p l e R s m args below meth c Q D cA b sa A z0 w0 ad0 n0 i (pc + len) L' st' M)
  | .inr (.inr (.inr (.inl (t, L', st')))) => sn_J p l e R s m args below meth c Q D cA b sa A z0 w0 ad0 n0 i t L' st' M
  | .inr (.inr (.inr (.inr (.inl (x, sl, d, L', st'))))) => sn_J p l e R s m args below meth c Q D cA b sa A z0 w0 ad0 n0 i (sm_sw x sl d) L' st' M
  | .inr (.inr (.inr (.inr (.inr (.inl (j, as, L', rest)))))) => sn_cf i pc j as rest M → sn_J p l e R s m args below meth c Q D cA b sa A z0 w0 ad0 n0 i pc L' (as.reverse ++ rest) M
  | .inr (.inr (.inr (.inr (.inr (.inr (c0, v)))))) => c0.1 ∧ ∀ L', sn_rt i pc v → sn_J p l e R s m args below meth c Q D cA b sa A z0 w0 ad0 n0 i pc L' v.toList M
/-- the String constant is put on the stack -/
def sn_ldcs (l : Launch) (X : (Nat → Int32) × Nat) (D : va_G) (cA : Nat → ClassId) (b sa : Nat) (ZS : Nat → (Nat → Prop) → State → Prop) : Prop := ∀ (p : Program) (e : Env) (R : Room) (s : State) (m : MethodId) (args : Array Value) (below : List Frame) (meth : Method) (c : Code) (Q : State → Prop) (A : Nat → Prop) (z0 w0 : Nat) (ad0 : Nat → Nat) (n0 i pc : Nat) (L : sm_L) (st : sm_S) (M : sm_M),
  sn_C p R s m args meth c D cA A X b ZS i → decode (mb i) pc = .ok (.ldc 64, 2) → (my i).cls = "PowersHouse$Tape" → sn_J p l e R s m args below meth c Q D cA b sa A z0 w0 ad0 n0 i (pc + 2) L (.retAddr 2 :: st) M → sn_J p l e R s m args below meth c Q D cA b sa A z0 w0 ad0 n0 i pc L st M
theorem sw_in {x : Int32} : ∀ (sw : List (Int32 × Nat)) (d : Nat) (k : Nat) (y : Int32) (t : Nat), sw[k]? = some (y, t) → y = x → (∀ j, j < k → ∀ z, (sw.map (fun e => e.1))[j]? = some z → z ≠ x) → sm_sw x sw d = t
  | [], _, _, _, _, h, _, _ => by simp at h
  | (y0, t0) :: r, d, 0, y, t, h, hy, _ => by
    have : (y0, t0) = (y, t) := Option.some.inj h
    obtain ⟨rfl, rfl⟩ := Prod.mk.inj this
    simp [sm_sw, hy]
  | (y0, t0) :: r, d, k + 1, y, t, h, hy, hn => by
    have h0 : y0 ≠ x := hn 0 (by omega) y0 rfl
    show (if x = y0 then t0 else sm_sw x r d) = t
    rw [if_neg (fun e => h0 e.symm)]
    exact sw_in r d k y t h hy fun j hj z hz => hn (j + 1) (by omega) z hz
theorem sw_out {x : Int32} : ∀ (sw : List (Int32 × Nat)) (d : Nat), (∀ e ∈ sw, e.1 ≠ x) → sm_sw x sw d = d
  | [], _, _ => rfl
  | (y0, t0) :: r, d, h => by
    show (if x = y0 then t0 else sm_sw x r d) = d
    rw [if_neg (fun e => h _ List.mem_cons_self e.symm)]
    exact sw_out r d fun e he => h e (List.mem_cons_of_mem _ he)
theorem sj_switch (C : sn_C p R s m args meth c D cA A X b ZS i) {d lo hi : Int} {offs : Array Int} {len : Nat} {x : Int32} {a : Nat} {sw : List (Int32 × Nat)} (hd : decode (mb i) pc = .ok (.tableswitch d lo hi offs, len)) (ha : (pc : Int) + d = (a : Int)) (hlh : lo ≤ hi) (hsw : sw.map (fun e => e.1.toInt) = (List.range (hi - lo + 1).toNat).map (fun (j : Nat) => lo + (j : Int))) (hof : offs.toList.map (fun o => (pc : Int) + o) = sw.map (fun e => (e.2 : Int)))
    (k : sn_J p l e R s m args below meth c Q D cA b sa A z0 w0 ad0 n0 i (sm_sw x sw a) L st M) : sn_J p l e R s m args below meth c Q D cA b sa A z0 w0 ad0 n0 i pc L (.int x :: st) M := by
  obtain ⟨hx, hb, hr0, hlk, hml, hown, hmn, hts, hK, hA, hZ, hfr, hlo⟩ := C
  intro ad ls H locs cells slots h1 h2 hr
  have kk := k ad ls H locs cells slots h1 h2 (hr.stk (vs_t hr.2.2.1))
  have hat : ∀ (j : Nat) (e : Int32 × Nat), sw[j]? = some e → e.1.toInt = lo + (j : Int) ∧ j < (hi - lo + 1).toNat := by
    intro j e he
    have q1 : (sw.map (fun e => e.1.toInt))[j]? = some e.1.toInt := by rw [List.getElem?_map, he]; rfl
    rw [hsw, List.getElem?_map] at q1
    by_cases hj : j < (hi - lo + 1).toNat
    · rw [List.getElem?_range hj] at q1
      exact ⟨(Option.some.inj q1).symm, hj⟩
    · rw [List.getElem?_eq_none (by simpa using hj)] at q1
      cases q1
  by_cases hin : x.toInt < lo ∨ hi < x.toInt
  · rw [sw_out sw a (fun e he hex => ?_)] at kk
    · exact lv_tableOut hx hb hd hin ha kk
    · obtain ⟨j, hj⟩ := List.getElem?_of_mem he
      have := hat j e hj
      rw [hex] at this
      omega
  · have h3 : ¬ x.toInt < lo := fun z => hin (Or.inl z)
    have h4 : ¬ hi < x.toInt := fun z => hin (Or.inr z)
    have hjl : (x.toInt - lo).toNat < (hi - lo + 1).toNat := by omega
    have hlen : sw.length = (hi - lo + 1).toNat := by have := congrArg List.length hsw; simpa using this
    obtain ⟨e, he⟩ : ∃ e, sw[(x.toInt - lo).toNat]? = some e := ⟨_, List.getElem?_eq_getElem (by rw [hlen]; exact hjl)⟩
    have hex : e.1 = x := Int32.toInt_inj.mp (by rw [(hat _ e he).1]; omega)
    have hq : (offs.toList.map (fun o => (pc : Int) + o))[(x.toInt - lo).toNat]? = some (e.2 : Int) := by rw [hof, List.getElem?_map, he]; rfl
    rw [List.getElem?_map] at hq
    cases ho : offs.toList[(x.toInt - lo).toNat]? with
    | none => rw [ho] at hq; cases hq
    | some o =>
      rw [ho] at hq
      have hq : (pc : Int) + o = (e.2 : Int) := Option.some.inj hq
      rw [sw_in sw a _ e.1 e.2 he hex (fun j hj z hz hzx => ?_)] at kk
      · exact lv_tableIn hx hb hd h3 h4 (by rw [← Array.getElem?_toList]; exact ho) hq kk
      · rw [List.getElem?_map] at hz
        cases hs : sw[j]? with
        | none => rw [hs] at hz; cases hz
        | some e2 =>
          rw [hs] at hz
          have hz : e2.1 = z := Option.some.inj hz
          have := (hat j e2 hs).1
          rw [hz, hzx] at this
          omega
theorem kp_905 {i a b c p ix : Nat} (h : kp i a b c p ix = true) : c = 5 := by
  simp only [kp, Bool.and_eq_true, decide_eq_true_eq] at h
  exact h.1
theorem kp_900 {i a b c p ix : Nat} (h : kp i a b c p ix = true) : 900 ≤ a := by
  simp only [kp, Bool.and_eq_true] at h
  have h2 := h.2
  split at h2 <;> first | omega | cases h2
theorem arr_in (t : ArrayType) (h : atag t ≠ 0) : Cond.arrayClass (newarray.typeOf t) ∈ uw := by
  cases t
  case int => exact wi_in (p := 222) (by decide +kernel)
  case boolean => exact wi_in (p := 1882) (by decide +kernel)
  case byte => exact wi_in (p := 251) (by decide +kernel)
  case long => exact wi_in (p := 426) (by decide +kernel)
  all_goals exact absurd rfl h
theorem mr_chk : (List.range 316).all (fun j => !(Nat.beq (mq j).1 2) || decide (mr j = none)) = true := by decide +kernel
theorem mr_init {i j n : Nat} (h : kc i j n = true) (h2 : (mq j).1 = 2) : mr j = none := by
  simp only [kc, Bool.and_eq_true, decide_eq_true_eq, Bool.or_eq_true] at h
  have hj : j < 316 := by omega
  have := List.all_eq_true.mp mr_chk j (List.mem_range.mpr hj)
  rw [h2] at this
  simpa using this
theorem oi_1 : Cond.instanceMethod Lib.objectInit ∈ uw := wi_in (p := 150) (by decide +kernel)
theorem oi_2 : Cond.code Lib.objectInit ⟨#[0xb1]⟩ 1 none ∈ uw := wi_in (p := 151) (by decide +kernel)
theorem sj_objinit (C : sn_C p R s m args meth c D cA A X b ZS i) {ix x : Nat} {rest : sm_S} (hd : decode (mb i) pc = .ok (.invokespecial ix, 3)) (hl : Cond.methodLink (my i).cls ix Lib.objectInit ∈ uw) (hf1 : 1 ≤ (mrm i).1) (hf2 : 20 ≤ (mrm i).2) (hcat : sm_cat rest ≤ 8) (k : sn_J p l e R s m args below meth c Q D cA b sa A z0 w0 ad0 n0 i (pc + 3) L rest M) : sn_J p l e R s m args below meth c Q D cA b sa A z0 w0 ad0 n0 i pc L ([Value.ref x].reverse ++ rest) M := by
  obtain ⟨hx, hb, hr0, hlk, hml, hown, hmn, hts, hK, hA, hZ, hfr, hlo⟩ := C
  intro ad ls H locs cells slots h1 h2 hr
  have hrest : ∀ w ∈ rest, vv M.1.length w := fun w hw => hr.2.2.1 w (List.mem_append_right _ hw)
  have h8 : ((rest.map (cv ad b sa)).map fun v => v.category).sum ≤ 8 := by rw [cat_sum]; exact hcat
  refine W.objInit hx hb hown (hts _ hl) (hts _ oi_1) (hts _ oi_2) rfl (by rw [hml]; exact hr.1.1) (a := ad x) (rest := rest.map (cv ad b sa)) rfl hd (by omega) ?_ (k ad ls H locs cells slots h1 h2 (hr.stk hrest))
  have := lv_room (m := m) (pc := pc) (ls := ls) (rest := rest.map (cv ad b sa)) h8
  show 2 * (F0 m pc ls _).monitorRoom + _ + 12 ≤ _
  have h9 : 2 * (F0 m pc ls ((([Value.ref x].reverse ++ rest : sm_S)).map (cv ad b sa))).monitorRoom + ((rest.map (cv ad b sa)).map fun v => v.category).sum ≤ 8 := lv_room h8
  omega
set_option maxHeartbeats 8000000 in
theorem sn_disp (C : sn_C p R s m args meth c D cA A X b ZS i) (hldc : sn_ldcs l X D cA b sa ZS) {q : Instr} {len a bb cd pp : Nat} {k0 : Int32} {kl : Int64} {sw : List (Int32 × Nat)} {o : sm_O} (hs : sm_step X (q, len, a, bb, cd, k0, kl, sw) L st M = some o) (hlk : lkb i pc (q, len, a, bb, cd, k0, kl, sw) pp = true) (hO : sn_O p l e R s m args below meth c Q D cA b sa A z0 w0 ad0 n0 i pc len M o) : sn_J p l e R s m args below meth c Q D cA b sa A z0 w0 ad0 n0 i pc L st M := by
  cases q
  case iconst n =>
    cases hs
    simp only [lkb, Bool.and_eq_true, decide_eq_true_eq] at hlk
    obtain ⟨hd, hv, rfl⟩ := hlk
    exact sj_iconst C hd hv hO.2
  case bipush n =>
    cases hs
    simp only [lkb, Bool.and_eq_true, decide_eq_true_eq] at hlk
    obtain ⟨hd, hv, rfl⟩ := hlk
    exact sj_bipush C hd hv hO.2
  case sipush n =>
    cases hs
    simp only [lkb, Bool.and_eq_true, decide_eq_true_eq] at hlk
    obtain ⟨hd, hv, rfl⟩ := hlk
    exact sj_sipush C hd hv hO.2
  case lconst n =>
    cases hs
    simp only [lkb, Bool.and_eq_true, decide_eq_true_eq] at hlk
    obtain ⟨hd, hv, rfl⟩ := hlk
    exact sj_lconst C hd hv hO.2
  case ldc ix =>
    simp only [sm_step, Bool.cond_eq_ite] at hs
    simp only [lkb, Bool.and_eq_true, decide_eq_true_eq, Bool.cond_eq_ite] at hlk
    obtain ⟨hd, rfl, hv⟩ := hlk
    split at hs
    · rename_i ha; cases hs; rw [if_pos ha] at hv; simp only [Bool.and_eq_true, decide_eq_true_eq] at hv; obtain ⟨hv1, rfl⟩ := hv; exact hldc p e R s m args below meth c Q A z0 w0 ad0 n0 i pc L st M C hd hv1 hO.2
    · rename_i ha; cases hs; rw [if_neg ha] at hv; exact sj_ldc C hd (wi_in hv) hO.2
  case ldc_w ix =>
    cases hs
    simp only [lkb, Bool.and_eq_true, decide_eq_true_eq] at hlk
    obtain ⟨hd, hv, rfl⟩ := hlk
    exact sj_ldcw C hd (wi_in hv) hO.2
  case ldc2_w ix =>
    cases hs
    simp only [lkb, Bool.and_eq_true, decide_eq_true_eq] at hlk
    obtain ⟨hd, hv, rfl⟩ := hlk
    exact sj_ldc2 C hd (wi_in hv) hO.2
  case iload n =>
    simp only [lkb, Bool.and_eq_true, decide_eq_true_eq] at hlk
    obtain ⟨hd, rfl⟩ := hlk
    simp only [sm_step, sm_ldi] at hs
    split at hs
    · rename_i x hn; cases hs; exact sj_iload C hd hn hO.2
    · cases hs
  case iload_n n =>
    simp only [lkb, Bool.and_eq_true, decide_eq_true_eq] at hlk
    obtain ⟨hd, rfl⟩ := hlk
    simp only [sm_step, sm_ldi] at hs
    split at hs
    · rename_i x hn; cases hs; exact sj_iload_n C hd hn hO.2
    · cases hs
  case lload n =>
    simp only [lkb, Bool.and_eq_true, decide_eq_true_eq] at hlk
    obtain ⟨hd, rfl⟩ := hlk
    simp only [sm_step, sm_ldl] at hs
    split at hs
    · rename_i x hn; cases hs; exact sj_lload C hd hn hO.2
    · cases hs
  case lload_n n =>
    simp only [lkb, Bool.and_eq_true, decide_eq_true_eq] at hlk
    obtain ⟨hd, rfl⟩ := hlk
    simp only [sm_step, sm_ldl] at hs
    split at hs
    · rename_i x hn; cases hs; exact sj_lload_n C hd hn hO.2
    · cases hs
  case aload n =>
    simp only [lkb, Bool.and_eq_true, decide_eq_true_eq] at hlk
    obtain ⟨hd, rfl⟩ := hlk
    simp only [sm_step, sm_lda, Bool.cond_eq_ite] at hs
    split at hs
    · rename_i x hn; cases hs; exact sj_aload C hd hn hO.2
    · rename_i x hn
      split at hs
      · rename_i hx0; cases hs; simp only [Bool.or_eq_true] at hx0; exact sj_aload_ra C (hx0.imp Nat.eq_of_beq_eq_true Nat.eq_of_beq_eq_true) hd hn hO.2
      · cases hs
    · cases hs
  case aload_n n =>
    simp only [lkb, Bool.and_eq_true, decide_eq_true_eq] at hlk
    obtain ⟨hd, rfl⟩ := hlk
    simp only [sm_step, sm_lda, Bool.cond_eq_ite] at hs
    split at hs
    · rename_i x hn; cases hs; exact sj_aload_n C hd hn hO.2
    · rename_i x hn
      split at hs
      · rename_i hx0; cases hs; simp only [Bool.or_eq_true] at hx0; exact sj_aload_n_ra C (hx0.imp Nat.eq_of_beq_eq_true Nat.eq_of_beq_eq_true) hd hn hO.2
      · cases hs
    · cases hs
  case istore n =>
    simp only [lkb, Bool.and_eq_true, decide_eq_true_eq] at hlk
    obtain ⟨hd, rfl, hn⟩ := hlk
    simp only [sm_step, sm_sti] at hs
    split at hs
    · cases hs; exact sj_istore C hd hn hO.2
    · cases hs
  case istore_n n =>
    simp only [lkb, Bool.and_eq_true, decide_eq_true_eq] at hlk
    obtain ⟨hd, rfl, hn⟩ := hlk
    simp only [sm_step, sm_sti] at hs
    split at hs
    · cases hs; exact sj_istore_n C hd hn hO.2
    · cases hs
  case lstore n =>
    simp only [lkb, Bool.and_eq_true, decide_eq_true_eq] at hlk
    obtain ⟨hd, rfl, hn⟩ := hlk
    simp only [sm_step, sm_stl] at hs
    split at hs
    · cases hs; exact sj_lstore C hd hn hO.2
    · cases hs
  case lstore_n n =>
    simp only [lkb, Bool.and_eq_true, decide_eq_true_eq] at hlk
    obtain ⟨hd, rfl, hn⟩ := hlk
    simp only [sm_step, sm_stl] at hs
    split at hs
    · cases hs; exact sj_lstore_n C hd hn hO.2
    · cases hs
  case astore n =>
    simp only [lkb, Bool.and_eq_true, decide_eq_true_eq] at hlk
    obtain ⟨hd, rfl, hn⟩ := hlk
    simp only [sm_step, sm_sta] at hs
    split at hs
    · cases hs; exact sj_astore C hd hn hO.2
    · cases hs
  case astore_n n =>
    simp only [lkb, Bool.and_eq_true, decide_eq_true_eq] at hlk
    obtain ⟨hd, rfl, hn⟩ := hlk
    simp only [sm_step, sm_sta] at hs
    split at hs
    · cases hs; exact sj_astore_n C hd hn hO.2
    · cases hs
  case iinc n v =>
    simp only [lkb, Bool.and_eq_true, decide_eq_true_eq] at hlk
    obtain ⟨hd, ⟨hv, rfl⟩, hn⟩ := hlk
    simp only [sm_step] at hs
    split at hs
    · rename_i x hx; cases hs; exact sj_iinc C hd hv hn hx hO.2
    · cases hs
  case iadd =>
    simp only [lkb, Bool.and_eq_true, decide_eq_true_eq] at hlk
    obtain ⟨hd, rfl⟩ := hlk
    simp only [sm_step, sm_i2] at hs
    split at hs
    · cases hs; exact sj_iadd C hd hO.2
    · cases hs
  case isub =>
    simp only [lkb, Bool.and_eq_true, decide_eq_true_eq] at hlk
    obtain ⟨hd, rfl⟩ := hlk
    simp only [sm_step, sm_i2] at hs
    split at hs
    · cases hs; exact sj_isub C hd hO.2
    · cases hs
  case imul =>
    simp only [lkb, Bool.and_eq_true, decide_eq_true_eq] at hlk
    obtain ⟨hd, rfl⟩ := hlk
    simp only [sm_step, sm_i2] at hs
    split at hs
    · cases hs; exact sj_imul C hd hO.2
    · cases hs
  case iand =>
    simp only [lkb, Bool.and_eq_true, decide_eq_true_eq] at hlk
    obtain ⟨hd, rfl⟩ := hlk
    simp only [sm_step, sm_i2] at hs
    split at hs
    · cases hs; exact sj_iand C hd hO.2
    · cases hs
  case ior =>
    simp only [lkb, Bool.and_eq_true, decide_eq_true_eq] at hlk
    obtain ⟨hd, rfl⟩ := hlk
    simp only [sm_step, sm_i2] at hs
    split at hs
    · cases hs; exact sj_ior C hd hO.2
    · cases hs
  case ixor =>
    simp only [lkb, Bool.and_eq_true, decide_eq_true_eq] at hlk
    obtain ⟨hd, rfl⟩ := hlk
    simp only [sm_step, sm_i2] at hs
    split at hs
    · cases hs; exact sj_ixor C hd hO.2
    · cases hs
  case ishl =>
    simp only [lkb, Bool.and_eq_true, decide_eq_true_eq] at hlk
    obtain ⟨hd, rfl⟩ := hlk
    simp only [sm_step, sm_i2] at hs
    split at hs
    · cases hs; exact sj_ishl C hd hO.2
    · cases hs
  case ishr =>
    simp only [lkb, Bool.and_eq_true, decide_eq_true_eq] at hlk
    obtain ⟨hd, rfl⟩ := hlk
    simp only [sm_step, sm_i2] at hs
    split at hs
    · cases hs; exact sj_ishr C hd hO.2
    · cases hs
  case iushr =>
    simp only [lkb, Bool.and_eq_true, decide_eq_true_eq] at hlk
    obtain ⟨hd, rfl⟩ := hlk
    simp only [sm_step, sm_i2] at hs
    split at hs
    · cases hs; exact sj_iushr C hd hO.2
    · cases hs
  case idiv =>
    simp only [lkb, Bool.and_eq_true, decide_eq_true_eq] at hlk
    obtain ⟨hd, rfl⟩ := hlk
    simp only [sm_step, sm_i2] at hs
    split at hs
    · cases hs; exact sj_idiv C hd hO.1 hO.2
    · cases hs
  case irem =>
    simp only [lkb, Bool.and_eq_true, decide_eq_true_eq] at hlk
    obtain ⟨hd, rfl⟩ := hlk
    simp only [sm_step, sm_i2] at hs
    split at hs
    · cases hs; exact sj_irem C hd hO.1 hO.2
    · cases hs
  case ladd =>
    simp only [lkb, Bool.and_eq_true, decide_eq_true_eq] at hlk
    obtain ⟨hd, rfl⟩ := hlk
    simp only [sm_step, sm_l2] at hs
    split at hs
    · cases hs; exact sj_ladd C hd hO.2
    · cases hs
  case lsub =>
    simp only [lkb, Bool.and_eq_true, decide_eq_true_eq] at hlk
    obtain ⟨hd, rfl⟩ := hlk
    simp only [sm_step, sm_l2] at hs
    split at hs
    · cases hs; exact sj_lsub C hd hO.2
    · cases hs
  case lmul =>
    simp only [lkb, Bool.and_eq_true, decide_eq_true_eq] at hlk
    obtain ⟨hd, rfl⟩ := hlk
    simp only [sm_step, sm_l2] at hs
    split at hs
    · cases hs; exact sj_lmul C hd hO.2
    · cases hs
  case land =>
    simp only [lkb, Bool.and_eq_true, decide_eq_true_eq] at hlk
    obtain ⟨hd, rfl⟩ := hlk
    simp only [sm_step, sm_l2] at hs
    split at hs
    · cases hs; exact sj_land C hd hO.2
    · cases hs
  case lor =>
    simp only [lkb, Bool.and_eq_true, decide_eq_true_eq] at hlk
    obtain ⟨hd, rfl⟩ := hlk
    simp only [sm_step, sm_l2] at hs
    split at hs
    · cases hs; exact sj_lor C hd hO.2
    · cases hs
  case lcmp =>
    simp only [lkb, Bool.and_eq_true, decide_eq_true_eq] at hlk
    obtain ⟨hd, rfl⟩ := hlk
    simp only [sm_step, sm_l2] at hs
    split at hs
    · cases hs; exact sj_lcmp C hd hO.2
    · cases hs
  case ldiv =>
    simp only [lkb, Bool.and_eq_true, decide_eq_true_eq] at hlk
    obtain ⟨hd, rfl⟩ := hlk
    simp only [sm_step, sm_l2] at hs
    split at hs
    · cases hs; exact sj_ldiv C hd hO.1 hO.2
    · cases hs
  case lrem =>
    simp only [lkb, Bool.and_eq_true, decide_eq_true_eq] at hlk
    obtain ⟨hd, rfl⟩ := hlk
    simp only [sm_step, sm_l2] at hs
    split at hs
    · cases hs; exact sj_lrem C hd hO.1 hO.2
    · cases hs
  case lshl =>
    simp only [lkb, Bool.and_eq_true, decide_eq_true_eq] at hlk
    obtain ⟨hd, rfl⟩ := hlk
    simp only [sm_step, sm_li] at hs
    split at hs
    · cases hs; exact sj_lshl C hd hO.2
    · cases hs
  case lushr =>
    simp only [lkb, Bool.and_eq_true, decide_eq_true_eq] at hlk
    obtain ⟨hd, rfl⟩ := hlk
    simp only [sm_step, sm_li] at hs
    split at hs
    · cases hs; exact sj_lushr C hd hO.2
    · cases hs
  case ineg =>
    simp only [lkb, Bool.and_eq_true, decide_eq_true_eq] at hlk
    obtain ⟨hd, rfl⟩ := hlk
    simp only [sm_step, sm_i1] at hs
    split at hs
    · cases hs; exact sj_ineg C hd hO.2
    · cases hs
  case i2l =>
    simp only [lkb, Bool.and_eq_true, decide_eq_true_eq] at hlk
    obtain ⟨hd, rfl⟩ := hlk
    simp only [sm_step, sm_i1] at hs
    split at hs
    · cases hs; exact sj_i2l C hd hO.2
    · cases hs
  case i2b =>
    simp only [lkb, Bool.and_eq_true, decide_eq_true_eq] at hlk
    obtain ⟨hd, rfl⟩ := hlk
    simp only [sm_step, sm_i1] at hs
    split at hs
    · cases hs; exact sj_i2b C hd hO.2
    · cases hs
  case lneg =>
    simp only [lkb, Bool.and_eq_true, decide_eq_true_eq] at hlk
    obtain ⟨hd, rfl⟩ := hlk
    simp only [sm_step, sm_l1] at hs
    split at hs
    · cases hs; exact sj_lneg C hd hO.2
    · cases hs
  case l2i =>
    simp only [lkb, Bool.and_eq_true, decide_eq_true_eq] at hlk
    obtain ⟨hd, rfl⟩ := hlk
    simp only [sm_step, sm_l1] at hs
    split at hs
    · cases hs; exact sj_l2i C hd hO.2
    · cases hs
  case pop =>
    simp only [lkb, Bool.and_eq_true, decide_eq_true_eq] at hlk
    obtain ⟨hd, rfl⟩ := hlk
    simp only [sm_step, Bool.cond_eq_ite] at hs
    split at hs
    · split at hs
      · cases hs
      · rename_i hv; cases hs; exact sj_pop C hd (by simpa using hv) hO.2
    · cases hs
  case dup =>
    simp only [lkb, Bool.and_eq_true, decide_eq_true_eq] at hlk
    obtain ⟨hd, rfl⟩ := hlk
    simp only [sm_step, Bool.cond_eq_ite] at hs
    split at hs
    · split at hs
      · cases hs
      · rename_i hv; cases hs; exact sj_dup C hd (by simpa using hv) hO.2
    · cases hs
  case pop2 =>
    simp only [lkb, Bool.and_eq_true, decide_eq_true_eq] at hlk
    obtain ⟨hd, rfl⟩ := hlk
    simp only [sm_step, Bool.cond_eq_ite] at hs
    split at hs
    · split at hs
      · rename_i hv; cases hs; exact sj_pop2 C hd hv hO.2
      · cases hs
    · cases hs
  case dup2 =>
    simp only [lkb, Bool.and_eq_true, decide_eq_true_eq] at hlk
    obtain ⟨hd, rfl⟩ := hlk
    simp only [sm_step, Bool.cond_eq_ite] at hs
    split at hs
    · split at hs
      · cases hs
      · rename_i hv; cases hs; simp only [Bool.or_eq_true, not_or, Bool.not_eq_true] at hv; exact sj_dup2 C hd hv.1 hv.2 hO.2
    · cases hs
  case ifCond cc oo =>
    simp only [lkb, Bool.and_eq_true, decide_eq_true_eq] at hlk
    obtain ⟨hd, ht, rfl⟩ := hlk
    simp only [sm_step, sm_i1] at hs
    split at hs
    · cases cc <;> cases hs
      · exact sj_if_eq C hd ht hO.1 hO.2
      · exact sj_if_ne C hd ht hO.1 hO.2
      · exact sj_if_lt C hd ht hO.1 hO.2
      · exact sj_if_ge C hd ht hO.1 hO.2
      · exact sj_if_gt C hd ht hO.1 hO.2
      · exact sj_if_le C hd ht hO.1 hO.2
    · cases hs
  case if_icmp cc oo =>
    simp only [lkb, Bool.and_eq_true, decide_eq_true_eq] at hlk
    obtain ⟨hd, ht, rfl⟩ := hlk
    simp only [sm_step, sm_i2] at hs
    split at hs
    · cases cc <;> cases hs
      · exact sj_icmp_eq C hd ht hO.1 hO.2
      · exact sj_icmp_ne C hd ht hO.1 hO.2
      · exact sj_icmp_lt C hd ht hO.1 hO.2
      · exact sj_icmp_ge C hd ht hO.1 hO.2
      · exact sj_icmp_gt C hd ht hO.1 hO.2
      · exact sj_icmp_le C hd ht hO.1 hO.2
    · cases hs
  case goto oo =>
    cases hs
    simp only [lkb, Bool.and_eq_true, decide_eq_true_eq] at hlk
    obtain ⟨hd, ht, rfl⟩ := hlk
    exact sj_goto C hd ht hO
  case tableswitch d0 lo hi offs =>
    simp only [lkb, Bool.and_eq_true, decide_eq_true_eq] at hlk
    obtain ⟨hd, ⟨⟨ha, hlh⟩, hsw⟩, hof⟩ := hlk
    simp only [sm_step, sm_i1] at hs
    split at hs
    · cases hs; exact sj_switch C hd ha hlh hsw hof hO
    · cases hs
  case getfield ix =>
    simp only [lkb, Bool.and_eq_true, decide_eq_true_eq] at hlk
    obtain ⟨hd, hf, rfl⟩ := hlk
    simp only [sm_step, sm_get, sm_r1, Bool.cond_eq_ite] at hs
    split at hs
    · split at hs
      · rename_i hk; cases hs; exact sj_get C hd hf hk hO.2
      · cases hs
    · cases hs
  case putfield ix =>
    simp only [lkb, Bool.and_eq_true, decide_eq_true_eq] at hlk
    obtain ⟨hd, ⟨hf, rfl⟩, hfin⟩ := hlk
    have hfin : (!((cl_at a).2.1 bb).2.2.2 || (decide ((my i).name = "<init>") && decide (((cl_at a).2.1 bb).1 = (my i).cls))) = true := hfin
    simp only [sm_step, sm_put, Bool.cond_eq_ite] at hs
    split at hs
    · split at hs
      · rename_i hk
        split at hs
        · rename_i h0; cases hs; exact sj_puti C hd hf hfin hk (Or.inl (Nat.eq_of_beq_eq_true h0)) hO.2
        · split at hs
          · rename_i h0; cases hs; exact sj_puti C hd hf hfin hk (Or.inr ⟨Nat.eq_of_beq_eq_true h0, hO.1⟩) hO.2
          · cases hs
      · cases hs
    · split at hs
      · rename_i hk; cases hs; simp only [Bool.and_eq_true] at hk; have e2 := Nat.eq_of_beq_eq_true hk.2; subst e2; exact sj_putl C hd hf hfin hk.1 hO.2
      · cases hs
    · split at hs
      · rename_i hk; cases hs; simp only [Bool.and_eq_true] at hk; have e2 := Nat.eq_of_beq_eq_true hk.2; subst e2; exact sj_putr C hd hf hfin hk.1 hO.2
      · cases hs
    · cases hs
  case iaload =>
    simp only [lkb, Bool.and_eq_true, decide_eq_true_eq] at hlk
    obtain ⟨hd, rfl⟩ := hlk
    simp only [sm_step, sm_ial, Bool.cond_eq_ite] at hs
    split at hs
    · cases hs; exact sj_iald C hd hO.1 hO.2
    · split at hs
      · rename_i hz; cases hs; simp only [Bool.and_eq_true] at hz; have e2 := Nat.eq_of_beq_eq_true hz.1; subst e2; exact sj_sld C hd hO.1 hO.2
      · cases hs
    · cases hs
  case baload =>
    simp only [lkb, Bool.and_eq_true, decide_eq_true_eq, Bool.or_eq_true] at hlk
    obtain ⟨hd, ht, rfl⟩ := hlk
    simp only [sm_step, sm_ial, Bool.cond_eq_ite] at hs
    split at hs
    · cases hs; exact sj_bald C hd ht hO.1 hO.2
    · split at hs
      · rename_i hz; simp only [Bool.and_eq_true] at hz; have e2 := Nat.eq_of_beq_eq_true hz.2; omega
      · cases hs
    · cases hs
  case laload =>
    simp only [lkb, Bool.and_eq_true, decide_eq_true_eq] at hlk
    obtain ⟨hd, rfl⟩ := hlk
    simp only [sm_step, sm_lal] at hs
    split at hs
    · cases hs; exact sj_lald C hd hO.1 hO.2
    · cases hs
  case iastore =>
    simp only [lkb, Bool.and_eq_true, decide_eq_true_eq] at hlk
    obtain ⟨hd, rfl⟩ := hlk
    simp only [sm_step, sm_ias] at hs
    split at hs
    · cases hs; exact sj_ast0 C (t := 100) (Or.inl ⟨rfl, rfl, rfl⟩) hd hO.1 hO.2
    · cases hs
  case bastore =>
    simp only [lkb, Bool.and_eq_true, decide_eq_true_eq, Bool.or_eq_true] at hlk
    obtain ⟨hd, ht, rfl⟩ := hlk
    simp only [sm_step, sm_ias] at hs
    split at hs
    · cases hs
      rcases ht with rfl | rfl
      · exact sj_ast0 C (t := 101) (Or.inr (Or.inl ⟨rfl, rfl, rfl⟩)) hd hO.1 hO.2
      · exact sj_ast0 C (t := 102) (Or.inr (Or.inr ⟨rfl, rfl, rfl⟩)) hd hO.1 hO.2
    · cases hs
  case lastore =>
    simp only [lkb, Bool.and_eq_true, decide_eq_true_eq] at hlk
    obtain ⟨hd, rfl⟩ := hlk
    simp only [sm_step, sm_las] at hs
    split at hs
    · cases hs; exact sj_last C hd hO.1 hO.2
    · cases hs
  case arraylength =>
    simp only [lkb, Bool.and_eq_true, decide_eq_true_eq] at hlk
    obtain ⟨hd, ⟨h100, h103⟩, rfl⟩ := hlk
    simp only [sm_step, sm_aln, Bool.cond_eq_ite] at hs
    split at hs
    · split at hs
      · rename_i hk; cases hs; exact sj_alen C hd h100 h103 hk hO.2
      · cases hs
    · split at hs
      · rename_i hz; cases hs; have e2 := Nat.eq_of_beq_eq_true hz; subst e2; exact sj_slen C hd hO.2
      · cases hs
    · cases hs
  case new ix =>
    simp only [lkb, Bool.and_eq_true, decide_eq_true_eq] at hlk
    obtain ⟨hd, ⟨⟨ha, hn⟩, hl⟩, rfl⟩ := hlk
    cases hs
    have hc := List.all_eq_true.mp lkc_all a (List.mem_range.mpr ha)
    simp only [Bool.and_eq_true] at hc
    have h9 := hO.1
    rw [cz_app, sz_app] at h9
    exact sj_new C hd ha hn (wi_in hl) (wi_in hc.1) (wi_in hc.2) h9.1 h9.2 hO.2
  case newarray t0 =>
    simp only [lkb, Bool.and_eq_true, decide_eq_true_eq] at hlk
    obtain ⟨hd, ⟨ha, h100⟩, rfl⟩ := hlk
    simp only [sm_step, sm_nwa, Bool.cond_eq_ite] at hs
    split at hs
    · split at hs
      · rename_i hn; cases hs; simp only [Bool.and_eq_true, decide_eq_true_eq] at hn; have h9 := hO.1; rw [cz_app, sz_app] at h9; exact sj_nwa C hd ha h100 (arr_in t0 (by omega)) hn.1 hn.2 h9.1 h9.2 hO.2
      · cases hs
    · cases hs
  case invokevirtual ix =>
    simp only [lkb, Bool.and_eq_true, decide_eq_true_eq, Bool.cond_eq_ite] at hlk
    obtain ⟨hd, rfl, hv⟩ := hlk
    simp only [sm_step, sm_inv, Bool.cond_eq_ite] at hs
    split at hs
    · rename_i as r ht
      obtain ⟨pre, hpl, rfl, has⟩ := sm_take_spec _ _ _ _ _ ht
      rw [List.append_nil] at has
      have hpre : pre = as.reverse := by rw [has, List.reverse_reverse]
      have hal : as.length = bb := by rw [has, List.length_reverse]; exact hpl
      split at hs
      · rename_i hcat
        simp only [Bool.and_eq_true] at hcat
        have hc1 := Nat.le_of_ble_eq_true hcat.1
        have hc2 := Nat.le_of_ble_eq_true hcat.2
        split at hs
        · rename_i h0
          split at hs
          · rename_i o as' 
            split at hs
            · rename_i hko; cases hs; rw [if_pos h0] at hv; simp only [Bool.and_eq_true, decide_eq_true_eq] at hv
              have e0 := Nat.eq_of_beq_eq_true h0; subst e0
              rw [hpre]; exact hO ⟨hc1, hc2, bb, 0, ix, hal, Or.inr ⟨hv.1.1.1.1.1, Or.inl ⟨rfl, hd, hv.1.1.1.2, wi_in hv.1.1.2, hv.1.2, hv.2, _, _, rfl, hko⟩⟩⟩
            · cases hs
          · cases hs
        · rename_i h0
          rw [if_neg h0] at hv
          simp only [Bool.and_eq_true, decide_eq_true_eq] at hv
          have e5 := kp_905 hv.2; subst e5
          simp only [show Nat.beq 5 3 = false from rfl, show Nat.beq 5 4 = false from rfl, Bool.false_eq_true, if_false] at hs
          cases hs
          rw [hpre]; exact hO ⟨hc1, hc2, bb, 5, ix, hal, Or.inl ⟨kp_900 hv.2, rfl, ⟨_, hv.2⟩, Or.inl ⟨hv.1, hd⟩⟩⟩
      · cases hs
    · cases hs
  case invokestatic ix =>
    simp only [lkb, Bool.and_eq_true, decide_eq_true_eq, Bool.cond_eq_ite] at hlk
    obtain ⟨hd, rfl, hv⟩ := hlk
    simp only [sm_step, sm_inv, Bool.cond_eq_ite] at hs
    split at hs
    · rename_i as r ht
      obtain ⟨pre, hpl, rfl, has⟩ := sm_take_spec _ _ _ _ _ ht
      rw [List.append_nil] at has
      have hpre : pre = as.reverse := by rw [has, List.reverse_reverse]
      have hal : as.length = bb := by rw [has, List.length_reverse]; exact hpl
      split at hs
      · rename_i hcat
        simp only [Bool.and_eq_true] at hcat
        have hc1 := Nat.le_of_ble_eq_true hcat.1
        have hc2 := Nat.le_of_ble_eq_true hcat.2
        by_cases h1 : Nat.beq cd 1 = true
        · rw [if_pos h1] at hv; simp only [Bool.and_eq_true, decide_eq_true_eq] at hv
          have e1 := Nat.eq_of_beq_eq_true h1; subst e1
          simp only [show Nat.beq 1 0 = false from rfl, show Nat.beq 1 3 = false from rfl, show Nat.beq 1 4 = false from rfl, Bool.false_eq_true, if_false] at hs
          cases hs
          rw [hpre]; exact hO ⟨hc1, hc2, bb, 1, ix, hal, Or.inr ⟨hv.1.1, Or.inr (Or.inl ⟨rfl, hd, hv.1.2, wi_in hv.2⟩)⟩⟩
        · rw [if_neg h1] at hv
          by_cases h2 : Nat.beq cd 2 = true
          · rw [if_pos h2] at hv; simp only [Bool.and_eq_true, decide_eq_true_eq] at hv
            have e1 := Nat.eq_of_beq_eq_true h2; subst e1
            simp only [show Nat.beq 2 0 = false from rfl, show Nat.beq 2 3 = false from rfl, show Nat.beq 2 4 = false from rfl, Bool.false_eq_true, if_false] at hs
            cases hs
            rw [hpre]; exact hO ⟨hc1, hc2, bb, 2, ix, hal, Or.inr ⟨hv.1.1, Or.inr (Or.inr (Or.inl ⟨rfl, hd, hv.1.2, wn_in hv.2⟩))⟩⟩
          · rw [if_neg h2] at hv
            simp only [Bool.and_eq_true, decide_eq_true_eq] at hv
            have e5 := kp_905 hv.2; subst e5
            simp only [show Nat.beq 5 0 = false from rfl, show Nat.beq 5 3 = false from rfl, show Nat.beq 5 4 = false from rfl, Bool.false_eq_true, if_false] at hs
            cases hs
            rw [hpre]; exact hO ⟨hc1, hc2, bb, 5, ix, hal, Or.inl ⟨kp_900 hv.2, rfl, ⟨_, hv.2⟩, Or.inr ⟨hv.1, hd⟩⟩⟩
      · cases hs
    · cases hs
  case invokespecial ix =>
    simp only [lkb, Bool.and_eq_true, decide_eq_true_eq, Bool.cond_eq_ite] at hlk
    obtain ⟨hd, rfl, hv⟩ := hlk
    simp only [sm_step, sm_inv, Bool.cond_eq_ite] at hs
    split at hs
    · rename_i as r ht
      obtain ⟨pre, hpl, rfl, has⟩ := sm_take_spec _ _ _ _ _ ht
      rw [List.append_nil] at has
      have hpre : pre = as.reverse := by rw [has, List.reverse_reverse]
      have hal : as.length = bb := by rw [has, List.length_reverse]; exact hpl
      split at hs
      · rename_i hcat
        simp only [Bool.and_eq_true] at hcat
        have hc1 := Nat.le_of_ble_eq_true hcat.1
        have hc2 := Nat.le_of_ble_eq_true hcat.2
        by_cases h3 : Nat.beq cd 3 = true
        · rw [if_pos h3] at hv; simp only [Bool.and_eq_true, decide_eq_true_eq] at hv
          have e1 := Nat.eq_of_beq_eq_true h3; subst e1
          simp only [show Nat.beq 3 0 = false from rfl, show Nat.beq 3 3 = true from rfl, Bool.false_eq_true, if_false, if_true] at hs
          split at hs
          · cases hs
            rw [hpre]; exact hO ⟨hc1, hc2, bb, 3, ix, hal, Or.inr ⟨hv.1.1.1.1, Or.inr (Or.inr (Or.inr ⟨rfl, hd, hv.1.1.2, wi_in hv.1.2, hv.2, mr_init hv.1.1.1.1 hv.1.1.2, _, _, rfl⟩))⟩⟩
          · cases hs
        · rw [if_neg h3] at hv; simp only [Bool.and_eq_true, decide_eq_true_eq] at hv
          obtain ⟨⟨⟨⟨rfl, rfl⟩, hl⟩, hf1⟩, hf2⟩ := hv
          simp only [show Nat.beq 4 0 = false from rfl, show Nat.beq 4 3 = false from rfl, show Nat.beq 4 4 = true from rfl, Bool.false_eq_true, if_false, if_true] at hs
          split at hs
          · cases hs
            rw [hpre]; exact sj_objinit C hd (wi_in hl) hf1 hf2 hc1 hO.2
          · cases hs
      · cases hs
    · cases hs
  case ireturn =>
    simp only [lkb, Bool.and_eq_true, decide_eq_true_eq, Bool.cond_eq_ite] at hlk
    obtain ⟨hd, rfl, hv⟩ := hlk
    simp only [sm_step, Bool.cond_eq_ite] at hs
    split at hs
    · split at hs
      · rename_i h1; cases hs; rw [if_pos h1] at hv; exact hO.2 L (Or.inr (Or.inl ⟨_, rfl, hd, Or.inr ⟨of_decide_eq_true hv, hO.1⟩⟩))
      · rename_i h1; cases hs; rw [if_neg h1] at hv; exact hO.2 L (Or.inr (Or.inl ⟨_, rfl, hd, Or.inl (of_decide_eq_true hv)⟩))
    · cases hs
  case lreturn =>
    simp only [lkb, Bool.and_eq_true, decide_eq_true_eq] at hlk
    obtain ⟨hd, hv, rfl⟩ := hlk
    simp only [sm_step] at hs
    split at hs
    · cases hs; exact hO.2 L (Or.inr (Or.inr ⟨_, rfl, hd, hv⟩))
    · cases hs
  case return_ =>
    simp only [lkb, Bool.and_eq_true, decide_eq_true_eq] at hlk
    obtain ⟨hd, hv, rfl⟩ := hlk
    simp only [sm_step] at hs
    split at hs
    · cases hs; exact hO.2 L (Or.inl ⟨rfl, hd, hv⟩)
    · cases hs
  all_goals cases hs
end SN6
