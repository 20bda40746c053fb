section
/-! Every run of the shadow is a run of the machine. -/
/-- the calls that aren't walked -/
def sn_prims (l : Launch) (X : (Nat → Int32) × Nat) (D : va_G) (cA : Nat → ClassId) (b sa : Nat) (ZS : Nat → (Nat → Prop) → State → Prop) : Prop := ∀ (p : Program) (e : Env) (R : Room) (s : State) (m : MethodId) (args : Array Value) (below : List Frame) (meth : Method) (c : Code) (Q : State → Prop) (A : Nat → Prop) (z0 w0 : Nat) (ad0 : Nat → Nat) (n0 i pc : Nat) (L : sm_L) (M M1 : sm_M) (j : Nat) (as rest : List Value) (c0 : sm_C) (v : Option Value),
  sn_C p R s m args meth c D cA A X b ZS i → sn_cf i pc j as rest M → 900 ≤ j → sm_prim j as M = some (c0, v, M1) → c0.1 → cz M1 ≤ z0 + R.cells → sz M1 ≤ w0 + R.slots → sn_J p l e R s m args below meth c Q D cA b sa A z0 w0 ad0 n0 i (pc + 3) L (v.toList ++ rest) M1 → sn_J p l e R s m args below meth c Q D cA b sa A z0 w0 ad0 n0 i pc L (as.reverse ++ rest) M
theorem sm_from_hd : ∀ (t : sm_T) (pc : Nat) (e : Nat × List Bool × sm_R) (l : sm_T), sm_from t pc = e :: l → e.1 = pc
  | [], _, _, _, h => by cases h
  | x :: t, pc, e, l, h => by
    unfold sm_from at h
    cases hb : Nat.beq x.1 pc with
    | true => rw [hb] at h; cases h; exact Nat.eq_of_beq_eq_true hb
    | false => rw [hb] at h; exact sm_from_hd t pc e l h
theorem zip_all {α β : Type} {l : List α} {q : List β} (hl : q.length = l.length) {f : α × β → Bool} (h : (l.zip q).all f = true) {a t : List α} {x : α} (e : l = a ++ x :: t) : ∃ y, f (x, y) = true := by
  have hk : l[a.length]? = some x := by rw [e]; simp
  have hkl : a.length < l.length := (List.getElem?_eq_some_iff.mp hk).1
  obtain ⟨y, hy⟩ : ∃ y, q[a.length]? = some y := ⟨_, List.getElem?_eq_getElem (by rw [hl]; exact hkl)⟩
  have hz : (x, y) ∈ l.zip q := by
    refine List.mem_of_getElem? (i := a.length) ?_
    rw [List.getElem?_zip_eq_some]
    exact ⟨hk, hy⟩
  exact ⟨y, List.all_eq_true.mp h _ hz⟩
theorem lkm_spec {i : Nat} (h : lkm i = true) : (sm_pos i).length = (sm_code i).length ∧ ((sm_code i).zip (sm_pos i)).all (fun e => lkb i e.1.1 e.1.2.2 e.2) = true := by
  unfold lkm at h
  generalize sm_code i = cd at h ⊢
  generalize sm_pos i = ps at h ⊢
  rw [Bool.and_eq_true] at h
  exact ⟨of_decide_eq_true h.1, h.2⟩
theorem lk_at {i pc : Nat} {ks : List Bool} {r : sm_R} {t : sm_T} (hi : i < 316) (h5 : i ≠ 205) (h : sm_from (sm_code i) pc = (pc, ks, r) :: t) : ∃ pp, lkb i pc r pp = true := by
  have hm := lkm_spec ((lkm_all i hi).resolve_left h5)
  obtain ⟨a, ha⟩ := sm_from_sfx (sm_code i) pc
  rw [h] at ha
  obtain ⟨y, hy⟩ := zip_all (f := fun e => lkb i e.1.1 e.1.2.2 e.2) hm.1 hm.2 ha
  exact ⟨y, hy⟩
set_option maxHeartbeats 4000000 in
theorem snd {l : Launch} {X : (Nat → Int32) × Nat} {D : va_G} {cA : Nat → ClassId} {b sa : Nat} {ZS : Nat → (Nat → Prop) → State → Prop} (hcl : sn_Zcl ZS) (hldc : sn_ldcs l X D cA b sa ZS) (hprim : sn_prims l X D cA b sa ZS) : ∀ n, sn_IH l X D cA b sa ZS n := by
  intro n
  induction n with
  | zero => intro i pc L st M v M' h; cases h
  | succ n ih =>
    intro i pc L st M v M' h hi h5 p e R s m args below meth c Q A z0 w0 ad0 n0 C hfc hfs RH
    have gr := sm_run_gr X n
    have h : sm_body X (sm_run X n) i pc L st M = some (v, M') := h
    unfold sm_body at h
    cases hc : sm_from (sm_code i) pc with
    | nil => rw [hc] at h; cases h
    | cons z t =>
      obtain ⟨pc0, ks, r⟩ := z
      have hpc : pc0 = pc := sm_from_hd _ _ _ _ hc
      subst hpc
      obtain ⟨pp, hlk⟩ := lk_at hi h5 hc
      rw [hc] at h
      simp only at h
      cases hs : sm_step X r L st M with
      | none => rw [hs] at h; cases h
      | some o =>
        rw [hs] at h
        simp only at h
        obtain ⟨q, len, a, bb, cd, k0, kl, sw⟩ := r
        refine sn_disp C hldc hs hlk ?_
        have go : ∀ {i2 pc2 : Nat} {L2 : sm_L} {st2 : sm_S} {M2 : sm_M}, i2 = i → sm_run X n i2 pc2 (sm_kl i2 pc2 L2) st2 M2 = some (v, M') → sn_J p l e R s m args below meth c Q D cA b sa A z0 w0 ad0 n0 i pc2 L2 st2 M2 := by
          intro i2 pc2 L2 st2 M2 e2 h2
          subst e2
          exact sj_kill (ih i2 pc2 _ st2 M2 v M' h2 hi h5 p e R s m args below meth c Q A z0 w0 ad0 n0 C hfc hfs RH)
        rcases o with ⟨L', st', M1⟩ | ⟨c0, L', st', M1⟩ | ⟨c0, t, L', st'⟩ | ⟨t, L', st'⟩ | ⟨x, sl, d, L', st'⟩ | ⟨j, as, L', rest⟩ | ⟨c0, w⟩
        · have g := gr _ _ _ _ _ _ _ h
          exact ⟨⟨Nat.le_trans g.1 hfc, Nat.le_trans g.2 hfs⟩, go rfl h⟩
        · simp only [sm_act] at h
          split at h
          · rename_i h0; exact ⟨h0, go rfl h⟩
          · cases h
        · simp only [sm_act] at h
          split at h
          · rename_i h0; exact ⟨fun _ => go rfl h, fun hn => absurd h0 hn⟩
          · rename_i h0; exact ⟨fun hn => absurd hn h0, fun _ => go rfl h⟩
        · exact go rfl h
        · exact go rfl h
        · intro hcf
          have hlen3 : len = 3 := by
            obtain ⟨-, -, nn, cd', ix, -, hk⟩ := hcf
            have hdq : decode (mb i) pc0 = .ok (q, len) := by
              unfold lkb at hlk
              simp only [Bool.and_eq_true, decide_eq_true_eq] at hlk
              exact hlk.1
            rcases hk with ⟨-, -, -, ⟨-, hk⟩ | ⟨-, hk⟩⟩ | ⟨-, ⟨-, hk, -⟩ | ⟨-, hk, -⟩ | ⟨-, hk, -⟩ | ⟨-, hk, -⟩⟩ <;> (rw [hdq] at hk; cases hk; rfl)
          subst hlen3
          simp only [sm_act] at h
          cases hb : Nat.ble 900 j with
          | true =>
            rw [hb] at h
            simp only [cond_true] at h
            cases hp : sm_prim j as M with
            | none => rw [hp] at h; cases h
            | some z =>
              obtain ⟨c0, w, M1⟩ := z
              rw [hp] at h
              simp only at h
              split at h
              · rename_i h0
                have g := gr _ _ _ _ _ _ _ h
                exact hprim p e R s m args below meth c Q A z0 w0 ad0 n0 i pc0 L' M M1 j as rest c0 w C hcf (Nat.le_of_ble_eq_true hb) hp h0 (Nat.le_trans g.1 hfc) (Nat.le_trans g.2 hfs) (go rfl h)
              · cases h
          | false =>
            rw [hb] at h
            simp only [cond_false] at h
            cases hp : sm_run X n j 0 (sm_en j as) [] M with
            | none => rw [hp] at h; cases h
            | some z =>
              obtain ⟨w, M1⟩ := z
              rw [hp] at h
              have g1 := gr _ _ _ _ _ _ _ hp
              have g := gr _ _ _ _ _ _ _ h
              obtain ⟨hc8, hce, nn, cd', ix, hln, hk⟩ := hcf
              rcases hk with ⟨h900, -⟩ | ⟨hkc, hkind⟩
              · rw [show Nat.ble 900 j = true from Nat.ble_eq_true_of_le h900] at hb; cases hb
              · have hkc' := hkc
                simp only [kc, Bool.and_eq_true, decide_eq_true_eq, Bool.or_eq_true] at hkc'
                obtain ⟨⟨⟨⟨hj, hj5⟩, -⟩, -⟩, -⟩ := hkc'
                exact sj_call (pp := 0) hcl C ih hp g1.1 g1.2 (Nat.le_trans g.1 hfc) (Nat.le_trans g.2 hfs) hj hj5 (lkw_all j (by omega) hj) (cw_all j (by omega)) hc8 hce hln hkc hkind (go rfl h)
        · simp only [sm_act] at h
          split at h
          · rename_i h0
            cases h
            exact ⟨h0, fun L' hrt => RH pc0 L' hrt⟩
          · cases h
end
section
/-! The calls of Math that aren't walked. -/
section SN7
variable {p : Program} {l : Launch} {e : Env} {R : Room} {s : State} {m : MethodId} {args : Array Value} {below : List Frame} {meth : Method} {c : Code} {Q : State → Prop} {D : va_G} {cA : Nat → ClassId} {b sa : Nat} {A : Nat → Prop} {z0 w0 : Nat} {ad0 : Nat → Nat} {n0 : Nat} {i pc : Nat} {X : (Nat → Int32) × Nat} {L : sm_L} {st : sm_S} {M : sm_M}
variable {ZS : Nat → (Nat → Prop) → State → Prop}
theorem mth_ini : Cond.initialized "java/lang/Math" ∈ uw := wi_in (p := 133) (by decide +kernel)
theorem mth_s3 : Cond.static Lib.Math.max.name ∈ uw := wi_in (p := 644) (by decide +kernel)
theorem mth_s4 : Cond.static Lib.Math.min.name ∈ uw := wi_in (p := 641) (by decide +kernel)
theorem mth_s5 : Cond.static Lib.MathLoose.abs_long.x ∈ uw := wi_in (p := 1066) (by decide +kernel)
set_option maxRecDepth 100000 in
theorem mth_c3 : Cond.code Lib.Math.max.name Lib.Math.max.code 2 (some .int) ∈ uw := List.mem_filter.mpr ⟨List.mem_of_getElem? (show lw_tbl[645]? = some (Cond.code Lib.Math.max.name Lib.Math.max.code 2 (some .int)) from rfl), rfl⟩
set_option maxRecDepth 100000 in
theorem mth_c4 : Cond.code Lib.Math.min.name Lib.Math.min.code 2 (some .int) ∈ uw := List.mem_filter.mpr ⟨List.mem_of_getElem? (show lw_tbl[642]? = some (Cond.code Lib.Math.min.name Lib.Math.min.code 2 (some .int)) from rfl), rfl⟩
set_option maxRecDepth 100000 in
theorem mth_c5 : Cond.code Lib.MathLoose.abs_long.x Lib.MathLoose.abs_long.code 2 (some .long) ∈ uw := List.mem_filter.mpr ⟨List.mem_of_getElem? (show lw_tbl[1067]? = some (Cond.code Lib.MathLoose.abs_long.x Lib.MathLoose.abs_long.code 2 (some .long)) from rfl), rfl⟩
theorem pm_max (C : sn_C p R s m args meth c D cA A X b ZS i) {ix : Nat} {rest : sm_S} {x y : Int32} (hd : decode (mb i) pc = .ok (.invokestatic ix, 3)) (hl : Cond.methodLink (my i).cls ix Lib.Math.max.name ∈ uw) (hf1 : 1 ≤ (mrm i).1) (hf2 : 21 ≤ (mrm i).2) (hcat : sm_cat rest ≤ 8) (hcc : cz M ≤ z0 + R.cells) (hss : sz M ≤ w0 + R.slots)
    (k : sn_J p l e R s m args below meth c Q D cA b sa A z0 w0 ad0 n0 i (pc + 3) L (.int (if x < y then y else x) :: rest) M) : sn_J p l e R s m args below meth c Q D cA b sa A z0 w0 ad0 n0 i pc L (.int y :: .int x :: rest) M := by
  obtain ⟨hx, hb, hr0, hlk, hml, hown, hmn, hts, hK, hA, hZ, hfr, hlo⟩ := C
  intro ad ls H locs cells slots h1 h2 hr
  have h8 : ((rest.map (cv ad b sa)).map fun v => v.category).sum ≤ 8 := by rw [cat_sum]; exact hcat
  have h1' := h1.1
  exact va_mmax hx hb (hml.trans hr.1.1.symm) hown (hts _ hl) (hts _ mth_s3) (hts _ mth_ini) (hts _ mth_c3) (by omega) (by omega) (by omega) (by omega) hd (k ad ls H locs cells slots h1 h2 (hr.stk (vs_c vv_int (vs_t (vs_t hr.2.2.1)))))
theorem pm_min (C : sn_C p R s m args meth c D cA A X b ZS i) {ix : Nat} {rest : sm_S} {x y : Int32} (hd : decode (mb i) pc = .ok (.invokestatic ix, 3)) (hl : Cond.methodLink (my i).cls ix Lib.Math.min.name ∈ uw) (hf1 : 1 ≤ (mrm i).1) (hf2 : 21 ≤ (mrm i).2) (hcat : sm_cat rest ≤ 8) (hcc : cz M ≤ z0 + R.cells) (hss : sz M ≤ w0 + R.slots)
    (k : sn_J p l e R s m args below meth c Q D cA b sa A z0 w0 ad0 n0 i (pc + 3) L (.int (if y < x then y else x) :: rest) M) : sn_J p l e R s m args below meth c Q D cA b sa A z0 w0 ad0 n0 i pc L (.int y :: .int x :: rest) M := by
  obtain ⟨hx, hb, hr0, hlk, hml, hown, hmn, hts, hK, hA, hZ, hfr, hlo⟩ := C
  intro ad ls H locs cells slots h1 h2 hr
  have h8 : ((rest.map (cv ad b sa)).map fun v => v.category).sum ≤ 8 := by rw [cat_sum]; exact hcat
  have h1' := h1.1
  exact va_mmin hx hb (hml.trans hr.1.1.symm) hown (hts _ hl) (hts _ mth_s4) (hts _ mth_ini) (hts _ mth_c4) (by omega) (by omega) (by omega) (by omega) hd (k ad ls H locs cells slots h1 h2 (hr.stk (vs_c vv_int (vs_t (vs_t hr.2.2.1)))))
theorem pm_abs (C : sn_C p R s m args meth c D cA A X b ZS i) {ix : Nat} {rest : sm_S} {x : Int64} (hd : decode (mb i) pc = .ok (.invokestatic ix, 3)) (hl : Cond.methodLink (my i).cls ix Lib.MathLoose.abs_long.x ∈ uw) (hf1 : 1 ≤ (mrm i).1) (hf2 : 21 ≤ (mrm i).2) (hcat : sm_cat rest ≤ 8) (hcc : cz M ≤ z0 + R.cells) (hss : sz M ≤ w0 + R.slots)
    (k : sn_J p l e R s m args below meth c Q D cA b sa A z0 w0 ad0 n0 i (pc + 3) L (.long (if 0 < x then x else -x) :: rest) M) : sn_J p l e R s m args below meth c Q D cA b sa A z0 w0 ad0 n0 i pc L (.long x :: rest) M := by
  obtain ⟨hx, hb, hr0, hlk, hml, hown, hmn, hts, hK, hA, hZ, hfr, hlo⟩ := C
  intro ad ls H locs cells slots h1 h2 hr
  have h8 : ((rest.map (cv ad b sa)).map fun v => v.category).sum ≤ 8 := by rw [cat_sum]; exact hcat
  have h1' := h1.1
  exact va_mabs_long hx hb (hml.trans hr.1.1.symm) hown (hts _ hl) (hts _ mth_s5) (hts _ mth_ini) (hts _ mth_c5) (by omega) (by omega) (by omega) (by omega) hd (k ad ls H locs cells slots h1 h2 (hr.stk (vs_c vv_long (vs_t hr.2.2.1))))
end SN7
end
section
/-! The String constant of Tape.readWord: length and charAt. -/
def st_tx : String := "take refuse ask home not and or gain got lost souls near mine bound rank other day left linked "
def st_Z (sa sv : Nat) (A : Nat → Prop) (U : State) : Prop := vk_R "PowersHouse$Tape" 64 st_tx sa U ∧ va_O "java/lang/String" sa A U U.heap ∧ va_OF "java/lang/String" "coder" "B" (.int 0) sa A U U.heap ∧ va_OF "java/lang/String" "value" "[B" (.ref sv) sa A U U.heap ∧ va_T .byte sv 95 (fun j => .int (sm_words.getD j 0)) A U U.heap ∧ va_Z "java/lang/String" "COMPACT_STRINGS" "Z" (.int 1) A U U.heap ∧ va_Zq "jdk/internal/util/Preconditions" "SIOOBE_FORMATTER" "Ljava/util/function/BiFunction;" A U U.heap
theorem st_Z.next {sa sv : Nat} {A A' : Nat → Prop} {s U : State} (h : st_Z sa sv A s) (hA : ∀ q, A' q → A q) (hh : ∀ q : Nat, q < s.heap.size → ¬ A q → U.heap[q]? = s.heap[q]?) (hv : U.vm = s.vm ∨ s.WarmedH U.vm) : st_Z sa sv A' U := by
  obtain ⟨h1, h2, h3, h4, h5, h6, h7⟩ := h
  have hal : s.vm.Alike U.vm := by
    rcases hv with e | e
    · rw [e]; exact Vm.Alike.refl _
    · exact e.alike
  refine ⟨?_, ((h2.moved hal).kept hh).narrow hA, ((h3.moved hal).kept hh).narrow hA, ((h4.moved hal).kept hh).narrow hA, ((h5.moved hal).kept hh).narrow hA, ((h6.moved hal).kept hh).narrow hA, ((h7.moved hal).kept hh).narrow hA⟩
  rcases hv with e | e
  · exact h1.same e
  · exact h1.warm e
def nw : Nat → Prop := fun _ => False
theorem st_bl {sa sv : Nat} {As : List Value} : FrameBlind (va_Pc As (st_Z sa sv nw)) := fun a U g mk h => ⟨h.1, h.2.next (fun _ h => h) (fun _ _ _ => rfl) (Or.inl rfl)⟩
theorem st_pre {sa sv : Nat} {s : State} (h : st_Z sa sv nw s) (As : List Value) (U : State) (hU : U.heap = s.heap) (hW : s.WarmedH U.vm) : va_Pc As (st_Z sa sv nw) As.toArray U := ⟨rfl, h.next (fun _ h => h) (fun _ _ _ => by rw [hU]) (Or.inr hW)⟩
abbrev ys_coder : MethodName := ⟨"java/lang/String", "coder", "()B"⟩
abbrev cs_coder : ByteArray := prog_20_method_152_code
set_option maxRecDepth 100000 in
theorem cws_coder : Cond.code ys_coder cs_coder 1 (some .byte) ∈ uw := List.mem_filter.mpr ⟨List.mem_of_getElem? (show lw_tbl[672]? = some (Cond.code ys_coder cs_coder 1 (some .byte)) from rfl), rfl⟩
abbrev ws_coder : List Cond := Cond.code ys_coder cs_coder 1 (some .byte) :: uw
theorem wsi_coder : ∀ w ∈ ws_coder, w ∈ uw := fun w hw => (List.mem_cons.mp hw).elim (fun e => e ▸ cws_coder) id
theorem wsn_coder : Cond.initialized "java/lang/String" ∈ uw := wi_in (p := 134) (by decide +kernel)
theorem ds_coder_0 : decode cs_coder 0 = .ok (.getstatic 38, 3) := by decide +kernel
theorem ds_coder_3 : decode cs_coder 3 = .ok (.ifCond .eq 10, 3) := by decide +kernel
theorem ds_coder_6 : decode cs_coder 6 = .ok (.aload_n 0, 1) := by decide +kernel
theorem ds_coder_7 : decode cs_coder 7 = .ok (.getfield 15, 3) := by decide +kernel
theorem ds_coder_10 : decode cs_coder 10 = .ok (.goto 4, 3) := by decide +kernel
theorem ds_coder_13 : decode cs_coder 13 = .ok (.iconst 1, 1) := by decide +kernel
theorem ds_coder_14 : decode cs_coder 14 = .ok (.ireturn, 1) := by decide +kernel
abbrev ys_length : MethodName := ⟨"java/lang/String", "length", "()I"⟩
abbrev cs_length : ByteArray := prog_20_method_54_code
set_option maxRecDepth 100000 in
theorem cws_length : Cond.code ys_length cs_length 1 (some .int) ∈ uw := List.mem_filter.mpr ⟨List.mem_of_getElem? (show lw_tbl[668]? = some (Cond.code ys_length cs_length 1 (some .int)) from rfl), rfl⟩
abbrev ws_length : List Cond := Cond.code ys_length cs_length 1 (some .int) :: uw
theorem wsi_length : ∀ w ∈ ws_length, w ∈ uw := fun w hw => (List.mem_cons.mp hw).elim (fun e => e ▸ cws_length) id
theorem wsn_length : Cond.initialized "java/lang/String" ∈ uw := wi_in (p := 134) (by decide +kernel)
theorem ds_length_0 : decode cs_length 0 = .ok (.aload_n 0, 1) := by decide +kernel
theorem ds_length_1 : decode cs_length 1 = .ok (.getfield 9, 3) := by decide +kernel
theorem ds_length_4 : decode cs_length 4 = .ok (.arraylength, 1) := by decide +kernel
theorem ds_length_5 : decode cs_length 5 = .ok (.aload_n 0, 1) := by decide +kernel
theorem ds_length_6 : decode cs_length 6 = .ok (.invokevirtual 335, 3) := by decide +kernel
theorem ds_length_9 : decode cs_length 9 = .ok (.ishr, 1) := by decide +kernel
theorem ds_length_10 : decode cs_length 10 = .ok (.ireturn, 1) := by decide +kernel
abbrev ys_isl : MethodName := ⟨"java/lang/String", "isLatin1", "()Z"⟩
abbrev cs_isl : ByteArray := prog_20_method_154_code
set_option maxRecDepth 100000 in
theorem cws_isl : Cond.code ys_isl cs_isl 1 (some .boolean) ∈ uw := List.mem_filter.mpr ⟨List.mem_of_getElem? (show lw_tbl[682]? = some (Cond.code ys_isl cs_isl 1 (some .boolean)) from rfl), rfl⟩
abbrev ws_isl : List Cond := Cond.code ys_isl cs_isl 1 (some .boolean) :: uw
theorem wsi_isl : ∀ w ∈ ws_isl, w ∈ uw := fun w hw => (List.mem_cons.mp hw).elim (fun e => e ▸ cws_isl) id
theorem wsn_isl : Cond.initialized "java/lang/String" ∈ uw := wi_in (p := 134) (by decide +kernel)
theorem ds_isl_0 : decode cs_isl 0 = .ok (.getstatic 38, 3) := by decide +kernel
theorem ds_isl_3 : decode cs_isl 3 = .ok (.ifCond .eq 14, 3) := by decide +kernel
theorem ds_isl_6 : decode cs_isl 6 = .ok (.aload_n 0, 1) := by decide +kernel
theorem ds_isl_7 : decode cs_isl 7 = .ok (.getfield 15, 3) := by decide +kernel
theorem ds_isl_10 : decode cs_isl 10 = .ok (.ifCond .ne 7, 3) := by decide +kernel
theorem ds_isl_13 : decode cs_isl 13 = .ok (.iconst 1, 1) := by decide +kernel
theorem ds_isl_14 : decode cs_isl 14 = .ok (.goto 4, 3) := by decide +kernel
theorem ds_isl_17 : decode cs_isl 17 = .ok (.iconst 0, 1) := by decide +kernel
theorem ds_isl_18 : decode cs_isl 18 = .ok (.ireturn, 1) := by decide +kernel
abbrev ys_pchk : MethodName := ⟨"jdk/internal/util/Preconditions", "checkIndex", "(IILjava/util/function/BiFunction;)I"⟩
abbrev cs_pchk : ByteArray := prog_25_method_11_code
set_option maxRecDepth 100000 in
theorem cws_pchk : Cond.code ys_pchk cs_pchk 3 (some .int) ∈ uw := List.mem_filter.mpr ⟨List.mem_of_getElem? (show lw_tbl[693]? = some (Cond.code ys_pchk cs_pchk 3 (some .int)) from rfl), rfl⟩
abbrev ws_pchk : List Cond := Cond.code ys_pchk cs_pchk 3 (some .int) :: uw
theorem wsi_pchk : ∀ w ∈ ws_pchk, w ∈ uw := fun w hw => (List.mem_cons.mp hw).elim (fun e => e ▸ cws_pchk) id
theorem wsn_pchk : Cond.initialized "jdk/internal/util/Preconditions" ∈ uw := wi_in (p := 136) (by decide +kernel)
theorem ds_pchk_0 : decode cs_pchk 0 = .ok (.iload_n 0, 1) := by decide +kernel
theorem ds_pchk_1 : decode cs_pchk 1 = .ok (.ifCond .lt 8, 3) := by decide +kernel
theorem ds_pchk_4 : decode cs_pchk 4 = .ok (.iload_n 0, 1) := by decide +kernel
theorem ds_pchk_5 : decode cs_pchk 5 = .ok (.iload_n 1, 1) := by decide +kernel
theorem ds_pchk_6 : decode cs_pchk 6 = .ok (.if_icmp .lt 10, 3) := by decide +kernel
theorem ds_pchk_9 : decode cs_pchk 9 = .ok (.aload_n 2, 1) := by decide +kernel
theorem ds_pchk_10 : decode cs_pchk 10 = .ok (.iload_n 0, 1) := by decide +kernel
theorem ds_pchk_11 : decode cs_pchk 11 = .ok (.iload_n 1, 1) := by decide +kernel
theorem ds_pchk_12 : decode cs_pchk 12 = .ok (.invokestatic 95, 3) := by decide +kernel
theorem ds_pchk_15 : decode cs_pchk 15 = .ok (.athrow, 1) := by decide +kernel
theorem ds_pchk_16 : decode cs_pchk 16 = .ok (.iload_n 0, 1) := by decide +kernel
theorem ds_pchk_17 : decode cs_pchk 17 = .ok (.ireturn, 1) := by decide +kernel
abbrev ys_chk : MethodName := ⟨"java/lang/String", "checkIndex", "(II)V"⟩
abbrev cs_chk : ByteArray := prog_20_method_155_code
set_option maxRecDepth 100000 in
theorem cws_chk : Cond.code ys_chk cs_chk 2 none ∈ uw := List.mem_filter.mpr ⟨List.mem_of_getElem? (show lw_tbl[688]? = some (Cond.code ys_chk cs_chk 2 none) from rfl), rfl⟩
abbrev ws_chk : List Cond := Cond.code ys_chk cs_chk 2 none :: uw
theorem wsi_chk : ∀ w ∈ ws_chk, w ∈ uw := fun w hw => (List.mem_cons.mp hw).elim (fun e => e ▸ cws_chk) id
theorem wsn_chk : Cond.initialized "java/lang/String" ∈ uw := wi_in (p := 134) (by decide +kernel)
theorem ds_chk_0 : decode cs_chk 0 = .ok (.iload_n 0, 1) := by decide +kernel
theorem ds_chk_1 : decode cs_chk 1 = .ok (.iload_n 1, 1) := by decide +kernel
theorem ds_chk_2 : decode cs_chk 2 = .ok (.getstatic 1053, 3) := by decide +kernel
theorem ds_chk_5 : decode cs_chk 5 = .ok (.invokestatic 1059, 3) := by decide +kernel
theorem ds_chk_8 : decode cs_chk 8 = .ok (.pop, 1) := by decide +kernel
theorem ds_chk_9 : decode cs_chk 9 = .ok (.return_, 1) := by decide +kernel
abbrev ys_lch : MethodName := ⟨"java/lang/StringLatin1", "charAt", "([BI)C"⟩
abbrev cs_lch : ByteArray := prog_21_method_2_code
set_option maxRecDepth 100000 in
theorem cws_lch : Cond.code ys_lch cs_lch 2 (some .char) ∈ uw := List.mem_filter.mpr ⟨List.mem_of_getElem? (show lw_tbl[685]? = some (Cond.code ys_lch cs_lch 2 (some .char)) from rfl), rfl⟩
abbrev ws_lch : List Cond := Cond.code ys_lch cs_lch 2 (some .char) :: uw
theorem wsi_lch : ∀ w ∈ ws_lch, w ∈ uw := fun w hw => (List.mem_cons.mp hw).elim (fun e => e ▸ cws_lch) id
theorem wsn_lch : Cond.initialized "java/lang/StringLatin1" ∈ uw := wi_in (p := 135) (by decide +kernel)
theorem ds_lch_0 : decode cs_lch 0 = .ok (.iload_n 1, 1) := by decide +kernel
theorem ds_lch_1 : decode cs_lch 1 = .ok (.aload_n 0, 1) := by decide +kernel
theorem ds_lch_2 : decode cs_lch 2 = .ok (.arraylength, 1) := by decide +kernel
theorem ds_lch_3 : decode cs_lch 3 = .ok (.invokestatic 9, 3) := by decide +kernel
theorem ds_lch_6 : decode cs_lch 6 = .ok (.aload_n 0, 1) := by decide +kernel
theorem ds_lch_7 : decode cs_lch 7 = .ok (.iload_n 1, 1) := by decide +kernel
theorem ds_lch_8 : decode cs_lch 8 = .ok (.baload, 1) := by decide +kernel
theorem ds_lch_9 : decode cs_lch 9 = .ok (.sipush 255, 3) := by decide +kernel
theorem ds_lch_12 : decode cs_lch 12 = .ok (.iand, 1) := by decide +kernel
theorem ds_lch_13 : decode cs_lch 13 = .ok (.i2c, 1) := by decide +kernel
theorem ds_lch_14 : decode cs_lch 14 = .ok (.ireturn, 1) := by decide +kernel
abbrev ys_charAt : MethodName := ⟨"java/lang/String", "charAt", "(I)C"⟩
abbrev cs_charAt : ByteArray := prog_20_method_56_code
set_option maxRecDepth 100000 in
theorem cws_charAt : Cond.code ys_charAt cs_charAt 2 (some .char) ∈ uw := List.mem_filter.mpr ⟨List.mem_of_getElem? (show lw_tbl[678]? = some (Cond.code ys_charAt cs_charAt 2 (some .char)) from rfl), rfl⟩
abbrev ws_charAt : List Cond := Cond.code ys_charAt cs_charAt 2 (some .char) :: uw
theorem wsi_charAt : ∀ w ∈ ws_charAt, w ∈ uw := fun w hw => (List.mem_cons.mp hw).elim (fun e => e ▸ cws_charAt) id
theorem wsn_charAt : Cond.initialized "java/lang/String" ∈ uw := wi_in (p := 134) (by decide +kernel)
theorem ds_charAt_0 : decode cs_charAt 0 = .ok (.aload_n 0, 1) := by decide +kernel
theorem ds_charAt_1 : decode cs_charAt 1 = .ok (.invokevirtual 492, 3) := by decide +kernel
theorem ds_charAt_4 : decode cs_charAt 4 = .ok (.ifCond .eq 12, 3) := by decide +kernel
theorem ds_charAt_7 : decode cs_charAt 7 = .ok (.aload_n 0, 1) := by decide +kernel
theorem ds_charAt_8 : decode cs_charAt 8 = .ok (.getfield 9, 3) := by decide +kernel
theorem ds_charAt_11 : decode cs_charAt 11 = .ok (.iload_n 1, 1) := by decide +kernel
theorem ds_charAt_12 : decode cs_charAt 12 = .ok (.invokestatic 495, 3) := by decide +kernel
theorem ds_charAt_15 : decode cs_charAt 15 = .ok (.ireturn, 1) := by decide +kernel
theorem ds_charAt_16 : decode cs_charAt 16 = .ok (.aload_n 0, 1) := by decide +kernel
theorem ds_charAt_17 : decode cs_charAt 17 = .ok (.getfield 9, 3) := by decide +kernel
theorem ds_charAt_20 : decode cs_charAt 20 = .ok (.iload_n 1, 1) := by decide +kernel
theorem ds_charAt_21 : decode cs_charAt 21 = .ok (.invokestatic 498, 3) := by decide +kernel
theorem ds_charAt_24 : decode cs_charAt 24 = .ok (.ireturn, 1) := by decide +kernel
theorem lk_cs : Cond.fieldLink "java/lang/String" 38 "java/lang/String" "COMPACT_STRINGS" "Z" ∈ uw := wi_in (p := 673) (by decide +kernel)
theorem lk_cod : Cond.fieldLink "java/lang/String" 15 "java/lang/String" "coder" "B" ∈ uw := wi_in (p := 2313) (by decide +kernel)
theorem lk_val : Cond.fieldLink "java/lang/String" 9 "java/lang/String" "value" "[B" ∈ uw := wi_in (p := 2312) (by decide +kernel)
theorem lk_fmt : Cond.fieldLink "java/lang/String" 1053 "jdk/internal/util/Preconditions" "SIOOBE_FORMATTER" "Ljava/util/function/BiFunction;" ∈ uw := wi_in (p := 689) (by decide +kernel)
theorem lk_coder : Cond.methodLink "java/lang/String" 335 ⟨"java/lang/String", "coder", "()B"⟩ ∈ uw := wi_in (p := 669) (by decide +kernel)
theorem lk_isl : Cond.methodLink "java/lang/String" 492 ⟨"java/lang/String", "isLatin1", "()Z"⟩ ∈ uw := wi_in (p := 679) (by decide +kernel)
theorem lk_lch : Cond.methodLink "java/lang/String" 495 ⟨"java/lang/StringLatin1", "charAt", "([BI)C"⟩ ∈ uw := wi_in (p := 683) (by decide +kernel)
theorem lk_chk : Cond.methodLink "java/lang/StringLatin1" 9 ⟨"java/lang/String", "checkIndex", "(II)V"⟩ ∈ uw := wi_in (p := 686) (by decide +kernel)
theorem lk_pchk : Cond.methodLink "java/lang/String" 1059 ⟨"jdk/internal/util/Preconditions", "checkIndex", "(IILjava/util/function/BiFunction;)I"⟩ ∈ uw := wi_in (p := 691) (by decide +kernel)
theorem im_coder : Cond.instanceMethod ys_coder ∈ uw := wi_in (p := 670) (by decide +kernel)
theorem se_coder : Cond.selects "java/lang/String" ys_coder ys_coder ∈ uw := wi_in (p := 671) (by decide +kernel)
theorem im_isl : Cond.instanceMethod ys_isl ∈ uw := wi_in (p := 680) (by decide +kernel)
theorem se_isl : Cond.selects "java/lang/String" ys_isl ys_isl ∈ uw := wi_in (p := 681) (by decide +kernel)
theorem im_length : Cond.instanceMethod ys_length ∈ uw := wi_in (p := 666) (by decide +kernel)
theorem se_length : Cond.selects "java/lang/String" ys_length ys_length ∈ uw := wi_in (p := 667) (by decide +kernel)
theorem im_charAt : Cond.instanceMethod ys_charAt ∈ uw := wi_in (p := 676) (by decide +kernel)
theorem se_charAt : Cond.selects "java/lang/String" ys_charAt ys_charAt ∈ uw := wi_in (p := 677) (by decide +kernel)
theorem sm_lch : Cond.static ys_lch ∈ uw := wi_in (p := 684) (by decide +kernel)
theorem sm_chk : Cond.static ys_chk ∈ uw := wi_in (p := 687) (by decide +kernel)
theorem sm_pchk : Cond.static ys_pchk ∈ uw := wi_in (p := 692) (by decide +kernel)
set_option maxRecDepth 100000 in
theorem cm_coder (l : Launch) (sa sv : Nat)  : Met l ys_coder ws_coder ({ frames := 0, cells := 0, slots := 0, locals := 0 } : Room) (va_Pc [.ref sa] (st_Z sa sv nw)) (QcRead 0) 0 0 nw := by
  refine Met.ofW (cc := cs_coder) (maxL := 1) (ret := (some .byte)) (by decide) rfl ?_
  intro p e s m args below meth c s₁ B hml hv
  obtain ⟨rfl, hZ⟩ := hv
  have hx := B.exec
  have hb := B.bytes
  have hr := B.returns
  have hts0 := atoms_spec (ws := ws_coder) B.pre
  have hts : ∀ w ∈ uw, w.before _ s = true := fun w hw => hts0 w (List.mem_cons_of_mem _ hw)
  have hown : s.vm.findClass "java/lang/String" = some m.cls := findClass_of_methodNamed B.named
  have hlocks := B.notSynchronized
  have hS : va_S nw s.heap s.heap [] := va_S.rf
  rw [lg_entry_eq]
  have hl := lv_entry ([.ref sa]) (n := 1) (Nat.le_of_ble_eq_true rfl)
  generalize (lg_sl ([.ref sa]) ++ List.replicate (1 - (lg_sl ([.ref sa])).length) Slot.unset).toArray = ls at hl ⊢
  refine va_gets hx hb hZ.2.2.2.2.2.1 hS hown (hts _ lk_cs) (fun _ h => h) ds_coder_0 ?_
  refine lv_if_eq (tgt := 13) hx hb ds_coder_3 (by decide) (fun h => absurd h (by decide)) (fun _ => ?_)
  refine lv_aload_n hx hb ds_coder_6 rfl (lv_at hl 0 rfl) ?_
  refine vk_getf hx hb hZ.2.2.1 hS hown (hts _ lk_cod) (fun _ h => h) ds_coder_7 ?_
  refine lv_goto (tgt := 14) hx hb ds_coder_10 (by decide) ?_
  exact W.zret hx hb hr (by decide) (fun t ht _ => ⟨rfl, ht⟩) hS.2.2 ds_coder_14
set_option maxRecDepth 100000 in
theorem cm_isl (l : Launch) (sa sv : Nat)  : Met l ys_isl ws_isl ({ frames := 0, cells := 0, slots := 0, locals := 0 } : Room) (va_Pc [.ref sa] (st_Z sa sv nw)) (QcRead 1) 0 0 nw := by
  refine Met.ofW (cc := cs_isl) (maxL := 1) (ret := (some .boolean)) (by decide) rfl ?_
  intro p e s m args below meth c s₁ B hml hv
  obtain ⟨rfl, hZ⟩ := hv
  have hx := B.exec
  have hb := B.bytes
  have hr := B.returns
  have hts0 := atoms_spec (ws := ws_isl) B.pre
  have hts : ∀ w ∈ uw, w.before _ s = true := fun w hw => hts0 w (List.mem_cons_of_mem _ hw)
  have hown : s.vm.findClass "java/lang/String" = some m.cls := findClass_of_methodNamed B.named
  have hlocks := B.notSynchronized
  have hS : va_S nw s.heap s.heap [] := va_S.rf
  rw [lg_entry_eq]
  have hl := lv_entry ([.ref sa]) (n := 1) (Nat.le_of_ble_eq_true rfl)
  generalize (lg_sl ([.ref sa]) ++ List.replicate (1 - (lg_sl ([.ref sa])).length) Slot.unset).toArray = ls at hl ⊢
  refine va_gets hx hb hZ.2.2.2.2.2.1 hS hown (hts _ lk_cs) (fun _ h => h) ds_isl_0 ?_
  refine lv_if_eq (tgt := 17) hx hb ds_isl_3 (by decide) (fun h => absurd h (by decide)) (fun _ => ?_)
  refine lv_aload_n hx hb ds_isl_6 rfl (lv_at hl 0 rfl) ?_
  refine vk_getf hx hb hZ.2.2.1 hS hown (hts _ lk_cod) (fun _ h => h) ds_isl_7 ?_
  refine lv_if_ne (tgt := 17) hx hb ds_isl_10 (by decide) (fun h => absurd rfl h) (fun _ => ?_)
  refine lv_iconst (v := 1) hx hb ds_isl_13 (by decide) ?_
  refine lv_goto (tgt := 18) hx hb ds_isl_14 (by decide) ?_
  exact W.zret hx hb hr (by decide) (fun t ht _ => ⟨rfl, ht⟩) hS.2.2 ds_isl_18
set_option maxRecDepth 100000 in
theorem cm_length (l : Launch) (sa sv : Nat)  : Met l ys_length ws_length ({ frames := 1, cells := 0, slots := 0, locals := 20 } : Room) (va_Pc [.ref sa] (st_Z sa sv nw)) (QcRead 95) 0 0 nw := by
  refine Met.ofW (cc := cs_length) (maxL := 1) (ret := (some .int)) (by decide) rfl ?_
  intro p e s m args below meth c s₁ B hml hv
  obtain ⟨rfl, hZ⟩ := hv
  have hx := B.exec
  have hb := B.bytes
  have hr := B.returns
  have hts0 := atoms_spec (ws := ws_length) B.pre
  have hts : ∀ w ∈ uw, w.before _ s = true := fun w hw => hts0 w (List.mem_cons_of_mem _ hw)
  have hown : s.vm.findClass "java/lang/String" = some m.cls := findClass_of_methodNamed B.named
  have hlocks := B.notSynchronized
  have hS : va_S nw s.heap s.heap [] := va_S.rf
  rw [lg_entry_eq]
  have hl := lv_entry ([.ref sa]) (n := 1) (Nat.le_of_ble_eq_true rfl)
  generalize (lg_sl ([.ref sa]) ++ List.replicate (1 - (lg_sl ([.ref sa])).length) Slot.unset).toArray = ls at hl ⊢
  refine lv_aload_n hx hb ds_length_0 rfl (lv_at hl 0 rfl) ?_
  refine vk_getf hx hb hZ.2.2.2.1 hS hown (hts _ lk_val) (fun _ h => h) ds_length_1 ?_
  refine va_tlen (v := 95) hx hb hZ.2.2.2.2.1 hS (by decide) ds_length_4 ?_
  refine lv_aload_n hx hb ds_length_5 rfl (lv_at hl 0 rfl) ?_
  refine W.callR (W.runV (As := []) (rest := [.int 95]) (C := "java/lang/String") (b := sa) ⟨hx, hb, hml, hown, hts⟩ (cm_coder l sa sv) (cwV (ws' := uw) 0 hts (uw_good fun w hw => ?_) rfl rfl rfl (by decide +kernel) ⟨Nat.le_of_ble_eq_true rfl, Nat.le_of_ble_eq_true rfl⟩) ⟨st_bl, ?_, fun U hU hW => st_pre hZ _ U hU hW⟩ rfl rfl hl.1 rfl (lv_room (Nat.le_of_ble_eq_true rfl)) ds_length_6 ⟨Nat.zero_le _, Nat.zero_le _⟩) ?_
  · rcases List.mem_append.mp hw with h | h
    · simp only [List.mem_cons, List.not_mem_nil, or_false] at h
      rcases h with rfl | rfl | rfl | rfl
      · exact lk_coder
      · exact im_coder
      · exact se_coder
      · exact wsn_coder
    · exact wsi_coder w h
  · obtain ⟨cell, g1, g2, g3, -⟩ := hZ.2.1
    exact ⟨cell, g1, g2, g3⟩
  refine lv_ishr hx hb ds_length_9 ?_
  exact W.iret (v := 95) hx hb hr (fun t ht _ => ⟨rfl, ht⟩) hS.2.2 ds_length_10
def QcVo : Array Value → State → Outcome → State → Prop := fun _ st o t => o = .returned none ∧ t.heap = st.heap
set_option maxRecDepth 100000 in
theorem cm_pchk (l : Launch) (sa sv : Nat) (x n : Int32) (v : Value) (hv0 : v = .null ∨ ∃ t, v = .ref t) (h1 : ¬ x < 0) (h2 : x < n) : Met l ys_pchk ws_pchk ({ frames := 0, cells := 0, slots := 0, locals := 0 } : Room) (va_Pc [.int x, .int n, v] (st_Z sa sv nw)) (QcRead x) 0 0 nw := by
  refine Met.ofW (cc := cs_pchk) (maxL := 3) (ret := (some .int)) (by decide) rfl ?_
  intro p e s m args below meth c s₁ B hml hv
  obtain ⟨rfl, hZ⟩ := hv
  have hx := B.exec
  have hb := B.bytes
  have hr := B.returns
  have hts0 := atoms_spec (ws := ws_pchk) B.pre
  have hts : ∀ w ∈ uw, w.before _ s = true := fun w hw => hts0 w (List.mem_cons_of_mem _ hw)
  have hown : s.vm.findClass "jdk/internal/util/Preconditions" = some m.cls := findClass_of_methodNamed B.named
  have hlocks := B.notSynchronized
  have hS : va_S nw s.heap s.heap [] := va_S.rf
  rw [lg_entry_eq]
  have hl := lv_entry ([.int x, .int n, v]) (n := 3) (by rcases hv0 with rfl | ⟨t, rfl⟩ <;> exact Nat.le_of_ble_eq_true rfl)
  generalize (lg_sl ([.int x, .int n, v]) ++ List.replicate (3 - (lg_sl ([.int x, .int n, v])).length) Slot.unset).toArray = ls at hl ⊢
  have hlx : lv_has ls 3 [(0, .int x), (1, .int n)] := by rcases hv0 with rfl | ⟨t, rfl⟩ <;> exact lv_sub hl [0, 1] rfl
  refine lv_iload_n hx hb ds_pchk_0 rfl (lv_at hlx 0 rfl) ?_
  refine lv_if_lt (tgt := 9) hx hb ds_pchk_1 (by decide) (fun h => absurd h h1) (fun _ => ?_)
  refine lv_iload_n hx hb ds_pchk_4 rfl (lv_at hlx 0 rfl) ?_
  refine lv_iload_n hx hb ds_pchk_5 rfl (lv_at hlx 1 rfl) ?_
  refine lv_icmp_lt (tgt := 16) hx hb ds_pchk_6 (by decide) (fun _ => ?_) (fun h => absurd h2 h)
  refine lv_iload_n hx hb ds_pchk_16 rfl (lv_at hlx 0 rfl) ?_
  exact W.iret (v := x) hx hb hr (fun t ht _ => ⟨rfl, ht⟩) hS.2.2 ds_pchk_17
set_option maxRecDepth 100000 in
theorem cm_chk (l : Launch) (sa sv : Nat) (x n : Int32) (h1 : ¬ x < 0) (h2 : x < n) : Met l ys_chk ws_chk ({ frames := 1, cells := 0, slots := 0, locals := 22 } : Room) (va_Pc [.int x, .int n] (st_Z sa sv nw)) (QcVo) 0 0 nw := by
  refine Met.ofW (cc := cs_chk) (maxL := 2) (ret := none) (by decide) rfl ?_
  intro p e s m args below meth c s₁ B hml hv
  obtain ⟨rfl, hZ⟩ := hv
  have hx := B.exec
  have hb := B.bytes
  have hr := B.returns
  have hts0 := atoms_spec (ws := ws_chk) B.pre
  have hts : ∀ w ∈ uw, w.before _ s = true := fun w hw => hts0 w (List.mem_cons_of_mem _ hw)
  have hown : s.vm.findClass "java/lang/String" = some m.cls := findClass_of_methodNamed B.named
  have hlocks := B.notSynchronized
  have hS : va_S nw s.heap s.heap [] := va_S.rf
  rw [lg_entry_eq]
  have hl := lv_entry ([.int x, .int n]) (n := 2) (Nat.le_of_ble_eq_true rfl)
  generalize (lg_sl ([.int x, .int n]) ++ List.replicate (2 - (lg_sl ([.int x, .int n])).length) Slot.unset).toArray = ls at hl ⊢
  refine lv_iload_n hx hb ds_chk_0 rfl (lv_at hl 0 rfl) ?_
  refine lv_iload_n hx hb ds_chk_1 rfl (lv_at hl 1 rfl) ?_
  have go : ∀ v : Value, (v = .null ∨ ∃ t, v = .ref t) → W p l e (headSpec ws_chk ({ frames := 1, cells := 0, slots := 0, locals := 22 } : Room)).room s m ([.int x, .int n] : List Value).toArray below meth c s.heap [] 0 0 (MQ below QcVo ([.int x, .int n] : List Value).toArray s 0 0 nw) (F0 m 5 ls [v, .int n, .int x]) := by
    intro v hv0
    refine W.callR (W.runS (As := [.int x, .int n, v]) (rest := []) ⟨hx, hb, hml, hown, hts⟩ (cm_pchk l sa sv x n v hv0 h1 h2) (va_cwS (ws' := uw) 3 hts (uw_good fun w hw => ?_) rfl rfl rfl (by decide +kernel) ⟨Nat.le_of_ble_eq_true rfl, Nat.le_of_ble_eq_true rfl⟩) ⟨st_bl, fun U hU hW => st_pre hZ _ U hU hW⟩ rfl rfl hl.1 rfl (lv_room (Nat.le_of_ble_eq_true rfl)) ds_chk_5 ⟨Nat.zero_le _, Nat.zero_le _⟩) ?_
    · rcases List.mem_append.mp hw with h | h
      · simp only [List.mem_cons, List.not_mem_nil, or_false] at h
        rcases h with rfl | rfl | rfl
        · exact lk_pchk
        · exact sm_pchk
        · exact wsn_pchk
      · exact wsi_pchk w h
    refine lv_pop hx hb ds_chk_8 rfl ?_
    exact W.vret hx hb hr (fun t ht _ => ⟨rfl, ht⟩) hS.2.2 ds_chk_9
  rcases hZ.2.2.2.2.2.2 with hq | ⟨t, hq⟩
  · refine va_gets hx hb hq hS hown (hts _ lk_fmt) (fun _ h => h) ds_chk_2 ?_
    exact go .null (Or.inl rfl)
  · refine va_gets hx hb hq hS hown (hts _ lk_fmt) (fun _ h => h) ds_chk_2 ?_
    exact go (.ref t) (Or.inr ⟨t, rfl⟩)
theorem sw_c : ∀ k, k < 95 → ((sm_words.getD k 0 &&& 255).toUInt32 % 65536).toInt32 = sm_words.getD k 0 ∧ narrow .char (.int (sm_words.getD k 0)) = .int (sm_words.getD k 0) := by decide +kernel
theorem sw_in95 {x : Int32} (h : vp_in x 95) : ¬ x < 0 ∧ x < 95 ∧ x.toNatClampNeg < 95 := by
  obtain ⟨j, hj, rfl⟩ := vp_in_of h (by decide)
  exact ⟨nI_pos (by omega), (nI_lt (b := 95) hj (by decide)), by rw [nI_clamp (by omega)]; exact hj⟩
set_option maxRecDepth 100000 in
theorem cm_lch (l : Launch) (sa sv : Nat) (x : Int32) (hin : vp_in x 95) : Met l ys_lch ws_lch ({ frames := 2, cells := 0, slots := 0, locals := 43 } : Room) (va_Pc [.ref sv, .int x] (st_Z sa sv nw)) (QcRead (sm_words.getD x.toNatClampNeg 0)) 0 0 nw := by
  refine Met.ofW (cc := cs_lch) (maxL := 2) (ret := (some .char)) (by decide) rfl ?_
  intro p e s m args below meth c s₁ B hml hv
  obtain ⟨rfl, hZ⟩ := hv
  have hx := B.exec
  have hb := B.bytes
  have hr := B.returns
  have hts0 := atoms_spec (ws := ws_lch) B.pre
  have hts : ∀ w ∈ uw, w.before _ s = true := fun w hw => hts0 w (List.mem_cons_of_mem _ hw)
  have hown : s.vm.findClass "java/lang/StringLatin1" = some m.cls := findClass_of_methodNamed B.named
  have hlocks := B.notSynchronized
  have hS : va_S nw s.heap s.heap [] := va_S.rf
  rw [lg_entry_eq]
  have hl := lv_entry ([.ref sv, .int x]) (n := 2) (Nat.le_of_ble_eq_true rfl)
  generalize (lg_sl ([.ref sv, .int x]) ++ List.replicate (2 - (lg_sl ([.ref sv, .int x])).length) Slot.unset).toArray = ls at hl ⊢
  obtain ⟨g1, g2, g3⟩ := sw_in95 hin
  refine lv_iload_n hx hb ds_lch_0 rfl (lv_at hl 1 rfl) ?_
  refine lv_aload_n hx hb ds_lch_1 rfl (lv_at hl 0 rfl) ?_
  refine va_tlen (v := 95) hx hb hZ.2.2.2.2.1 hS (by decide) ds_lch_2 ?_
  refine W.callX (W.runS (As := [.int x, .int 95]) (rest := []) ⟨hx, hb, hml, hown, hts⟩ (cm_chk l sa sv x 95 g1 g2) (va_cwS (ws' := uw) 2 hts (uw_good fun w hw => ?_) rfl rfl rfl (by decide +kernel) ⟨Nat.le_of_ble_eq_true rfl, Nat.le_of_ble_eq_true rfl⟩) ⟨st_bl, fun U hU hW => st_pre hZ _ U hU hW⟩ rfl rfl hl.1 rfl (lv_room (Nat.le_of_ble_eq_true rfl)) ds_lch_3 ⟨Nat.zero_le _, Nat.zero_le _⟩) (fun _ h => h.elim) (fun v st₀ t h0 hq => ?_)
  · rcases List.mem_append.mp hw with h | h
    · simp only [List.mem_cons, List.not_mem_nil, or_false] at h
      rcases h with rfl | rfl | rfl
      · exact lk_chk
      · exact sm_chk
      · exact wsn_chk
    · exact wsi_chk w h
  obtain ⟨hv, hh⟩ := hq
  cases hv
  rw [hh, h0]
  refine lv_aload_n hx hb ds_lch_6 rfl (lv_at hl 0 rfl) ?_
  refine lv_iload_n hx hb ds_lch_7 rfl (lv_at hl 1 rfl) ?_
  refine va_tb hx hb hZ.2.2.2.2.1 hS hin rfl ds_lch_8 ?_
  refine lv_sipush (v := 255) hx hb ds_lch_9 (by decide) ?_
  refine lv_iand hx hb ds_lch_12 ?_
  refine lv_i2c (v := sm_words.getD x.toNatClampNeg 0) hx hb ds_lch_13 (sw_c _ g3).1 ?_
  exact W.zret hx hb hr (sw_c _ g3).2 (fun t ht _ => ⟨rfl, ht⟩) hS.2.2 ds_lch_14
set_option maxRecDepth 100000 in
theorem cm_charAt (l : Launch) (sa sv : Nat) (x : Int32) (hin : vp_in x 95) : Met l ys_charAt ws_charAt ({ frames := 3, cells := 0, slots := 0, locals := 64 } : Room) (va_Pc [.ref sa, .int x] (st_Z sa sv nw)) (QcRead (sm_words.getD x.toNatClampNeg 0)) 0 0 nw := by
  refine Met.ofW (cc := cs_charAt) (maxL := 2) (ret := (some .char)) (by decide) rfl ?_
  intro p e s m args below meth c s₁ B hml hv
  obtain ⟨rfl, hZ⟩ := hv
  have hx := B.exec
  have hb := B.bytes
  have hr := B.returns
  have hts0 := atoms_spec (ws := ws_charAt) B.pre
  have hts : ∀ w ∈ uw, w.before _ s = true := fun w hw => hts0 w (List.mem_cons_of_mem _ hw)
  have hown : s.vm.findClass "java/lang/String" = some m.cls := findClass_of_methodNamed B.named
  have hlocks := B.notSynchronized
  have hS : va_S nw s.heap s.heap [] := va_S.rf
  rw [lg_entry_eq]
  have hl := lv_entry ([.ref sa, .int x]) (n := 2) (Nat.le_of_ble_eq_true rfl)
  generalize (lg_sl ([.ref sa, .int x]) ++ List.replicate (2 - (lg_sl ([.ref sa, .int x])).length) Slot.unset).toArray = ls at hl ⊢
  obtain ⟨g1, g2, g3⟩ := sw_in95 hin
  refine lv_aload_n hx hb ds_charAt_0 rfl (lv_at hl 0 rfl) ?_
  refine W.callR (W.runV (As := []) (rest := []) (C := "java/lang/String") (b := sa) ⟨hx, hb, hml, hown, hts⟩ (cm_isl l sa sv) (cwV (ws' := uw) 0 hts (uw_good fun w hw => ?_) rfl rfl rfl (by decide +kernel) ⟨Nat.le_of_ble_eq_true rfl, Nat.le_of_ble_eq_true rfl⟩) ⟨st_bl, ?_, fun U hU hW => st_pre hZ _ U hU hW⟩ rfl rfl hl.1 rfl (lv_room (Nat.le_of_ble_eq_true rfl)) ds_charAt_1 ⟨Nat.zero_le _, Nat.zero_le _⟩) ?_
  · rcases List.mem_append.mp hw with h | h
    · simp only [List.mem_cons, List.not_mem_nil, or_false] at h
      rcases h with rfl | rfl | rfl | rfl
      · exact lk_isl
      · exact im_isl
      · exact se_isl
      · exact wsn_isl
    · exact wsi_isl w h
  · obtain ⟨cell, g1, g2, g3, -⟩ := hZ.2.1
    exact ⟨cell, g1, g2, g3⟩
  refine W.eq (g2 := F0 m 4 ls [.int 1]) rfl ?_
  refine lv_if_eq (tgt := 16) hx hb ds_charAt_4 (by decide) (fun h => absurd h (by decide)) (fun _ => ?_)
  refine lv_aload_n hx hb ds_charAt_7 rfl (lv_at hl 0 rfl) ?_
  refine vk_getf hx hb hZ.2.2.2.1 hS hown (hts _ lk_val) (fun _ h => h) ds_charAt_8 ?_
  refine lv_iload_n hx hb ds_charAt_11 rfl (lv_at hl 1 rfl) ?_
  refine W.callR (W.runS (As := [.ref sv, .int x]) (rest := []) ⟨hx, hb, hml, hown, hts⟩ (cm_lch l sa sv x hin) (va_cwS (ws' := uw) 2 hts (uw_good fun w hw => ?_) rfl rfl rfl (by decide +kernel) ⟨Nat.le_of_ble_eq_true rfl, Nat.le_of_ble_eq_true rfl⟩) ⟨st_bl, fun U hU hW => st_pre hZ _ U hU hW⟩ rfl rfl hl.1 rfl (lv_room (Nat.le_of_ble_eq_true rfl)) ds_charAt_12 ⟨Nat.zero_le _, Nat.zero_le _⟩) ?_
  · rcases List.mem_append.mp hw with h | h
    · simp only [List.mem_cons, List.not_mem_nil, or_false] at h
      rcases h with rfl | rfl | rfl
      · exact lk_lch
      · exact sm_lch
      · exact wsn_lch
    · exact wsi_lch w h
  exact W.zret hx hb hr (sw_c _ g3).2 (fun t ht _ => ⟨rfl, ht⟩) hS.2.2 ds_charAt_15
end
section
/-! The String's calls as steps of the shadow. -/
theorem st_in {sa sv : Nat} {A : Nat → Prop} {s U : State} {H : Heap} {locs : List Loc} (h : st_Z sa sv A s) (hS : va_S A s.heap H locs) (hU : U.heap = H) (hW : s.WarmedH U.vm) : st_Z sa sv nw U := h.next (fun _ h => h.elim) (fun q h1 h2 => by rw [hU]; exact hS.2.1 q h1 h2) (Or.inr hW)
section SN8
variable {p : Program} {l : Launch} {e : Env} {R : Room} {s : State} {m : MethodId} {args : Array Value} {below : List Frame} {meth : Method} {c : Code} {Q : State → Prop} {D : va_G} {cA : Nat → ClassId} {b sa sv : Nat} {A : Nat → Prop} {z0 w0 : Nat} {ad0 : Nat → Nat} {n0 : Nat} {i pc : Nat} {X : (Nat → Int32) × Nat} {L : sm_L} {st : sm_S} {M : sm_M}
variable {ZS : Nat → (Nat → Prop) → State → Prop}
theorem pm_len (C : sn_C p R s m args meth c D cA A X b ZS i) (hz : st_Z sa sv A s) {ix : Nat} {rest : sm_S} (hd : decode (mb i) pc = .ok (.invokevirtual ix, 3)) (hl : Cond.methodLink (my i).cls ix ys_length ∈ uw) (hf1 : 4 ≤ (mrm i).1) (hf2 : 80 ≤ (mrm i).2) (hcat : sm_cat rest ≤ 8) (hcc : cz M ≤ z0 + R.cells) (hss : sz M ≤ w0 + R.slots)
    (k : sn_J p l e R s m args below meth c Q D cA b sa A z0 w0 ad0 n0 i (pc + 3) L (.int 95 :: rest) M) : sn_J p l e R s m args below meth c Q D cA b sa A z0 w0 ad0 n0 i pc L (.retAddr 2 :: rest) M := by
  obtain ⟨hx, hb, hr0, hlk, hml, hown, hmn, hts, hK, hA, hZ, hfr, hlo⟩ := C
  intro ad ls H locs cells slots h1 h2 hr
  have h8 : ((rest.map (cv ad b sa)).map fun v => v.category).sum ≤ 8 := by rw [cat_sum]; exact hcat
  have h1' := h1.1
  have hS := hr.2.2.2.2.2.2
  refine W.callR (W.runV (As := []) (rest := rest.map (cv ad b sa)) (C := "java/lang/String") (b := sa) (nL := (sm_mi i).2) ⟨hx, hb, hml, hown, hts⟩ (cm_length l sa sv) (cwV (ws' := uw) 0 hts (uw_good fun w hw => ?_) rfl rfl rfl (by decide +kernel) ⟨by show 1 + 1 ≤ _; omega, by show 8 + (1 + 11) + 20 ≤ _; omega⟩) ⟨st_bl, ?_, fun U hU hW => ⟨rfl, st_in hz hS hU hW⟩⟩ rfl rfl hr.1.1 rfl (lv_room h8) hd ⟨by omega, by omega⟩) (k ad ls H locs cells slots h1 h2 (hr.stk (vs_c vv_int (vs_t hr.2.2.1))))
  · rcases List.mem_append.mp hw with h | h
    · simp only [List.mem_cons, List.not_mem_nil, or_false] at h
      rcases h with rfl | rfl | rfl | rfl
      · exact hl
      · exact im_length
      · exact se_length
      · exact wsn_length
    · exact wsi_length w h
  · obtain ⟨cell, g1, g2, g3, g4⟩ := hz.2.1
    exact ⟨cell, by rw [hS.2.1 sa (Array.getElem?_eq_some_iff.mp g1).1 g4]; exact g1, g2, g3⟩
theorem pm_chr (C : sn_C p R s m args meth c D cA A X b ZS i) (hz : st_Z sa sv A s) {ix : Nat} {rest : sm_S} {x : Int32} (hin : vp_in x 95) (hd : decode (mb i) pc = .ok (.invokevirtual ix, 3)) (hl : Cond.methodLink (my i).cls ix ys_charAt ∈ uw) (hf1 : 4 ≤ (mrm i).1) (hf2 : 85 ≤ (mrm i).2) (hcat : sm_cat rest ≤ 8) (hcc : cz M ≤ z0 + R.cells) (hss : sz M ≤ w0 + R.slots)
    (k : sn_J p l e R s m args below meth c Q D cA b sa A z0 w0 ad0 n0 i (pc + 3) L (.int (sm_words.getD x.toNatClampNeg 0) :: rest) M) : sn_J p l e R s m args below meth c Q D cA b sa A z0 w0 ad0 n0 i pc L (.int x :: .retAddr 2 :: rest) M := by
  obtain ⟨hx, hb, hr0, hlk, hml, hown, hmn, hts, hK, hA, hZ, hfr, hlo⟩ := C
  intro ad ls H locs cells slots h1 h2 hr
  have h8 : ((rest.map (cv ad b sa)).map fun v => v.category).sum ≤ 8 := by rw [cat_sum]; exact hcat
  have h1' := h1.1
  have hS := hr.2.2.2.2.2.2
  refine W.callR (W.runV (As := [.int x]) (rest := rest.map (cv ad b sa)) (C := "java/lang/String") (b := sa) (nL := (sm_mi i).2) ⟨hx, hb, hml, hown, hts⟩ (cm_charAt l sa sv x hin) (cwV (ws' := uw) 1 hts (uw_good fun w hw => ?_) rfl rfl rfl (by decide +kernel) ⟨by show 3 + 1 ≤ _; omega, by show 8 + (2 + 11) + 64 ≤ _; omega⟩) ⟨st_bl, ?_, fun U hU hW => ⟨rfl, st_in hz hS hU hW⟩⟩ rfl rfl hr.1.1 rfl (lv_room h8) hd ⟨by omega, by omega⟩) (k ad ls H locs cells slots h1 h2 (hr.stk (vs_c vv_int (vs_t (vs_t hr.2.2.1)))))
  · rcases List.mem_append.mp hw with h | h
    · simp only [List.mem_cons, List.not_mem_nil, or_false] at h
      rcases h with rfl | rfl | rfl | rfl
      · exact hl
      · exact im_charAt
      · exact se_charAt
      · exact wsn_charAt
    · exact wsi_charAt w h
  · obtain ⟨cell, g1, g2, g3, g4⟩ := hz.2.1
    exact ⟨cell, by rw [hS.2.1 sa (Array.getElem?_eq_some_iff.mp g1).1 g4]; exact g1, g2, g3⟩
end SN8
/-- what lies outside: the String constant; for the law itself, LF -/
def zs (sa sv : Nat) (LF : (Nat → Prop) → State → Prop) (i : Nat) (A : Nat → Prop) (s : State) : Prop := st_Z sa sv A s ∧ (i = 315 → LF A s)
theorem zs_cl (sa sv : Nat) (LF : (Nat → Prop) → State → Prop) : sn_Zcl (zs sa sv LF) := fun i j A A' s U hj h hA hh hs hv => ⟨h.1.next hA hh hv, fun e => absurd e hj⟩
theorem zs_ldc (l : Launch) (X : (Nat → Int32) × Nat) (D : va_G) (cA : Nat → ClassId) (b sa sv : Nat) (LF : (Nat → Prop) → State → Prop) : sn_ldcs l X D cA b sa (zs sa sv LF) := by
  intro p e R s m args below meth c Q A z0 w0 ad0 n0 i pc L st M C hd hcls k
  obtain ⟨hx, hb, hr0, hlk, hml, hown, hmn, hts, hK, hA, hZ, hfr, hlo⟩ := C
  intro ad ls H locs cells slots h1 h2 hr
  exact va_ldcS hx hb (own := "PowersHouse$Tape") (by rw [← hcls]; exact hown) hZ.2.2.2.2.1.1 hd (k ad ls H locs cells slots h1 h2 (hr.stk (vs_c vv_ra hr.2.2.1)))
/-- the law's look: as a rule, still to be proved -/
def sn_lookr (l : Launch) (X : (Nat → Int32) × Nat) (D : va_G) (cA : Nat → ClassId) (b sa : Nat) (ZS : Nat → (Nat → Prop) → State → Prop) : Prop := ∀ (p : Program) (e : Env) (R : Room) (s : State) (m : MethodId) (args : Array Value) (below : List Frame) (meth : Method) (c : Code) (Q : State → Prop) (A : Nat → Prop) (z0 w0 : Nat) (ad0 : Nat → Nat) (n0 pc : Nat) (L : sm_L) (M M1 : sm_M) (as rest : List Value) (c0 : sm_C) (v : Option Value),
  sn_C p R s m args meth c D cA A X b ZS 315 → decode (mb 315) pc = .ok (.invokestatic 171, 3) → sm_cat rest ≤ 8 → sm_look as M = some (c0, v, M1) → cz M1 ≤ z0 + R.cells → sz M1 ≤ w0 + R.slots → sn_J p l e R s m args below meth c Q D cA b sa A z0 w0 ad0 n0 315 (pc + 3) L (v.toList ++ rest) M1 → sn_J p l e R s m args below meth c Q D cA b sa A z0 w0 ad0 n0 315 pc L (as.reverse ++ rest) M
set_option maxHeartbeats 2000000 in
theorem zs_prims {l : Launch} {X : (Nat → Int32) × Nat} {D : va_G} {cA : Nat → ClassId} {b sa sv : Nat} {LF : (Nat → Prop) → State → Prop} (hlook : sn_lookr l X D cA b sa (zs sa sv LF)) : sn_prims l X D cA b sa (zs sa sv LF) := by
  intro p e R s m args below meth c Q A z0 w0 ad0 n0 i pc L M M1 j as rest c0 v C hcf h900 hp h0 hcc hss k
  obtain ⟨hc8, -, nn, cd, ix, hln, hk⟩ := hcf
  have hz : st_Z sa sv A s := C.2.2.2.2.2.2.2.2.2.2.1.2.2.2.2.1
  have hkp : (∃ pp, kp i j nn cd pp ix = true) ∧ ((j ≤ 901 ∧ decode (mb i) pc = .ok (.invokevirtual ix, 3)) ∨ (902 ≤ j ∧ decode (mb i) pc = .ok (.invokestatic ix, 3))) := by
    rcases hk with ⟨-, -, h1, h2⟩ | ⟨hkc, -⟩
    · exact ⟨h1, h2⟩
    · simp only [kc, Bool.and_eq_true, decide_eq_true_eq, Bool.or_eq_true] at hkc
      omega
  obtain ⟨⟨pp, hkp⟩, hd⟩ := hkp
  simp only [kp, Bool.and_eq_true, decide_eq_true_eq] at hkp
  obtain ⟨-, hkp⟩ := hkp
  split at hkp
  · simp only [Bool.and_eq_true, decide_eq_true_eq] at hkp
    have hd : decode (mb i) pc = .ok (.invokevirtual ix, 3) := hd.elim (fun h => h.2) (fun h => by have := h.1; omega)
    simp only [sm_prim, show Nat.beq 900 900 = true from rfl, cond_true] at hp
    split at hp
    · rename_i z
      cases hz2 : Nat.beq z 2 with
      | false => rw [hz2] at hp; cases hp
      | true =>
        rw [hz2] at hp
        have e2 := Nat.eq_of_beq_eq_true hz2
        subst e2
        cases hp
        exact pm_len C hz hd (wi_in hkp.1.1.2) hkp.1.2 hkp.2 hc8 hcc hss k
    · cases hp
  · simp only [Bool.and_eq_true, decide_eq_true_eq] at hkp
    have hd : decode (mb i) pc = .ok (.invokevirtual ix, 3) := hd.elim (fun h => h.2) (fun h => by have := h.1; omega)
    simp only [sm_prim, show Nat.beq 901 900 = false from rfl, show Nat.beq 901 901 = true from rfl, cond_true, cond_false] at hp
    split at hp
    · rename_i z x
      cases hz2 : Nat.beq z 2 with
      | false => rw [hz2] at hp; cases hp
      | true =>
        rw [hz2] at hp
        have e2 := Nat.eq_of_beq_eq_true hz2
        subst e2
        cases hp
        exact pm_chr C hz h0 hd (wi_in hkp.1.1.2) hkp.1.2 hkp.2 hc8 hcc hss k
    · cases hp
  · simp only [Bool.and_eq_true, decide_eq_true_eq] at hkp
    obtain ⟨⟨-, rfl⟩, rfl⟩ := hkp
    have hd : decode (mb 315) pc = .ok (.invokestatic 171, 3) := hd.elim (fun h => by have := h.1; omega) (fun h => h.2)
    have hp : sm_look as M = some (c0, v, M1) := hp
    exact hlook p e R s m args below meth c Q A z0 w0 ad0 n0 pc L M M1 as rest c0 v C hd hc8 hp hcc hss k
  · simp only [Bool.and_eq_true, decide_eq_true_eq] at hkp
    have hd : decode (mb i) pc = .ok (.invokestatic ix, 3) := hd.elim (fun h => by have := h.1; omega) (fun h => h.2)
    simp only [sm_prim, show Nat.beq 903 900 = false from rfl, show Nat.beq 903 901 = false from rfl, show Nat.beq 903 903 = true from rfl, cond_true, cond_false] at hp
    split at hp
    · cases hp
      exact pm_max C hd (wi_in hkp.1.1.2) hkp.1.2 hkp.2 hc8 hcc hss k
    · cases hp
  · simp only [Bool.and_eq_true, decide_eq_true_eq] at hkp
    have hd : decode (mb i) pc = .ok (.invokestatic ix, 3) := hd.elim (fun h => by have := h.1; omega) (fun h => h.2)
    simp only [sm_prim, show Nat.beq 904 900 = false from rfl, show Nat.beq 904 901 = false from rfl, show Nat.beq 904 903 = false from rfl, show Nat.beq 904 904 = true from rfl, cond_true, cond_false] at hp
    split at hp
    · cases hp
      exact pm_min C hd (wi_in hkp.1.1.2) hkp.1.2 hkp.2 hc8 hcc hss k
    · cases hp
  · simp only [Bool.and_eq_true, decide_eq_true_eq] at hkp
    have hd : decode (mb i) pc = .ok (.invokestatic ix, 3) := hd.elim (fun h => by have := h.1; omega) (fun h => h.2)
    simp only [sm_prim, show Nat.beq 905 900 = false from rfl, show Nat.beq 905 901 = false from rfl, show Nat.beq 905 903 = false from rfl, show Nat.beq 905 904 = false from rfl, show Nat.beq 905 905 = true from rfl, cond_true, cond_false] at hp
    split at hp
    · cases hp
      exact pm_abs C hd (wi_in hkp.1.1.2) hkp.1.2 hkp.2 hc8 hcc hss k
    · cases hp
  · cases hkp
end
section
/-! THE CLAIM OUT OF ONE WALK OF THE LAW'S BODY. Your part is whole_start (and what it stands on); all else here is the same for every law, but numbers. -/
def R_law : String := "PowersHouseLaw"
def lw_P (b : Addr) (xs : List Int32) (args : Array Value) (s : State) : Prop := args = #[.ref b] ∧ s.IntsAt b xs ∧ xs.length ≤ 3584 ∧ (Jvm.Cond.and given_1 narrow_1).before args s = true
def lw_Q (_ : Array Value) (s : State) (o : Outcome) (t : State) : Prop := o = .returned (some (.int 1)) ∧ Framed s o t [] 601024 7293034
def lw_Z (below : List Frame) (a : Array Value) (s : State) : State → Prop := fun t => ∃ o, t.status = .running ∧ Ended t below o ∧ lw_Q a s o t
/-- the law's own end, with 1 on the stack, nothing written that was there before, its room as the claim has it -/
theorem lw_ret {p : Program} {l : Launch} {e : Env} {s : State} {m : MethodId} {below : List Frame} {meth : Method} {c : Code} {b : Nat} (hx : p.tables.exec = Jvm.exec) (hb : c.code = code) (hr : meth.sig.returnType = ret) (hlocks : meth.locks = false) {pc : Nat} {H : Heap} {ls : Array Slot} (hdg : decode code pc = .ok (.ireturn, 1)) : W p l e room_1 s m #[Value.ref b] below meth c H [] 601024 7293034 (lw_Z below #[Value.ref b] s) (F0 m pc ls [.int 1]) := by
  intro T hT X
  obtain ⟨fs, hret, hrun, hended, hW, hframe⟩ := X.leave (v := some (.int 1)) (hlocks := hlocks) (fun h => by rw [hr] at h; cases h)
  have hmeth' : T.vm.method? m = some meth := X.method'
  refine ⟨T.setFrames fs, ?_, .returned (some (.int 1)), hrun, hended, rfl, ⟨_, rfl⟩, hW, hframe⟩
  jvm_step X.here [X.here.top, hx, hb, hdg, hmeth', hr, ret, narrow_b1]
  (try refine ⟨rfl, ?_⟩); (try refine ⟨rfl, ?_⟩)
  first | (intro acts; rw [hret _ acts rfl rfl rfl]) | rw [hret _ _ rfl rfl rfl]
  exact Steps.refl _
/-- what holds at the law's entry: the machine, the code, the tables' words (any of lw_tbl by 'hts w (by decide +kernel)'), the script of L ints xs at the cell b, what the Statement gives of the start (any of its parts by flat_of_before) -/
def lw_At (p : Program) (s : State) (m : MethodId) (meth : Method) (c : Code) (b L : Nat) (xs : Nat → Int32) : Prop :=
  p.tables.exec = Jvm.exec ∧ c.code = code ∧ meth.sig.returnType = ret ∧ c.maxLocals = 7 ∧ s.vm.findClass R_law = some m.cls ∧ (∀ w ∈ lw_tbl, w.before #[Value.ref b] s = true) ∧ va_X b L xs s s.heap ∧ b < s.heap.size ∧ meth.locks = false ∧ (Jvm.Cond.and given_1 narrow_1).before #[Value.ref b] s = true ∧ meth.name = "law"
end
section
/-! The claim out of a run of the shadow from the empty memory. -/
def sM00 : sm_M := ([], (0, 0), fun _ _ => 0, fun _ _ => 0, [])
/-- what is to be shown of the shadow: the law's run ends with 1, in the room -/
def law_wp (X : (Nat → Int32) × Nat) : Prop := sm_wp X 315 0 [some (.retAddr 1), none, none, none, none, none, none] [] sM00 (fun v M' => v = some (.int 1) ∧ cz M' ≤ 601024 ∧ sz M' ≤ 7293034)
theorem law_cls {s : State} {args : Array Value} (hts : ∀ w ∈ uw, w.before args s = true) : ∃ D : va_G, ∀ (k : Nat) (q : vw_C), cl_all[k]? = some q → u_Kn s q.1 q.2.1 q.2.2 (D.1 k) (D.2 k) := by
  have h : ∀ k, ∃ z : ClassId × (Nat → Nat), k < 13 → u_Kn s (cl_at k).1 (cl_at k).2.1 (cl_at k).2.2 z.1 z.2 := by
    intro k
    by_cases hk : k < 13
    · have hc := List.all_eq_true.mp lkc_all k (List.mem_range.mpr hk)
      simp only [Bool.and_eq_true] at hc
      obtain ⟨cC, iS, hn⟩ := u_known (C := (cl_at k).1) (T := (cl_at k).2.1) (N := (cl_at k).2.2) (n := (cl_at k).2.2) hts (cl_in hk) (hts _ (wi_in hc.1))
      exact ⟨(cC, iS), fun _ => hn⟩
    · exact ⟨(0, fun _ => 0), fun h => absurd h hk⟩
  refine ⟨(fun k => (Classical.choose (h k)).1, fun k => (Classical.choose (h k)).2), fun k q hq => ?_⟩
  have hk : k < 13 := (List.getElem?_eq_some_iff.mp hq).1
  have e := (cl_get hk).symm.trans hq
  have e : ((cl_at k).1, (cl_at k).2.1, (cl_at k).2.2) = q := Option.some.inj e
  rw [← e]
  exact Classical.choose_spec (h k) hk
theorem law_arr {s : State} {args : Array Value} {ty : FieldType} (h : (Cond.arrayClass ty).before args s = true) : ∃ cA : ClassId, s.vm.findClass ("[" ++ ty.toString) = some cA ∧ ArrOfT s cA ty := by
  obtain ⟨cA, kA, comp, h1, h2, h3⟩ := Cond.arrayClass_spec h
  exact ⟨cA, h1, fun n z => ⟨fun k h => (by cases h), kA, h2, comp, h3⟩⟩
theorem law_tys {s : State} {args : Array Value} (hts : ∀ w ∈ uw, w.before args s = true) : ∃ cA : Nat → ClassId, ∀ (k : Nat) (q : ClassId × FieldType), (sn_ty cA)[k]? = some q → ArrOfT s q.1 q.2 ∧ va_RA s q.1 q.2 := by
  obtain ⟨c0, a0, b0⟩ := law_arr (hts _ (arr_in .int (by decide)))
  obtain ⟨c1, a1, b1⟩ := law_arr (hts _ (arr_in .boolean (by decide)))
  obtain ⟨c2, a2, b2⟩ := law_arr (hts _ (arr_in .byte (by decide)))
  obtain ⟨c3, a3, b3⟩ := law_arr (hts _ (arr_in .long (by decide)))
  refine ⟨fun t => if t = 100 then c0 else if t = 101 then c1 else if t = 102 then c2 else c3, fun k q hq => ?_⟩
  match k, hq with
  | 0, hq => cases hq; exact ⟨b0, a0⟩
  | 1, hq => cases hq; exact ⟨b1, a1⟩
  | 2, hq => cases hq; exact ⟨b2, a2⟩
  | 3, hq => cases hq; exact ⟨b3, a3⟩
  | k + 4, hq => simp at hq
theorem law_str {s : State} {b : Nat} (hts : ∀ w ∈ lw_tbl, w.before #[Value.ref b] s = true) (hgv : (Jvm.Cond.and given_1 narrow_1).before #[Value.ref b] s = true) : ∃ sa sv, st_Z sa sv (fun q => s.heap.size ≤ q) s := by
  have hs := flat_of_before _ hgv
  have hA : ∀ a : Nat, a < s.heap.size → ¬ s.heap.size ≤ a := fun a h => Nat.not_le.mpr h
  have hel : ∀ j : Nat, j < 95 → (Cond.eq (.elem (.field (.string "PowersHouse$Tape" 64) "java/lang/String" "value" "[B") (.int (Int32.ofNat j))) (.int (sm_words.getD j 0))).before #[Value.ref b] s = true := by
    have hh : (List.range 95).all (fun j => decide (Cond.eq (.elem (.field (.string "PowersHouse$Tape" 64) "java/lang/String" "value" "[B") (.int (Int32.ofNat j))) (.int (sm_words.getD j 0)) ∈ flatC (Jvm.Cond.and given_1 narrow_1))) = true := by decide +kernel
    exact fun j hj => hs _ (of_decide_eq_true (List.all_eq_true.mp hh j (List.mem_range.mpr hj)))
  obtain ⟨adK, adV, hK, hV⟩ := vk_Sof (args := #[Value.ref b]) (s := s) (N := 1) (tm := fun _ => .string "PowersHouse$Tape" 64) (len := [95]) (byt := [sm_words]) (A := fun q => s.heap.size ≤ q)
    (fun i hi => by
      have : i = 0 := by omega
      subst this
      decide) (fun i _ => hs _ (by decide +kernel)) (fun i _ => hs _ (by decide +kernel)) (fun i _ => hs _ (by decide +kernel)) (fun i hi => by
      have : i = 0 := by omega
      subst this
      exact hs _ (by decide +kernel)) (fun i hi j hj => by
      have : i = 0 := by omega
      subst this
      exact hel j hj) (fun i j hi hj hne => by omega) hA
  obtain ⟨k1, k2, k3, k4⟩ := hK.1 0 (by decide)
  refine ⟨adK 0, adV 0, vk_R.of (hts _ (List.mem_of_getElem? (i := 664) (by decide +kernel))) (hV 0 (by decide)), k1, k2, k3, k4, ?_, ?_⟩
  · exact va_Zof (hts _ (List.mem_of_getElem? (i := 674) (by decide +kernel))) (hts _ (List.mem_of_getElem? (i := 134) (by decide +kernel))) (va_eqi (hs (.eq (.static "java/lang/String" "COMPACT_STRINGS" "Z") (.int 1)) (by decide +kernel))) hA
  · exact va_Zqof (hts _ (List.mem_of_getElem? (i := 690) (by decide +kernel))) (hts _ (List.mem_of_getElem? (i := 136) (by decide +kernel))) (hs _ (by decide +kernel)) hA
/-- what the law knows at its start -/
def law_F (b : Nat) (A : Nat → Prop) (s : State) : Prop := A = (fun q => s.heap.size ≤ q) ∧ (∀ w ∈ lw_tbl, w.before #[Value.ref b] s = true) ∧ (Jvm.Cond.and given_1 narrow_1).before #[Value.ref b] s = true
set_option maxHeartbeats 4000000 in
theorem whole_of {p : Program} {e : Env} {s : State} {m : MethodId} {below : List Frame} {meth : Method} {c : Code} (l : Launch) {b L : Nat} {xs : Nat → Int32} (C0 : lw_At p s m meth c b L xs) (hmain : law_wp (xs, L)) (hlook : ∀ (D : va_G) (cA : Nat → ClassId) (sa sv : Nat), sn_lookr l (xs, L) D cA b sa (zs sa sv (law_F b))) : W p l e room_1 s m #[Value.ref b] below meth c s.heap [] 0 0 (lw_Z below #[Value.ref b] s) (entryFrame m ([Value.ref b] : List Value).toArray 7) := by
  obtain ⟨hx, hb, hr, hml, hown, hts, hX, hbl, hlocks, hgv, hnm⟩ := C0
  have htu : ∀ w ∈ uw, w.before #[Value.ref b] s = true := fun w hw => hts w (List.mem_filter.mp hw).1
  obtain ⟨D, hD⟩ := law_cls htu
  obtain ⟨cA, hcA⟩ := law_tys htu
  obtain ⟨sa, sv, hst⟩ := law_str hts hgv
  obtain ⟨n, v, M', hrun, rfl, hcz, hsz⟩ := hmain
  have C : sn_C p room_1 s m #[Value.ref b] meth c D cA (fun q => s.heap.size ≤ q) (xs, L) b (zs sa sv (law_F b)) 315 :=
    ⟨hx, hb, hr, hlocks, hml, hown, hnm, htu, ⟨hD, hcA⟩, fun _ h => h, ⟨hX, hbl, Nat.not_le.mpr hbl, fun w hw hn => va_Nw.of (by cases w <;> first | rfl | cases hn) (hts w hw), hst, fun _ => ⟨rfl, hts, hgv⟩⟩, by decide, by decide⟩
  rw [lg_entry_eq]
  have hl := lv_entry ([Value.ref b]) (n := 7) (Nat.le_of_ble_eq_true rfl)
  refine snd (zs_cl sa sv (law_F b)) (zs_ldc l (xs, L) D cA b sa sv (law_F b)) (zs_prims (hlook D cA sa sv)) n 315 0 _ [] sM00 _ M' hrun (by decide) (by decide) p e room_1 s m #[Value.ref b] below meth c _ (fun q => s.heap.size ≤ q) 0 0 (fun _ => 0) 0 C (by rw [Nat.zero_add]; exact hcz) (by rw [Nat.zero_add]; exact hsz) ?_ (fun _ => 0) _ s.heap [] 0 0 ⟨rfl, Nat.le_refl _, fun _ h => absurd h (Nat.not_lt_zero _)⟩ rfl ⟨hl, ?_, vs_nil, ⟨rfl, fun k h => absurd h (Nat.not_lt_zero _), fun k j r h => (by simp [sM00, sm_rw, sm_on] at h), fun _ _ _ => ⟨rfl, rfl⟩⟩, fun k q h => (by simp [sn_W, sM00] at h), ⟨fun i j p q h => (by simp [sn_W, sM00] at h), fun k q h => (by simp [sn_W, sM00] at h)⟩, va_S.rf⟩
  · intro pc' L' hrt ad' ls' H' locs' cells' slots' h1 h2 hr'
    have hd : decode code pc' = .ok (.ireturn, 1) := by
      rcases hrt with ⟨h, -⟩ | ⟨x, -, h, -⟩ | ⟨x, h, -⟩
      · cases h
      · exact h
      · cases h
    have h1' := h1.1
    refine va_forget (fun q hq => hr'.2.2.2.2.2.2.2.2 q hq) ?_
    refine W.widen (k := 601024) (n := 7293034) (by omega) (by omega) ?_
    exact lw_ret hx hb hr hlocks hd
  · intro k w hk
    match k, hk with
    | 0, hk => cases hk; exact vv_ra
    | 1, hk => cases hk
    | 2, hk => cases hk
    | 3, hk => cases hk
    | 4, hk => cases hk
    | 5, hk => cases hk
    | 6, hk => cases hk
    | k + 7, hk => cases hk
end
