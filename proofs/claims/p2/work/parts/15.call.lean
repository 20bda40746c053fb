/-! Calls, and the whole run. -/
/-- a return of v at pc -/
def sn_rt (i pc : Nat) (v : Option Value) : Prop := (v = none ∧ decode (mb i) pc = .ok (.return_, 1) ∧ mr i = none) ∨ (∃ x, v = some (.int x) ∧ decode (mb i) pc = .ok (.ireturn, 1) ∧ (mr i = some .int ∨ (mr i = some .boolean ∧ sm_zb x))) ∨ (∃ x, v = some (.long x) ∧ decode (mb i) pc = .ok (.lreturn, 1) ∧ mr i = some .long)
/-- from a run of n steps to the machine -/
def sn_IH (l : Launch) (X : (Nat → Int32) × Nat) (D : va_G) (cA : Nat → ClassId) (b sa : Nat) (ZS : Nat → (Nat → Prop) → State → Prop) (n : Nat) : Prop :=
  ∀ (i pc : Nat) (L : sm_L) (st : sm_S) (M : sm_M) (v : Option Value) (M' : sm_M), sm_run X n i pc L st M = some (v, M') → i < 316 → i ≠ 205 → ∀ (p : Program) (e : Env) (R : Room) (s : State) (m : MethodId) (args : Array Value) (below : List Frame) (meth : Method) (c : Code) (Q : State → Prop) (A : Nat → Prop) (z0 w0 : Nat) (ad0 : Nat → Nat) (n0 : Nat),
    sn_C p R s m args meth c D cA A X b ZS i → cz M' ≤ z0 + R.cells → sz M' ≤ w0 + R.slots → (∀ pc' L', sn_rt i pc' v → sn_J p l e R s m args below meth c Q D cA b sa A z0 w0 ad0 n0 i pc' L' v.toList M') → sn_J p l e R s m args below meth c Q D cA b sa A z0 w0 ad0 n0 i pc L st M
def sn_Pc (X : (Nat → Int32) × Nat) (D : va_G) (cA : Nat → ClassId) (b sa : Nat) (ZS : (Nat → Prop) → State → Prop) (ad : Nat → Nat) (M : sm_M) (hz : Nat) : State → Prop := fun U =>
  U.heap.size = hz ∧ va_P D cl_all (sn_W cA ad b sa M) U.heap ∧ va_K D cl_all (sn_ty cA) U ∧ va_D (fun _ => True) (sn_W cA ad b sa M) ∧ sn_Z X b ZS (va_A (sn_W cA ad b sa M) hz) U
def sn_Qc (D : va_G) (cA : Nat → ClassId) (b sa : Nat) (ad : Nat → Nat) (M : sm_M) (hz : Nat) (v : Option Value) (M1 : sm_M) : Array Value → State → Outcome → State → Prop := fun _ st oc t =>
  (∃ ad' : Nat → Nat, (∀ k, k < M.1.length → ad' k = ad k) ∧ M.1.length ≤ M1.1.length ∧ oc = .returned v ∧ (v = none ∨ (∃ x, v = some (.int x)) ∨ ∃ x, v = some (.long x)) ∧ sn_ok M1 ∧ va_P D cl_all (sn_W cA ad' b sa M1) t.heap ∧ va_D (va_A (sn_W cA ad b sa M) hz) (sn_W cA ad' b sa M1)) ∧ va_F (va_A (sn_W cA ad b sa M) hz) st t
theorem lg_sl_len (ad : Nat → Nat) (b sa : Nat) : ∀ as : List Value, (lg_sl (as.map (cv ad b sa))).length = sm_cat as
  | [] => rfl
  | v :: l => by
    have ih := lg_sl_len ad b sa l
    unfold lg_sl at ih ⊢
    rw [List.map_cons, List.flatMap_cons, List.length_append, ih, cv_cat]
    rw [show sm_cat (v :: l) = (bif sm_long (some v) then 2 else 1) + sm_cat l from rfl]
    cases hv : sm_long (some v) with
    | true => rw [if_pos ((sm_long_iff v).mp hv)]; rfl
    | false => rw [if_neg (by rw [(sm_long_not v).mp hv]; decide)]; rfl
theorem cat_sum (ad : Nat → Nat) (b sa : Nat) : ∀ as : List Value, ((as.map (cv ad b sa)).map fun v => v.category).sum = sm_cat as
  | [] => rfl
  | v :: l => by
    rw [List.map_cons, List.map_cons, List.sum_cons, cat_sum ad b sa l, cv_cat]
    rw [show sm_cat (v :: l) = (bif sm_long (some v) then 2 else 1) + sm_cat l from rfl]
    cases hv : sm_long (some v) with
    | true => rw [(sm_long_iff v).mp hv]; rfl
    | false => rw [(sm_long_not v).mp hv]; rfl
set_option maxHeartbeats 4000000 in
theorem sn_met {l : Launch} {X : (Nat → Int32) × Nat} {D : va_G} {cA : Nat → ClassId} {b sa : Nat} {ZS : Nat → (Nat → Prop) → State → Prop} {n : Nat} (ih : sn_IH l X D cA b sa ZS n) {j : Nat} {as : List Value} {M M1 : sm_M} {v : Option Value} (hrun : sm_run X n j 0 (sm_en j as) [] M = some (v, M1)) (hj : j < 316) (hj5 : j ≠ 205) (hpl : plainName (my j).cls = true) (hent : sm_cat as ≤ (sm_mi j).2) (hvs : ∀ w ∈ as, vv M.1.length w) (hok : sn_ok M) (ad : Nat → Nat) (hz : Nat) :
    Met l (my j) (Cond.code (my j) (mb j) (sm_mi j).2 (mr j) :: uw) ({ frames := (mrm j).1, cells := cz M1 - cz M, slots := sz M1 - sz M, locals := (mrm j).2 } : Room) (va_Pc (as.map (cv ad b sa)) (sn_Pc X D cA b sa (ZS j) ad M hz)) (sn_Qc D cA b sa ad M hz v M1) (cz M1 - cz M) (sz M1 - sz M) (va_A (sn_W cA ad b sa M) hz) := by
  refine Met.ofW (cc := mb j) (maxL := (sm_mi j).2) (ret := mr j) hpl rfl ?_
  intro p e s m args below meth c s₁ B hml hv
  obtain ⟨rfl, hsz, hP, hK, hD0, hZ⟩ := hv
  subst hsz
  have hts := atoms_spec (ws := (Cond.code (my j) (mb j) (sm_mi j).2 (mr j) :: uw)) B.pre
  rw [lg_entry_eq]
  have hl := lv_entry (as.map (cv ad b sa)) (n := (sm_mi j).2) (by rw [lg_sl_len]; exact hent)
  have hC : sn_C p (headSpec (Cond.code (my j) (mb j) (sm_mi j).2 (mr j) :: uw) ({ frames := (mrm j).1, cells := cz M1 - cz M, slots := sz M1 - sz M, locals := (mrm j).2 } : Room)).room s m (as.map (cv ad b sa)).toArray meth c D cA (va_A (sn_W cA ad b sa M) s.heap.size) X b ZS j :=
    ⟨B.exec, B.bytes, B.returns, B.notSynchronized, hml, findClass_of_methodNamed B.named, (name_of_methodNamed B.named B.method).1, fun w hw => hts w (List.mem_cons_of_mem _ hw), hK, fun q h => Or.inr h, hZ, Nat.le_refl _, Nat.le_refl _⟩
  refine ih j 0 (sm_en j as) [] M v M1 hrun hj hj5 p e _ s m _ below meth c _ (va_A (sn_W cA ad b sa M) s.heap.size) (cz M) (sz M) ad M.1.length hC (show cz M1 ≤ cz M + (cz M1 - cz M) by omega) (show sz M1 ≤ sz M + (sz M1 - sz M) by omega) ?_ ad _ s.heap [] 0 0 ⟨by omega, Nat.le_refl _, fun _ _ => rfl⟩ (by omega) ⟨lv_less hl ?_, ?_, vs_nil, hok, hP, hD0.self, va_S.rf⟩
  · intro pc' L' hrt ad' ls' H' locs' cells' slots' h1 h2 hr
    have e1 : cells' = cz M1 - cz M := by have := h1.1; omega
    have e2 : slots' = sz M1 - sz M := by omega
    subst e1; subst e2
    have hpv : v = none ∨ (∃ x, v = some (.int x)) ∨ ∃ x, v = some (.long x) := by
      rcases hrt with ⟨h, -⟩ | ⟨x, h, -⟩ | ⟨x, h, -⟩
      · exact Or.inl h
      · exact Or.inr (Or.inl ⟨x, h⟩)
      · exact Or.inr (Or.inr ⟨x, h⟩)
    have hq : ∀ t : State, t.heap = H' → sn_Qc D cA b sa ad M s.heap.size v M1 (as.map (cv ad b sa)).toArray s (.returned v) t := fun t ht => ⟨⟨ad', h1.2.2, h1.2.1, rfl, hpv, hr.2.2.2.1, by rw [ht]; exact hr.2.2.2.2.1, hr.2.2.2.2.2.1⟩, hr.2.2.2.2.2.2.F ht⟩
    have hS := hr.2.2.2.2.2.2.2.2
    rcases hrt with ⟨rfl, hd, hm⟩ | ⟨x, rfl, hd, hm⟩ | ⟨x, rfl, hd, hm⟩
    · exact W.vret B.exec B.bytes (B.returns.trans hm) (fun t ht _ => hq t ht) hS hd B.notSynchronized
    · rcases hm with hm | ⟨hm, hz⟩
      · exact W.iret B.exec B.bytes (B.returns.trans hm) (fun t ht _ => hq t ht) hS hd B.notSynchronized
      · exact W.zret B.exec B.bytes (B.returns.trans hm) (by rcases hz with rfl | rfl <;> decide) (fun t ht _ => hq t ht) hS hd B.notSynchronized
    · exact W.lret B.exec B.bytes (B.returns.trans hm) (fun t ht _ => hq t ht) hS hd B.notSynchronized
  · intro q hq
    obtain ⟨k, w, a1, a2, a3⟩ := (sn_en_mem _ _ _).mp hq
    have := (sm_nth_ent ad b sa as 0 k w (sm_nth_pad _ _ _ _ a2)).1
    rw [← a3] at this
    rw [show q = (0 + k, q.2) from Prod.ext a1 rfl]
    exact this
  · intro k w hk
    exact hvs w (sm_nth_ent ad b sa as 0 k w (sm_nth_pad _ _ _ _ hk)).2
theorem sm_take_spec : ∀ (n : Nat) (st acc as r : List Value), sm_take n st acc = some (as, r) → ∃ pre, pre.length = n ∧ st = pre ++ r ∧ as = pre.reverse ++ acc
  | 0, st, acc, as, r, h => by
    have h : some (acc, st) = some (as, r) := h
    obtain ⟨rfl, rfl⟩ := Prod.mk.inj (Option.some.inj h)
    exact ⟨[], rfl, rfl, rfl⟩
  | n + 1, [], _, _, _, h => by cases h
  | n + 1, v :: st, acc, as, r, h => by
    obtain ⟨pre, h1, h2, h3⟩ := sm_take_spec n st (v :: acc) as r h
    exact ⟨v :: pre, by simp [h1], by simp [h2], by simp [h3]⟩
theorem uw_good {l : List Cond} (h : ∀ w ∈ l, w ∈ uw) : GoodIn uw l := fun w hw => ⟨h w hw, good_of_word (List.mem_filter.mp (h w hw)).2⟩
/-- what ZS must keep -/
def sn_Zcl (ZS : Nat → (Nat → Prop) → State → Prop) : Prop := ∀ (i j : Nat) (A A' : Nat → Prop) (s U : State), j ≠ 315 → ZS i A s → (∀ q, A' q → A q) → (∀ q : Nat, q < s.heap.size → ¬ A q → U.heap[q]? = s.heap[q]?) → s.heap.size ≤ U.heap.size → (U.vm = s.vm ∨ s.WarmedH U.vm) → ZS j A' U
theorem sn_Z.next {X : (Nat → Int32) × Nat} {b : Nat} {ZS : Nat → (Nat → Prop) → State → Prop} (hcl : sn_Zcl ZS) {i j : Nat} (hj : j ≠ 315) {A A' : Nat → Prop} {s U : State} (h : sn_Z X b (ZS i) A s) (hA : ∀ q, A' q → A q) (hh : ∀ q : Nat, q < s.heap.size → ¬ A q → U.heap[q]? = s.heap[q]?) (hs : s.heap.size ≤ U.heap.size) (hv : U.vm = s.vm ∨ s.WarmedH U.vm) : sn_Z X b (ZS j) A' U := by
  obtain ⟨h1, h2, h3, h4, h5⟩ := h
  have hal : s.vm.Alike U.vm := by
    rcases hv with e | e
    · rw [e]; exact Vm.Alike.refl _
    · exact e.alike
  refine ⟨(h1.moved hal).kept (hh b h2 h3), Nat.lt_of_lt_of_le h2 hs, fun z => h3 (hA b z), fun w hw hn => ?_, hcl i j A A' s U hj h5 hA hh hs hv⟩
  have h6 := h4 w hw hn
  cases w with
  | methodLinkNest a i x g =>
    rcases hv with e | e
    · exact va_Nw.same rfl e.symm h6
    · exact va_Nw.warmM e h6
  | _ => cases hn
section SN5
variable {p : Program} {l : Launch} {e : Env} {R : Room} {s : State} {m : MethodId} {args : Array Value} {below : List Frame} {meth : Method} {c : Code} {Q : State → Prop} {D : va_G} {cA : Nat → ClassId} {b sa : Nat} {A : Nat → Prop} {z0 w0 : Nat} {ad0 : Nat → Nat} {n0 : Nat} {i pc : Nat} {X : (Nat → Int32) × Nat} {L : sm_L} {st : sm_S} {M : sm_M}
variable {ZS : Nat → (Nat → Prop) → State → Prop}
theorem sn_AA {H0 H : Heap} {locs : List Loc} {ws : va_W} (hD : va_D A ws) (hS : va_S A H0 H locs) (hA : ∀ q, H0.size ≤ q → A q) : ∀ q, va_A ws H.size q → A q := by
  rintro q (⟨k, e, h⟩ | h)
  · exact hD.2 k (q, e) h
  · exact hA q (Nat.le_trans hS.1 h)
/-- behind a call -/
theorem sj_after {ad : Nat → Nat} {ls : Array Slot} {H : Heap} {locs : List Loc} {cells slots : Nat} {st0 : List Value} {rest : sm_S} {v : Option Value} {M1 : sm_M} {As : Array Value} (hA : ∀ q, s.heap.size ≤ q → A q) (h1 : sn_cn z0 ad0 n0 ad cells M) (h2 : slots + w0 = sz M) (hr : sn_rel (sm_mi i).2 A s.heap D cA b sa ad ls H locs L rest M) (hcz : cz M ≤ cz M1) (hsz : sz M ≤ sz M1)
    (hrun : va_Run p l e R s m args below meth c H locs cells slots (cz M1 - cz M) (sz M1 - sz M) (F0 m pc ls st0) (rest.map (cv ad b sa)) (sn_Qc D cA b sa ad M H.size v M1 As) (va_A (sn_W cA ad b sa M) H.size))
    (k : sn_J p l e R s m args below meth c Q D cA b sa A z0 w0 ad0 n0 i (pc + 3) L (v.toList ++ rest) M1) : W p l e R s m args below meth c H locs cells slots Q (F0 m pc ls st0) := by
  intro T hT X0
  obtain ⟨v', st₀, t, T', L', h0, X', hL, e1, e2, ⟨⟨ad', hee, hlen, hv, hpl, hok, hP, hD⟩, hz, hk⟩, st⟩ := hrun T hT X0
  cases hv
  rw [h0] at hz hk
  have hS := hr.2.2.2.2.2.2
  have hAA := sn_AA hr.2.2.2.2.2.1 hS hA
  have hvl : ∀ w ∈ v.toList, vv M1.1.length w := by
    rcases hpl with rfl | ⟨x, rfl⟩ | ⟨x, rfl⟩
    · exact vs_nil
    · exact vs_c vv_int vs_nil
    · exact vs_c vv_long vs_nil
  have hvm : v.toList.map (cv ad' b sa) = v.toList := by rcases hpl with rfl | ⟨x, rfl⟩ | ⟨x, rfl⟩ <;> rfl
  have hS' : va_S A s.heap T'.heap (locs ++ L') := ⟨Nat.le_trans hS.1 (by rw [e1]; exact hz), fun q q1 q2 => by rw [e1, hk q (Nat.lt_of_lt_of_le q1 hS.1) (fun z => q2 (hAA q z))]; exact hS.2.1 q q1 q2, fun q hq => by
      rcases List.mem_append.mp hq with h | h
      · exact hS.2.2 q h
      · exact hAA _ (hL q h)⟩
  have kk := k ad' ls T'.heap (locs ++ L') (cells + (cz M1 - cz M)) (slots + (sz M1 - sz M)) ⟨by have := h1.1; omega, Nat.le_trans h1.2.1 hlen, fun z hz => (hee z (Nat.lt_of_lt_of_le hz h1.2.1)).trans (h1.2.2 z hz)⟩ (by omega)
    ⟨by rw [sn_en_ext hee L 0 hr.2.1]; exact hr.1, fun j w hj => vv_mono (hr.2.1 j w hj) hlen, fun w hw => (List.mem_append.mp hw).elim (hvl w) (fun h => vv_mono (hr.2.2.1 w h) hlen), hok, by rw [e1]; exact hP, hD.weaken (fun _ _ _ h => hAA _ h), hS'⟩
  rw [List.map_append, hvm, sn_st_ext hee hr.2.2.1] at kk
  obtain ⟨t2, a1, b1⟩ := kk T' rfl X'
  exact ⟨t2, st t2 a1, b1⟩
theorem sn_blind (hcl : sn_Zcl ZS) {j : Nat} (hj : j ≠ 315) {As : List Value} {ad : Nat → Nat} {hz : Nat} : FrameBlind (va_Pc As (sn_Pc X D cA b sa (ZS j) ad M hz)) := by
  intro a U g mk q
  obtain ⟨q0, q1, qP, qK, qD, qZ⟩ := q
  exact ⟨q0, q1, qP, va_K.moved (u := U) (U := U.calling g mk a) (Vm.Alike.refl U.vm) qK, qD, qZ.next hcl hj (fun _ h => h) (fun _ _ _ => rfl) (Nat.le_refl _) (Or.inl rfl)⟩
theorem sn_pre (hcl : sn_Zcl ZS) {i j : Nat} (hj : j ≠ 315) (hK : va_K D cl_all (sn_ty cA) s) (hA : ∀ q, s.heap.size ≤ q → A q) (hZ : sn_Z X b (ZS i) A s) {ad : Nat → Nat} {nL : Nat} {ls : Array Slot} {H : Heap} {locs : List Loc} (hr : sn_rel nL A s.heap D cA b sa ad ls H locs L st M) (As : List Value) (U : State) (hU : U.heap = H) (hW : s.WarmedH U.vm) : va_Pc As (sn_Pc X D cA b sa (ZS j) ad M H.size) As.toArray U :=
  ⟨rfl, by rw [hU], by rw [hU]; exact hr.2.2.2.2.1, va_K.moved hW.alike hK, hr.2.2.2.2.2.1.weaken (fun _ _ _ _ => trivial), hZ.next hcl hj (sn_AA hr.2.2.2.2.2.1 hr.2.2.2.2.2.2 hA) (fun q h1 h2 => by rw [hU]; exact hr.2.2.2.2.2.2.2.1 q h1 h2) (by rw [hU]; exact hr.2.2.2.2.2.2.1) (Or.inr hW)⟩
/-- a call of a method that is walked -/
theorem sj_call (hcl : sn_Zcl ZS) (C : sn_C p R s m args meth c D cA A X b ZS i) {n : Nat} (ih : sn_IH l X D cA b sa ZS n) {j nn cd ix pp : Nat} {as rest : List Value} {v : Option Value} {M1 : sm_M} (hrun : sm_run X n j 0 (sm_en j as) [] M = some (v, M1)) (hcz : cz M ≤ cz M1) (hsz : sz M ≤ sz M1) (hfc : cz M1 ≤ z0 + R.cells) (hfs : sz M1 ≤ w0 + R.slots) (hj : j < 311 ∨ j = 314) (hj5 : j ≠ 205) (hw : lkw j = true) (hcw : lw_tbl[(mq j).2.1]? = some (.code (my j) (mb j) (sm_mi j).2 (mr j)))
    (hcat : sm_cat rest ≤ 8) (hent : sm_cat as ≤ (sm_mi j).2) (hlen : as.length = nn)
    (hkc : kc i j (bif Nat.beq cd 0 || Nat.beq cd 3 then nn - 1 else nn) = true)
    (hkind : (cd = 0 ∧ decode (mb i) pc = .ok (.invokevirtual ix, 3) ∧ (mq j).1 = 0 ∧ Cond.methodLink (my i).cls ix (my j) ∈ uw ∧ (sm_mi j).1 < 13 ∧ (cl_at (sm_mi j).1).1 = (my j).cls ∧ ∃ o as', as = .ref o :: as' ∧ Nat.beq (sm_kd M.1 o).1 (sm_mi j).1 = true) ∨ (cd = 1 ∧ decode (mb i) pc = .ok (.invokestatic ix, 3) ∧ (mq j).1 = 1 ∧ Cond.methodLink (my i).cls ix (my j) ∈ uw) ∨ (cd = 2 ∧ decode (mb i) pc = .ok (.invokestatic ix, 3) ∧ (mq j).1 = 1 ∧ Cond.methodLinkNest (my i).cls ix (my j) "PowersHouse" ∈ lw_tbl) ∨ (cd = 3 ∧ decode (mb i) pc = .ok (.invokespecial ix, 3) ∧ (mq j).1 = 2 ∧ Cond.methodLink (my i).cls ix (my j) ∈ uw ∧ (my j).name = "<init>" ∧ mr j = none ∧ ∃ o as', as = .ref o :: as'))
    (k : sn_J p l e R s m args below meth c Q D cA b sa A z0 w0 ad0 n0 i (pc + 3) L (v.toList ++ rest) M1) : sn_J p l e R s m args below meth c Q D cA b sa A z0 w0 ad0 n0 i pc L (as.reverse ++ rest) M := by
  obtain ⟨hx, hb, hr0, hlk, hml, hown, hmn, hts, hK, hA, hZ, hfr, hlo⟩ := C
  intro ad ls H locs cells slots h1 h2 hr
  have hj15 : j ≠ 315 := by omega
  have hcode : Cond.code (my j) (mb j) (sm_mi j).2 (mr j) ∈ uw := List.mem_filter.mpr ⟨List.mem_of_getElem? hcw, rfl⟩
  simp only [lkw, Bool.and_eq_true, decide_eq_true_eq] at hw
  obtain ⟨⟨⟨⟨hini, hmh⟩, hvh⟩, hpl⟩, hkd⟩ := hw
  have hini := wi_in hini
  simp only [kc, Bool.and_eq_true, decide_eq_true_eq, Bool.or_eq_true] at hkc
  obtain ⟨⟨⟨⟨-, -⟩, hrf⟩, hrl⟩, hpar⟩ := hkc
  have hrest : ∀ w ∈ rest, vv M.1.length w := fun w hw => hr.2.2.1 w (List.mem_append_right _ hw)
  have has : ∀ w ∈ as, vv M.1.length w := fun w hw => hr.2.2.1 w (List.mem_append_left _ (List.mem_reverse.mpr hw))
  have hmet := sn_met ih hrun (by omega) hj5 hpl hent has hr.2.2.2.1 ad H.size
  have hrr : sn_rel (sm_mi i).2 A s.heap D cA b sa ad ls H locs L rest M := hr.stk hrest
  have hroom : (mrm j).1 + 1 ≤ R.frames ∧ 8 + ((sm_mi j).2 + 11) + (mrm j).2 ≤ R.locals := ⟨by omega, by omega⟩
  have hff : cells + (cz M1 - cz M) ≤ R.cells ∧ slots + (sz M1 - sz M) ≤ R.slots := ⟨by have := h1.1; omega, by omega⟩
  have hW8 : ((rest.map (cv ad b sa)).map fun v => v.category).sum ≤ 8 := by rw [cat_sum]; exact hcat
  have hall : ∀ w ∈ (Cond.code (my j) (mb j) (sm_mi j).2 (mr j) :: uw), w ∈ uw := fun w hw => (List.mem_cons.mp hw).elim (fun e => e ▸ hcode) id
  rcases hkind with ⟨rfl, hd, hq, hlink, h13, hcn, o, as', rfl, hko⟩ | ⟨rfl, hd, hq, hlink⟩ | ⟨rfl, hd, hq, hlink⟩ | ⟨rfl, hd, hq, hlink, hnm, hret, o, as', rfl⟩
  · rw [hq] at hkd
    simp only [Bool.and_eq_true] at hkd
    obtain ⟨ho, -, -, hat⟩ := sn_obj (cA := cA) (ad := ad) (b := b) (sa := sa) hr.2.2.2.1 h13 hko
    have hnn : as'.length = nn - 1 := by rw [← hlen]; simp
    refine sj_after hA h1 h2 hrr hcz hsz (va_runV (Ts := uw) (own := (my i).cls) (C := (my j).cls) (b := ad o) (As := as'.map (cv ad b sa)) (n := as'.length) ⟨hx, hb, hml, hown, hts⟩ hmet (cwV (ws' := uw) as'.length hts (uw_good fun w hw => ?_) rfl rfl rfl ⟨rfl, hmh, hvh, ?_⟩ hroom) ⟨sn_blind hcl hj15, ?_, fun U hU hW => sn_pre hcl hj15 hK hA hZ hr _ U hU hW⟩ rfl (by simp) hr.1.1 (by simp [cv]) (lv_room hW8) hd hff) k
    · rcases List.mem_append.mp hw with h | h
      · simp only [List.mem_cons, List.not_mem_nil, or_false] at h
        rcases h with rfl | rfl | rfl | rfl
        · exact hlink
        · exact wi_in hkd.1
        · exact wi_in hkd.2
        · exact hini
      · exact hall w h
    · rw [hnn]; exact hpar
    · rw [← hcn]
      exact va_recv (q := ((cl_at (sm_mi j).1).1, (cl_at (sm_mi j).1).2.1, (cl_at (sm_mi j).1).2.2)) hK hr.2.2.2.2.1 (cl_get h13) hat
  · rw [hq] at hkd
    refine sj_after hA h1 h2 hrr hcz hsz (va_runS (Ts := uw) (own := (my i).cls) (As := as.map (cv ad b sa)) (n := as.length) ⟨hx, hb, hml, hown, hts⟩ hmet (va_cwS (ws' := uw) as.length hts (uw_good fun w hw => ?_) rfl rfl rfl ⟨hmh, hvh, by rw [hlen]; exact hpar⟩ hroom) ⟨sn_blind hcl hj15, fun U hU hW => sn_pre hcl hj15 hK hA hZ hr _ U hU hW⟩ rfl (by simp) hr.1.1 (by simp) (lv_room hW8) hd hff) k
    rcases List.mem_append.mp hw with h | h
    · simp only [List.mem_cons, List.not_mem_nil, or_false] at h
      rcases h with rfl | rfl | rfl
      · exact hlink
      · exact wi_in hkd
      · exact hini
    · exact hall w h
  · rw [hq] at hkd
    refine sj_after hA h1 h2 hrr hcz hsz (va_runSN (Ts := uw) (own := (my i).cls) (host := "PowersHouse") (As := as.map (cv ad b sa)) (n := as.length) ⟨hx, hb, hml, hown, hts⟩ hmet ⟨va_cnB (ws' := uw) as.length hts (uw_good hall) rfl rfl rfl (hZ.2.2.2.1 _ hlink rfl) (hts _ hini) ⟨hmh, hvh, by rw [hlen]; exact hpar⟩ hroom, hts _ (wi_in hkd), trivial⟩ ⟨sn_blind hcl hj15, fun U hU hW => sn_pre hcl hj15 hK hA hZ hr _ U hU hW⟩ rfl (by simp) hr.1.1 (by simp) (lv_room hW8) hd hff) k
  · rw [hq] at hkd
    have hnn : as'.length = nn - 1 := by rw [← hlen]; simp
    rw [hret] at hmet hcode hall
    refine sj_after hA h1 h2 hrr hcz hsz (va_runI (Ts := uw) (own := (my i).cls) (b := ad o) (As := as'.map (cv ad b sa)) (n := as'.length) ⟨hx, hb, hml, hown, hts⟩ hmet (cwI (ws' := uw) as'.length hts (uw_good hall) rfl rfl rfl (hts _ hini) (hts _ hlink) (hts _ (wi_in hkd)) hnm ⟨hmh, hvh, by rw [hnn]; exact hpar⟩ hroom) ⟨sn_blind hcl hj15, fun U hU hW => sn_pre hcl hj15 hK hA hZ hr _ U hU hW⟩ rfl (by simp) hr.1.1 (by simp [cv]) (lv_room hW8) hd hff) k
end SN5
