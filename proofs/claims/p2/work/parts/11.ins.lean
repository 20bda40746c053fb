/-! Each instruction of the shadow is the machine's. -/
def cz (M : sm_M) : Nat := M.1.length + M.2.1.1
def sz (M : sm_M) : Nat := (M.1.map (fun q => q.2)).sum + M.2.1.2
def sn_cn (z0 : Nat) (ad0 : Nat → Nat) (n0 : Nat) (ad : Nat → Nat) (cells : Nat) (M : sm_M) : Prop := cells + z0 = cz M ∧ n0 ≤ M.1.length ∧ ∀ k, k < n0 → ad k = ad0 k
abbrev sn_ty (cA : Nat → ClassId) : List (ClassId × FieldType) := [(cA 100, .int), (cA 101, .boolean), (cA 102, .byte), (cA 103, .long)]
/-- the words that link across a nest -/
def nestw : Cond → Bool
  | .methodLinkNest _ _ _ _ => true
  | _ => false
/-- what lies outside: the script, the links across the nest, and ZS -/
def sn_Z (X : (Nat → Int32) × Nat) (b : Nat) (ZS : (Nat → Prop) → State → Prop) (A : Nat → Prop) (s : State) : Prop := va_X b X.2 X.1 s s.heap ∧ b < s.heap.size ∧ ¬ A b ∧ (∀ w ∈ lw_tbl, nestw w = true → va_Nw w s) ∧ ZS A s
def sn_C (p : Program) (R : Room) (s : State) (m : MethodId) (args : Array Value) (meth : Method) (c : Code) (D : va_G) (cA : Nat → ClassId) (A : Nat → Prop) (X : (Nat → Int32) × Nat) (b : Nat) (ZS : Nat → (Nat → Prop) → State → Prop) (i : Nat) : Prop :=
  p.tables.exec = Jvm.exec ∧ c.code = mb i ∧ meth.sig.returnType = mr i ∧ meth.locks = false ∧ c.maxLocals = (sm_mi i).2 ∧ s.vm.findClass (my i).cls = some m.cls ∧ meth.name = (my i).name ∧ (∀ w ∈ uw, w.before args s = true) ∧ va_K D cl_all (sn_ty cA) s ∧ (∀ q, s.heap.size ≤ q → A q) ∧ sn_Z X b (ZS i) A s ∧ (mrm i).1 ≤ R.frames ∧ (mrm i).2 ≤ R.locals
def sn_rel (nL : Nat) (A : Nat → Prop) (H0 : Heap) (D : va_G) (cA : Nat → ClassId) (b sa : Nat) (ad : Nat → Nat) (ls : Array Slot) (H : Heap) (locs : List Loc) (L : sm_L) (st : sm_S) (M : sm_M) : Prop :=
  lv_has ls nL (sn_en ad b sa 0 L) ∧ (∀ k v, sm_nth L k = some v → vv M.1.length v) ∧ (∀ v ∈ st, vv M.1.length v) ∧ sn_ok M ∧ va_P D cl_all (sn_W cA ad b sa M) H ∧ va_D A (sn_W cA ad b sa M) ∧ va_S A H0 H locs
def sn_J (p : Program) (l : Launch) (e : Env) (R : Room) (s : State) (m : MethodId) (args : Array Value) (below : List Frame) (meth : Method) (c : Code) (Q : State → Prop) (D : va_G) (cA : Nat → ClassId) (b sa : Nat) (A : Nat → Prop) (z0 w0 : Nat) (ad0 : Nat → Nat) (n0 : Nat) (i pc : Nat) (L : sm_L) (st : sm_S) (M : sm_M) : Prop :=
  ∀ (ad : Nat → Nat) (ls : Array Slot) (H : Heap) (locs : List Loc) (cells slots : Nat), sn_cn z0 ad0 n0 ad cells M → slots + w0 = sz M → sn_rel (sm_mi i).2 A s.heap D cA b sa ad ls H locs L st M → W p l e R s m args below meth c H locs cells slots Q (F0 m pc ls (st.map (cv ad b sa)))
theorem sn_store1 {nL : Nat} {A : Nat → Prop} {H0 : Heap} {D : va_G} {cA : Nat → ClassId} {b sa : Nat} {ad : Nat → Nat} {ls ls2 : Array Slot} {H : Heap} {locs : List Loc} {L : sm_L} {st st' : sm_S} {M : sm_M} {n : Nat} {v : Value} (hr : sn_rel nL A H0 D cA b sa ad ls H locs L st M) (hv : vv M.1.length v) (hst : ∀ w ∈ st', vv M.1.length w)
    (hl : lv_has ls2 nL ((n, cv ad b sa v) :: (sn_en ad b sa 0 L).filter (fun q => !(q.1 == n) && !(q.1 + 1 == n && q.2.category == 2)))) : sn_rel nL A H0 D cA b sa ad ls2 H locs (sm_st1 L n v) st' M := by
  refine ⟨lv_less hl fun q hq => ?_, fun j w hj => ?_, hst, hr.2.2.2⟩
  · obtain ⟨j, w, a1, a2, a3⟩ := (sn_en_mem _ _ _).mp hq
    rw [Nat.zero_add] at a1
    rcases sm_nth_st1 _ _ _ _ _ a2 with ⟨e1, e2⟩ | ⟨e1, e2, e3⟩
    · refine List.mem_cons.mpr (Or.inl (Prod.ext (a1.trans e1) ?_))
      rw [a3, e2]
    · refine List.mem_cons_of_mem _ (List.mem_filter.mpr ⟨(sn_en_mem _ _ _).mpr ⟨j, w, by omega, e2, a3⟩, ?_⟩)
      have h3 : q.2.category = w.category := by rw [a3, cv_cat]
      simp only [a1, h3, Bool.and_eq_true, Bool.not_eq_true', beq_eq_false_iff_ne, ne_eq, Bool.and_eq_false_iff]
      refine ⟨e1, ?_⟩
      by_cases hz : j + 1 = n
      · exact Or.inr fun hc => e3 ⟨hz, hc⟩
      · exact Or.inl hz
  · rcases sm_nth_st1 _ _ _ _ _ hj with ⟨-, e2⟩ | ⟨-, e2, -⟩
    · rw [e2]; exact hv
    · exact hr.2.1 _ _ e2
theorem sn_store2 {nL : Nat} {A : Nat → Prop} {H0 : Heap} {D : va_G} {cA : Nat → ClassId} {b sa : Nat} {ad : Nat → Nat} {ls ls2 : Array Slot} {H : Heap} {locs : List Loc} {L : sm_L} {st st' : sm_S} {M : sm_M} {n : Nat} {x : Int64} (hr : sn_rel nL A H0 D cA b sa ad ls H locs L st M) (hst : ∀ w ∈ st', vv M.1.length w)
    (hl : lv_has ls2 nL ((n, Value.long x) :: (sn_en ad b sa 0 L).filter (fun q => !(q.1 == n) && (!(q.1 == n + 1) && !(q.1 + 1 == n && q.2.category == 2))))) : sn_rel nL A H0 D cA b sa ad ls2 H locs (sm_st2 L n (.long x)) st' M := by
  refine ⟨lv_less hl fun q hq => ?_, fun j w hj => ?_, hst, hr.2.2.2⟩
  · obtain ⟨j, w, a1, a2, a3⟩ := (sn_en_mem _ _ _).mp hq
    rw [Nat.zero_add] at a1
    obtain ⟨d1, d2⟩ := sm_nth_set _ _ _ _ a2
    rcases sm_nth_st1 _ _ _ _ _ d2 with ⟨e1, e2⟩ | ⟨e1, e2, e3⟩
    · refine List.mem_cons.mpr (Or.inl (Prod.ext (a1.trans e1) ?_))
      rw [a3, e2]; rfl
    · refine List.mem_cons_of_mem _ (List.mem_filter.mpr ⟨(sn_en_mem _ _ _).mpr ⟨j, w, by omega, e2, a3⟩, ?_⟩)
      have h3 : q.2.category = w.category := by rw [a3, cv_cat]
      simp only [a1, h3, Bool.and_eq_true, Bool.not_eq_true', beq_eq_false_iff_ne, ne_eq, Bool.and_eq_false_iff]
      refine ⟨e1, d1, ?_⟩
      by_cases hz : j + 1 = n
      · exact Or.inr fun hc => e3 ⟨hz, hc⟩
      · exact Or.inl hz
  · obtain ⟨d1, d2⟩ := sm_nth_set _ _ _ _ hj
    rcases sm_nth_st1 _ _ _ _ _ d2 with ⟨-, e2⟩ | ⟨-, e2, -⟩
    · rw [e2]; exact vv_long
    · exact hr.2.1 _ _ e2
section SN
variable {p : Program} {l : Launch} {e : Env} {R : Room} {s : State} {m : MethodId} {args : Array Value} {below : List Frame} {meth : Method} {c : Code} {Q : State → Prop} {D : va_G} {cA : Nat → ClassId} {b sa : Nat} {A : Nat → Prop} {z0 w0 : Nat} {ad0 : Nat → Nat} {n0 : Nat} {i pc : Nat} {X : (Nat → Int32) × Nat} {L : sm_L} {st : sm_S} {M : sm_M}
variable {ZS : Nat → (Nat → Prop) → State → Prop}
theorem sn_rel.stk {nL : Nat} {H0 : Heap} {ad : Nat → Nat} {ls : Array Slot} {H : Heap} {locs : List Loc} {st' : sm_S} (h : sn_rel nL A H0 D cA b sa ad ls H locs L st M) (h' : ∀ v ∈ st', vv M.1.length v) : sn_rel nL A H0 D cA b sa ad ls H locs L st' M := ⟨h.1, h.2.1, h', h.2.2.2⟩
theorem vs_nil {n : Nat} : ∀ v ∈ ([] : sm_S), vv n v := fun _ h => absurd h List.not_mem_nil
theorem vs_c {n : Nat} {v : Value} {l : sm_S} (h : vv n v) (hl : ∀ v ∈ l, vv n v) : ∀ w ∈ v :: l, vv n w := List.forall_mem_cons.mpr ⟨h, hl⟩
theorem vs_t {n : Nat} {v : Value} {l : sm_S} (h : ∀ w ∈ v :: l, vv n w) : ∀ w ∈ l, vv n w := (List.forall_mem_cons.mp h).2
theorem vs_h {n : Nat} {v : Value} {l : sm_S} (h : ∀ w ∈ v :: l, vv n w) : vv n v := (List.forall_mem_cons.mp h).1
theorem sj_kill (k : sn_J p l e R s m args below meth c Q D cA b sa A z0 w0 ad0 n0 i pc (sm_kl i pc L) st M) : sn_J p l e R s m args below meth c Q D cA b sa A z0 w0 ad0 n0 i pc L st M := by
  intro ad ls H locs cells slots h1 h2 hr
  have hk : ∀ j w, sm_nth (sm_kl i pc L) j = some w → sm_nth L j = some w := by
    intro j w h
    unfold sm_kl at h
    cases hf : sm_from (sm_code i) pc with
    | nil => rw [hf] at h; exact h
    | cons z t => rw [hf] at h; exact sm_nth_kill _ _ _ _ h
  refine k ad ls H locs cells slots h1 h2 ⟨lv_less hr.1 fun q hq => ?_, fun j v hj => hr.2.1 j v (hk j v hj), hr.2.2⟩
  obtain ⟨j, v, a1, a2, a3⟩ := (sn_en_mem _ _ _).mp hq
  exact (sn_en_mem _ _ _).mpr ⟨j, v, a1, hk j v a2, a3⟩
theorem sj_iconst (C : sn_C p R s m args meth c D cA A X b ZS i) {n : Int} {k0 : Int32} (hd : decode (mb i) pc = .ok (.iconst n, 1)) (hv : Int32.ofInt n = k0) (k : sn_J p l e R s m args below meth c Q D cA b sa A z0 w0 ad0 n0 i (pc + 1) L (.int k0 :: st) M) : sn_J p l e R s m args below meth c Q D cA b sa A z0 w0 ad0 n0 i pc L st M := by
  obtain ⟨hx, hb, hr0, hlk, hml, hown, hmn, hts, hK, hA, hZ, hfr, hlo⟩ := C
  intro ad ls H locs cells slots h1 h2 hr
  exact lv_iconst hx hb hd hv (k ad ls H locs cells slots h1 h2 (hr.stk (vs_c vv_int hr.2.2.1)))
theorem sj_bipush (C : sn_C p R s m args meth c D cA A X b ZS i) {n : Int} {k0 : Int32} (hd : decode (mb i) pc = .ok (.bipush n, 2)) (hv : (Int8.ofInt n).toInt32 = k0) (k : sn_J p l e R s m args below meth c Q D cA b sa A z0 w0 ad0 n0 i (pc + 2) L (.int k0 :: st) M) : sn_J p l e R s m args below meth c Q D cA b sa A z0 w0 ad0 n0 i pc L st M := by
  obtain ⟨hx, hb, hr0, hlk, hml, hown, hmn, hts, hK, hA, hZ, hfr, hlo⟩ := C
  intro ad ls H locs cells slots h1 h2 hr
  exact lv_bipush hx hb hd hv (k ad ls H locs cells slots h1 h2 (hr.stk (vs_c vv_int hr.2.2.1)))
theorem sj_sipush (C : sn_C p R s m args meth c D cA A X b ZS i) {n : Int} {k0 : Int32} (hd : decode (mb i) pc = .ok (.sipush n, 3)) (hv : (Int16.ofInt n).toInt32 = k0) (k : sn_J p l e R s m args below meth c Q D cA b sa A z0 w0 ad0 n0 i (pc + 3) L (.int k0 :: st) M) : sn_J p l e R s m args below meth c Q D cA b sa A z0 w0 ad0 n0 i pc L st M := by
  obtain ⟨hx, hb, hr0, hlk, hml, hown, hmn, hts, hK, hA, hZ, hfr, hlo⟩ := C
  intro ad ls H locs cells slots h1 h2 hr
  exact lv_sipush hx hb hd hv (k ad ls H locs cells slots h1 h2 (hr.stk (vs_c vv_int hr.2.2.1)))
theorem sj_lconst (C : sn_C p R s m args meth c D cA A X b ZS i) {n : Fin 2} {k0 : Int64} (hd : decode (mb i) pc = .ok (.lconst n, 1)) (hv : Int64.ofNat (n : Nat) = k0) (k : sn_J p l e R s m args below meth c Q D cA b sa A z0 w0 ad0 n0 i (pc + 1) L (.long k0 :: st) M) : sn_J p l e R s m args below meth c Q D cA b sa A z0 w0 ad0 n0 i pc L st M := by
  obtain ⟨hx, hb, hr0, hlk, hml, hown, hmn, hts, hK, hA, hZ, hfr, hlo⟩ := C
  intro ad ls H locs cells slots h1 h2 hr
  exact lv_lconst hx hb hd hv (k ad ls H locs cells slots h1 h2 (hr.stk (vs_c vv_long hr.2.2.1)))
theorem sj_ldc (C : sn_C p R s m args meth c D cA A X b ZS i) {ix : Nat} {k0 : Int32} (hd : decode (mb i) pc = .ok (.ldc ix, 2)) (hv : Cond.constant (my i).cls ix k0 ∈ uw) (k : sn_J p l e R s m args below meth c Q D cA b sa A z0 w0 ad0 n0 i (pc + 2) L (.int k0 :: st) M) : sn_J p l e R s m args below meth c Q D cA b sa A z0 w0 ad0 n0 i pc L st M := by
  obtain ⟨hx, hb, hr0, hlk, hml, hown, hmn, hts, hK, hA, hZ, hfr, hlo⟩ := C
  intro ad ls H locs cells slots h1 h2 hr
  exact lv_ldc hx hb hown (hts _ hv) hd (k ad ls H locs cells slots h1 h2 (hr.stk (vs_c vv_int hr.2.2.1)))
theorem sj_ldcw (C : sn_C p R s m args meth c D cA A X b ZS i) {ix : Nat} {k0 : Int32} (hd : decode (mb i) pc = .ok (.ldc_w ix, 3)) (hv : Cond.constant (my i).cls ix k0 ∈ uw) (k : sn_J p l e R s m args below meth c Q D cA b sa A z0 w0 ad0 n0 i (pc + 3) L (.int k0 :: st) M) : sn_J p l e R s m args below meth c Q D cA b sa A z0 w0 ad0 n0 i pc L st M := by
  obtain ⟨hx, hb, hr0, hlk, hml, hown, hmn, hts, hK, hA, hZ, hfr, hlo⟩ := C
  intro ad ls H locs cells slots h1 h2 hr
  exact lv_ldcw hx hb hown (hts _ hv) hd (k ad ls H locs cells slots h1 h2 (hr.stk (vs_c vv_int hr.2.2.1)))
theorem sj_ldc2 (C : sn_C p R s m args meth c D cA A X b ZS i) {ix : Nat} {k0 : Int64} (hd : decode (mb i) pc = .ok (.ldc2_w ix, 3)) (hv : Cond.constantLong (my i).cls ix k0 ∈ uw) (k : sn_J p l e R s m args below meth c Q D cA b sa A z0 w0 ad0 n0 i (pc + 3) L (.long k0 :: st) M) : sn_J p l e R s m args below meth c Q D cA b sa A z0 w0 ad0 n0 i pc L st M := by
  obtain ⟨hx, hb, hr0, hlk, hml, hown, hmn, hts, hK, hA, hZ, hfr, hlo⟩ := C
  intro ad ls H locs cells slots h1 h2 hr
  exact lv_ldc2 hx hb hown (hts _ hv) hd (k ad ls H locs cells slots h1 h2 (hr.stk (vs_c vv_long hr.2.2.1)))
theorem sj_iload (C : sn_C p R s m args meth c D cA A X b ZS i) {n : Nat} {x : Int32} (hd : decode (mb i) pc = .ok (.iload n, 2)) (hn : sm_nth L n = some (.int x)) (k : sn_J p l e R s m args below meth c Q D cA b sa A z0 w0 ad0 n0 i (pc + 2) L (.int x :: st) M) : sn_J p l e R s m args below meth c Q D cA b sa A z0 w0 ad0 n0 i pc L st M := by
  obtain ⟨hx, hb, hr0, hlk, hml, hown, hmn, hts, hK, hA, hZ, hfr, hlo⟩ := C
  intro ad ls H locs cells slots h1 h2 hr
  have hl : ls[n]? = some (.val (cv ad b sa (.int x))) := hr.1.2.2 (n, _) ((sn_en_mem _ _ _).mpr ⟨n, _, by simp, hn, rfl⟩)
  exact lv_iload hx hb hd hl (k ad ls H locs cells slots h1 h2 (hr.stk (vs_c vv_int hr.2.2.1)))
theorem sj_iload_n (C : sn_C p R s m args meth c D cA A X b ZS i) {n : Fin 4} {x : Int32} (hd : decode (mb i) pc = .ok (.iload_n n, 1)) (hn : sm_nth L n.val = some (.int x)) (k : sn_J p l e R s m args below meth c Q D cA b sa A z0 w0 ad0 n0 i (pc + 1) L (.int x :: st) M) : sn_J p l e R s m args below meth c Q D cA b sa A z0 w0 ad0 n0 i pc L st M := by
  obtain ⟨hx, hb, hr0, hlk, hml, hown, hmn, hts, hK, hA, hZ, hfr, hlo⟩ := C
  intro ad ls H locs cells slots h1 h2 hr
  have hl : ls[n.val]? = some (.val (cv ad b sa (.int x))) := hr.1.2.2 (n.val, _) ((sn_en_mem _ _ _).mpr ⟨n.val, _, by simp, hn, rfl⟩)
  exact lv_iload_n hx hb hd rfl hl (k ad ls H locs cells slots h1 h2 (hr.stk (vs_c vv_int hr.2.2.1)))
theorem sj_lload (C : sn_C p R s m args meth c D cA A X b ZS i) {n : Nat} {x : Int64} (hd : decode (mb i) pc = .ok (.lload n, 2)) (hn : sm_nth L n = some (.long x)) (k : sn_J p l e R s m args below meth c Q D cA b sa A z0 w0 ad0 n0 i (pc + 2) L (.long x :: st) M) : sn_J p l e R s m args below meth c Q D cA b sa A z0 w0 ad0 n0 i pc L st M := by
  obtain ⟨hx, hb, hr0, hlk, hml, hown, hmn, hts, hK, hA, hZ, hfr, hlo⟩ := C
  intro ad ls H locs cells slots h1 h2 hr
  have hl : ls[n]? = some (.val (cv ad b sa (.long x))) := hr.1.2.2 (n, _) ((sn_en_mem _ _ _).mpr ⟨n, _, by simp, hn, rfl⟩)
  exact lv_lload hx hb hd hl (k ad ls H locs cells slots h1 h2 (hr.stk (vs_c vv_long hr.2.2.1)))
theorem sj_lload_n (C : sn_C p R s m args meth c D cA A X b ZS i) {n : Fin 4} {x : Int64} (hd : decode (mb i) pc = .ok (.lload_n n, 1)) (hn : sm_nth L n.val = some (.long x)) (k : sn_J p l e R s m args below meth c Q D cA b sa A z0 w0 ad0 n0 i (pc + 1) L (.long x :: st) M) : sn_J p l e R s m args below meth c Q D cA b sa A z0 w0 ad0 n0 i pc L st M := by
  obtain ⟨hx, hb, hr0, hlk, hml, hown, hmn, hts, hK, hA, hZ, hfr, hlo⟩ := C
  intro ad ls H locs cells slots h1 h2 hr
  have hl : ls[n.val]? = some (.val (cv ad b sa (.long x))) := hr.1.2.2 (n.val, _) ((sn_en_mem _ _ _).mpr ⟨n.val, _, by simp, hn, rfl⟩)
  exact lv_lload_n hx hb hd rfl hl (k ad ls H locs cells slots h1 h2 (hr.stk (vs_c vv_long hr.2.2.1)))
theorem sj_aload (C : sn_C p R s m args meth c D cA A X b ZS i) {n : Nat} {x : Nat} (hd : decode (mb i) pc = .ok (.aload n, 2)) (hn : sm_nth L n = some (.ref x)) (k : sn_J p l e R s m args below meth c Q D cA b sa A z0 w0 ad0 n0 i (pc + 2) L (.ref x :: st) M) : sn_J p l e R s m args below meth c Q D cA b sa A z0 w0 ad0 n0 i pc L st M := by
  obtain ⟨hx, hb, hr0, hlk, hml, hown, hmn, hts, hK, hA, hZ, hfr, hlo⟩ := C
  intro ad ls H locs cells slots h1 h2 hr
  have hl : ls[n]? = some (.val (cv ad b sa (.ref x))) := hr.1.2.2 (n, _) ((sn_en_mem _ _ _).mpr ⟨n, _, by simp, hn, rfl⟩)
  exact lv_aload hx hb hd hl (k ad ls H locs cells slots h1 h2 (hr.stk (vs_c (hr.2.1 _ _ hn) hr.2.2.1)))
theorem sj_aload_n (C : sn_C p R s m args meth c D cA A X b ZS i) {n : Fin 4} {x : Nat} (hd : decode (mb i) pc = .ok (.aload_n n, 1)) (hn : sm_nth L n.val = some (.ref x)) (k : sn_J p l e R s m args below meth c Q D cA b sa A z0 w0 ad0 n0 i (pc + 1) L (.ref x :: st) M) : sn_J p l e R s m args below meth c Q D cA b sa A z0 w0 ad0 n0 i pc L st M := by
  obtain ⟨hx, hb, hr0, hlk, hml, hown, hmn, hts, hK, hA, hZ, hfr, hlo⟩ := C
  intro ad ls H locs cells slots h1 h2 hr
  have hl : ls[n.val]? = some (.val (cv ad b sa (.ref x))) := hr.1.2.2 (n.val, _) ((sn_en_mem _ _ _).mpr ⟨n.val, _, by simp, hn, rfl⟩)
  exact lv_aload_n hx hb hd rfl hl (k ad ls H locs cells slots h1 h2 (hr.stk (vs_c (hr.2.1 _ _ hn) hr.2.2.1)))
theorem sj_aload_ra (C : sn_C p R s m args meth c D cA A X b ZS i) {n : Nat} {x : Nat} (hx0 : x = 1 ∨ x = 2) (hd : decode (mb i) pc = .ok (.aload n, 2)) (hn : sm_nth L n = some (.retAddr x)) (k : sn_J p l e R s m args below meth c Q D cA b sa A z0 w0 ad0 n0 i (pc + 2) L (.retAddr x :: st) M) : sn_J p l e R s m args below meth c Q D cA b sa A z0 w0 ad0 n0 i pc L st M := by
  obtain ⟨hx, hb, hr0, hlk, hml, hown, hmn, hts, hK, hA, hZ, hfr, hlo⟩ := C
  intro ad ls H locs cells slots h1 h2 hr
  have hl : ls[n]? = some (.val (cv ad b sa (.retAddr x))) := hr.1.2.2 (n, _) ((sn_en_mem _ _ _).mpr ⟨n, _, by simp, hn, rfl⟩)
  have kk := k ad ls H locs cells slots h1 h2 (hr.stk (vs_c vv_ra hr.2.2.1))
  rcases hx0 with rfl | rfl
  · exact lv_aload (x := b) hx hb hd hl kk
  · exact lv_aload (x := sa) hx hb hd hl kk
theorem sj_aload_n_ra (C : sn_C p R s m args meth c D cA A X b ZS i) {n : Fin 4} {x : Nat} (hx0 : x = 1 ∨ x = 2) (hd : decode (mb i) pc = .ok (.aload_n n, 1)) (hn : sm_nth L n.val = some (.retAddr x)) (k : sn_J p l e R s m args below meth c Q D cA b sa A z0 w0 ad0 n0 i (pc + 1) L (.retAddr x :: st) M) : sn_J p l e R s m args below meth c Q D cA b sa A z0 w0 ad0 n0 i pc L st M := by
  obtain ⟨hx, hb, hr0, hlk, hml, hown, hmn, hts, hK, hA, hZ, hfr, hlo⟩ := C
  intro ad ls H locs cells slots h1 h2 hr
  have hl : ls[n.val]? = some (.val (cv ad b sa (.retAddr x))) := hr.1.2.2 (n.val, _) ((sn_en_mem _ _ _).mpr ⟨n.val, _, by simp, hn, rfl⟩)
  have kk := k ad ls H locs cells slots h1 h2 (hr.stk (vs_c vv_ra hr.2.2.1))
  rcases hx0 with rfl | rfl
  · exact lv_aload_n (x := b) hx hb hd rfl hl kk
  · exact lv_aload_n (x := sa) hx hb hd rfl hl kk
theorem sj_istore (C : sn_C p R s m args meth c D cA A X b ZS i) {n : Nat} {x : Int32} (hd : decode (mb i) pc = .ok (.istore n, 2)) (hn : n < (sm_mi i).2) (k : sn_J p l e R s m args below meth c Q D cA b sa A z0 w0 ad0 n0 i (pc + 2) (sm_st1 L n (.int x)) st M) : sn_J p l e R s m args below meth c Q D cA b sa A z0 w0 ad0 n0 i pc L (.int x :: st) M := by
  obtain ⟨hx, hb, hr0, hlk, hml, hown, hmn, hts, hK, hA, hZ, hfr, hlo⟩ := C
  intro ad ls H locs cells slots h1 h2 hr
  refine lv_istore (x := x) hx hb hd hr.1 hn rfl (fun ls2 hl => ?_)
  exact k ad ls2 H locs cells slots h1 h2 (sn_store1 hr (vs_h hr.2.2.1) (vs_t hr.2.2.1) hl)
theorem sj_istore_n (C : sn_C p R s m args meth c D cA A X b ZS i) {n : Fin 4} {x : Int32} (hd : decode (mb i) pc = .ok (.istore_n n, 1)) (hn : n.val < (sm_mi i).2) (k : sn_J p l e R s m args below meth c Q D cA b sa A z0 w0 ad0 n0 i (pc + 1) (sm_st1 L n.val (.int x)) st M) : sn_J p l e R s m args below meth c Q D cA b sa A z0 w0 ad0 n0 i pc L (.int x :: st) M := by
  obtain ⟨hx, hb, hr0, hlk, hml, hown, hmn, hts, hK, hA, hZ, hfr, hlo⟩ := C
  intro ad ls H locs cells slots h1 h2 hr
  refine lv_istore_n (x := x) hx hb hd rfl hr.1 hn rfl (fun ls2 hl => ?_)
  exact k ad ls2 H locs cells slots h1 h2 (sn_store1 hr (vs_h hr.2.2.1) (vs_t hr.2.2.1) hl)
theorem sj_astore (C : sn_C p R s m args meth c D cA A X b ZS i) {n : Nat} {x : Nat} (hd : decode (mb i) pc = .ok (.astore n, 2)) (hn : n < (sm_mi i).2) (k : sn_J p l e R s m args below meth c Q D cA b sa A z0 w0 ad0 n0 i (pc + 2) (sm_st1 L n (.ref x)) st M) : sn_J p l e R s m args below meth c Q D cA b sa A z0 w0 ad0 n0 i pc L (.ref x :: st) M := by
  obtain ⟨hx, hb, hr0, hlk, hml, hown, hmn, hts, hK, hA, hZ, hfr, hlo⟩ := C
  intro ad ls H locs cells slots h1 h2 hr
  refine lv_astore (x := ad x) hx hb hd hr.1 hn rfl (fun ls2 hl => ?_)
  exact k ad ls2 H locs cells slots h1 h2 (sn_store1 hr (vs_h hr.2.2.1) (vs_t hr.2.2.1) hl)
theorem sj_astore_n (C : sn_C p R s m args meth c D cA A X b ZS i) {n : Fin 4} {x : Nat} (hd : decode (mb i) pc = .ok (.astore_n n, 1)) (hn : n.val < (sm_mi i).2) (k : sn_J p l e R s m args below meth c Q D cA b sa A z0 w0 ad0 n0 i (pc + 1) (sm_st1 L n.val (.ref x)) st M) : sn_J p l e R s m args below meth c Q D cA b sa A z0 w0 ad0 n0 i pc L (.ref x :: st) M := by
  obtain ⟨hx, hb, hr0, hlk, hml, hown, hmn, hts, hK, hA, hZ, hfr, hlo⟩ := C
  intro ad ls H locs cells slots h1 h2 hr
  refine lv_astore_n (x := ad x) hx hb hd rfl hr.1 hn rfl (fun ls2 hl => ?_)
  exact k ad ls2 H locs cells slots h1 h2 (sn_store1 hr (vs_h hr.2.2.1) (vs_t hr.2.2.1) hl)
theorem sj_lstore (C : sn_C p R s m args meth c D cA A X b ZS i) {n : Nat} {x : Int64} (hd : decode (mb i) pc = .ok (.lstore n, 2)) (hn : n + 1 < (sm_mi i).2) (k : sn_J p l e R s m args below meth c Q D cA b sa A z0 w0 ad0 n0 i (pc + 2) (sm_st2 L n (.long x)) st M) : sn_J p l e R s m args below meth c Q D cA b sa A z0 w0 ad0 n0 i pc L (.long x :: st) M := by
  obtain ⟨hx, hb, hr0, hlk, hml, hown, hmn, hts, hK, hA, hZ, hfr, hlo⟩ := C
  intro ad ls H locs cells slots h1 h2 hr
  refine lv_lstore (x := x) hx hb hd hr.1 hn rfl (fun ls2 hl => ?_)
  exact k ad ls2 H locs cells slots h1 h2 (sn_store2 hr (vs_t hr.2.2.1) hl)
theorem sj_lstore_n (C : sn_C p R s m args meth c D cA A X b ZS i) {n : Fin 4} {x : Int64} (hd : decode (mb i) pc = .ok (.lstore_n n, 1)) (hn : n.val + 1 < (sm_mi i).2) (k : sn_J p l e R s m args below meth c Q D cA b sa A z0 w0 ad0 n0 i (pc + 1) (sm_st2 L n.val (.long x)) st M) : sn_J p l e R s m args below meth c Q D cA b sa A z0 w0 ad0 n0 i pc L (.long x :: st) M := by
  obtain ⟨hx, hb, hr0, hlk, hml, hown, hmn, hts, hK, hA, hZ, hfr, hlo⟩ := C
  intro ad ls H locs cells slots h1 h2 hr
  refine lv_lstore_n (x := x) hx hb hd rfl hr.1 hn rfl (fun ls2 hl => ?_)
  exact k ad ls2 H locs cells slots h1 h2 (sn_store2 hr (vs_t hr.2.2.1) hl)
theorem sj_iinc (C : sn_C p R s m args meth c D cA A X b ZS i) {n : Nat} {v : Int} {x k0 : Int32} (hd : decode (mb i) pc = .ok (.iinc n v, 3)) (hv : Int32.ofInt v = k0) (hn : n < (sm_mi i).2) (hL : sm_nth L n = some (.int x)) (k : sn_J p l e R s m args below meth c Q D cA b sa A z0 w0 ad0 n0 i (pc + 3) (sm_st1 L n (.int (x + k0))) st M) : sn_J p l e R s m args below meth c Q D cA b sa A z0 w0 ad0 n0 i pc L st M := by
  obtain ⟨hx, hb, hr0, hlk, hml, hown, hmn, hts, hK, hA, hZ, hfr, hlo⟩ := C
  intro ad ls H locs cells slots h1 h2 hr
  obtain ⟨j, hj⟩ := List.getElem?_of_mem (show ((n, Value.int x) : Nat × Value) ∈ sn_en ad b sa 0 L from (sn_en_mem _ _ _).mpr ⟨n, _, by simp, hL, rfl⟩)
  refine lv_iinc (v := x + k0) hx hb hd hr.1 hj (by rw [hv]) hn rfl (fun ls2 hl => ?_)
  exact k ad ls2 H locs cells slots h1 h2 (sn_store1 hr vv_int hr.2.2.1 hl)
theorem sj_iadd (C : sn_C p R s m args meth c D cA A X b ZS i) {x y : Int32} (hd : decode (mb i) pc = .ok (.iadd, 1)) (k : sn_J p l e R s m args below meth c Q D cA b sa A z0 w0 ad0 n0 i (pc + 1) L (.int (x + y) :: st) M) : sn_J p l e R s m args below meth c Q D cA b sa A z0 w0 ad0 n0 i pc L (.int y :: .int x :: st) M := by
  obtain ⟨hx, hb, hr0, hlk, hml, hown, hmn, hts, hK, hA, hZ, hfr, hlo⟩ := C
  intro ad ls H locs cells slots h1 h2 hr
  exact lv_iadd hx hb hd (k ad ls H locs cells slots h1 h2 (hr.stk (vs_c vv_int (vs_t (vs_t hr.2.2.1)))))
theorem sj_isub (C : sn_C p R s m args meth c D cA A X b ZS i) {x y : Int32} (hd : decode (mb i) pc = .ok (.isub, 1)) (k : sn_J p l e R s m args below meth c Q D cA b sa A z0 w0 ad0 n0 i (pc + 1) L (.int (x - y) :: st) M) : sn_J p l e R s m args below meth c Q D cA b sa A z0 w0 ad0 n0 i pc L (.int y :: .int x :: st) M := by
  obtain ⟨hx, hb, hr0, hlk, hml, hown, hmn, hts, hK, hA, hZ, hfr, hlo⟩ := C
  intro ad ls H locs cells slots h1 h2 hr
  exact lv_isub hx hb hd (k ad ls H locs cells slots h1 h2 (hr.stk (vs_c vv_int (vs_t (vs_t hr.2.2.1)))))
theorem sj_imul (C : sn_C p R s m args meth c D cA A X b ZS i) {x y : Int32} (hd : decode (mb i) pc = .ok (.imul, 1)) (k : sn_J p l e R s m args below meth c Q D cA b sa A z0 w0 ad0 n0 i (pc + 1) L (.int (x * y) :: st) M) : sn_J p l e R s m args below meth c Q D cA b sa A z0 w0 ad0 n0 i pc L (.int y :: .int x :: st) M := by
  obtain ⟨hx, hb, hr0, hlk, hml, hown, hmn, hts, hK, hA, hZ, hfr, hlo⟩ := C
  intro ad ls H locs cells slots h1 h2 hr
  exact lv_imul hx hb hd (k ad ls H locs cells slots h1 h2 (hr.stk (vs_c vv_int (vs_t (vs_t hr.2.2.1)))))
theorem sj_iand (C : sn_C p R s m args meth c D cA A X b ZS i) {x y : Int32} (hd : decode (mb i) pc = .ok (.iand, 1)) (k : sn_J p l e R s m args below meth c Q D cA b sa A z0 w0 ad0 n0 i (pc + 1) L (.int (x &&& y) :: st) M) : sn_J p l e R s m args below meth c Q D cA b sa A z0 w0 ad0 n0 i pc L (.int y :: .int x :: st) M := by
  obtain ⟨hx, hb, hr0, hlk, hml, hown, hmn, hts, hK, hA, hZ, hfr, hlo⟩ := C
  intro ad ls H locs cells slots h1 h2 hr
  exact lv_iand hx hb hd (k ad ls H locs cells slots h1 h2 (hr.stk (vs_c vv_int (vs_t (vs_t hr.2.2.1)))))
theorem sj_ior (C : sn_C p R s m args meth c D cA A X b ZS i) {x y : Int32} (hd : decode (mb i) pc = .ok (.ior, 1)) (k : sn_J p l e R s m args below meth c Q D cA b sa A z0 w0 ad0 n0 i (pc + 1) L (.int (x ||| y) :: st) M) : sn_J p l e R s m args below meth c Q D cA b sa A z0 w0 ad0 n0 i pc L (.int y :: .int x :: st) M := by
  obtain ⟨hx, hb, hr0, hlk, hml, hown, hmn, hts, hK, hA, hZ, hfr, hlo⟩ := C
  intro ad ls H locs cells slots h1 h2 hr
  exact lv_ior hx hb hd (k ad ls H locs cells slots h1 h2 (hr.stk (vs_c vv_int (vs_t (vs_t hr.2.2.1)))))
theorem sj_ixor (C : sn_C p R s m args meth c D cA A X b ZS i) {x y : Int32} (hd : decode (mb i) pc = .ok (.ixor, 1)) (k : sn_J p l e R s m args below meth c Q D cA b sa A z0 w0 ad0 n0 i (pc + 1) L (.int (x ^^^ y) :: st) M) : sn_J p l e R s m args below meth c Q D cA b sa A z0 w0 ad0 n0 i pc L (.int y :: .int x :: st) M := by
  obtain ⟨hx, hb, hr0, hlk, hml, hown, hmn, hts, hK, hA, hZ, hfr, hlo⟩ := C
  intro ad ls H locs cells slots h1 h2 hr
  exact lv_ixor hx hb hd (k ad ls H locs cells slots h1 h2 (hr.stk (vs_c vv_int (vs_t (vs_t hr.2.2.1)))))
theorem sj_ishl (C : sn_C p R s m args meth c D cA A X b ZS i) {x y : Int32} (hd : decode (mb i) pc = .ok (.ishl, 1)) (k : sn_J p l e R s m args below meth c Q D cA b sa A z0 w0 ad0 n0 i (pc + 1) L (.int (x <<< (y &&& 31)) :: st) M) : sn_J p l e R s m args below meth c Q D cA b sa A z0 w0 ad0 n0 i pc L (.int y :: .int x :: st) M := by
  obtain ⟨hx, hb, hr0, hlk, hml, hown, hmn, hts, hK, hA, hZ, hfr, hlo⟩ := C
  intro ad ls H locs cells slots h1 h2 hr
  exact lv_ishl hx hb hd (k ad ls H locs cells slots h1 h2 (hr.stk (vs_c vv_int (vs_t (vs_t hr.2.2.1)))))
theorem sj_ishr (C : sn_C p R s m args meth c D cA A X b ZS i) {x y : Int32} (hd : decode (mb i) pc = .ok (.ishr, 1)) (k : sn_J p l e R s m args below meth c Q D cA b sa A z0 w0 ad0 n0 i (pc + 1) L (.int (x >>> (y &&& 31)) :: st) M) : sn_J p l e R s m args below meth c Q D cA b sa A z0 w0 ad0 n0 i pc L (.int y :: .int x :: st) M := by
  obtain ⟨hx, hb, hr0, hlk, hml, hown, hmn, hts, hK, hA, hZ, hfr, hlo⟩ := C
  intro ad ls H locs cells slots h1 h2 hr
  exact lv_ishr hx hb hd (k ad ls H locs cells slots h1 h2 (hr.stk (vs_c vv_int (vs_t (vs_t hr.2.2.1)))))
theorem sj_iushr (C : sn_C p R s m args meth c D cA A X b ZS i) {x y : Int32} (hd : decode (mb i) pc = .ok (.iushr, 1)) (k : sn_J p l e R s m args below meth c Q D cA b sa A z0 w0 ad0 n0 i (pc + 1) L (.int ((x.toUInt32 >>> (y.toUInt32 &&& Int32.toUInt32 31)).toInt32) :: st) M) : sn_J p l e R s m args below meth c Q D cA b sa A z0 w0 ad0 n0 i pc L (.int y :: .int x :: st) M := by
  obtain ⟨hx, hb, hr0, hlk, hml, hown, hmn, hts, hK, hA, hZ, hfr, hlo⟩ := C
  intro ad ls H locs cells slots h1 h2 hr
  exact lv_iushr hx hb hd rfl (k ad ls H locs cells slots h1 h2 (hr.stk (vs_c vv_int (vs_t (vs_t hr.2.2.1)))))
theorem sj_idiv (C : sn_C p R s m args meth c D cA A X b ZS i) {x y : Int32} (hd : decode (mb i) pc = .ok (.idiv, 1)) (hne : ¬ y = 0) (k : sn_J p l e R s m args below meth c Q D cA b sa A z0 w0 ad0 n0 i (pc + 1) L (.int (x / y) :: st) M) : sn_J p l e R s m args below meth c Q D cA b sa A z0 w0 ad0 n0 i pc L (.int y :: .int x :: st) M := by
  obtain ⟨hx, hb, hr0, hlk, hml, hown, hmn, hts, hK, hA, hZ, hfr, hlo⟩ := C
  intro ad ls H locs cells slots h1 h2 hr
  exact lv_idiv hx hb hd hne (k ad ls H locs cells slots h1 h2 (hr.stk (vs_c vv_int (vs_t (vs_t hr.2.2.1)))))
theorem sj_irem (C : sn_C p R s m args meth c D cA A X b ZS i) {x y : Int32} (hd : decode (mb i) pc = .ok (.irem, 1)) (hne : ¬ y = 0) (k : sn_J p l e R s m args below meth c Q D cA b sa A z0 w0 ad0 n0 i (pc + 1) L (.int (x - x / y * y) :: st) M) : sn_J p l e R s m args below meth c Q D cA b sa A z0 w0 ad0 n0 i pc L (.int y :: .int x :: st) M := by
  obtain ⟨hx, hb, hr0, hlk, hml, hown, hmn, hts, hK, hA, hZ, hfr, hlo⟩ := C
  intro ad ls H locs cells slots h1 h2 hr
  exact lv_irem hx hb hd hne (k ad ls H locs cells slots h1 h2 (hr.stk (vs_c vv_int (vs_t (vs_t hr.2.2.1)))))
theorem sj_ladd (C : sn_C p R s m args meth c D cA A X b ZS i) {x y : Int64} (hd : decode (mb i) pc = .ok (.ladd, 1)) (k : sn_J p l e R s m args below meth c Q D cA b sa A z0 w0 ad0 n0 i (pc + 1) L (.long (x + y) :: st) M) : sn_J p l e R s m args below meth c Q D cA b sa A z0 w0 ad0 n0 i pc L (.long y :: .long x :: st) M := by
  obtain ⟨hx, hb, hr0, hlk, hml, hown, hmn, hts, hK, hA, hZ, hfr, hlo⟩ := C
  intro ad ls H locs cells slots h1 h2 hr
  exact lv_ladd hx hb hd (k ad ls H locs cells slots h1 h2 (hr.stk (vs_c vv_long (vs_t (vs_t hr.2.2.1)))))
theorem sj_lsub (C : sn_C p R s m args meth c D cA A X b ZS i) {x y : Int64} (hd : decode (mb i) pc = .ok (.lsub, 1)) (k : sn_J p l e R s m args below meth c Q D cA b sa A z0 w0 ad0 n0 i (pc + 1) L (.long (x - y) :: st) M) : sn_J p l e R s m args below meth c Q D cA b sa A z0 w0 ad0 n0 i pc L (.long y :: .long x :: st) M := by
  obtain ⟨hx, hb, hr0, hlk, hml, hown, hmn, hts, hK, hA, hZ, hfr, hlo⟩ := C
  intro ad ls H locs cells slots h1 h2 hr
  exact lv_lsub hx hb hd (k ad ls H locs cells slots h1 h2 (hr.stk (vs_c vv_long (vs_t (vs_t hr.2.2.1)))))
theorem sj_lmul (C : sn_C p R s m args meth c D cA A X b ZS i) {x y : Int64} (hd : decode (mb i) pc = .ok (.lmul, 1)) (k : sn_J p l e R s m args below meth c Q D cA b sa A z0 w0 ad0 n0 i (pc + 1) L (.long (x * y) :: st) M) : sn_J p l e R s m args below meth c Q D cA b sa A z0 w0 ad0 n0 i pc L (.long y :: .long x :: st) M := by
  obtain ⟨hx, hb, hr0, hlk, hml, hown, hmn, hts, hK, hA, hZ, hfr, hlo⟩ := C
  intro ad ls H locs cells slots h1 h2 hr
  exact lv_lmul hx hb hd (k ad ls H locs cells slots h1 h2 (hr.stk (vs_c vv_long (vs_t (vs_t hr.2.2.1)))))
theorem sj_land (C : sn_C p R s m args meth c D cA A X b ZS i) {x y : Int64} (hd : decode (mb i) pc = .ok (.land, 1)) (k : sn_J p l e R s m args below meth c Q D cA b sa A z0 w0 ad0 n0 i (pc + 1) L (.long (x &&& y) :: st) M) : sn_J p l e R s m args below meth c Q D cA b sa A z0 w0 ad0 n0 i pc L (.long y :: .long x :: st) M := by
  obtain ⟨hx, hb, hr0, hlk, hml, hown, hmn, hts, hK, hA, hZ, hfr, hlo⟩ := C
  intro ad ls H locs cells slots h1 h2 hr
  exact lv_land hx hb hd (k ad ls H locs cells slots h1 h2 (hr.stk (vs_c vv_long (vs_t (vs_t hr.2.2.1)))))
theorem sj_lor (C : sn_C p R s m args meth c D cA A X b ZS i) {x y : Int64} (hd : decode (mb i) pc = .ok (.lor, 1)) (k : sn_J p l e R s m args below meth c Q D cA b sa A z0 w0 ad0 n0 i (pc + 1) L (.long (x ||| y) :: st) M) : sn_J p l e R s m args below meth c Q D cA b sa A z0 w0 ad0 n0 i pc L (.long y :: .long x :: st) M := by
  obtain ⟨hx, hb, hr0, hlk, hml, hown, hmn, hts, hK, hA, hZ, hfr, hlo⟩ := C
  intro ad ls H locs cells slots h1 h2 hr
  exact lv_lor hx hb hd (k ad ls H locs cells slots h1 h2 (hr.stk (vs_c vv_long (vs_t (vs_t hr.2.2.1)))))
theorem sj_ldiv (C : sn_C p R s m args meth c D cA A X b ZS i) {x y : Int64} (hd : decode (mb i) pc = .ok (.ldiv, 1)) (hne : ¬ y = 0) (k : sn_J p l e R s m args below meth c Q D cA b sa A z0 w0 ad0 n0 i (pc + 1) L (.long (x / y) :: st) M) : sn_J p l e R s m args below meth c Q D cA b sa A z0 w0 ad0 n0 i pc L (.long y :: .long x :: st) M := by
  obtain ⟨hx, hb, hr0, hlk, hml, hown, hmn, hts, hK, hA, hZ, hfr, hlo⟩ := C
  intro ad ls H locs cells slots h1 h2 hr
  exact lv_ldiv hx hb hd hne (k ad ls H locs cells slots h1 h2 (hr.stk (vs_c vv_long (vs_t (vs_t hr.2.2.1)))))
theorem sj_lrem (C : sn_C p R s m args meth c D cA A X b ZS i) {x y : Int64} (hd : decode (mb i) pc = .ok (.lrem, 1)) (hne : ¬ y = 0) (k : sn_J p l e R s m args below meth c Q D cA b sa A z0 w0 ad0 n0 i (pc + 1) L (.long (x - x / y * y) :: st) M) : sn_J p l e R s m args below meth c Q D cA b sa A z0 w0 ad0 n0 i pc L (.long y :: .long x :: st) M := by
  obtain ⟨hx, hb, hr0, hlk, hml, hown, hmn, hts, hK, hA, hZ, hfr, hlo⟩ := C
  intro ad ls H locs cells slots h1 h2 hr
  exact lv_lrem hx hb hd hne (k ad ls H locs cells slots h1 h2 (hr.stk (vs_c vv_long (vs_t (vs_t hr.2.2.1)))))
theorem sj_lcmp (C : sn_C p R s m args meth c D cA A X b ZS i) {x y : Int64} (hd : decode (mb i) pc = .ok (.lcmp, 1)) (k : sn_J p l e R s m args below meth c Q D cA b sa A z0 w0 ad0 n0 i (pc + 1) L (.int (lg_cmp x y) :: st) M) : sn_J p l e R s m args below meth c Q D cA b sa A z0 w0 ad0 n0 i pc L (.long y :: .long x :: st) M := by
  obtain ⟨hx, hb, hr0, hlk, hml, hown, hmn, hts, hK, hA, hZ, hfr, hlo⟩ := C
  intro ad ls H locs cells slots h1 h2 hr
  exact W.lcmp hx hb hd (k ad ls H locs cells slots h1 h2 (hr.stk (vs_c vv_int (vs_t (vs_t hr.2.2.1)))))
theorem sj_lshl (C : sn_C p R s m args meth c D cA A X b ZS i) {x : Int64} {y : Int32} (hd : decode (mb i) pc = .ok (.lshl, 1)) (k : sn_J p l e R s m args below meth c Q D cA b sa A z0 w0 ad0 n0 i (pc + 1) L (.long (x <<< (y.toInt64 &&& 63)) :: st) M) : sn_J p l e R s m args below meth c Q D cA b sa A z0 w0 ad0 n0 i pc L (.int y :: .long x :: st) M := by
  obtain ⟨hx, hb, hr0, hlk, hml, hown, hmn, hts, hK, hA, hZ, hfr, hlo⟩ := C
  intro ad ls H locs cells slots h1 h2 hr
  exact lv_lshl hx hb hd rfl (k ad ls H locs cells slots h1 h2 (hr.stk (vs_c vv_long (vs_t (vs_t hr.2.2.1)))))
theorem sj_lushr (C : sn_C p R s m args meth c D cA A X b ZS i) {x : Int64} {y : Int32} (hd : decode (mb i) pc = .ok (.lushr, 1)) (k : sn_J p l e R s m args below meth c Q D cA b sa A z0 w0 ad0 n0 i (pc + 1) L (.long ((x.toUInt64 >>> (y.toInt64.toUInt64 &&& Int64.toUInt64 63)).toInt64) :: st) M) : sn_J p l e R s m args below meth c Q D cA b sa A z0 w0 ad0 n0 i pc L (.int y :: .long x :: st) M := by
  obtain ⟨hx, hb, hr0, hlk, hml, hown, hmn, hts, hK, hA, hZ, hfr, hlo⟩ := C
  intro ad ls H locs cells slots h1 h2 hr
  exact lv_lushr hx hb hd rfl (k ad ls H locs cells slots h1 h2 (hr.stk (vs_c vv_long (vs_t (vs_t hr.2.2.1)))))
theorem sj_ineg (C : sn_C p R s m args meth c D cA A X b ZS i) {x : Int32} (hd : decode (mb i) pc = .ok (.ineg, 1)) (k : sn_J p l e R s m args below meth c Q D cA b sa A z0 w0 ad0 n0 i (pc + 1) L (.int (-x) :: st) M) : sn_J p l e R s m args below meth c Q D cA b sa A z0 w0 ad0 n0 i pc L (.int x :: st) M := by
  obtain ⟨hx, hb, hr0, hlk, hml, hown, hmn, hts, hK, hA, hZ, hfr, hlo⟩ := C
  intro ad ls H locs cells slots h1 h2 hr
  exact lv_ineg hx hb hd (k ad ls H locs cells slots h1 h2 (hr.stk (vs_c vv_int (vs_t hr.2.2.1))))
theorem sj_lneg (C : sn_C p R s m args meth c D cA A X b ZS i) {x : Int64} (hd : decode (mb i) pc = .ok (.lneg, 1)) (k : sn_J p l e R s m args below meth c Q D cA b sa A z0 w0 ad0 n0 i (pc + 1) L (.long (-x) :: st) M) : sn_J p l e R s m args below meth c Q D cA b sa A z0 w0 ad0 n0 i pc L (.long x :: st) M := by
  obtain ⟨hx, hb, hr0, hlk, hml, hown, hmn, hts, hK, hA, hZ, hfr, hlo⟩ := C
  intro ad ls H locs cells slots h1 h2 hr
  exact lv_lneg hx hb hd (k ad ls H locs cells slots h1 h2 (hr.stk (vs_c vv_long (vs_t hr.2.2.1))))
theorem sj_i2l (C : sn_C p R s m args meth c D cA A X b ZS i) {x : Int32} (hd : decode (mb i) pc = .ok (.i2l, 1)) (k : sn_J p l e R s m args below meth c Q D cA b sa A z0 w0 ad0 n0 i (pc + 1) L (.long (x.toInt64) :: st) M) : sn_J p l e R s m args below meth c Q D cA b sa A z0 w0 ad0 n0 i pc L (.int x :: st) M := by
  obtain ⟨hx, hb, hr0, hlk, hml, hown, hmn, hts, hK, hA, hZ, hfr, hlo⟩ := C
  intro ad ls H locs cells slots h1 h2 hr
  exact lv_i2l hx hb hd rfl (k ad ls H locs cells slots h1 h2 (hr.stk (vs_c vv_long (vs_t hr.2.2.1))))
theorem sj_i2b (C : sn_C p R s m args meth c D cA A X b ZS i) {x : Int32} (hd : decode (mb i) pc = .ok (.i2b, 1)) (k : sn_J p l e R s m args below meth c Q D cA b sa A z0 w0 ad0 n0 i (pc + 1) L (.int (x.toInt8.toInt32) :: st) M) : sn_J p l e R s m args below meth c Q D cA b sa A z0 w0 ad0 n0 i pc L (.int x :: st) M := by
  obtain ⟨hx, hb, hr0, hlk, hml, hown, hmn, hts, hK, hA, hZ, hfr, hlo⟩ := C
  intro ad ls H locs cells slots h1 h2 hr
  exact lv_i2b hx hb hd rfl (k ad ls H locs cells slots h1 h2 (hr.stk (vs_c vv_int (vs_t hr.2.2.1))))
theorem sj_l2i (C : sn_C p R s m args meth c D cA A X b ZS i) {x : Int64} (hd : decode (mb i) pc = .ok (.l2i, 1)) (k : sn_J p l e R s m args below meth c Q D cA b sa A z0 w0 ad0 n0 i (pc + 1) L (.int (x.toInt32) :: st) M) : sn_J p l e R s m args below meth c Q D cA b sa A z0 w0 ad0 n0 i pc L (.long x :: st) M := by
  obtain ⟨hx, hb, hr0, hlk, hml, hown, hmn, hts, hK, hA, hZ, hfr, hlo⟩ := C
  intro ad ls H locs cells slots h1 h2 hr
  exact lv_l2i hx hb hd rfl (k ad ls H locs cells slots h1 h2 (hr.stk (vs_c vv_int (vs_t hr.2.2.1))))
theorem sj_pop (C : sn_C p R s m args meth c D cA A X b ZS i) {v : Value} (hd : decode (mb i) pc = .ok (.pop, 1)) (hv : sm_long (some v) = false) (k : sn_J p l e R s m args below meth c Q D cA b sa A z0 w0 ad0 n0 i (pc + 1) L st M) : sn_J p l e R s m args below meth c Q D cA b sa A z0 w0 ad0 n0 i pc L (v :: st) M := by
  obtain ⟨hx, hb, hr0, hlk, hml, hown, hmn, hts, hK, hA, hZ, hfr, hlo⟩ := C
  intro ad ls H locs cells slots h1 h2 hr
  exact lv_pop hx hb hd (by rw [cv_cat]; exact (sm_long_not v).mp hv) (k ad ls H locs cells slots h1 h2 (hr.stk (vs_t hr.2.2.1)))
theorem sj_pop2 (C : sn_C p R s m args meth c D cA A X b ZS i) {v : Value} (hd : decode (mb i) pc = .ok (.pop2, 1)) (hv : sm_long (some v) = true) (k : sn_J p l e R s m args below meth c Q D cA b sa A z0 w0 ad0 n0 i (pc + 1) L st M) : sn_J p l e R s m args below meth c Q D cA b sa A z0 w0 ad0 n0 i pc L (v :: st) M := by
  obtain ⟨hx, hb, hr0, hlk, hml, hown, hmn, hts, hK, hA, hZ, hfr, hlo⟩ := C
  intro ad ls H locs cells slots h1 h2 hr
  exact lv_pop2_2 hx hb hd (by rw [cv_cat]; exact (sm_long_iff v).mp hv) (k ad ls H locs cells slots h1 h2 (hr.stk (vs_t hr.2.2.1)))
theorem sj_dup (C : sn_C p R s m args meth c D cA A X b ZS i) {v : Value} (hd : decode (mb i) pc = .ok (.dup, 1)) (hv : sm_long (some v) = false) (k : sn_J p l e R s m args below meth c Q D cA b sa A z0 w0 ad0 n0 i (pc + 1) L (v :: v :: st) M) : sn_J p l e R s m args below meth c Q D cA b sa A z0 w0 ad0 n0 i pc L (v :: st) M := by
  obtain ⟨hx, hb, hr0, hlk, hml, hown, hmn, hts, hK, hA, hZ, hfr, hlo⟩ := C
  intro ad ls H locs cells slots h1 h2 hr
  exact lv_dup hx hb hd (by rw [cv_cat]; exact (sm_long_not v).mp hv) (k ad ls H locs cells slots h1 h2 (hr.stk (vs_c (vs_h hr.2.2.1) hr.2.2.1)))
theorem sj_dup2 (C : sn_C p R s m args meth c D cA A X b ZS i) {v w : Value} (hd : decode (mb i) pc = .ok (.dup2, 1)) (hv : sm_long (some v) = false) (hw : sm_long (some w) = false) (k : sn_J p l e R s m args below meth c Q D cA b sa A z0 w0 ad0 n0 i (pc + 1) L (v :: w :: v :: w :: st) M) : sn_J p l e R s m args below meth c Q D cA b sa A z0 w0 ad0 n0 i pc L (v :: w :: st) M := by
  obtain ⟨hx, hb, hr0, hlk, hml, hown, hmn, hts, hK, hA, hZ, hfr, hlo⟩ := C
  intro ad ls H locs cells slots h1 h2 hr
  exact lv_dup2_11 hx hb hd (by rw [cv_cat]; exact (sm_long_not v).mp hv) (by rw [cv_cat]; exact (sm_long_not w).mp hw) (k ad ls H locs cells slots h1 h2 (hr.stk (vs_c (vs_h hr.2.2.1) (vs_c (vs_h (vs_t hr.2.2.1)) hr.2.2.1))))
theorem sj_icmp_eq (C : sn_C p R s m args meth c D cA A X b ZS i) {x y : Int32} {o : Int} {t : Nat} (hd : decode (mb i) pc = .ok (.if_icmp .eq o, 3)) (ht : (pc : Int) + o = (t : Int)) (kt : x = y → sn_J p l e R s m args below meth c Q D cA b sa A z0 w0 ad0 n0 i t L st M) (kf : ¬ (x = y) → sn_J p l e R s m args below meth c Q D cA b sa A z0 w0 ad0 n0 i (pc + 3) L st M) : sn_J p l e R s m args below meth c Q D cA b sa A z0 w0 ad0 n0 i pc L (.int y :: .int x :: st) M := by
  obtain ⟨hx, hb, hr0, hlk, hml, hown, hmn, hts, hK, hA, hZ, hfr, hlo⟩ := C
  intro ad ls H locs cells slots h1 h2 hr
  exact lv_icmp_eq hx hb hd ht (fun h => kt h ad ls H locs cells slots h1 h2 (hr.stk (vs_t (vs_t hr.2.2.1)))) (fun h => kf h ad ls H locs cells slots h1 h2 (hr.stk (vs_t (vs_t hr.2.2.1))))
theorem sj_if_eq (C : sn_C p R s m args meth c D cA A X b ZS i) {x : Int32} {o : Int} {t : Nat} (hd : decode (mb i) pc = .ok (.ifCond .eq o, 3)) (ht : (pc : Int) + o = (t : Int)) (kt : x = 0 → sn_J p l e R s m args below meth c Q D cA b sa A z0 w0 ad0 n0 i t L st M) (kf : ¬ (x = 0) → sn_J p l e R s m args below meth c Q D cA b sa A z0 w0 ad0 n0 i (pc + 3) L st M) : sn_J p l e R s m args below meth c Q D cA b sa A z0 w0 ad0 n0 i pc L (.int x :: st) M := by
  obtain ⟨hx, hb, hr0, hlk, hml, hown, hmn, hts, hK, hA, hZ, hfr, hlo⟩ := C
  intro ad ls H locs cells slots h1 h2 hr
  exact lv_if_eq hx hb hd ht (fun h => kt h ad ls H locs cells slots h1 h2 (hr.stk (vs_t hr.2.2.1))) (fun h => kf h ad ls H locs cells slots h1 h2 (hr.stk (vs_t hr.2.2.1)))
theorem sj_icmp_ne (C : sn_C p R s m args meth c D cA A X b ZS i) {x y : Int32} {o : Int} {t : Nat} (hd : decode (mb i) pc = .ok (.if_icmp .ne o, 3)) (ht : (pc : Int) + o = (t : Int)) (kt : ¬ x = y → sn_J p l e R s m args below meth c Q D cA b sa A z0 w0 ad0 n0 i t L st M) (kf : ¬ (¬ x = y) → sn_J p l e R s m args below meth c Q D cA b sa A z0 w0 ad0 n0 i (pc + 3) L st M) : sn_J p l e R s m args below meth c Q D cA b sa A z0 w0 ad0 n0 i pc L (.int y :: .int x :: st) M := by
  obtain ⟨hx, hb, hr0, hlk, hml, hown, hmn, hts, hK, hA, hZ, hfr, hlo⟩ := C
  intro ad ls H locs cells slots h1 h2 hr
  exact lv_icmp_ne hx hb hd ht (fun h => kt h ad ls H locs cells slots h1 h2 (hr.stk (vs_t (vs_t hr.2.2.1)))) (fun h => kf (fun z => z h) ad ls H locs cells slots h1 h2 (hr.stk (vs_t (vs_t hr.2.2.1))))
theorem sj_if_ne (C : sn_C p R s m args meth c D cA A X b ZS i) {x : Int32} {o : Int} {t : Nat} (hd : decode (mb i) pc = .ok (.ifCond .ne o, 3)) (ht : (pc : Int) + o = (t : Int)) (kt : ¬ x = 0 → sn_J p l e R s m args below meth c Q D cA b sa A z0 w0 ad0 n0 i t L st M) (kf : ¬ (¬ x = 0) → sn_J p l e R s m args below meth c Q D cA b sa A z0 w0 ad0 n0 i (pc + 3) L st M) : sn_J p l e R s m args below meth c Q D cA b sa A z0 w0 ad0 n0 i pc L (.int x :: st) M := by
  obtain ⟨hx, hb, hr0, hlk, hml, hown, hmn, hts, hK, hA, hZ, hfr, hlo⟩ := C
  intro ad ls H locs cells slots h1 h2 hr
  exact lv_if_ne hx hb hd ht (fun h => kt h ad ls H locs cells slots h1 h2 (hr.stk (vs_t hr.2.2.1))) (fun h => kf (fun z => z h) ad ls H locs cells slots h1 h2 (hr.stk (vs_t hr.2.2.1)))
theorem sj_icmp_lt (C : sn_C p R s m args meth c D cA A X b ZS i) {x y : Int32} {o : Int} {t : Nat} (hd : decode (mb i) pc = .ok (.if_icmp .lt o, 3)) (ht : (pc : Int) + o = (t : Int)) (kt : x < y → sn_J p l e R s m args below meth c Q D cA b sa A z0 w0 ad0 n0 i t L st M) (kf : ¬ (x < y) → sn_J p l e R s m args below meth c Q D cA b sa A z0 w0 ad0 n0 i (pc + 3) L st M) : sn_J p l e R s m args below meth c Q D cA b sa A z0 w0 ad0 n0 i pc L (.int y :: .int x :: st) M := by
  obtain ⟨hx, hb, hr0, hlk, hml, hown, hmn, hts, hK, hA, hZ, hfr, hlo⟩ := C
  intro ad ls H locs cells slots h1 h2 hr
  exact lv_icmp_lt hx hb hd ht (fun h => kt h ad ls H locs cells slots h1 h2 (hr.stk (vs_t (vs_t hr.2.2.1)))) (fun h => kf h ad ls H locs cells slots h1 h2 (hr.stk (vs_t (vs_t hr.2.2.1))))
theorem sj_if_lt (C : sn_C p R s m args meth c D cA A X b ZS i) {x : Int32} {o : Int} {t : Nat} (hd : decode (mb i) pc = .ok (.ifCond .lt o, 3)) (ht : (pc : Int) + o = (t : Int)) (kt : x < 0 → sn_J p l e R s m args below meth c Q D cA b sa A z0 w0 ad0 n0 i t L st M) (kf : ¬ (x < 0) → sn_J p l e R s m args below meth c Q D cA b sa A z0 w0 ad0 n0 i (pc + 3) L st M) : sn_J p l e R s m args below meth c Q D cA b sa A z0 w0 ad0 n0 i pc L (.int x :: st) M := by
  obtain ⟨hx, hb, hr0, hlk, hml, hown, hmn, hts, hK, hA, hZ, hfr, hlo⟩ := C
  intro ad ls H locs cells slots h1 h2 hr
  exact lv_if_lt hx hb hd ht (fun h => kt h ad ls H locs cells slots h1 h2 (hr.stk (vs_t hr.2.2.1))) (fun h => kf h ad ls H locs cells slots h1 h2 (hr.stk (vs_t hr.2.2.1)))
theorem sj_icmp_ge (C : sn_C p R s m args meth c D cA A X b ZS i) {x y : Int32} {o : Int} {t : Nat} (hd : decode (mb i) pc = .ok (.if_icmp .ge o, 3)) (ht : (pc : Int) + o = (t : Int)) (kt : y ≤ x → sn_J p l e R s m args below meth c Q D cA b sa A z0 w0 ad0 n0 i t L st M) (kf : ¬ (y ≤ x) → sn_J p l e R s m args below meth c Q D cA b sa A z0 w0 ad0 n0 i (pc + 3) L st M) : sn_J p l e R s m args below meth c Q D cA b sa A z0 w0 ad0 n0 i pc L (.int y :: .int x :: st) M := by
  obtain ⟨hx, hb, hr0, hlk, hml, hown, hmn, hts, hK, hA, hZ, hfr, hlo⟩ := C
  intro ad ls H locs cells slots h1 h2 hr
  exact lv_icmp_ge hx hb hd ht (fun h => kt h ad ls H locs cells slots h1 h2 (hr.stk (vs_t (vs_t hr.2.2.1)))) (fun h => kf h ad ls H locs cells slots h1 h2 (hr.stk (vs_t (vs_t hr.2.2.1))))
theorem sj_if_ge (C : sn_C p R s m args meth c D cA A X b ZS i) {x : Int32} {o : Int} {t : Nat} (hd : decode (mb i) pc = .ok (.ifCond .ge o, 3)) (ht : (pc : Int) + o = (t : Int)) (kt : 0 ≤ x → sn_J p l e R s m args below meth c Q D cA b sa A z0 w0 ad0 n0 i t L st M) (kf : ¬ (0 ≤ x) → sn_J p l e R s m args below meth c Q D cA b sa A z0 w0 ad0 n0 i (pc + 3) L st M) : sn_J p l e R s m args below meth c Q D cA b sa A z0 w0 ad0 n0 i pc L (.int x :: st) M := by
  obtain ⟨hx, hb, hr0, hlk, hml, hown, hmn, hts, hK, hA, hZ, hfr, hlo⟩ := C
  intro ad ls H locs cells slots h1 h2 hr
  exact lv_if_ge hx hb hd ht (fun h => kt h ad ls H locs cells slots h1 h2 (hr.stk (vs_t hr.2.2.1))) (fun h => kf h ad ls H locs cells slots h1 h2 (hr.stk (vs_t hr.2.2.1)))
theorem sj_icmp_gt (C : sn_C p R s m args meth c D cA A X b ZS i) {x y : Int32} {o : Int} {t : Nat} (hd : decode (mb i) pc = .ok (.if_icmp .gt o, 3)) (ht : (pc : Int) + o = (t : Int)) (kt : y < x → sn_J p l e R s m args below meth c Q D cA b sa A z0 w0 ad0 n0 i t L st M) (kf : ¬ (y < x) → sn_J p l e R s m args below meth c Q D cA b sa A z0 w0 ad0 n0 i (pc + 3) L st M) : sn_J p l e R s m args below meth c Q D cA b sa A z0 w0 ad0 n0 i pc L (.int y :: .int x :: st) M := by
  obtain ⟨hx, hb, hr0, hlk, hml, hown, hmn, hts, hK, hA, hZ, hfr, hlo⟩ := C
  intro ad ls H locs cells slots h1 h2 hr
  exact lv_icmp_gt hx hb hd ht (fun h => kt h ad ls H locs cells slots h1 h2 (hr.stk (vs_t (vs_t hr.2.2.1)))) (fun h => kf h ad ls H locs cells slots h1 h2 (hr.stk (vs_t (vs_t hr.2.2.1))))
theorem sj_if_gt (C : sn_C p R s m args meth c D cA A X b ZS i) {x : Int32} {o : Int} {t : Nat} (hd : decode (mb i) pc = .ok (.ifCond .gt o, 3)) (ht : (pc : Int) + o = (t : Int)) (kt : 0 < x → sn_J p l e R s m args below meth c Q D cA b sa A z0 w0 ad0 n0 i t L st M) (kf : ¬ (0 < x) → sn_J p l e R s m args below meth c Q D cA b sa A z0 w0 ad0 n0 i (pc + 3) L st M) : sn_J p l e R s m args below meth c Q D cA b sa A z0 w0 ad0 n0 i pc L (.int x :: st) M := by
  obtain ⟨hx, hb, hr0, hlk, hml, hown, hmn, hts, hK, hA, hZ, hfr, hlo⟩ := C
  intro ad ls H locs cells slots h1 h2 hr
  exact lv_if_gt hx hb hd ht (fun h => kt h ad ls H locs cells slots h1 h2 (hr.stk (vs_t hr.2.2.1))) (fun h => kf h ad ls H locs cells slots h1 h2 (hr.stk (vs_t hr.2.2.1)))
theorem sj_icmp_le (C : sn_C p R s m args meth c D cA A X b ZS i) {x y : Int32} {o : Int} {t : Nat} (hd : decode (mb i) pc = .ok (.if_icmp .le o, 3)) (ht : (pc : Int) + o = (t : Int)) (kt : x ≤ y → sn_J p l e R s m args below meth c Q D cA b sa A z0 w0 ad0 n0 i t L st M) (kf : ¬ (x ≤ y) → sn_J p l e R s m args below meth c Q D cA b sa A z0 w0 ad0 n0 i (pc + 3) L st M) : sn_J p l e R s m args below meth c Q D cA b sa A z0 w0 ad0 n0 i pc L (.int y :: .int x :: st) M := by
  obtain ⟨hx, hb, hr0, hlk, hml, hown, hmn, hts, hK, hA, hZ, hfr, hlo⟩ := C
  intro ad ls H locs cells slots h1 h2 hr
  exact lv_icmp_le hx hb hd ht (fun h => kt h ad ls H locs cells slots h1 h2 (hr.stk (vs_t (vs_t hr.2.2.1)))) (fun h => kf h ad ls H locs cells slots h1 h2 (hr.stk (vs_t (vs_t hr.2.2.1))))
theorem sj_if_le (C : sn_C p R s m args meth c D cA A X b ZS i) {x : Int32} {o : Int} {t : Nat} (hd : decode (mb i) pc = .ok (.ifCond .le o, 3)) (ht : (pc : Int) + o = (t : Int)) (kt : x ≤ 0 → sn_J p l e R s m args below meth c Q D cA b sa A z0 w0 ad0 n0 i t L st M) (kf : ¬ (x ≤ 0) → sn_J p l e R s m args below meth c Q D cA b sa A z0 w0 ad0 n0 i (pc + 3) L st M) : sn_J p l e R s m args below meth c Q D cA b sa A z0 w0 ad0 n0 i pc L (.int x :: st) M := by
  obtain ⟨hx, hb, hr0, hlk, hml, hown, hmn, hts, hK, hA, hZ, hfr, hlo⟩ := C
  intro ad ls H locs cells slots h1 h2 hr
  exact lv_if_le hx hb hd ht (fun h => kt h ad ls H locs cells slots h1 h2 (hr.stk (vs_t hr.2.2.1))) (fun h => kf h ad ls H locs cells slots h1 h2 (hr.stk (vs_t hr.2.2.1)))
theorem sj_goto (C : sn_C p R s m args meth c D cA A X b ZS i) {o : Int} {t : Nat} (hd : decode (mb i) pc = .ok (.goto o, 3)) (ht : (pc : Int) + o = (t : Int)) (k : sn_J p l e R s m args below meth c Q D cA b sa A z0 w0 ad0 n0 i t L st M) : sn_J p l e R s m args below meth c Q D cA b sa A z0 w0 ad0 n0 i pc L st M := by
  obtain ⟨hx, hb, hr0, hlk, hml, hown, hmn, hts, hK, hA, hZ, hfr, hlo⟩ := C
  intro ad ls H locs cells slots h1 h2 hr
  exact lv_goto hx hb hd ht (k ad ls H locs cells slots h1 h2 hr)
end SN
