section
theorem lkm_all : ∀ i, i < 316 → (i = 205 ∨ lkm i = true) := by
  intro i h
  by_cases h32 : i < 32
  · exact lkmg_0 i (by omega) (by omega)
  by_cases h85 : i < 85
  · exact lkmg_32 i (by omega) (by omega)
  by_cases h135 : i < 135
  · exact lkmg_85 i (by omega) (by omega)
  by_cases h176 : i < 176
  · exact lkmg_135 i (by omega) (by omega)
  by_cases h212 : i < 212
  · exact lkmg_176 i (by omega) (by omega)
  by_cases h244 : i < 244
  · exact lkmg_212 i (by omega) (by omega)
  by_cases h267 : i < 267
  · exact lkmg_244 i (by omega) (by omega)
  by_cases h290 : i < 290
  · exact lkmg_267 i (by omega) (by omega)
  by_cases h315 : i < 315
  · exact lkmg_290 i (by omega) (by omega)
  exact lkmg_315 i (by omega) (by omega)
end
section
/-! The machine does what the shadow does: values, worlds, locals. -/
def cv (ad : Nat → Nat) (b sa : Nat) : Value → Value
  | .ref k => .ref (ad k)
  | .retAddr n => bif Nat.beq n 1 then .ref b else bif Nat.beq n 2 then .ref sa else .retAddr n
  | v => v
theorem cv_cat (ad : Nat → Nat) (b sa : Nat) (v : Value) : (cv ad b sa v).category = v.category := by
  cases v with
  | retAddr n =>
    show (bif Nat.beq n 1 then Value.ref b else bif Nat.beq n 2 then Value.ref sa else Value.retAddr n).category = _
    cases Nat.beq n 1 <;> cases Nat.beq n 2 <;> rfl
  | _ => rfl
theorem sm_long_iff (v : Value) : sm_long (some v) = true ↔ v.category = 2 := by cases v <;> simp [sm_long, Value.category]
theorem sm_long_not (v : Value) : sm_long (some v) = false ↔ v.category = 1 := by cases v <;> simp [sm_long, Value.category]
def vv (n : Nat) (v : Value) : Prop := ∀ k, v = .ref k → k < n
theorem vv_int {n : Nat} {x : Int32} : vv n (.int x) := fun _ h => by cases h
theorem vv_long {n : Nat} {x : Int64} : vv n (.long x) := fun _ h => by cases h
theorem vv_ra {n z : Nat} : vv n (.retAddr z) := fun _ h => by cases h
theorem vv_null {n : Nat} : vv n .null := fun _ h => by cases h
theorem vv_ref {n k : Nat} (h : k < n) : vv n (.ref k) := fun _ e => by cases e; exact h
theorem vv_mono {n k : Nat} {v : Value} (h : vv n v) (hk : n ≤ k) : vv k v := fun j e => Nat.lt_of_lt_of_le (h j e) hk
theorem cv_ext {ad ad' : Nat → Nat} {b sa n : Nat} {v : Value} (h : vv n v) (he : ∀ k, k < n → ad' k = ad k) : cv ad' b sa v = cv ad b sa v := by
  cases v with
  | ref k => show Value.ref (ad' k) = Value.ref (ad k); rw [he k (h k rfl)]
  | _ => rfl
/-- how a cell's fields are kept -/
def fct (t j : Nat) : Nat := fcode ((cl_at t).2.1 j).2.2.1
def sn_e (cA : Nat → ClassId) (ad : Nat → Nat) (b sa : Nat) (M : sm_M) (k : Nat) (q : Nat × Nat) : va_E :=
  bif Nat.ble 100 q.1 then .inl (cA q.1, q.2, bif Nat.beq q.1 103 then .inr (.inl (M.2.2.2.1 k)) else .inl (M.2.2.1 k)) else .inr (q.1, (List.range q.2).map (fun j => cv ad b sa (sm_fv (fct q.1 j) M k j)))
def sn_W (cA : Nat → ClassId) (ad : Nat → Nat) (b sa : Nat) (M : sm_M) : va_W := (List.range M.1.length).map (fun k => (ad k, sn_e cA ad b sa M k (sm_kd M.1 k)))
theorem sm_kd_at : ∀ (K : List (Nat × Nat)) (k : Nat), k < K.length → K[k]? = some (sm_kd K k)
  | [], _, h => by simp at h
  | _ :: _, 0, _ => rfl
  | _ :: l, k + 1, h => by
    rw [List.getElem?_cons_succ]
    exact sm_kd_at l k (by simpa using h)
theorem sm_kd_out : ∀ (K : List (Nat × Nat)) (k : Nat), K.length ≤ k → sm_kd K k = (99, 0)
  | [], _, _ => rfl
  | _ :: _, 0, h => by simp at h
  | _ :: l, k + 1, h => sm_kd_out l k (by simpa using h)
theorem sm_kd_app : ∀ (K : List (Nat × Nat)) (e : Nat × Nat) (k : Nat), k < K.length → sm_kd (K ++ [e]) k = sm_kd K k
  | [], _, _, h => by simp at h
  | _ :: _, _, 0, _ => rfl
  | _ :: l, e, k + 1, h => sm_kd_app l e k (by simpa using h)
theorem sm_kd_new : ∀ (K : List (Nat × Nat)) (e : Nat × Nat), sm_kd (K ++ [e]) K.length = e
  | [], _ => rfl
  | _ :: l, e => sm_kd_new l e
theorem sm_rw_app : ∀ (R : List (List (Option Nat))) (e : List (Option Nat)) (k : Nat), k < R.length → sm_rw (R ++ [e]) k = sm_rw R k
  | [], _, _, h => by simp at h
  | _ :: _, _, 0, _ => rfl
  | _ :: l, e, k + 1, h => sm_rw_app l e k (by simpa using h)
theorem sm_rw_new : ∀ (R : List (List (Option Nat))) (e : List (Option Nat)), sm_rw (R ++ [e]) R.length = e
  | [], _ => rfl
  | _ :: l, e => sm_rw_new l e
theorem sm_rw_out : ∀ (R : List (List (Option Nat))) (k : Nat), R.length ≤ k → sm_rw R k = []
  | [], _, _ => rfl
  | _ :: _, 0, h => by simp at h
  | _ :: l, k + 1, h => sm_rw_out l k (by simpa using h)
theorem sm_set_len {α : Type} : ∀ (l : List α) (n : Nat) (v : α), (sm_set l n v).length = l.length
  | [], _, _ => rfl
  | _ :: _, 0, _ => rfl
  | _ :: l, n + 1, v => by simp [sm_set, sm_set_len l n v]
theorem sm_rw_set : ∀ (R : List (List (Option Nat))) (o : Nat) (v : List (Option Nat)) (k : Nat), o < R.length → sm_rw (sm_set R o v) k = if k = o then v else sm_rw R k
  | [], _, _, _, h => by simp at h
  | _ :: _, 0, _, 0, _ => rfl
  | _ :: _, 0, _, k + 1, _ => by simp [sm_set, sm_rw]
  | _ :: _, o + 1, _, 0, _ => by simp [sm_set, sm_rw]
  | _ :: l, o + 1, v, k + 1, h => by
    have := sm_rw_set l o v k (by simpa using h)
    simp [sm_set, sm_rw, this]
theorem sm_on_set : ∀ (R : List (Option Nat)) (o : Nat) (v : Option Nat) (k : Nat), o < R.length → sm_on (sm_set R o v) k = if k = o then v else sm_on R k
  | [], _, _, _, h => by simp at h
  | _ :: _, 0, _, 0, _ => rfl
  | _ :: _, 0, _, k + 1, _ => by simp [sm_set, sm_on]
  | _ :: _, o + 1, _, 0, _ => by simp [sm_set, sm_on]
  | _ :: l, o + 1, v, k + 1, h => by
    have := sm_on_set l o v k (by simpa using h)
    simp [sm_set, sm_on, this]
theorem sm_on_rep : ∀ (n k : Nat), sm_on (List.replicate n none) k = none
  | 0, _ => rfl
  | _ + 1, 0 => rfl
  | n + 1, k + 1 => by simp [List.replicate_succ, sm_on, sm_on_rep n k]
theorem up2_self {α : Type} {I : Nat → Nat → α} {a k : Nat} {v : α} : up2 I a k v a = va_up (I a) k v := by simp [up2, va_up]
theorem sn_at {cA : Nat → ClassId} {ad : Nat → Nat} {b sa : Nat} {M : sm_M} {k : Nat} (h : k < M.1.length) : (sn_W cA ad b sa M)[k]? = some (ad k, sn_e cA ad b sa M k (sm_kd M.1 k)) := by
  simp [sn_W, h]
theorem sn_len {cA : Nat → ClassId} {ad : Nat → Nat} {b sa : Nat} {M : sm_M} : (sn_W cA ad b sa M).length = M.1.length := by simp [sn_W]
/-- what holds of a memory -/
def sn_ok (M : sm_M) : Prop := M.2.2.2.2.length = M.1.length ∧
  (∀ k, k < M.1.length → ((sm_kd M.1 k).1 < 13 ∧ (sm_kd M.1 k).2 = (cl_at (sm_kd M.1 k).1).2.2 ∧ (sm_rw M.2.2.2.2 k).length = (sm_kd M.1 k).2) ∨ (100 ≤ (sm_kd M.1 k).1 ∧ (sm_kd M.1 k).1 ≤ 103)) ∧
  (∀ k j r, sm_on (sm_rw M.2.2.2.2 k) j = some r → r < M.1.length) ∧ (∀ k, M.1.length ≤ k → ∀ j, M.2.2.1 k j = 0 ∧ M.2.2.2.1 k j = 0)
theorem sn_fv_ok {M : sm_M} (h : sn_ok M) (c o k : Nat) : vv M.1.length (sm_fv c M o k) := by
  unfold sm_fv
  cases Nat.beq c 3 with
  | true =>
    simp only [cond_true]
    cases hr : sm_on (sm_rw M.2.2.2.2 o) k with
    | none => exact vv_null
    | some r => exact vv_ref (h.2.2.1 _ _ _ hr)
  | false =>
    simp only [cond_false]
    cases Nat.beq c 2 with
    | true => exact vv_long
    | false => exact vv_int
/-- the locals that are known -/
def sn_en (ad : Nat → Nat) (b sa : Nat) : Nat → sm_L → List (Nat × Value)
  | _, [] => []
  | k, none :: l => sn_en ad b sa (k + 1) l
  | k, some v :: l => (k, cv ad b sa v) :: sn_en ad b sa (k + 1) l
theorem sn_en_mem {ad : Nat → Nat} {b sa : Nat} : ∀ (L : sm_L) (k : Nat) (q : Nat × Value), q ∈ sn_en ad b sa k L ↔ ∃ j v, q.1 = k + j ∧ sm_nth L j = some v ∧ q.2 = cv ad b sa v
  | [], k, q => by simp [sn_en, sm_nth]
  | none :: l, k, q => by
    rw [show sn_en ad b sa k (none :: l) = sn_en ad b sa (k + 1) l from rfl, sn_en_mem l (k + 1) q]
    constructor
    · rintro ⟨j, v, h1, h2, h3⟩; exact ⟨j + 1, v, by omega, h2, h3⟩
    · rintro ⟨j, v, h1, h2, h3⟩
      cases j with
      | zero => cases h2
      | succ j => exact ⟨j, v, by omega, h2, h3⟩
  | some w :: l, k, q => by
    rw [show sn_en ad b sa k (some w :: l) = (k, cv ad b sa w) :: sn_en ad b sa (k + 1) l from rfl, List.mem_cons, sn_en_mem l (k + 1) q]
    constructor
    · rintro (rfl | ⟨j, v, h1, h2, h3⟩)
      · exact ⟨0, w, rfl, rfl, rfl⟩
      · exact ⟨j + 1, v, by omega, h2, h3⟩
    · rintro ⟨j, v, h1, h2, h3⟩
      cases j with
      | zero =>
        have : w = v := Option.some.inj h2
        subst this
        exact Or.inl (Prod.ext (by simpa using h1) h3)
      | succ j => exact Or.inr ⟨j, v, by omega, h2, h3⟩
theorem lv_less {ls : Array Slot} {nL : Nat} {l l' : List (Nat × Value)} (h : lv_has ls nL l) (hs : ∀ q ∈ l', q ∈ l) : lv_has ls nL l' := ⟨h.1, h.2.1, fun q hq => h.2.2 q (hs q hq)⟩
theorem sm_nth_st1 : ∀ (L : sm_L) (i : Nat) (v : Value) (j : Nat) (w : Value), sm_nth (sm_st1 L i v) j = some w → (j = i ∧ w = v) ∨ (j ≠ i ∧ sm_nth L j = some w ∧ ¬ (j + 1 = i ∧ w.category = 2))
  | [], _, _, _, _, h => by cases h
  | _ :: _, 0, _, 0, _, h => Or.inl ⟨rfl, (Option.some.inj h).symm⟩
  | _ :: _, 0, _, j + 1, _, h => Or.inr ⟨by omega, h, by omega⟩
  | x :: l, 1, v, 0, w, h => by
    refine Or.inr ⟨by omega, ?_, ?_⟩
    · cases hx : sm_long x with
      | true => simp [sm_st1, sm_nth, hx] at h
      | false => simpa [sm_st1, sm_nth, hx] using h
    · rintro ⟨-, hc⟩
      cases hx : sm_long x with
      | true => simp [sm_st1, sm_nth, hx] at h
      | false =>
        have e : x = some w := by simpa [sm_st1, sm_nth, hx] using h
        rw [e, (sm_long_iff w).mpr hc] at hx
        cases hx
  | _ :: l, 1, v, j + 1, w, h => by
    have h : sm_nth (sm_st1 l 0 v) j = some w := h
    rcases sm_nth_st1 l 0 v j w h with ⟨a, b⟩ | ⟨a, b, c⟩
    · exact Or.inl ⟨by omega, b⟩
    · exact Or.inr ⟨by omega, b, by omega⟩
  | _ :: _, n + 2, _, 0, _, h => Or.inr ⟨by omega, h, by omega⟩
  | _ :: l, n + 2, v, j + 1, w, h => by
    have h : sm_nth (sm_st1 l (n + 1) v) j = some w := h
    rcases sm_nth_st1 l (n + 1) v j w h with ⟨a, b⟩ | ⟨a, b, c⟩
    · exact Or.inl ⟨by omega, b⟩
    · exact Or.inr ⟨by omega, b, fun z => c ⟨by omega, z.2⟩⟩
theorem sm_nth_set : ∀ (L : sm_L) (i : Nat) (j : Nat) (w : Value), sm_nth (sm_set L i none) j = some w → j ≠ i ∧ sm_nth L j = some w
  | [], _, _, _, h => by cases h
  | _ :: _, 0, 0, _, h => by cases h
  | _ :: _, 0, j + 1, _, h => ⟨by omega, h⟩
  | _ :: _, n + 1, 0, _, h => ⟨by omega, h⟩
  | _ :: l, n + 1, j + 1, w, h => by
    have := sm_nth_set l n j w h
    exact ⟨by omega, this.2⟩
theorem sm_nth_kill : ∀ (ks : List Bool) (L : sm_L) (j : Nat) (w : Value), sm_nth (sm_kill ks L) j = some w → sm_nth L j = some w
  | [], _, _, _, h => h
  | _ :: _, [], _, _, h => by cases h
  | b :: _, x :: _, 0, w, h => by
    cases b with
    | true => exact h
    | false => cases h
  | _ :: ks, _ :: L, j + 1, w, h => sm_nth_kill ks L j w h
theorem sm_nth_pad : ∀ (n : Nat) (L : sm_L) (j : Nat) (w : Value), sm_nth (sm_pad n L) j = some w → sm_nth L j = some w
  | 0, _, _, _, h => h
  | _ + 1, [], 0, _, h => by cases h
  | n + 1, [], j + 1, w, h => by have := sm_nth_pad n [] j w h; cases this
  | _ + 1, _ :: _, 0, _, h => h
  | n + 1, _ :: L, j + 1, w, h => sm_nth_pad n L j w h
theorem sm_nth_ent (ad : Nat → Nat) (b sa : Nat) : ∀ (as : List Value) (k j : Nat) (w : Value), sm_nth (sm_ent as) j = some w → (k + j, cv ad b sa w) ∈ lv_args k (as.map (cv ad b sa)) ∧ w ∈ as
  | [], _, _, _, h => by cases h
  | v :: l, k, j, w, h => by
    rw [List.map_cons]
    unfold lv_args
    rw [cv_cat]
    unfold sm_ent at h
    cases hv : sm_long (some v) with
    | true =>
      rw [hv] at h
      rw [if_pos ((sm_long_iff v).mp hv)]
      match j, h with
      | 0, h => have := Option.some.inj h; subst this; exact ⟨List.mem_cons_self, List.mem_cons_self⟩
      | 1, h => cases h
      | j + 2, h =>
        have := sm_nth_ent ad b sa l (k + 2) j w h
        exact ⟨List.mem_cons_of_mem _ (by rw [show k + (j + 2) = k + 2 + j by omega]; exact this.1), List.mem_cons_of_mem _ this.2⟩
    | false =>
      rw [hv] at h
      rw [if_neg (by rw [(sm_long_not v).mp hv]; decide)]
      match j, h with
      | 0, h => have := Option.some.inj h; subst this; exact ⟨List.mem_cons_self, List.mem_cons_self⟩
      | j + 1, h =>
        have := sm_nth_ent ad b sa l (k + 1) j w h
        exact ⟨List.mem_cons_of_mem _ (by rw [show k + (j + 1) = k + 1 + j by omega]; exact this.1), List.mem_cons_of_mem _ this.2⟩
end
section
/-! Each instruction of the shadow is the machine's. -/
def cz (M : sm_M) : Nat := M.1.length + M.2.1.1
def sz (M : sm_M) : Nat := (M.1.map (fun q => q.2)).sum + M.2.1.2
def sn_cn (z0 : Nat) (ad0 : Nat → Nat) (n0 : Nat) (ad : Nat → Nat) (cells : Nat) (M : sm_M) : Prop := cells + z0 = cz M ∧ n0 ≤ M.1.length ∧ ∀ k, k < n0 → ad k = ad0 k
abbrev sn_ty (cA : Nat → ClassId) : List (ClassId × FieldType) := [(cA 100, .int), (cA 101, .boolean), (cA 102, .byte), (cA 103, .long)]
/-- the words that link across a nest -/
def nestw : Cond → Bool
  | .methodLinkNest _ _ _ _ => true
  | _ => false
/-- what lies outside: the script, the links across the nest, and ZS -/
def sn_Z (X : (Nat → Int32) × Nat) (b : Nat) (ZS : (Nat → Prop) → State → Prop) (A : Nat → Prop) (s : State) : Prop := va_X b X.2 X.1 s s.heap ∧ b < s.heap.size ∧ ¬ A b ∧ (∀ w ∈ lw_tbl, nestw w = true → va_Nw w s) ∧ ZS A s
def sn_C (p : Program) (R : Room) (s : State) (m : MethodId) (args : Array Value) (meth : Method) (c : Code) (D : va_G) (cA : Nat → ClassId) (A : Nat → Prop) (X : (Nat → Int32) × Nat) (b : Nat) (ZS : Nat → (Nat → Prop) → State → Prop) (i : Nat) : Prop :=
  p.tables.exec = Jvm.exec ∧ c.code = mb i ∧ meth.sig.returnType = mr i ∧ meth.locks = false ∧ c.maxLocals = (sm_mi i).2 ∧ s.vm.findClass (my i).cls = some m.cls ∧ meth.name = (my i).name ∧ (∀ w ∈ uw, w.before args s = true) ∧ va_K D cl_all (sn_ty cA) s ∧ (∀ q, s.heap.size ≤ q → A q) ∧ sn_Z X b (ZS i) A s ∧ (mrm i).1 ≤ R.frames ∧ (mrm i).2 ≤ R.locals
def sn_rel (nL : Nat) (A : Nat → Prop) (H0 : Heap) (D : va_G) (cA : Nat → ClassId) (b sa : Nat) (ad : Nat → Nat) (ls : Array Slot) (H : Heap) (locs : List Loc) (L : sm_L) (st : sm_S) (M : sm_M) : Prop :=
  lv_has ls nL (sn_en ad b sa 0 L) ∧ (∀ k v, sm_nth L k = some v → vv M.1.length v) ∧ (∀ v ∈ st, vv M.1.length v) ∧ sn_ok M ∧ va_P D cl_all (sn_W cA ad b sa M) H ∧ va_D A (sn_W cA ad b sa M) ∧ va_S A H0 H locs
def sn_J (p : Program) (l : Launch) (e : Env) (R : Room) (s : State) (m : MethodId) (args : Array Value) (below : List Frame) (meth : Method) (c : Code) (Q : State → Prop) (D : va_G) (cA : Nat → ClassId) (b sa : Nat) (A : Nat → Prop) (z0 w0 : Nat) (ad0 : Nat → Nat) (n0 : Nat) (i pc : Nat) (L : sm_L) (st : sm_S) (M : sm_M) : Prop :=
  ∀ (ad : Nat → Nat) (ls : Array Slot) (H : Heap) (locs : List Loc) (cells slots : Nat), sn_cn z0 ad0 n0 ad cells M → slots + w0 = sz M → sn_rel (sm_mi i).2 A s.heap D cA b sa ad ls H locs L st M → W p l e R s m args below meth c H locs cells slots Q (F0 m pc ls (st.map (cv ad b sa)))
theorem sn_store1 {nL : Nat} {A : Nat → Prop} {H0 : Heap} {D : va_G} {cA : Nat → ClassId} {b sa : Nat} {ad : Nat → Nat} {ls ls2 : Array Slot} {H : Heap} {locs : List Loc} {L : sm_L} {st st' : sm_S} {M : sm_M} {n : Nat} {v : Value} (hr : sn_rel nL A H0 D cA b sa ad ls H locs L st M) (hv : vv M.1.length v) (hst : ∀ w ∈ st', vv M.1.length w)
    (hl : lv_has ls2 nL ((n, cv ad b sa v) :: (sn_en ad b sa 0 L).filter (fun q => !(q.1 == n) && !(q.1 + 1 == n && q.2.category == 2)))) : sn_rel nL A H0 D cA b sa ad ls2 H locs (sm_st1 L n v) st' M := by
  refine ⟨lv_less hl fun q hq => ?_, fun j w hj => ?_, hst, hr.2.2.2⟩
  · obtain ⟨j, w, a1, a2, a3⟩ := (sn_en_mem _ _ _).mp hq
    rw [Nat.zero_add] at a1
    rcases sm_nth_st1 _ _ _ _ _ a2 with ⟨e1, e2⟩ | ⟨e1, e2, e3⟩
    · refine List.mem_cons.mpr (Or.inl (Prod.ext (a1.trans e1) ?_))
      rw [a3, e2]
    · refine List.mem_cons_of_mem _ (List.mem_filter.mpr ⟨(sn_en_mem _ _ _).mpr ⟨j, w, by omega, e2, a3⟩, ?_⟩)
      have h3 : q.2.category = w.category := by rw [a3, cv_cat]
      simp only [a1, h3, Bool.and_eq_true, Bool.not_eq_true', beq_eq_false_iff_ne, ne_eq, Bool.and_eq_false_iff]
      refine ⟨e1, ?_⟩
      by_cases hz : j + 1 = n
      · exact Or.inr fun hc => e3 ⟨hz, hc⟩
      · exact Or.inl hz
  · rcases sm_nth_st1 _ _ _ _ _ hj with ⟨-, e2⟩ | ⟨-, e2, -⟩
    · rw [e2]; exact hv
    · exact hr.2.1 _ _ e2
theorem sn_store2 {nL : Nat} {A : Nat → Prop} {H0 : Heap} {D : va_G} {cA : Nat → ClassId} {b sa : Nat} {ad : Nat → Nat} {ls ls2 : Array Slot} {H : Heap} {locs : List Loc} {L : sm_L} {st st' : sm_S} {M : sm_M} {n : Nat} {x : Int64} (hr : sn_rel nL A H0 D cA b sa ad ls H locs L st M) (hst : ∀ w ∈ st', vv M.1.length w)
    (hl : lv_has ls2 nL ((n, Value.long x) :: (sn_en ad b sa 0 L).filter (fun q => !(q.1 == n) && (!(q.1 == n + 1) && !(q.1 + 1 == n && q.2.category == 2))))) : sn_rel nL A H0 D cA b sa ad ls2 H locs (sm_st2 L n (.long x)) st' M := by
  refine ⟨lv_less hl fun q hq => ?_, fun j w hj => ?_, hst, hr.2.2.2⟩
  · obtain ⟨j, w, a1, a2, a3⟩ := (sn_en_mem _ _ _).mp hq
    rw [Nat.zero_add] at a1
    obtain ⟨d1, d2⟩ := sm_nth_set _ _ _ _ a2
    rcases sm_nth_st1 _ _ _ _ _ d2 with ⟨e1, e2⟩ | ⟨e1, e2, e3⟩
    · refine List.mem_cons.mpr (Or.inl (Prod.ext (a1.trans e1) ?_))
      rw [a3, e2]; rfl
    · refine List.mem_cons_of_mem _ (List.mem_filter.mpr ⟨(sn_en_mem _ _ _).mpr ⟨j, w, by omega, e2, a3⟩, ?_⟩)
      have h3 : q.2.category = w.category := by rw [a3, cv_cat]
      simp only [a1, h3, Bool.and_eq_true, Bool.not_eq_true', beq_eq_false_iff_ne, ne_eq, Bool.and_eq_false_iff]
      refine ⟨e1, d1, ?_⟩
      by_cases hz : j + 1 = n
      · exact Or.inr fun hc => e3 ⟨hz, hc⟩
      · exact Or.inl hz
  · obtain ⟨d1, d2⟩ := sm_nth_set _ _ _ _ hj
    rcases sm_nth_st1 _ _ _ _ _ d2 with ⟨-, e2⟩ | ⟨-, e2, -⟩
    · rw [e2]; exact vv_long
    · exact hr.2.1 _ _ e2
section SN
variable {p : Program} {l : Launch} {e : Env} {R : Room} {s : State} {m : MethodId} {args : Array Value} {below : List Frame} {meth : Method} {c : Code} {Q : State → Prop} {D : va_G} {cA : Nat → ClassId} {b sa : Nat} {A : Nat → Prop} {z0 w0 : Nat} {ad0 : Nat → Nat} {n0 : Nat} {i pc : Nat} {X : (Nat → Int32) × Nat} {L : sm_L} {st : sm_S} {M : sm_M}
variable {ZS : Nat → (Nat → Prop) → State → Prop}
theorem sn_rel.stk {nL : Nat} {H0 : Heap} {ad : Nat → Nat} {ls : Array Slot} {H : Heap} {locs : List Loc} {st' : sm_S} (h : sn_rel nL A H0 D cA b sa ad ls H locs L st M) (h' : ∀ v ∈ st', vv M.1.length v) : sn_rel nL A H0 D cA b sa ad ls H locs L st' M := ⟨h.1, h.2.1, h', h.2.2.2⟩
theorem vs_nil {n : Nat} : ∀ v ∈ ([] : sm_S), vv n v := fun _ h => absurd h List.not_mem_nil
theorem vs_c {n : Nat} {v : Value} {l : sm_S} (h : vv n v) (hl : ∀ v ∈ l, vv n v) : ∀ w ∈ v :: l, vv n w := List.forall_mem_cons.mpr ⟨h, hl⟩
theorem vs_t {n : Nat} {v : Value} {l : sm_S} (h : ∀ w ∈ v :: l, vv n w) : ∀ w ∈ l, vv n w := (List.forall_mem_cons.mp h).2
theorem vs_h {n : Nat} {v : Value} {l : sm_S} (h : ∀ w ∈ v :: l, vv n w) : vv n v := (List.forall_mem_cons.mp h).1
theorem sj_kill (k : sn_J p l e R s m args below meth c Q D cA b sa A z0 w0 ad0 n0 i pc (sm_kl i pc L) st M) : sn_J p l e R s m args below meth c Q D cA b sa A z0 w0 ad0 n0 i pc L st M := by
  intro ad ls H locs cells slots h1 h2 hr
  have hk : ∀ j w, sm_nth (sm_kl i pc L) j = some w → sm_nth L j = some w := by
    intro j w h
    unfold sm_kl at h
    cases hf : sm_from (sm_code i) pc with
    | nil => rw [hf] at h; exact h
    | cons z t => rw [hf] at h; exact sm_nth_kill _ _ _ _ h
  refine k ad ls H locs cells slots h1 h2 ⟨lv_less hr.1 fun q hq => ?_, fun j v hj => hr.2.1 j v (hk j v hj), hr.2.2⟩
  obtain ⟨j, v, a1, a2, a3⟩ := (sn_en_mem _ _ _).mp hq
  exact (sn_en_mem _ _ _).mpr ⟨j, v, a1, hk j v a2, a3⟩
theorem sj_iconst (C : sn_C p R s m args meth c D cA A X b ZS i) {n : Int} {k0 : Int32} (hd : decode (mb i) pc = .ok (.iconst n, 1)) (hv : Int32.ofInt n = k0) (k : sn_J p l e R s m args below meth c Q D cA b sa A z0 w0 ad0 n0 i (pc + 1) L (.int k0 :: st) M) : sn_J p l e R s m args below meth c Q D cA b sa A z0 w0 ad0 n0 i pc L st M := by
  obtain ⟨hx, hb, hr0, hlk, hml, hown, hmn, hts, hK, hA, hZ, hfr, hlo⟩ := C
  intro ad ls H locs cells slots h1 h2 hr
  exact lv_iconst hx hb hd hv (k ad ls H locs cells slots h1 h2 (hr.stk (vs_c vv_int hr.2.2.1)))
theorem sj_bipush (C : sn_C p R s m args meth c D cA A X b ZS i) {n : Int} {k0 : Int32} (hd : decode (mb i) pc = .ok (.bipush n, 2)) (hv : (Int8.ofInt n).toInt32 = k0) (k : sn_J p l e R s m args below meth c Q D cA b sa A z0 w0 ad0 n0 i (pc + 2) L (.int k0 :: st) M) : sn_J p l e R s m args below meth c Q D cA b sa A z0 w0 ad0 n0 i pc L st M := by
  obtain ⟨hx, hb, hr0, hlk, hml, hown, hmn, hts, hK, hA, hZ, hfr, hlo⟩ := C
  intro ad ls H locs cells slots h1 h2 hr
  exact lv_bipush hx hb hd hv (k ad ls H locs cells slots h1 h2 (hr.stk (vs_c vv_int hr.2.2.1)))
theorem sj_sipush (C : sn_C p R s m args meth c D cA A X b ZS i) {n : Int} {k0 : Int32} (hd : decode (mb i) pc = .ok (.sipush n, 3)) (hv : (Int16.ofInt n).toInt32 = k0) (k : sn_J p l e R s m args below meth c Q D cA b sa A z0 w0 ad0 n0 i (pc + 3) L (.int k0 :: st) M) : sn_J p l e R s m args below meth c Q D cA b sa A z0 w0 ad0 n0 i pc L st M := by
  obtain ⟨hx, hb, hr0, hlk, hml, hown, hmn, hts, hK, hA, hZ, hfr, hlo⟩ := C
  intro ad ls H locs cells slots h1 h2 hr
  exact lv_sipush hx hb hd hv (k ad ls H locs cells slots h1 h2 (hr.stk (vs_c vv_int hr.2.2.1)))
theorem sj_lconst (C : sn_C p R s m args meth c D cA A X b ZS i) {n : Fin 2} {k0 : Int64} (hd : decode (mb i) pc = .ok (.lconst n, 1)) (hv : Int64.ofNat (n : Nat) = k0) (k : sn_J p l e R s m args below meth c Q D cA b sa A z0 w0 ad0 n0 i (pc + 1) L (.long k0 :: st) M) : sn_J p l e R s m args below meth c Q D cA b sa A z0 w0 ad0 n0 i pc L st M := by
  obtain ⟨hx, hb, hr0, hlk, hml, hown, hmn, hts, hK, hA, hZ, hfr, hlo⟩ := C
  intro ad ls H locs cells slots h1 h2 hr
  exact lv_lconst hx hb hd hv (k ad ls H locs cells slots h1 h2 (hr.stk (vs_c vv_long hr.2.2.1)))
theorem sj_ldc (C : sn_C p R s m args meth c D cA A X b ZS i) {ix : Nat} {k0 : Int32} (hd : decode (mb i) pc = .ok (.ldc ix, 2)) (hv : Cond.constant (my i).cls ix k0 ∈ uw) (k : sn_J p l e R s m args below meth c Q D cA b sa A z0 w0 ad0 n0 i (pc + 2) L (.int k0 :: st) M) : sn_J p l e R s m args below meth c Q D cA b sa A z0 w0 ad0 n0 i pc L st M := by
  obtain ⟨hx, hb, hr0, hlk, hml, hown, hmn, hts, hK, hA, hZ, hfr, hlo⟩ := C
  intro ad ls H locs cells slots h1 h2 hr
  exact lv_ldc hx hb hown (hts _ hv) hd (k ad ls H locs cells slots h1 h2 (hr.stk (vs_c vv_int hr.2.2.1)))
theorem sj_ldcw (C : sn_C p R s m args meth c D cA A X b ZS i) {ix : Nat} {k0 : Int32} (hd : decode (mb i) pc = .ok (.ldc_w ix, 3)) (hv : Cond.constant (my i).cls ix k0 ∈ uw) (k : sn_J p l e R s m args below meth c Q D cA b sa A z0 w0 ad0 n0 i (pc + 3) L (.int k0 :: st) M) : sn_J p l e R s m args below meth c Q D cA b sa A z0 w0 ad0 n0 i pc L st M := by
  obtain ⟨hx, hb, hr0, hlk, hml, hown, hmn, hts, hK, hA, hZ, hfr, hlo⟩ := C
  intro ad ls H locs cells slots h1 h2 hr
  exact lv_ldcw hx hb hown (hts _ hv) hd (k ad ls H locs cells slots h1 h2 (hr.stk (vs_c vv_int hr.2.2.1)))
theorem sj_ldc2 (C : sn_C p R s m args meth c D cA A X b ZS i) {ix : Nat} {k0 : Int64} (hd : decode (mb i) pc = .ok (.ldc2_w ix, 3)) (hv : Cond.constantLong (my i).cls ix k0 ∈ uw) (k : sn_J p l e R s m args below meth c Q D cA b sa A z0 w0 ad0 n0 i (pc + 3) L (.long k0 :: st) M) : sn_J p l e R s m args below meth c Q D cA b sa A z0 w0 ad0 n0 i pc L st M := by
  obtain ⟨hx, hb, hr0, hlk, hml, hown, hmn, hts, hK, hA, hZ, hfr, hlo⟩ := C
  intro ad ls H locs cells slots h1 h2 hr
  exact lv_ldc2 hx hb hown (hts _ hv) hd (k ad ls H locs cells slots h1 h2 (hr.stk (vs_c vv_long hr.2.2.1)))
theorem sj_iload (C : sn_C p R s m args meth c D cA A X b ZS i) {n : Nat} {x : Int32} (hd : decode (mb i) pc = .ok (.iload n, 2)) (hn : sm_nth L n = some (.int x)) (k : sn_J p l e R s m args below meth c Q D cA b sa A z0 w0 ad0 n0 i (pc + 2) L (.int x :: st) M) : sn_J p l e R s m args below meth c Q D cA b sa A z0 w0 ad0 n0 i pc L st M := by
  obtain ⟨hx, hb, hr0, hlk, hml, hown, hmn, hts, hK, hA, hZ, hfr, hlo⟩ := C
  intro ad ls H locs cells slots h1 h2 hr
  have hl : ls[n]? = some (.val (cv ad b sa (.int x))) := hr.1.2.2 (n, _) ((sn_en_mem _ _ _).mpr ⟨n, _, by simp, hn, rfl⟩)
  exact lv_iload hx hb hd hl (k ad ls H locs cells slots h1 h2 (hr.stk (vs_c vv_int hr.2.2.1)))
theorem sj_iload_n (C : sn_C p R s m args meth c D cA A X b ZS i) {n : Fin 4} {x : Int32} (hd : decode (mb i) pc = .ok (.iload_n n, 1)) (hn : sm_nth L n.val = some (.int x)) (k : sn_J p l e R s m args below meth c Q D cA b sa A z0 w0 ad0 n0 i (pc + 1) L (.int x :: st) M) : sn_J p l e R s m args below meth c Q D cA b sa A z0 w0 ad0 n0 i pc L st M := by
  obtain ⟨hx, hb, hr0, hlk, hml, hown, hmn, hts, hK, hA, hZ, hfr, hlo⟩ := C
  intro ad ls H locs cells slots h1 h2 hr
  have hl : ls[n.val]? = some (.val (cv ad b sa (.int x))) := hr.1.2.2 (n.val, _) ((sn_en_mem _ _ _).mpr ⟨n.val, _, by simp, hn, rfl⟩)
  exact lv_iload_n hx hb hd rfl hl (k ad ls H locs cells slots h1 h2 (hr.stk (vs_c vv_int hr.2.2.1)))
theorem sj_lload (C : sn_C p R s m args meth c D cA A X b ZS i) {n : Nat} {x : Int64} (hd : decode (mb i) pc = .ok (.lload n, 2)) (hn : sm_nth L n = some (.long x)) (k : sn_J p l e R s m args below meth c Q D cA b sa A z0 w0 ad0 n0 i (pc + 2) L (.long x :: st) M) : sn_J p l e R s m args below meth c Q D cA b sa A z0 w0 ad0 n0 i pc L st M := by
  obtain ⟨hx, hb, hr0, hlk, hml, hown, hmn, hts, hK, hA, hZ, hfr, hlo⟩ := C
  intro ad ls H locs cells slots h1 h2 hr
  have hl : ls[n]? = some (.val (cv ad b sa (.long x))) := hr.1.2.2 (n, _) ((sn_en_mem _ _ _).mpr ⟨n, _, by simp, hn, rfl⟩)
  exact lv_lload hx hb hd hl (k ad ls H locs cells slots h1 h2 (hr.stk (vs_c vv_long hr.2.2.1)))
theorem sj_lload_n (C : sn_C p R s m args meth c D cA A X b ZS i) {n : Fin 4} {x : Int64} (hd : decode (mb i) pc = .ok (.lload_n n, 1)) (hn : sm_nth L n.val = some (.long x)) (k : sn_J p l e R s m args below meth c Q D cA b sa A z0 w0 ad0 n0 i (pc + 1) L (.long x :: st) M) : sn_J p l e R s m args below meth c Q D cA b sa A z0 w0 ad0 n0 i pc L st M := by
  obtain ⟨hx, hb, hr0, hlk, hml, hown, hmn, hts, hK, hA, hZ, hfr, hlo⟩ := C
  intro ad ls H locs cells slots h1 h2 hr
  have hl : ls[n.val]? = some (.val (cv ad b sa (.long x))) := hr.1.2.2 (n.val, _) ((sn_en_mem _ _ _).mpr ⟨n.val, _, by simp, hn, rfl⟩)
  exact lv_lload_n hx hb hd rfl hl (k ad ls H locs cells slots h1 h2 (hr.stk (vs_c vv_long hr.2.2.1)))
theorem sj_aload (C : sn_C p R s m args meth c D cA A X b ZS i) {n : Nat} {x : Nat} (hd : decode (mb i) pc = .ok (.aload n, 2)) (hn : sm_nth L n = some (.ref x)) (k : sn_J p l e R s m args below meth c Q D cA b sa A z0 w0 ad0 n0 i (pc + 2) L (.ref x :: st) M) : sn_J p l e R s m args below meth c Q D cA b sa A z0 w0 ad0 n0 i pc L st M := by
  obtain ⟨hx, hb, hr0, hlk, hml, hown, hmn, hts, hK, hA, hZ, hfr, hlo⟩ := C
  intro ad ls H locs cells slots h1 h2 hr
  have hl : ls[n]? = some (.val (cv ad b sa (.ref x))) := hr.1.2.2 (n, _) ((sn_en_mem _ _ _).mpr ⟨n, _, by simp, hn, rfl⟩)
  exact lv_aload hx hb hd hl (k ad ls H locs cells slots h1 h2 (hr.stk (vs_c (hr.2.1 _ _ hn) hr.2.2.1)))
theorem sj_aload_n (C : sn_C p R s m args meth c D cA A X b ZS i) {n : Fin 4} {x : Nat} (hd : decode (mb i) pc = .ok (.aload_n n, 1)) (hn : sm_nth L n.val = some (.ref x)) (k : sn_J p l e R s m args below meth c Q D cA b sa A z0 w0 ad0 n0 i (pc + 1) L (.ref x :: st) M) : sn_J p l e R s m args below meth c Q D cA b sa A z0 w0 ad0 n0 i pc L st M := by
  obtain ⟨hx, hb, hr0, hlk, hml, hown, hmn, hts, hK, hA, hZ, hfr, hlo⟩ := C
  intro ad ls H locs cells slots h1 h2 hr
  have hl : ls[n.val]? = some (.val (cv ad b sa (.ref x))) := hr.1.2.2 (n.val, _) ((sn_en_mem _ _ _).mpr ⟨n.val, _, by simp, hn, rfl⟩)
  exact lv_aload_n hx hb hd rfl hl (k ad ls H locs cells slots h1 h2 (hr.stk (vs_c (hr.2.1 _ _ hn) hr.2.2.1)))
theorem sj_aload_ra (C : sn_C p R s m args meth c D cA A X b ZS i) {n : Nat} {x : Nat} (hx0 : x = 1 ∨ x = 2) (hd : decode (mb i) pc = .ok (.aload n, 2)) (hn : sm_nth L n = some (.retAddr x)) (k : sn_J p l e R s m args below meth c Q D cA b sa A z0 w0 ad0 n0 i (pc + 2) L (.retAddr x :: st) M) : sn_J p l e R s m args below meth c Q D cA b sa A z0 w0 ad0 n0 i pc L st M := by
  obtain ⟨hx, hb, hr0, hlk, hml, hown, hmn, hts, hK, hA, hZ, hfr, hlo⟩ := C
  intro ad ls H locs cells slots h1 h2 hr
  have hl : ls[n]? = some (.val (cv ad b sa (.retAddr x))) := hr.1.2.2 (n, _) ((sn_en_mem _ _ _).mpr ⟨n, _, by simp, hn, rfl⟩)
  have kk := k ad ls H locs cells slots h1 h2 (hr.stk (vs_c vv_ra hr.2.2.1))
  rcases hx0 with rfl | rfl
  · exact lv_aload (x := b) hx hb hd hl kk
  · exact lv_aload (x := sa) hx hb hd hl kk
theorem sj_aload_n_ra (C : sn_C p R s m args meth c D cA A X b ZS i) {n : Fin 4} {x : Nat} (hx0 : x = 1 ∨ x = 2) (hd : decode (mb i) pc = .ok (.aload_n n, 1)) (hn : sm_nth L n.val = some (.retAddr x)) (k : sn_J p l e R s m args below meth c Q D cA b sa A z0 w0 ad0 n0 i (pc + 1) L (.retAddr x :: st) M) : sn_J p l e R s m args below meth c Q D cA b sa A z0 w0 ad0 n0 i pc L st M := by
  obtain ⟨hx, hb, hr0, hlk, hml, hown, hmn, hts, hK, hA, hZ, hfr, hlo⟩ := C
  intro ad ls H locs cells slots h1 h2 hr
  have hl : ls[n.val]? = some (.val (cv ad b sa (.retAddr x))) := hr.1.2.2 (n.val, _) ((sn_en_mem _ _ _).mpr ⟨n.val, _, by simp, hn, rfl⟩)
  have kk := k ad ls H locs cells slots h1 h2 (hr.stk (vs_c vv_ra hr.2.2.1))
  rcases hx0 with rfl | rfl
  · exact lv_aload_n (x := b) hx hb hd rfl hl kk
  · exact lv_aload_n (x := sa) hx hb hd rfl hl kk
theorem sj_istore (C : sn_C p R s m args meth c D cA A X b ZS i) {n : Nat} {x : Int32} (hd : decode (mb i) pc = .ok (.istore n, 2)) (hn : n < (sm_mi i).2) (k : sn_J p l e R s m args below meth c Q D cA b sa A z0 w0 ad0 n0 i (pc + 2) (sm_st1 L n (.int x)) st M) : sn_J p l e R s m args below meth c Q D cA b sa A z0 w0 ad0 n0 i pc L (.int x :: st) M := by
  obtain ⟨hx, hb, hr0, hlk, hml, hown, hmn, hts, hK, hA, hZ, hfr, hlo⟩ := C
  intro ad ls H locs cells slots h1 h2 hr
  refine lv_istore (x := x) hx hb hd hr.1 hn rfl (fun ls2 hl => ?_)
  exact k ad ls2 H locs cells slots h1 h2 (sn_store1 hr (vs_h hr.2.2.1) (vs_t hr.2.2.1) hl)
theorem sj_istore_n (C : sn_C p R s m args meth c D cA A X b ZS i) {n : Fin 4} {x : Int32} (hd : decode (mb i) pc = .ok (.istore_n n, 1)) (hn : n.val < (sm_mi i).2) (k : sn_J p l e R s m args below meth c Q D cA b sa A z0 w0 ad0 n0 i (pc + 1) (sm_st1 L n.val (.int x)) st M) : sn_J p l e R s m args below meth c Q D cA b sa A z0 w0 ad0 n0 i pc L (.int x :: st) M := by
  obtain ⟨hx, hb, hr0, hlk, hml, hown, hmn, hts, hK, hA, hZ, hfr, hlo⟩ := C
  intro ad ls H locs cells slots h1 h2 hr
  refine lv_istore_n (x := x) hx hb hd rfl hr.1 hn rfl (fun ls2 hl => ?_)
  exact k ad ls2 H locs cells slots h1 h2 (sn_store1 hr (vs_h hr.2.2.1) (vs_t hr.2.2.1) hl)
theorem sj_astore (C : sn_C p R s m args meth c D cA A X b ZS i) {n : Nat} {x : Nat} (hd : decode (mb i) pc = .ok (.astore n, 2)) (hn : n < (sm_mi i).2) (k : sn_J p l e R s m args below meth c Q D cA b sa A z0 w0 ad0 n0 i (pc + 2) (sm_st1 L n (.ref x)) st M) : sn_J p l e R s m args below meth c Q D cA b sa A z0 w0 ad0 n0 i pc L (.ref x :: st) M := by
  obtain ⟨hx, hb, hr0, hlk, hml, hown, hmn, hts, hK, hA, hZ, hfr, hlo⟩ := C
  intro ad ls H locs cells slots h1 h2 hr
  refine lv_astore (x := ad x) hx hb hd hr.1 hn rfl (fun ls2 hl => ?_)
  exact k ad ls2 H locs cells slots h1 h2 (sn_store1 hr (vs_h hr.2.2.1) (vs_t hr.2.2.1) hl)
theorem sj_astore_n (C : sn_C p R s m args meth c D cA A X b ZS i) {n : Fin 4} {x : Nat} (hd : decode (mb i) pc = .ok (.astore_n n, 1)) (hn : n.val < (sm_mi i).2) (k : sn_J p l e R s m args below meth c Q D cA b sa A z0 w0 ad0 n0 i (pc + 1) (sm_st1 L n.val (.ref x)) st M) : sn_J p l e R s m args below meth c Q D cA b sa A z0 w0 ad0 n0 i pc L (.ref x :: st) M := by
  obtain ⟨hx, hb, hr0, hlk, hml, hown, hmn, hts, hK, hA, hZ, hfr, hlo⟩ := C
  intro ad ls H locs cells slots h1 h2 hr
  refine lv_astore_n (x := ad x) hx hb hd rfl hr.1 hn rfl (fun ls2 hl => ?_)
  exact k ad ls2 H locs cells slots h1 h2 (sn_store1 hr (vs_h hr.2.2.1) (vs_t hr.2.2.1) hl)
theorem sj_lstore (C : sn_C p R s m args meth c D cA A X b ZS i) {n : Nat} {x : Int64} (hd : decode (mb i) pc = .ok (.lstore n, 2)) (hn : n + 1 < (sm_mi i).2) (k : sn_J p l e R s m args below meth c Q D cA b sa A z0 w0 ad0 n0 i (pc + 2) (sm_st2 L n (.long x)) st M) : sn_J p l e R s m args below meth c Q D cA b sa A z0 w0 ad0 n0 i pc L (.long x :: st) M := by
  obtain ⟨hx, hb, hr0, hlk, hml, hown, hmn, hts, hK, hA, hZ, hfr, hlo⟩ := C
  intro ad ls H locs cells slots h1 h2 hr
  refine lv_lstore (x := x) hx hb hd hr.1 hn rfl (fun ls2 hl => ?_)
  exact k ad ls2 H locs cells slots h1 h2 (sn_store2 hr (vs_t hr.2.2.1) hl)
theorem sj_lstore_n (C : sn_C p R s m args meth c D cA A X b ZS i) {n : Fin 4} {x : Int64} (hd : decode (mb i) pc = .ok (.lstore_n n, 1)) (hn : n.val + 1 < (sm_mi i).2) (k : sn_J p l e R s m args below meth c Q D cA b sa A z0 w0 ad0 n0 i (pc + 1) (sm_st2 L n.val (.long x)) st M) : sn_J p l e R s m args below meth c Q D cA b sa A z0 w0 ad0 n0 i pc L (.long x :: st) M := by
  obtain ⟨hx, hb, hr0, hlk, hml, hown, hmn, hts, hK, hA, hZ, hfr, hlo⟩ := C
  intro ad ls H locs cells slots h1 h2 hr
  refine lv_lstore_n (x := x) hx hb hd rfl hr.1 hn rfl (fun ls2 hl => ?_)
  exact k ad ls2 H locs cells slots h1 h2 (sn_store2 hr (vs_t hr.2.2.1) hl)
theorem sj_iinc (C : sn_C p R s m args meth c D cA A X b ZS i) {n : Nat} {v : Int} {x k0 : Int32} (hd : decode (mb i) pc = .ok (.iinc n v, 3)) (hv : Int32.ofInt v = k0) (hn : n < (sm_mi i).2) (hL : sm_nth L n = some (.int x)) (k : sn_J p l e R s m args below meth c Q D cA b sa A z0 w0 ad0 n0 i (pc + 3) (sm_st1 L n (.int (x + k0))) st M) : sn_J p l e R s m args below meth c Q D cA b sa A z0 w0 ad0 n0 i pc L st M := by
  obtain ⟨hx, hb, hr0, hlk, hml, hown, hmn, hts, hK, hA, hZ, hfr, hlo⟩ := C
  intro ad ls H locs cells slots h1 h2 hr
  obtain ⟨j, hj⟩ := List.getElem?_of_mem (show ((n, Value.int x) : Nat × Value) ∈ sn_en ad b sa 0 L from (sn_en_mem _ _ _).mpr ⟨n, _, by simp, hL, rfl⟩)
  refine lv_iinc (v := x + k0) hx hb hd hr.1 hj (by rw [hv]) hn rfl (fun ls2 hl => ?_)
  exact k ad ls2 H locs cells slots h1 h2 (sn_store1 hr vv_int hr.2.2.1 hl)
theorem sj_iadd (C : sn_C p R s m args meth c D cA A X b ZS i) {x y : Int32} (hd : decode (mb i) pc = .ok (.iadd, 1)) (k : sn_J p l e R s m args below meth c Q D cA b sa A z0 w0 ad0 n0 i (pc + 1) L (.int (x + y) :: st) M) : sn_J p l e R s m args below meth c Q D cA b sa A z0 w0 ad0 n0 i pc L (.int y :: .int x :: st) M := by
  obtain ⟨hx, hb, hr0, hlk, hml, hown, hmn, hts, hK, hA, hZ, hfr, hlo⟩ := C
  intro ad ls H locs cells slots h1 h2 hr
  exact lv_iadd hx hb hd (k ad ls H locs cells slots h1 h2 (hr.stk (vs_c vv_int (vs_t (vs_t hr.2.2.1)))))
theorem sj_isub (C : sn_C p R s m args meth c D cA A X b ZS i) {x y : Int32} (hd : decode (mb i) pc = .ok (.isub, 1)) (k : sn_J p l e R s m args below meth c Q D cA b sa A z0 w0 ad0 n0 i (pc + 1) L (.int (x - y) :: st) M) : sn_J p l e R s m args below meth c Q D cA b sa A z0 w0 ad0 n0 i pc L (.int y :: .int x :: st) M := by
  obtain ⟨hx, hb, hr0, hlk, hml, hown, hmn, hts, hK, hA, hZ, hfr, hlo⟩ := C
  intro ad ls H locs cells slots h1 h2 hr
  exact lv_isub hx hb hd (k ad ls H locs cells slots h1 h2 (hr.stk (vs_c vv_int (vs_t (vs_t hr.2.2.1)))))
theorem sj_imul (C : sn_C p R s m args meth c D cA A X b ZS i) {x y : Int32} (hd : decode (mb i) pc = .ok (.imul, 1)) (k : sn_J p l e R s m args below meth c Q D cA b sa A z0 w0 ad0 n0 i (pc + 1) L (.int (x * y) :: st) M) : sn_J p l e R s m args below meth c Q D cA b sa A z0 w0 ad0 n0 i pc L (.int y :: .int x :: st) M := by
  obtain ⟨hx, hb, hr0, hlk, hml, hown, hmn, hts, hK, hA, hZ, hfr, hlo⟩ := C
  intro ad ls H locs cells slots h1 h2 hr
  exact lv_imul hx hb hd (k ad ls H locs cells slots h1 h2 (hr.stk (vs_c vv_int (vs_t (vs_t hr.2.2.1)))))
theorem sj_iand (C : sn_C p R s m args meth c D cA A X b ZS i) {x y : Int32} (hd : decode (mb i) pc = .ok (.iand, 1)) (k : sn_J p l e R s m args below meth c Q D cA b sa A z0 w0 ad0 n0 i (pc + 1) L (.int (x &&& y) :: st) M) : sn_J p l e R s m args below meth c Q D cA b sa A z0 w0 ad0 n0 i pc L (.int y :: .int x :: st) M := by
  obtain ⟨hx, hb, hr0, hlk, hml, hown, hmn, hts, hK, hA, hZ, hfr, hlo⟩ := C
  intro ad ls H locs cells slots h1 h2 hr
  exact lv_iand hx hb hd (k ad ls H locs cells slots h1 h2 (hr.stk (vs_c vv_int (vs_t (vs_t hr.2.2.1)))))
theorem sj_ior (C : sn_C p R s m args meth c D cA A X b ZS i) {x y : Int32} (hd : decode (mb i) pc = .ok (.ior, 1)) (k : sn_J p l e R s m args below meth c Q D cA b sa A z0 w0 ad0 n0 i (pc + 1) L (.int (x ||| y) :: st) M) : sn_J p l e R s m args below meth c Q D cA b sa A z0 w0 ad0 n0 i pc L (.int y :: .int x :: st) M := by
  obtain ⟨hx, hb, hr0, hlk, hml, hown, hmn, hts, hK, hA, hZ, hfr, hlo⟩ := C
  intro ad ls H locs cells slots h1 h2 hr
  exact lv_ior hx hb hd (k ad ls H locs cells slots h1 h2 (hr.stk (vs_c vv_int (vs_t (vs_t hr.2.2.1)))))
theorem sj_ixor (C : sn_C p R s m args meth c D cA A X b ZS i) {x y : Int32} (hd : decode (mb i) pc = .ok (.ixor, 1)) (k : sn_J p l e R s m args below meth c Q D cA b sa A z0 w0 ad0 n0 i (pc + 1) L (.int (x ^^^ y) :: st) M) : sn_J p l e R s m args below meth c Q D cA b sa A z0 w0 ad0 n0 i pc L (.int y :: .int x :: st) M := by
  obtain ⟨hx, hb, hr0, hlk, hml, hown, hmn, hts, hK, hA, hZ, hfr, hlo⟩ := C
  intro ad ls H locs cells slots h1 h2 hr
  exact lv_ixor hx hb hd (k ad ls H locs cells slots h1 h2 (hr.stk (vs_c vv_int (vs_t (vs_t hr.2.2.1)))))
theorem sj_ishl (C : sn_C p R s m args meth c D cA A X b ZS i) {x y : Int32} (hd : decode (mb i) pc = .ok (.ishl, 1)) (k : sn_J p l e R s m args below meth c Q D cA b sa A z0 w0 ad0 n0 i (pc + 1) L (.int (x <<< (y &&& 31)) :: st) M) : sn_J p l e R s m args below meth c Q D cA b sa A z0 w0 ad0 n0 i pc L (.int y :: .int x :: st) M := by
  obtain ⟨hx, hb, hr0, hlk, hml, hown, hmn, hts, hK, hA, hZ, hfr, hlo⟩ := C
  intro ad ls H locs cells slots h1 h2 hr
  exact lv_ishl hx hb hd (k ad ls H locs cells slots h1 h2 (hr.stk (vs_c vv_int (vs_t (vs_t hr.2.2.1)))))
theorem sj_ishr (C : sn_C p R s m args meth c D cA A X b ZS i) {x y : Int32} (hd : decode (mb i) pc = .ok (.ishr, 1)) (k : sn_J p l e R s m args below meth c Q D cA b sa A z0 w0 ad0 n0 i (pc + 1) L (.int (x >>> (y &&& 31)) :: st) M) : sn_J p l e R s m args below meth c Q D cA b sa A z0 w0 ad0 n0 i pc L (.int y :: .int x :: st) M := by
  obtain ⟨hx, hb, hr0, hlk, hml, hown, hmn, hts, hK, hA, hZ, hfr, hlo⟩ := C
  intro ad ls H locs cells slots h1 h2 hr
  exact lv_ishr hx hb hd (k ad ls H locs cells slots h1 h2 (hr.stk (vs_c vv_int (vs_t (vs_t hr.2.2.1)))))
theorem sj_iushr (C : sn_C p R s m args meth c D cA A X b ZS i) {x y : Int32} (hd : decode (mb i) pc = .ok (.iushr, 1)) (k : sn_J p l e R s m args below meth c Q D cA b sa A z0 w0 ad0 n0 i (pc + 1) L (.int ((x.toUInt32 >>> (y.toUInt32 &&& Int32.toUInt32 31)).toInt32) :: st) M) : sn_J p l e R s m args below meth c Q D cA b sa A z0 w0 ad0 n0 i pc L (.int y :: .int x :: st) M := by
  obtain ⟨hx, hb, hr0, hlk, hml, hown, hmn, hts, hK, hA, hZ, hfr, hlo⟩ := C
  intro ad ls H locs cells slots h1 h2 hr
  exact lv_iushr hx hb hd rfl (k ad ls H locs cells slots h1 h2 (hr.stk (vs_c vv_int (vs_t (vs_t hr.2.2.1)))))
theorem sj_idiv (C : sn_C p R s m args meth c D cA A X b ZS i) {x y : Int32} (hd : decode (mb i) pc = .ok (.idiv, 1)) (hne : ¬ y = 0) (k : sn_J p l e R s m args below meth c Q D cA b sa A z0 w0 ad0 n0 i (pc + 1) L (.int (x / y) :: st) M) : sn_J p l e R s m args below meth c Q D cA b sa A z0 w0 ad0 n0 i pc L (.int y :: .int x :: st) M := by
  obtain ⟨hx, hb, hr0, hlk, hml, hown, hmn, hts, hK, hA, hZ, hfr, hlo⟩ := C
  intro ad ls H locs cells slots h1 h2 hr
  exact lv_idiv hx hb hd hne (k ad ls H locs cells slots h1 h2 (hr.stk (vs_c vv_int (vs_t (vs_t hr.2.2.1)))))
theorem sj_irem (C : sn_C p R s m args meth c D cA A X b ZS i) {x y : Int32} (hd : decode (mb i) pc = .ok (.irem, 1)) (hne : ¬ y = 0) (k : sn_J p l e R s m args below meth c Q D cA b sa A z0 w0 ad0 n0 i (pc + 1) L (.int (x - x / y * y) :: st) M) : sn_J p l e R s m args below meth c Q D cA b sa A z0 w0 ad0 n0 i pc L (.int y :: .int x :: st) M := by
  obtain ⟨hx, hb, hr0, hlk, hml, hown, hmn, hts, hK, hA, hZ, hfr, hlo⟩ := C
  intro ad ls H locs cells slots h1 h2 hr
  exact lv_irem hx hb hd hne (k ad ls H locs cells slots h1 h2 (hr.stk (vs_c vv_int (vs_t (vs_t hr.2.2.1)))))
theorem sj_ladd (C : sn_C p R s m args meth c D cA A X b ZS i) {x y : Int64} (hd : decode (mb i) pc = .ok (.ladd, 1)) (k : sn_J p l e R s m args below meth c Q D cA b sa A z0 w0 ad0 n0 i (pc + 1) L (.long (x + y) :: st) M) : sn_J p l e R s m args below meth c Q D cA b sa A z0 w0 ad0 n0 i pc L (.long y :: .long x :: st) M := by
  obtain ⟨hx, hb, hr0, hlk, hml, hown, hmn, hts, hK, hA, hZ, hfr, hlo⟩ := C
  intro ad ls H locs cells slots h1 h2 hr
  exact lv_ladd hx hb hd (k ad ls H locs cells slots h1 h2 (hr.stk (vs_c vv_long (vs_t (vs_t hr.2.2.1)))))
theorem sj_lsub (C : sn_C p R s m args meth c D cA A X b ZS i) {x y : Int64} (hd : decode (mb i) pc = .ok (.lsub, 1)) (k : sn_J p l e R s m args below meth c Q D cA b sa A z0 w0 ad0 n0 i (pc + 1) L (.long (x - y) :: st) M) : sn_J p l e R s m args below meth c Q D cA b sa A z0 w0 ad0 n0 i pc L (.long y :: .long x :: st) M := by
  obtain ⟨hx, hb, hr0, hlk, hml, hown, hmn, hts, hK, hA, hZ, hfr, hlo⟩ := C
  intro ad ls H locs cells slots h1 h2 hr
  exact lv_lsub hx hb hd (k ad ls H locs cells slots h1 h2 (hr.stk (vs_c vv_long (vs_t (vs_t hr.2.2.1)))))
theorem sj_lmul (C : sn_C p R s m args meth c D cA A X b ZS i) {x y : Int64} (hd : decode (mb i) pc = .ok (.lmul, 1)) (k : sn_J p l e R s m args below meth c Q D cA b sa A z0 w0 ad0 n0 i (pc + 1) L (.long (x * y) :: st) M) : sn_J p l e R s m args below meth c Q D cA b sa A z0 w0 ad0 n0 i pc L (.long y :: .long x :: st) M := by
  obtain ⟨hx, hb, hr0, hlk, hml, hown, hmn, hts, hK, hA, hZ, hfr, hlo⟩ := C
  intro ad ls H locs cells slots h1 h2 hr
  exact lv_lmul hx hb hd (k ad ls H locs cells slots h1 h2 (hr.stk (vs_c vv_long (vs_t (vs_t hr.2.2.1)))))
theorem sj_land (C : sn_C p R s m args meth c D cA A X b ZS i) {x y : Int64} (hd : decode (mb i) pc = .ok (.land, 1)) (k : sn_J p l e R s m args below meth c Q D cA b sa A z0 w0 ad0 n0 i (pc + 1) L (.long (x &&& y) :: st) M) : sn_J p l e R s m args below meth c Q D cA b sa A z0 w0 ad0 n0 i pc L (.long y :: .long x :: st) M := by
  obtain ⟨hx, hb, hr0, hlk, hml, hown, hmn, hts, hK, hA, hZ, hfr, hlo⟩ := C
  intro ad ls H locs cells slots h1 h2 hr
  exact lv_land hx hb hd (k ad ls H locs cells slots h1 h2 (hr.stk (vs_c vv_long (vs_t (vs_t hr.2.2.1)))))
theorem sj_lor (C : sn_C p R s m args meth c D cA A X b ZS i) {x y : Int64} (hd : decode (mb i) pc = .ok (.lor, 1)) (k : sn_J p l e R s m args below meth c Q D cA b sa A z0 w0 ad0 n0 i (pc + 1) L (.long (x ||| y) :: st) M) : sn_J p l e R s m args below meth c Q D cA b sa A z0 w0 ad0 n0 i pc L (.long y :: .long x :: st) M := by
  obtain ⟨hx, hb, hr0, hlk, hml, hown, hmn, hts, hK, hA, hZ, hfr, hlo⟩ := C
  intro ad ls H locs cells slots h1 h2 hr
  exact lv_lor hx hb hd (k ad ls H locs cells slots h1 h2 (hr.stk (vs_c vv_long (vs_t (vs_t hr.2.2.1)))))
theorem sj_ldiv (C : sn_C p R s m args meth c D cA A X b ZS i) {x y : Int64} (hd : decode (mb i) pc = .ok (.ldiv, 1)) (hne : ¬ y = 0) (k : sn_J p l e R s m args below meth c Q D cA b sa A z0 w0 ad0 n0 i (pc + 1) L (.long (x / y) :: st) M) : sn_J p l e R s m args below meth c Q D cA b sa A z0 w0 ad0 n0 i pc L (.long y :: .long x :: st) M := by
  obtain ⟨hx, hb, hr0, hlk, hml, hown, hmn, hts, hK, hA, hZ, hfr, hlo⟩ := C
  intro ad ls H locs cells slots h1 h2 hr
  exact lv_ldiv hx hb hd hne (k ad ls H locs cells slots h1 h2 (hr.stk (vs_c vv_long (vs_t (vs_t hr.2.2.1)))))
theorem sj_lrem (C : sn_C p R s m args meth c D cA A X b ZS i) {x y : Int64} (hd : decode (mb i) pc = .ok (.lrem, 1)) (hne : ¬ y = 0) (k : sn_J p l e R s m args below meth c Q D cA b sa A z0 w0 ad0 n0 i (pc + 1) L (.long (x - x / y * y) :: st) M) : sn_J p l e R s m args below meth c Q D cA b sa A z0 w0 ad0 n0 i pc L (.long y :: .long x :: st) M := by
  obtain ⟨hx, hb, hr0, hlk, hml, hown, hmn, hts, hK, hA, hZ, hfr, hlo⟩ := C
  intro ad ls H locs cells slots h1 h2 hr
  exact lv_lrem hx hb hd hne (k ad ls H locs cells slots h1 h2 (hr.stk (vs_c vv_long (vs_t (vs_t hr.2.2.1)))))
theorem sj_lcmp (C : sn_C p R s m args meth c D cA A X b ZS i) {x y : Int64} (hd : decode (mb i) pc = .ok (.lcmp, 1)) (k : sn_J p l e R s m args below meth c Q D cA b sa A z0 w0 ad0 n0 i (pc + 1) L (.int (lg_cmp x y) :: st) M) : sn_J p l e R s m args below meth c Q D cA b sa A z0 w0 ad0 n0 i pc L (.long y :: .long x :: st) M := by
  obtain ⟨hx, hb, hr0, hlk, hml, hown, hmn, hts, hK, hA, hZ, hfr, hlo⟩ := C
  intro ad ls H locs cells slots h1 h2 hr
  exact W.lcmp hx hb hd (k ad ls H locs cells slots h1 h2 (hr.stk (vs_c vv_int (vs_t (vs_t hr.2.2.1)))))
theorem sj_lshl (C : sn_C p R s m args meth c D cA A X b ZS i) {x : Int64} {y : Int32} (hd : decode (mb i) pc = .ok (.lshl, 1)) (k : sn_J p l e R s m args below meth c Q D cA b sa A z0 w0 ad0 n0 i (pc + 1) L (.long (x <<< (y.toInt64 &&& 63)) :: st) M) : sn_J p l e R s m args below meth c Q D cA b sa A z0 w0 ad0 n0 i pc L (.int y :: .long x :: st) M := by
  obtain ⟨hx, hb, hr0, hlk, hml, hown, hmn, hts, hK, hA, hZ, hfr, hlo⟩ := C
  intro ad ls H locs cells slots h1 h2 hr
  exact lv_lshl hx hb hd rfl (k ad ls H locs cells slots h1 h2 (hr.stk (vs_c vv_long (vs_t (vs_t hr.2.2.1)))))
theorem sj_lushr (C : sn_C p R s m args meth c D cA A X b ZS i) {x : Int64} {y : Int32} (hd : decode (mb i) pc = .ok (.lushr, 1)) (k : sn_J p l e R s m args below meth c Q D cA b sa A z0 w0 ad0 n0 i (pc + 1) L (.long ((x.toUInt64 >>> (y.toInt64.toUInt64 &&& Int64.toUInt64 63)).toInt64) :: st) M) : sn_J p l e R s m args below meth c Q D cA b sa A z0 w0 ad0 n0 i pc L (.int y :: .long x :: st) M := by
  obtain ⟨hx, hb, hr0, hlk, hml, hown, hmn, hts, hK, hA, hZ, hfr, hlo⟩ := C
  intro ad ls H locs cells slots h1 h2 hr
  exact lv_lushr hx hb hd rfl (k ad ls H locs cells slots h1 h2 (hr.stk (vs_c vv_long (vs_t (vs_t hr.2.2.1)))))
theorem sj_ineg (C : sn_C p R s m args meth c D cA A X b ZS i) {x : Int32} (hd : decode (mb i) pc = .ok (.ineg, 1)) (k : sn_J p l e R s m args below meth c Q D cA b sa A z0 w0 ad0 n0 i (pc + 1) L (.int (-x) :: st) M) : sn_J p l e R s m args below meth c Q D cA b sa A z0 w0 ad0 n0 i pc L (.int x :: st) M := by
  obtain ⟨hx, hb, hr0, hlk, hml, hown, hmn, hts, hK, hA, hZ, hfr, hlo⟩ := C
  intro ad ls H locs cells slots h1 h2 hr
  exact lv_ineg hx hb hd (k ad ls H locs cells slots h1 h2 (hr.stk (vs_c vv_int (vs_t hr.2.2.1))))
theorem sj_lneg (C : sn_C p R s m args meth c D cA A X b ZS i) {x : Int64} (hd : decode (mb i) pc = .ok (.lneg, 1)) (k : sn_J p l e R s m args below meth c Q D cA b sa A z0 w0 ad0 n0 i (pc + 1) L (.long (-x) :: st) M) : sn_J p l e R s m args below meth c Q D cA b sa A z0 w0 ad0 n0 i pc L (.long x :: st) M := by
  obtain ⟨hx, hb, hr0, hlk, hml, hown, hmn, hts, hK, hA, hZ, hfr, hlo⟩ := C
  intro ad ls H locs cells slots h1 h2 hr
  exact lv_lneg hx hb hd (k ad ls H locs cells slots h1 h2 (hr.stk (vs_c vv_long (vs_t hr.2.2.1))))
theorem sj_i2l (C : sn_C p R s m args meth c D cA A X b ZS i) {x : Int32} (hd : decode (mb i) pc = .ok (.i2l, 1)) (k : sn_J p l e R s m args below meth c Q D cA b sa A z0 w0 ad0 n0 i (pc + 1) L (.long (x.toInt64) :: st) M) : sn_J p l e R s m args below meth c Q D cA b sa A z0 w0 ad0 n0 i pc L (.int x :: st) M := by
  obtain ⟨hx, hb, hr0, hlk, hml, hown, hmn, hts, hK, hA, hZ, hfr, hlo⟩ := C
  intro ad ls H locs cells slots h1 h2 hr
  exact lv_i2l hx hb hd rfl (k ad ls H locs cells slots h1 h2 (hr.stk (vs_c vv_long (vs_t hr.2.2.1))))
theorem sj_i2b (C : sn_C p R s m args meth c D cA A X b ZS i) {x : Int32} (hd : decode (mb i) pc = .ok (.i2b, 1)) (k : sn_J p l e R s m args below meth c Q D cA b sa A z0 w0 ad0 n0 i (pc + 1) L (.int (x.toInt8.toInt32) :: st) M) : sn_J p l e R s m args below meth c Q D cA b sa A z0 w0 ad0 n0 i pc L (.int x :: st) M := by
  obtain ⟨hx, hb, hr0, hlk, hml, hown, hmn, hts, hK, hA, hZ, hfr, hlo⟩ := C
  intro ad ls H locs cells slots h1 h2 hr
  exact lv_i2b hx hb hd rfl (k ad ls H locs cells slots h1 h2 (hr.stk (vs_c vv_int (vs_t hr.2.2.1))))
theorem sj_l2i (C : sn_C p R s m args meth c D cA A X b ZS i) {x : Int64} (hd : decode (mb i) pc = .ok (.l2i, 1)) (k : sn_J p l e R s m args below meth c Q D cA b sa A z0 w0 ad0 n0 i (pc + 1) L (.int (x.toInt32) :: st) M) : sn_J p l e R s m args below meth c Q D cA b sa A z0 w0 ad0 n0 i pc L (.long x :: st) M := by
  obtain ⟨hx, hb, hr0, hlk, hml, hown, hmn, hts, hK, hA, hZ, hfr, hlo⟩ := C
  intro ad ls H locs cells slots h1 h2 hr
  exact lv_l2i hx hb hd rfl (k ad ls H locs cells slots h1 h2 (hr.stk (vs_c vv_int (vs_t hr.2.2.1))))
theorem sj_pop (C : sn_C p R s m args meth c D cA A X b ZS i) {v : Value} (hd : decode (mb i) pc = .ok (.pop, 1)) (hv : sm_long (some v) = false) (k : sn_J p l e R s m args below meth c Q D cA b sa A z0 w0 ad0 n0 i (pc + 1) L st M) : sn_J p l e R s m args below meth c Q D cA b sa A z0 w0 ad0 n0 i pc L (v :: st) M := by
  obtain ⟨hx, hb, hr0, hlk, hml, hown, hmn, hts, hK, hA, hZ, hfr, hlo⟩ := C
  intro ad ls H locs cells slots h1 h2 hr
  exact lv_pop hx hb hd (by rw [cv_cat]; exact (sm_long_not v).mp hv) (k ad ls H locs cells slots h1 h2 (hr.stk (vs_t hr.2.2.1)))
theorem sj_pop2 (C : sn_C p R s m args meth c D cA A X b ZS i) {v : Value} (hd : decode (mb i) pc = .ok (.pop2, 1)) (hv : sm_long (some v) = true) (k : sn_J p l e R s m args below meth c Q D cA b sa A z0 w0 ad0 n0 i (pc + 1) L st M) : sn_J p l e R s m args below meth c Q D cA b sa A z0 w0 ad0 n0 i pc L (v :: st) M := by
  obtain ⟨hx, hb, hr0, hlk, hml, hown, hmn, hts, hK, hA, hZ, hfr, hlo⟩ := C
  intro ad ls H locs cells slots h1 h2 hr
  exact lv_pop2_2 hx hb hd (by rw [cv_cat]; exact (sm_long_iff v).mp hv) (k ad ls H locs cells slots h1 h2 (hr.stk (vs_t hr.2.2.1)))
theorem sj_dup (C : sn_C p R s m args meth c D cA A X b ZS i) {v : Value} (hd : decode (mb i) pc = .ok (.dup, 1)) (hv : sm_long (some v) = false) (k : sn_J p l e R s m args below meth c Q D cA b sa A z0 w0 ad0 n0 i (pc + 1) L (v :: v :: st) M) : sn_J p l e R s m args below meth c Q D cA b sa A z0 w0 ad0 n0 i pc L (v :: st) M := by
  obtain ⟨hx, hb, hr0, hlk, hml, hown, hmn, hts, hK, hA, hZ, hfr, hlo⟩ := C
  intro ad ls H locs cells slots h1 h2 hr
  exact lv_dup hx hb hd (by rw [cv_cat]; exact (sm_long_not v).mp hv) (k ad ls H locs cells slots h1 h2 (hr.stk (vs_c (vs_h hr.2.2.1) hr.2.2.1)))
theorem sj_dup2 (C : sn_C p R s m args meth c D cA A X b ZS i) {v w : Value} (hd : decode (mb i) pc = .ok (.dup2, 1)) (hv : sm_long (some v) = false) (hw : sm_long (some w) = false) (k : sn_J p l e R s m args below meth c Q D cA b sa A z0 w0 ad0 n0 i (pc + 1) L (v :: w :: v :: w :: st) M) : sn_J p l e R s m args below meth c Q D cA b sa A z0 w0 ad0 n0 i pc L (v :: w :: st) M := by
  obtain ⟨hx, hb, hr0, hlk, hml, hown, hmn, hts, hK, hA, hZ, hfr, hlo⟩ := C
  intro ad ls H locs cells slots h1 h2 hr
  exact lv_dup2_11 hx hb hd (by rw [cv_cat]; exact (sm_long_not v).mp hv) (by rw [cv_cat]; exact (sm_long_not w).mp hw) (k ad ls H locs cells slots h1 h2 (hr.stk (vs_c (vs_h hr.2.2.1) (vs_c (vs_h (vs_t hr.2.2.1)) hr.2.2.1))))
theorem sj_icmp_eq (C : sn_C p R s m args meth c D cA A X b ZS i) {x y : Int32} {o : Int} {t : Nat} (hd : decode (mb i) pc = .ok (.if_icmp .eq o, 3)) (ht : (pc : Int) + o = (t : Int)) (kt : x = y → sn_J p l e R s m args below meth c Q D cA b sa A z0 w0 ad0 n0 i t L st M) (kf : ¬ (x = y) → sn_J p l e R s m args below meth c Q D cA b sa A z0 w0 ad0 n0 i (pc + 3) L st M) : sn_J p l e R s m args below meth c Q D cA b sa A z0 w0 ad0 n0 i pc L (.int y :: .int x :: st) M := by
  obtain ⟨hx, hb, hr0, hlk, hml, hown, hmn, hts, hK, hA, hZ, hfr, hlo⟩ := C
  intro ad ls H locs cells slots h1 h2 hr
  exact lv_icmp_eq hx hb hd ht (fun h => kt h ad ls H locs cells slots h1 h2 (hr.stk (vs_t (vs_t hr.2.2.1)))) (fun h => kf h ad ls H locs cells slots h1 h2 (hr.stk (vs_t (vs_t hr.2.2.1))))
theorem sj_if_eq (C : sn_C p R s m args meth c D cA A X b ZS i) {x : Int32} {o : Int} {t : Nat} (hd : decode (mb i) pc = .ok (.ifCond .eq o, 3)) (ht : (pc : Int) + o = (t : Int)) (kt : x = 0 → sn_J p l e R s m args below meth c Q D cA b sa A z0 w0 ad0 n0 i t L st M) (kf : ¬ (x = 0) → sn_J p l e R s m args below meth c Q D cA b sa A z0 w0 ad0 n0 i (pc + 3) L st M) : sn_J p l e R s m args below meth c Q D cA b sa A z0 w0 ad0 n0 i pc L (.int x :: st) M := by
  obtain ⟨hx, hb, hr0, hlk, hml, hown, hmn, hts, hK, hA, hZ, hfr, hlo⟩ := C
  intro ad ls H locs cells slots h1 h2 hr
  exact lv_if_eq hx hb hd ht (fun h => kt h ad ls H locs cells slots h1 h2 (hr.stk (vs_t hr.2.2.1))) (fun h => kf h ad ls H locs cells slots h1 h2 (hr.stk (vs_t hr.2.2.1)))
theorem sj_icmp_ne (C : sn_C p R s m args meth c D cA A X b ZS i) {x y : Int32} {o : Int} {t : Nat} (hd : decode (mb i) pc = .ok (.if_icmp .ne o, 3)) (ht : (pc : Int) + o = (t : Int)) (kt : ¬ x = y → sn_J p l e R s m args below meth c Q D cA b sa A z0 w0 ad0 n0 i t L st M) (kf : ¬ (¬ x = y) → sn_J p l e R s m args below meth c Q D cA b sa A z0 w0 ad0 n0 i (pc + 3) L st M) : sn_J p l e R s m args below meth c Q D cA b sa A z0 w0 ad0 n0 i pc L (.int y :: .int x :: st) M := by
  obtain ⟨hx, hb, hr0, hlk, hml, hown, hmn, hts, hK, hA, hZ, hfr, hlo⟩ := C
  intro ad ls H locs cells slots h1 h2 hr
  exact lv_icmp_ne hx hb hd ht (fun h => kt h ad ls H locs cells slots h1 h2 (hr.stk (vs_t (vs_t hr.2.2.1)))) (fun h => kf (fun z => z h) ad ls H locs cells slots h1 h2 (hr.stk (vs_t (vs_t hr.2.2.1))))
theorem sj_if_ne (C : sn_C p R s m args meth c D cA A X b ZS i) {x : Int32} {o : Int} {t : Nat} (hd : decode (mb i) pc = .ok (.ifCond .ne o, 3)) (ht : (pc : Int) + o = (t : Int)) (kt : ¬ x = 0 → sn_J p l e R s m args below meth c Q D cA b sa A z0 w0 ad0 n0 i t L st M) (kf : ¬ (¬ x = 0) → sn_J p l e R s m args below meth c Q D cA b sa A z0 w0 ad0 n0 i (pc + 3) L st M) : sn_J p l e R s m args below meth c Q D cA b sa A z0 w0 ad0 n0 i pc L (.int x :: st) M := by
  obtain ⟨hx, hb, hr0, hlk, hml, hown, hmn, hts, hK, hA, hZ, hfr, hlo⟩ := C
  intro ad ls H locs cells slots h1 h2 hr
  exact lv_if_ne hx hb hd ht (fun h => kt h ad ls H locs cells slots h1 h2 (hr.stk (vs_t hr.2.2.1))) (fun h => kf (fun z => z h) ad ls H locs cells slots h1 h2 (hr.stk (vs_t hr.2.2.1)))
theorem sj_icmp_lt (C : sn_C p R s m args meth c D cA A X b ZS i) {x y : Int32} {o : Int} {t : Nat} (hd : decode (mb i) pc = .ok (.if_icmp .lt o, 3)) (ht : (pc : Int) + o = (t : Int)) (kt : x < y → sn_J p l e R s m args below meth c Q D cA b sa A z0 w0 ad0 n0 i t L st M) (kf : ¬ (x < y) → sn_J p l e R s m args below meth c Q D cA b sa A z0 w0 ad0 n0 i (pc + 3) L st M) : sn_J p l e R s m args below meth c Q D cA b sa A z0 w0 ad0 n0 i pc L (.int y :: .int x :: st) M := by
  obtain ⟨hx, hb, hr0, hlk, hml, hown, hmn, hts, hK, hA, hZ, hfr, hlo⟩ := C
  intro ad ls H locs cells slots h1 h2 hr
  exact lv_icmp_lt hx hb hd ht (fun h => kt h ad ls H locs cells slots h1 h2 (hr.stk (vs_t (vs_t hr.2.2.1)))) (fun h => kf h ad ls H locs cells slots h1 h2 (hr.stk (vs_t (vs_t hr.2.2.1))))
theorem sj_if_lt (C : sn_C p R s m args meth c D cA A X b ZS i) {x : Int32} {o : Int} {t : Nat} (hd : decode (mb i) pc = .ok (.ifCond .lt o, 3)) (ht : (pc : Int) + o = (t : Int)) (kt : x < 0 → sn_J p l e R s m args below meth c Q D cA b sa A z0 w0 ad0 n0 i t L st M) (kf : ¬ (x < 0) → sn_J p l e R s m args below meth c Q D cA b sa A z0 w0 ad0 n0 i (pc + 3) L st M) : sn_J p l e R s m args below meth c Q D cA b sa A z0 w0 ad0 n0 i pc L (.int x :: st) M := by
  obtain ⟨hx, hb, hr0, hlk, hml, hown, hmn, hts, hK, hA, hZ, hfr, hlo⟩ := C
  intro ad ls H locs cells slots h1 h2 hr
  exact lv_if_lt hx hb hd ht (fun h => kt h ad ls H locs cells slots h1 h2 (hr.stk (vs_t hr.2.2.1))) (fun h => kf h ad ls H locs cells slots h1 h2 (hr.stk (vs_t hr.2.2.1)))
theorem sj_icmp_ge (C : sn_C p R s m args meth c D cA A X b ZS i) {x y : Int32} {o : Int} {t : Nat} (hd : decode (mb i) pc = .ok (.if_icmp .ge o, 3)) (ht : (pc : Int) + o = (t : Int)) (kt : y ≤ x → sn_J p l e R s m args below meth c Q D cA b sa A z0 w0 ad0 n0 i t L st M) (kf : ¬ (y ≤ x) → sn_J p l e R s m args below meth c Q D cA b sa A z0 w0 ad0 n0 i (pc + 3) L st M) : sn_J p l e R s m args below meth c Q D cA b sa A z0 w0 ad0 n0 i pc L (.int y :: .int x :: st) M := by
  obtain ⟨hx, hb, hr0, hlk, hml, hown, hmn, hts, hK, hA, hZ, hfr, hlo⟩ := C
  intro ad ls H locs cells slots h1 h2 hr
  exact lv_icmp_ge hx hb hd ht (fun h => kt h ad ls H locs cells slots h1 h2 (hr.stk (vs_t (vs_t hr.2.2.1)))) (fun h => kf h ad ls H locs cells slots h1 h2 (hr.stk (vs_t (vs_t hr.2.2.1))))
theorem sj_if_ge (C : sn_C p R s m args meth c D cA A X b ZS i) {x : Int32} {o : Int} {t : Nat} (hd : decode (mb i) pc = .ok (.ifCond .ge o, 3)) (ht : (pc : Int) + o = (t : Int)) (kt : 0 ≤ x → sn_J p l e R s m args below meth c Q D cA b sa A z0 w0 ad0 n0 i t L st M) (kf : ¬ (0 ≤ x) → sn_J p l e R s m args below meth c Q D cA b sa A z0 w0 ad0 n0 i (pc + 3) L st M) : sn_J p l e R s m args below meth c Q D cA b sa A z0 w0 ad0 n0 i pc L (.int x :: st) M := by
  obtain ⟨hx, hb, hr0, hlk, hml, hown, hmn, hts, hK, hA, hZ, hfr, hlo⟩ := C
  intro ad ls H locs cells slots h1 h2 hr
  exact lv_if_ge hx hb hd ht (fun h => kt h ad ls H locs cells slots h1 h2 (hr.stk (vs_t hr.2.2.1))) (fun h => kf h ad ls H locs cells slots h1 h2 (hr.stk (vs_t hr.2.2.1)))
theorem sj_icmp_gt (C : sn_C p R s m args meth c D cA A X b ZS i) {x y : Int32} {o : Int} {t : Nat} (hd : decode (mb i) pc = .ok (.if_icmp .gt o, 3)) (ht : (pc : Int) + o = (t : Int)) (kt : y < x → sn_J p l e R s m args below meth c Q D cA b sa A z0 w0 ad0 n0 i t L st M) (kf : ¬ (y < x) → sn_J p l e R s m args below meth c Q D cA b sa A z0 w0 ad0 n0 i (pc + 3) L st M) : sn_J p l e R s m args below meth c Q D cA b sa A z0 w0 ad0 n0 i pc L (.int y :: .int x :: st) M := by
  obtain ⟨hx, hb, hr0, hlk, hml, hown, hmn, hts, hK, hA, hZ, hfr, hlo⟩ := C
  intro ad ls H locs cells slots h1 h2 hr
  exact lv_icmp_gt hx hb hd ht (fun h => kt h ad ls H locs cells slots h1 h2 (hr.stk (vs_t (vs_t hr.2.2.1)))) (fun h => kf h ad ls H locs cells slots h1 h2 (hr.stk (vs_t (vs_t hr.2.2.1))))
theorem sj_if_gt (C : sn_C p R s m args meth c D cA A X b ZS i) {x : Int32} {o : Int} {t : Nat} (hd : decode (mb i) pc = .ok (.ifCond .gt o, 3)) (ht : (pc : Int) + o = (t : Int)) (kt : 0 < x → sn_J p l e R s m args below meth c Q D cA b sa A z0 w0 ad0 n0 i t L st M) (kf : ¬ (0 < x) → sn_J p l e R s m args below meth c Q D cA b sa A z0 w0 ad0 n0 i (pc + 3) L st M) : sn_J p l e R s m args below meth c Q D cA b sa A z0 w0 ad0 n0 i pc L (.int x :: st) M := by
  obtain ⟨hx, hb, hr0, hlk, hml, hown, hmn, hts, hK, hA, hZ, hfr, hlo⟩ := C
  intro ad ls H locs cells slots h1 h2 hr
  exact lv_if_gt hx hb hd ht (fun h => kt h ad ls H locs cells slots h1 h2 (hr.stk (vs_t hr.2.2.1))) (fun h => kf h ad ls H locs cells slots h1 h2 (hr.stk (vs_t hr.2.2.1)))
theorem sj_icmp_le (C : sn_C p R s m args meth c D cA A X b ZS i) {x y : Int32} {o : Int} {t : Nat} (hd : decode (mb i) pc = .ok (.if_icmp .le o, 3)) (ht : (pc : Int) + o = (t : Int)) (kt : x ≤ y → sn_J p l e R s m args below meth c Q D cA b sa A z0 w0 ad0 n0 i t L st M) (kf : ¬ (x ≤ y) → sn_J p l e R s m args below meth c Q D cA b sa A z0 w0 ad0 n0 i (pc + 3) L st M) : sn_J p l e R s m args below meth c Q D cA b sa A z0 w0 ad0 n0 i pc L (.int y :: .int x :: st) M := by
  obtain ⟨hx, hb, hr0, hlk, hml, hown, hmn, hts, hK, hA, hZ, hfr, hlo⟩ := C
  intro ad ls H locs cells slots h1 h2 hr
  exact lv_icmp_le hx hb hd ht (fun h => kt h ad ls H locs cells slots h1 h2 (hr.stk (vs_t (vs_t hr.2.2.1)))) (fun h => kf h ad ls H locs cells slots h1 h2 (hr.stk (vs_t (vs_t hr.2.2.1))))
theorem sj_if_le (C : sn_C p R s m args meth c D cA A X b ZS i) {x : Int32} {o : Int} {t : Nat} (hd : decode (mb i) pc = .ok (.ifCond .le o, 3)) (ht : (pc : Int) + o = (t : Int)) (kt : x ≤ 0 → sn_J p l e R s m args below meth c Q D cA b sa A z0 w0 ad0 n0 i t L st M) (kf : ¬ (x ≤ 0) → sn_J p l e R s m args below meth c Q D cA b sa A z0 w0 ad0 n0 i (pc + 3) L st M) : sn_J p l e R s m args below meth c Q D cA b sa A z0 w0 ad0 n0 i pc L (.int x :: st) M := by
  obtain ⟨hx, hb, hr0, hlk, hml, hown, hmn, hts, hK, hA, hZ, hfr, hlo⟩ := C
  intro ad ls H locs cells slots h1 h2 hr
  exact lv_if_le hx hb hd ht (fun h => kt h ad ls H locs cells slots h1 h2 (hr.stk (vs_t hr.2.2.1))) (fun h => kf h ad ls H locs cells slots h1 h2 (hr.stk (vs_t hr.2.2.1)))
theorem sj_goto (C : sn_C p R s m args meth c D cA A X b ZS i) {o : Int} {t : Nat} (hd : decode (mb i) pc = .ok (.goto o, 3)) (ht : (pc : Int) + o = (t : Int)) (k : sn_J p l e R s m args below meth c Q D cA b sa A z0 w0 ad0 n0 i t L st M) : sn_J p l e R s m args below meth c Q D cA b sa A z0 w0 ad0 n0 i pc L st M := by
  obtain ⟨hx, hb, hr0, hlk, hml, hown, hmn, hts, hK, hA, hZ, hfr, hlo⟩ := C
  intro ad ls H locs cells slots h1 h2 hr
  exact lv_goto hx hb hd ht (k ad ls H locs cells slots h1 h2 hr)
end SN
end
