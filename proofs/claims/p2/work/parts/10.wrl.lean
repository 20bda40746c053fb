/-! The machine does what the shadow does: values, worlds, locals. -/
def cv (ad : Nat → Nat) (b sa : Nat) : Value → Value
  | .ref k => .ref (ad k)
  | .retAddr n => bif Nat.beq n 1 then .ref b else bif Nat.beq n 2 then .ref sa else .retAddr n
  | v => v
theorem cv_cat (ad : Nat → Nat) (b sa : Nat) (v : Value) : (cv ad b sa v).category = v.category := by
  cases v with
  | retAddr n =>
    show (bif Nat.beq n 1 then Value.ref b else bif Nat.beq n 2 then Value.ref sa else Value.retAddr n).category = _
    cases Nat.beq n 1 <;> cases Nat.beq n 2 <;> rfl
  | _ => rfl
theorem sm_long_iff (v : Value) : sm_long (some v) = true ↔ v.category = 2 := by cases v <;> simp [sm_long, Value.category]
theorem sm_long_not (v : Value) : sm_long (some v) = false ↔ v.category = 1 := by cases v <;> simp [sm_long, Value.category]
def vv (n : Nat) (v : Value) : Prop := ∀ k, v = .ref k → k < n
theorem vv_int {n : Nat} {x : Int32} : vv n (.int x) := fun _ h => by cases h
theorem vv_long {n : Nat} {x : Int64} : vv n (.long x) := fun _ h => by cases h
theorem vv_ra {n z : Nat} : vv n (.retAddr z) := fun _ h => by cases h
theorem vv_null {n : Nat} : vv n .null := fun _ h => by cases h
theorem vv_ref {n k : Nat} (h : k < n) : vv n (.ref k) := fun _ e => by cases e; exact h
theorem vv_mono {n k : Nat} {v : Value} (h : vv n v) (hk : n ≤ k) : vv k v := fun j e => Nat.lt_of_lt_of_le (h j e) hk
theorem cv_ext {ad ad' : Nat → Nat} {b sa n : Nat} {v : Value} (h : vv n v) (he : ∀ k, k < n → ad' k = ad k) : cv ad' b sa v = cv ad b sa v := by
  cases v with
  | ref k => show Value.ref (ad' k) = Value.ref (ad k); rw [he k (h k rfl)]
  | _ => rfl
/-- how a cell's fields are kept -/
def fct (t j : Nat) : Nat := fcode ((cl_at t).2.1 j).2.2.1
def sn_e (cA : Nat → ClassId) (ad : Nat → Nat) (b sa : Nat) (M : sm_M) (k : Nat) (q : Nat × Nat) : va_E :=
  bif Nat.ble 100 q.1 then .inl (cA q.1, q.2, bif Nat.beq q.1 103 then .inr (.inl (M.2.2.2.1 k)) else .inl (M.2.2.1 k)) else .inr (q.1, (List.range q.2).map (fun j => cv ad b sa (sm_fv (fct q.1 j) M k j)))
def sn_W (cA : Nat → ClassId) (ad : Nat → Nat) (b sa : Nat) (M : sm_M) : va_W := (List.range M.1.length).map (fun k => (ad k, sn_e cA ad b sa M k (sm_kd M.1 k)))
theorem sm_kd_at : ∀ (K : List (Nat × Nat)) (k : Nat), k < K.length → K[k]? = some (sm_kd K k)
  | [], _, h => by simp at h
  | _ :: _, 0, _ => rfl
  | _ :: l, k + 1, h => by
    rw [List.getElem?_cons_succ]
    exact sm_kd_at l k (by simpa using h)
theorem sm_kd_out : ∀ (K : List (Nat × Nat)) (k : Nat), K.length ≤ k → sm_kd K k = (99, 0)
  | [], _, _ => rfl
  | _ :: _, 0, h => by simp at h
  | _ :: l, k + 1, h => sm_kd_out l k (by simpa using h)
theorem sm_kd_app : ∀ (K : List (Nat × Nat)) (e : Nat × Nat) (k : Nat), k < K.length → sm_kd (K ++ [e]) k = sm_kd K k
  | [], _, _, h => by simp at h
  | _ :: _, _, 0, _ => rfl
  | _ :: l, e, k + 1, h => sm_kd_app l e k (by simpa using h)
theorem sm_kd_new : ∀ (K : List (Nat × Nat)) (e : Nat × Nat), sm_kd (K ++ [e]) K.length = e
  | [], _ => rfl
  | _ :: l, e => sm_kd_new l e
theorem sm_rw_app : ∀ (R : List (List (Option Nat))) (e : List (Option Nat)) (k : Nat), k < R.length → sm_rw (R ++ [e]) k = sm_rw R k
  | [], _, _, h => by simp at h
  | _ :: _, _, 0, _ => rfl
  | _ :: l, e, k + 1, h => sm_rw_app l e k (by simpa using h)
theorem sm_rw_new : ∀ (R : List (List (Option Nat))) (e : List (Option Nat)), sm_rw (R ++ [e]) R.length = e
  | [], _ => rfl
  | _ :: l, e => sm_rw_new l e
theorem sm_rw_out : ∀ (R : List (List (Option Nat))) (k : Nat), R.length ≤ k → sm_rw R k = []
  | [], _, _ => rfl
  | _ :: _, 0, h => by simp at h
  | _ :: l, k + 1, h => sm_rw_out l k (by simpa using h)
theorem sm_set_len {α : Type} : ∀ (l : List α) (n : Nat) (v : α), (sm_set l n v).length = l.length
  | [], _, _ => rfl
  | _ :: _, 0, _ => rfl
  | _ :: l, n + 1, v => by simp [sm_set, sm_set_len l n v]
theorem sm_rw_set : ∀ (R : List (List (Option Nat))) (o : Nat) (v : List (Option Nat)) (k : Nat), o < R.length → sm_rw (sm_set R o v) k = if k = o then v else sm_rw R k
  | [], _, _, _, h => by simp at h
  | _ :: _, 0, _, 0, _ => rfl
  | _ :: _, 0, _, k + 1, _ => by simp [sm_set, sm_rw]
  | _ :: _, o + 1, _, 0, _ => by simp [sm_set, sm_rw]
  | _ :: l, o + 1, v, k + 1, h => by
    have := sm_rw_set l o v k (by simpa using h)
    simp [sm_set, sm_rw, this]
theorem sm_on_set : ∀ (R : List (Option Nat)) (o : Nat) (v : Option Nat) (k : Nat), o < R.length → sm_on (sm_set R o v) k = if k = o then v else sm_on R k
  | [], _, _, _, h => by simp at h
  | _ :: _, 0, _, 0, _ => rfl
  | _ :: _, 0, _, k + 1, _ => by simp [sm_set, sm_on]
  | _ :: _, o + 1, _, 0, _ => by simp [sm_set, sm_on]
  | _ :: l, o + 1, v, k + 1, h => by
    have := sm_on_set l o v k (by simpa using h)
    simp [sm_set, sm_on, this]
theorem sm_on_rep : ∀ (n k : Nat), sm_on (List.replicate n none) k = none
  | 0, _ => rfl
  | _ + 1, 0 => rfl
  | n + 1, k + 1 => by simp [List.replicate_succ, sm_on, sm_on_rep n k]
theorem up2_self {α : Type} {I : Nat → Nat → α} {a k : Nat} {v : α} : up2 I a k v a = va_up (I a) k v := by simp [up2, va_up]
theorem sn_at {cA : Nat → ClassId} {ad : Nat → Nat} {b sa : Nat} {M : sm_M} {k : Nat} (h : k < M.1.length) : (sn_W cA ad b sa M)[k]? = some (ad k, sn_e cA ad b sa M k (sm_kd M.1 k)) := by
  simp [sn_W, h]
theorem sn_len {cA : Nat → ClassId} {ad : Nat → Nat} {b sa : Nat} {M : sm_M} : (sn_W cA ad b sa M).length = M.1.length := by simp [sn_W]
/-- what holds of a memory -/
def sn_ok (M : sm_M) : Prop := M.2.2.2.2.length = M.1.length ∧
  (∀ k, k < M.1.length → ((sm_kd M.1 k).1 < 13 ∧ (sm_kd M.1 k).2 = (cl_at (sm_kd M.1 k).1).2.2 ∧ (sm_rw M.2.2.2.2 k).length = (sm_kd M.1 k).2) ∨ (100 ≤ (sm_kd M.1 k).1 ∧ (sm_kd M.1 k).1 ≤ 103)) ∧
  (∀ k j r, sm_on (sm_rw M.2.2.2.2 k) j = some r → r < M.1.length) ∧ (∀ k, M.1.length ≤ k → ∀ j, M.2.2.1 k j = 0 ∧ M.2.2.2.1 k j = 0)
theorem sn_fv_ok {M : sm_M} (h : sn_ok M) (c o k : Nat) : vv M.1.length (sm_fv c M o k) := by
  unfold sm_fv
  cases Nat.beq c 3 with
  | true =>
    simp only [cond_true]
    cases hr : sm_on (sm_rw M.2.2.2.2 o) k with
    | none => exact vv_null
    | some r => exact vv_ref (h.2.2.1 _ _ _ hr)
  | false =>
    simp only [cond_false]
    cases Nat.beq c 2 with
    | true => exact vv_long
    | false => exact vv_int
/-- the locals that are known -/
def sn_en (ad : Nat → Nat) (b sa : Nat) : Nat → sm_L → List (Nat × Value)
  | _, [] => []
  | k, none :: l => sn_en ad b sa (k + 1) l
  | k, some v :: l => (k, cv ad b sa v) :: sn_en ad b sa (k + 1) l
theorem sn_en_mem {ad : Nat → Nat} {b sa : Nat} : ∀ (L : sm_L) (k : Nat) (q : Nat × Value), q ∈ sn_en ad b sa k L ↔ ∃ j v, q.1 = k + j ∧ sm_nth L j = some v ∧ q.2 = cv ad b sa v
  | [], k, q => by simp [sn_en, sm_nth]
  | none :: l, k, q => by
    rw [show sn_en ad b sa k (none :: l) = sn_en ad b sa (k + 1) l from rfl, sn_en_mem l (k + 1) q]
    constructor
    · rintro ⟨j, v, h1, h2, h3⟩; exact ⟨j + 1, v, by omega, h2, h3⟩
    · rintro ⟨j, v, h1, h2, h3⟩
      cases j with
      | zero => cases h2
      | succ j => exact ⟨j, v, by omega, h2, h3⟩
  | some w :: l, k, q => by
    rw [show sn_en ad b sa k (some w :: l) = (k, cv ad b sa w) :: sn_en ad b sa (k + 1) l from rfl, List.mem_cons, sn_en_mem l (k + 1) q]
    constructor
    · rintro (rfl | ⟨j, v, h1, h2, h3⟩)
      · exact ⟨0, w, rfl, rfl, rfl⟩
      · exact ⟨j + 1, v, by omega, h2, h3⟩
    · rintro ⟨j, v, h1, h2, h3⟩
      cases j with
      | zero =>
        have : w = v := Option.some.inj h2
        subst this
        exact Or.inl (Prod.ext (by simpa using h1) h3)
      | succ j => exact Or.inr ⟨j, v, by omega, h2, h3⟩
theorem lv_less {ls : Array Slot} {nL : Nat} {l l' : List (Nat × Value)} (h : lv_has ls nL l) (hs : ∀ q ∈ l', q ∈ l) : lv_has ls nL l' := ⟨h.1, h.2.1, fun q hq => h.2.2 q (hs q hq)⟩
theorem sm_nth_st1 : ∀ (L : sm_L) (i : Nat) (v : Value) (j : Nat) (w : Value), sm_nth (sm_st1 L i v) j = some w → (j = i ∧ w = v) ∨ (j ≠ i ∧ sm_nth L j = some w ∧ ¬ (j + 1 = i ∧ w.category = 2))
  | [], _, _, _, _, h => by cases h
  | _ :: _, 0, _, 0, _, h => Or.inl ⟨rfl, (Option.some.inj h).symm⟩
  | _ :: _, 0, _, j + 1, _, h => Or.inr ⟨by omega, h, by omega⟩
  | x :: l, 1, v, 0, w, h => by
    refine Or.inr ⟨by omega, ?_, ?_⟩
    · cases hx : sm_long x with
      | true => simp [sm_st1, sm_nth, hx] at h
      | false => simpa [sm_st1, sm_nth, hx] using h
    · rintro ⟨-, hc⟩
      cases hx : sm_long x with
      | true => simp [sm_st1, sm_nth, hx] at h
      | false =>
        have e : x = some w := by simpa [sm_st1, sm_nth, hx] using h
        rw [e, (sm_long_iff w).mpr hc] at hx
        cases hx
  | _ :: l, 1, v, j + 1, w, h => by
    have h : sm_nth (sm_st1 l 0 v) j = some w := h
    rcases sm_nth_st1 l 0 v j w h with ⟨a, b⟩ | ⟨a, b, c⟩
    · exact Or.inl ⟨by omega, b⟩
    · exact Or.inr ⟨by omega, b, by omega⟩
  | _ :: _, n + 2, _, 0, _, h => Or.inr ⟨by omega, h, by omega⟩
  | _ :: l, n + 2, v, j + 1, w, h => by
    have h : sm_nth (sm_st1 l (n + 1) v) j = some w := h
    rcases sm_nth_st1 l (n + 1) v j w h with ⟨a, b⟩ | ⟨a, b, c⟩
    · exact Or.inl ⟨by omega, b⟩
    · exact Or.inr ⟨by omega, b, fun z => c ⟨by omega, z.2⟩⟩
theorem sm_nth_set : ∀ (L : sm_L) (i : Nat) (j : Nat) (w : Value), sm_nth (sm_set L i none) j = some w → j ≠ i ∧ sm_nth L j = some w
  | [], _, _, _, h => by cases h
  | _ :: _, 0, 0, _, h => by cases h
  | _ :: _, 0, j + 1, _, h => ⟨by omega, h⟩
  | _ :: _, n + 1, 0, _, h => ⟨by omega, h⟩
  | _ :: l, n + 1, j + 1, w, h => by
    have := sm_nth_set l n j w h
    exact ⟨by omega, this.2⟩
theorem sm_nth_kill : ∀ (ks : List Bool) (L : sm_L) (j : Nat) (w : Value), sm_nth (sm_kill ks L) j = some w → sm_nth L j = some w
  | [], _, _, _, h => h
  | _ :: _, [], _, _, h => by cases h
  | b :: _, x :: _, 0, w, h => by
    cases b with
    | true => exact h
    | false => cases h
  | _ :: ks, _ :: L, j + 1, w, h => sm_nth_kill ks L j w h
theorem sm_nth_pad : ∀ (n : Nat) (L : sm_L) (j : Nat) (w : Value), sm_nth (sm_pad n L) j = some w → sm_nth L j = some w
  | 0, _, _, _, h => h
  | _ + 1, [], 0, _, h => by cases h
  | n + 1, [], j + 1, w, h => by have := sm_nth_pad n [] j w h; cases this
  | _ + 1, _ :: _, 0, _, h => h
  | n + 1, _ :: L, j + 1, w, h => sm_nth_pad n L j w h
theorem sm_nth_ent (ad : Nat → Nat) (b sa : Nat) : ∀ (as : List Value) (k j : Nat) (w : Value), sm_nth (sm_ent as) j = some w → (k + j, cv ad b sa w) ∈ lv_args k (as.map (cv ad b sa)) ∧ w ∈ as
  | [], _, _, _, h => by cases h
  | v :: l, k, j, w, h => by
    rw [List.map_cons]
    unfold lv_args
    rw [cv_cat]
    unfold sm_ent at h
    cases hv : sm_long (some v) with
    | true =>
      rw [hv] at h
      rw [if_pos ((sm_long_iff v).mp hv)]
      match j, h with
      | 0, h => have := Option.some.inj h; subst this; exact ⟨List.mem_cons_self, List.mem_cons_self⟩
      | 1, h => cases h
      | j + 2, h =>
        have := sm_nth_ent ad b sa l (k + 2) j w h
        exact ⟨List.mem_cons_of_mem _ (by rw [show k + (j + 2) = k + 2 + j by omega]; exact this.1), List.mem_cons_of_mem _ this.2⟩
    | false =>
      rw [hv] at h
      rw [if_neg (by rw [(sm_long_not v).mp hv]; decide)]
      match j, h with
      | 0, h => have := Option.some.inj h; subst this; exact ⟨List.mem_cons_self, List.mem_cons_self⟩
      | j + 1, h =>
        have := sm_nth_ent ad b sa l (k + 1) j w h
        exact ⟨List.mem_cons_of_mem _ (by rw [show k + (j + 1) = k + 1 + j by omega]; exact this.1), List.mem_cons_of_mem _ this.2⟩
