section
/-! One step, a run, and what a run comes to. -/
def sm_step (X : (Nat → Int32) × Nat) (r : sm_R) (L : sm_L) (st : sm_S) (M : sm_M) : Option sm_O := match r with
  | (q, _, a, b, c, k, kl, sw) => match q with
    | .iconst _ => sm_go L (.int k :: st) M
    | .bipush _ => sm_go L (.int k :: st) M
    | .sipush _ => sm_go L (.int k :: st) M
    | .lconst _ => sm_go L (.long kl :: st) M
    | .ldc _ => bif Nat.beq a 1 then sm_go L (.retAddr 2 :: st) M else sm_go L (.int k :: st) M
    | .ldc_w _ => sm_go L (.int k :: st) M
    | .ldc2_w _ => sm_go L (.long kl :: st) M
    | .iload n => sm_ldi L n st M
    | .iload_n n => sm_ldi L n.val st M
    | .lload n => sm_ldl L n st M
    | .lload_n n => sm_ldl L n.val st M
    | .aload n => sm_lda L n st M
    | .aload_n n => sm_lda L n.val st M
    | .istore n => sm_sti L n st M
    | .istore_n n => sm_sti L n.val st M
    | .lstore n => sm_stl L n st M
    | .lstore_n n => sm_stl L n.val st M
    | .astore n => sm_sta L n st M
    | .astore_n n => sm_sta L n.val st M
    | .iinc n _ => (match sm_nth L n with
      | some (.int x) => sm_go (sm_st1 L n (.int (x + k))) st M
      | _ => none)
    | .iadd => sm_i2 st fun x y r => sm_go L (.int (x + y) :: r) M
    | .isub => sm_i2 st fun x y r => sm_go L (.int (x - y) :: r) M
    | .imul => sm_i2 st fun x y r => sm_go L (.int (x * y) :: r) M
    | .iand => sm_i2 st fun x y r => sm_go L (.int (x &&& y) :: r) M
    | .ior => sm_i2 st fun x y r => sm_go L (.int (x ||| y) :: r) M
    | .ixor => sm_i2 st fun x y r => sm_go L (.int (x ^^^ y) :: r) M
    | .ishl => sm_i2 st fun x y r => sm_go L (.int (x <<< (y &&& 31)) :: r) M
    | .ishr => sm_i2 st fun x y r => sm_go L (.int (x >>> (y &&& 31)) :: r) M
    | .iushr => sm_i2 st fun x y r => sm_go L (.int ((x.toUInt32 >>> (y.toUInt32 &&& Int32.toUInt32 31)).toInt32) :: r) M
    | .idiv => sm_i2 st fun x y r => sm_ck ⟨¬ y = 0, inferInstance⟩ L (.int (x / y) :: r) M
    | .irem => sm_i2 st fun x y r => sm_ck ⟨¬ y = 0, inferInstance⟩ L (.int (x - x / y * y) :: r) M
    | .ineg => sm_i1 st fun x r => sm_go L (.int (-x) :: r) M
    | .i2l => sm_i1 st fun x r => sm_go L (.long x.toInt64 :: r) M
    | .i2b => sm_i1 st fun x r => sm_go L (.int x.toInt8.toInt32 :: r) M
    | .l2i => sm_l1 st fun x r => sm_go L (.int x.toInt32 :: r) M
    | .lneg => sm_l1 st fun x r => sm_go L (.long (-x) :: r) M
    | .ladd => sm_l2 st fun x y r => sm_go L (.long (x + y) :: r) M
    | .lsub => sm_l2 st fun x y r => sm_go L (.long (x - y) :: r) M
    | .lmul => sm_l2 st fun x y r => sm_go L (.long (x * y) :: r) M
    | .land => sm_l2 st fun x y r => sm_go L (.long (x &&& y) :: r) M
    | .lor => sm_l2 st fun x y r => sm_go L (.long (x ||| y) :: r) M
    | .ldiv => sm_l2 st fun x y r => sm_ck ⟨¬ y = 0, inferInstance⟩ L (.long (x / y) :: r) M
    | .lrem => sm_l2 st fun x y r => sm_ck ⟨¬ y = 0, inferInstance⟩ L (.long (x - x / y * y) :: r) M
    | .lcmp => sm_l2 st fun x y r => sm_go L (.int (lg_cmp x y) :: r) M
    | .lshl => sm_li st fun x y r => sm_go L (.long (x <<< (y.toInt64 &&& 63)) :: r) M
    | .lushr => sm_li st fun x y r => sm_go L (.long ((x.toUInt64 >>> (y.toInt64.toUInt64 &&& Int64.toUInt64 63)).toInt64) :: r) M
    | .pop => (match st with
      | v :: r => bif sm_long (some v) then none else sm_go L r M
      | _ => none)
    | .pop2 => (match st with
      | v :: r => bif sm_long (some v) then sm_go L r M else none
      | _ => none)
    | .dup => (match st with
      | v :: r => bif sm_long (some v) then none else sm_go L (v :: v :: r) M
      | _ => none)
    | .dup2 => (match st with
      | v :: w :: r => bif sm_long (some v) || sm_long (some w) then none else sm_go L (v :: w :: v :: w :: r) M
      | _ => none)
    | .ifCond cd _ => sm_i1 st fun x r => sm_fk (sm_cmp cd x 0) a L r
    | .if_icmp cd _ => sm_i2 st fun x y r => sm_fk (sm_cmp cd x y) a L r
    | .goto _ => sm_jp a L st
    | .tableswitch _ _ _ _ => sm_i1 st fun x r => sm_se x sw a L r
    | .getfield _ => sm_get a b c L st M
    | .putfield _ => sm_put a b c L st M
    | .iaload => sm_ial X 100 L st M
    | .baload => sm_ial X a L st M
    | .laload => sm_lal L st M
    | .iastore => sm_ias 100 L st M
    | .bastore => sm_ias a L st M
    | .lastore => sm_las L st M
    | .arraylength => sm_aln X a L st M
    | .new _ => sm_new a b L st M
    | .newarray _ => sm_nwa a L st M
    | .invokevirtual _ => sm_inv a b c (sm_mi a).1 (sm_mi a).2 L st M
    | .invokestatic _ => sm_inv a b c 0 (sm_mi a).2 L st M
    | .invokespecial _ => sm_inv a b c 0 (sm_mi a).2 L st M
    | .ireturn => (match st with
      | [.int x] => bif Nat.beq a 1 then sm_rt (sm_cZ x) (some (.int x)) else sm_rt ⟨True, inferInstance⟩ (some (.int x))
      | _ => none)
    | .lreturn => (match st with
      | [.long x] => sm_rt ⟨True, inferInstance⟩ (some (.long x))
      | _ => none)
    | .return_ => (match st with
      | [] => sm_rt ⟨True, inferInstance⟩ none
      | _ => none)
    | _ => none
abbrev sm_T : Type := List (Nat × List Bool × sm_R)
def sm_from : sm_T → Nat → sm_T
  | [], _ => []
  | e :: l, pc => bif Nat.beq e.1 pc then e :: l else sm_from l pc
def sm_kl (i pc : Nat) (L : sm_L) : sm_L := match sm_from (sm_code i) pc with
  | [] => L
  | e :: _ => sm_kill e.2.1 L
def sm_sw : Int32 → List (Int32 × Nat) → Nat → Nat
  | _, [], d => d
  | x, (k, t) :: r, d => if x = k then t else sm_sw x r d
def sm_swp {α : Sort _} (x : Int32) : List (Int32 × Nat) → Nat → (Nat → α) → α
  | [], d, f => f d
  | (k, t) :: r, d, f => if x = k then f t else sm_swp x r d f
theorem sm_swp_eq {α : Sort _} (x : Int32) (f : Nat → α) : ∀ (l : List (Int32 × Nat)) (d : Nat), sm_swp x l d f = f (sm_sw x l d)
  | [], _ => rfl
  | (k, t) :: r, d => by
    simp only [sm_swp, sm_sw]
    split
    · rfl
    · exact sm_swp_eq x f r d
def sm_words : List Int32 := [116, 97, 107, 101, 32, 114, 101, 102, 117, 115, 101, 32, 97, 115, 107, 32, 104, 111, 109, 101, 32, 110, 111, 116, 32, 97, 110, 100, 32, 111, 114, 32, 103, 97, 105, 110, 32, 103, 111, 116, 32, 108, 111, 115, 116, 32, 115, 111, 117, 108, 115, 32, 110, 101, 97, 114, 32, 109, 105, 110, 101, 32, 98, 111, 117, 110, 100, 32, 114, 97, 110, 107, 32, 111, 116, 104, 101, 114, 32, 100, 97, 121, 32, 108, 101, 102, 116, 32, 108, 105, 110, 107, 101, 100, 32]
/-- the cells that look reads and writes are there -/
def sm_is (R : List (List (Option Nat))) (o j r : Nat) : Bool := match sm_on (sm_rw R o) j with
  | some a => Nat.beq a r
  | none => false
def sm_ik (K : List (Nat × Nat)) (o t n : Nat) : Bool := Nat.beq (sm_kd K o).1 t && Nat.beq (sm_kd K o).2 n
def sm_shp (M : sm_M) : Bool := sm_ik M.1 0 11 11 && (sm_ik M.1 1 5 17 && (sm_ik M.1 2 100 12 && (sm_ik M.1 4 100 12 && (sm_ik M.1 5 100 12 && (sm_ik M.1 142 103 1 && (sm_is M.2.2.2.2 0 0 1 && (sm_is M.2.2.2.2 1 5 2 && (sm_is M.2.2.2.2 1 7 4 && sm_is M.2.2.2.2 1 8 5))))))))
/-- the law's look: what it answers, what it writes, what it drops -/
def sm_look (as : List Value) (M : sm_M) : Option (sm_C × Option Value × sm_M) := match as with
  | [.ref x, .int l, .int w, .ref o] =>
    bif (Nat.beq x 0 && Nat.beq o 142) && sm_shp M then
      if 0 ≤ l ∧ l < M.2.2.1 1 0 ∧ l < 12 then
        (if w = 0 then some (⟨True, inferInstance⟩, some (.int 0), (M.1, M.2.1, M.2.2.1, up2 M.2.2.2.1 142 0 (M.2.2.1 2 l.toNatClampNeg).toInt64, M.2.2.2.2))
         else if w = 1 then some (⟨True, inferInstance⟩, some (.int 0), (M.1, M.2.1, M.2.2.1, up2 M.2.2.2.1 142 0 (M.2.2.1 4 l.toNatClampNeg).toInt64, M.2.2.2.2))
         else if w = 2 then some (⟨True, inferInstance⟩, some (.int 0), (M.1, M.2.1, M.2.2.1, up2 M.2.2.2.1 142 0 (M.2.2.1 5 l.toNatClampNeg).toInt64, M.2.2.2.2))
         else some (⟨True, inferInstance⟩, some (.int 2), (M.1, (M.2.1.1 + 1, M.2.1.2 + 6), M.2.2.1, M.2.2.2.1, M.2.2.2.2)))
      else some (⟨True, inferInstance⟩, some (.int 1), (M.1, (M.2.1.1 + 1, M.2.1.2 + 6), M.2.2.1, M.2.2.2.1, M.2.2.2.2))
    else none
  | _ => none
/-- what isn't walked: the String constant's length and signs; the law's look, which catches -/
def sm_prim (j : Nat) (as : List Value) (M : sm_M) : Option (sm_C × Option Value × sm_M) :=
  bif Nat.beq j 900 then (match as with
    | [.retAddr z] => bif Nat.beq z 2 then some (⟨True, inferInstance⟩, some (.int 95), M) else none
    | _ => none)
  else bif Nat.beq j 901 then (match as with
    | [.retAddr z, .int i] => bif Nat.beq z 2 then some (sm_cI i 95, some (.int (sm_words.getD i.toNatClampNeg 0)), M) else none
    | _ => none)
  else bif Nat.beq j 903 then (match as with
    | [.int x, .int y] => some (⟨True, inferInstance⟩, some (.int (if x < y then y else x)), M)
    | _ => none)
  else bif Nat.beq j 904 then (match as with
    | [.int x, .int y] => some (⟨True, inferInstance⟩, some (.int (if y < x then y else x)), M)
    | _ => none)
  else bif Nat.beq j 905 then (match as with
    | [.long x] => some (⟨True, inferInstance⟩, some (.long (if 0 < x then x else -x)), M)
    | _ => none)
  else bif Nat.beq j 902 then sm_look as M
  else none
def sm_en (j : Nat) (as : List Value) : sm_L := sm_pad (sm_mi j).2 (sm_ent as)
abbrev sm_F : Type := Nat → Nat → sm_L → sm_S → sm_M → Option (Option Value × sm_M)
def sm_act (f : sm_F) (i pc : Nat) (M : sm_M) (o : sm_O) : Option (Option Value × sm_M) := match o with
  | .inl (L', st', M') => f i pc (sm_kl i pc L') st' M'
  | .inr (.inl (c, L', st', M')) => @ite _ c.1 c.2 (f i pc (sm_kl i pc L') st' M') none
  | .inr (.inr (.inl (c, t, L', st'))) => @ite _ c.1 c.2 (f i t (sm_kl i t L') st' M) (f i pc (sm_kl i pc L') st' M)
  | .inr (.inr (.inr (.inl (t, L', st')))) => f i t (sm_kl i t L') st' M
  | .inr (.inr (.inr (.inr (.inl (x, l, d, L', st'))))) => f i (sm_sw x l d) (sm_kl i (sm_sw x l d) L') st' M
  | .inr (.inr (.inr (.inr (.inr (.inl (j, as, L', st')))))) =>
    bif Nat.ble 900 j then (match sm_prim j as M with
      | some (c, v, M') => @ite _ c.1 c.2 (f i pc (sm_kl i pc L') (v.toList ++ st') M') none
      | none => none)
    else (match f j 0 (sm_en j as) [] M with
      | some (v, M') => f i pc (sm_kl i pc L') (v.toList ++ st') M'
      | none => none)
  | .inr (.inr (.inr (.inr (.inr (.inr (c, v)))))) => @ite _ c.1 c.2 (some (v, M)) none
def sm_body (X : (Nat → Int32) × Nat) (f : sm_F) : sm_F := fun i pc L st M => match sm_from (sm_code i) pc with
  | [] => none
  | (_, _, r) :: _ => match sm_step X r L st M with
    | none => none
    | some o => sm_act f i (pc + r.2.1) M o
def sm_run (X : (Nat → Int32) × Nat) : Nat → sm_F
  | 0 => fun _ _ _ _ _ => none
  | n + 1 => sm_body X (sm_run X n)
/-- the run from here ends, and Q holds of its end -/
def sm_wp (X : (Nat → Int32) × Nat) (i pc : Nat) (L : sm_L) (st : sm_S) (M : sm_M) (Q : Option Value → sm_M → Prop) : Prop := ∃ n v M', sm_run X n i pc L st M = some (v, M') ∧ Q v M'
/-- a stretch of instructions up to the next head of a loop, call, jump or end -/
def sm_wb (X : (Nat → Int32) × Nat) (i : Nat) (Q : Option Value → sm_M → Prop) : sm_T → Bool → sm_L → sm_S → sm_M → Prop
  | [], _, _, _, _ => False
  | (pc, ks, r) :: rs, fst, L, st, M =>
    bif fst || ks.isEmpty then (match sm_step X r L st M with
      | none => False
      | some (.inl (L', st', M')) => sm_wb X i Q rs false L' st' M'
      | some (.inr (.inl (c, L', st', M'))) => c.1 ∧ sm_wb X i Q rs false L' st' M'
      | some (.inr (.inr (.inl (c, t, L', st')))) => @ite _ c.1 c.2 (sm_wp X i t (sm_kl i t L') st' M Q) (sm_wb X i Q rs false L' st' M)
      | some (.inr (.inr (.inr (.inl (t, L', st'))))) => sm_wp X i t (sm_kl i t L') st' M Q
      | some (.inr (.inr (.inr (.inr (.inl (x, l, d, L', st')))))) => sm_swp x l d (fun t => sm_wp X i t (sm_kl i t L') st' M Q)
      | some (.inr (.inr (.inr (.inr (.inr (.inl (j, as, L', st'))))))) =>
        bif Nat.ble 900 j then (match sm_prim j as M with
          | some (c, v, M') => c.1 ∧ sm_wb X i Q rs false L' (v.toList ++ st') M'
          | none => False)
        else sm_wp X j 0 (sm_en j as) [] M (fun v M' => sm_wp X i (pc + r.2.1) (sm_kl i (pc + r.2.1) L') (v.toList ++ st') M' Q)
      | some (.inr (.inr (.inr (.inr (.inr (.inr (c, v))))))) => c.1 ∧ Q v M)
    else sm_wp X i pc (sm_kill ks L) st M Q
end
section
/-! More fuel does no harm; a stretch of instructions is what its steps are. -/
def sm_le (f g : sm_F) : Prop := ∀ i pc L st M r, f i pc L st M = some r → g i pc L st M = some r
theorem sm_act_le {f g : sm_F} (h : sm_le f g) (i pc : Nat) (M : sm_M) (o : sm_O) (r : Option Value × sm_M) (e : sm_act f i pc M o = some r) : sm_act g i pc M o = some r := by
  rcases o with ⟨L', st', M'⟩ | ⟨c, L', st', M'⟩ | ⟨c, t, L', st'⟩ | ⟨t, L', st'⟩ | ⟨x, l, d, L', st'⟩ | ⟨j, as, L', st'⟩ | ⟨c, v⟩
  · exact h _ _ _ _ _ _ e
  · simp only [sm_act] at e ⊢
    split at e
    · rename_i hc; rw [if_pos hc]; exact h _ _ _ _ _ _ e
    · cases e
  · simp only [sm_act] at e ⊢
    split at e
    · rename_i hc; rw [if_pos hc]; exact h _ _ _ _ _ _ e
    · rename_i hc; rw [if_neg hc]; exact h _ _ _ _ _ _ e
  · exact h _ _ _ _ _ _ e
  · exact h _ _ _ _ _ _ e
  · simp only [sm_act] at e ⊢
    cases hb : Nat.ble 900 j with
    | true =>
      rw [hb] at e
      simp only [cond_true] at e ⊢
      cases hp : sm_prim j as M with
      | none => rw [hp] at e; cases e
      | some z =>
        obtain ⟨c, v, M'⟩ := z
        rw [hp] at e
        simp only at e ⊢
        split at e
        · rename_i hc; rw [if_pos hc]; exact h _ _ _ _ _ _ e
        · cases e
    | false =>
      rw [hb] at e
      simp only [cond_false] at e ⊢
      cases hp : f j 0 (sm_en j as) [] M with
      | none => rw [hp] at e; cases e
      | some z =>
        obtain ⟨v, M'⟩ := z
        rw [hp] at e
        rw [h _ _ _ _ _ _ hp]
        exact h _ _ _ _ _ _ e
  · exact e
theorem sm_body_le (X : (Nat → Int32) × Nat) {f g : sm_F} (h : sm_le f g) : sm_le (sm_body X f) (sm_body X g) := by
  intro i pc L st M r e
  unfold sm_body at e ⊢
  cases hc : sm_from (sm_code i) pc with
  | nil => rw [hc] at e; cases e
  | cons z l =>
    obtain ⟨p, ks, q⟩ := z
    rw [hc] at e
    simp only at e ⊢
    cases hs : sm_step X q L st M with
    | none => rw [hs] at e; cases e
    | some o => rw [hs] at e; exact sm_act_le h _ _ _ _ _ e
theorem sm_mono1 (X : (Nat → Int32) × Nat) : ∀ n, sm_le (sm_run X n) (sm_run X (n + 1))
  | 0 => fun _ _ _ _ _ _ e => by cases e
  | n + 1 => sm_body_le X (sm_mono1 X n)
theorem sm_mono (X : (Nat → Int32) × Nat) {n k : Nat} (h : n ≤ k) : sm_le (sm_run X n) (sm_run X k) := by
  induction h with
  | refl => exact fun _ _ _ _ _ _ e => e
  | step _ ih => exact fun _ _ _ _ _ _ e => sm_mono1 X _ _ _ _ _ _ _ (ih _ _ _ _ _ _ e)
/-- what a step's outcome means -/
def sm_wo (X : (Nat → Int32) × Nat) (i pc : Nat) (M : sm_M) (Q : Option Value → sm_M → Prop) (o : sm_O) : Prop := match o with
  | .inl (L', st', M') => sm_wp X i pc (sm_kl i pc L') st' M' Q
  | .inr (.inl (c, L', st', M')) => c.1 ∧ sm_wp X i pc (sm_kl i pc L') st' M' Q
  | .inr (.inr (.inl (c, t, L', st'))) => @ite _ c.1 c.2 (sm_wp X i t (sm_kl i t L') st' M Q) (sm_wp X i pc (sm_kl i pc L') st' M Q)
  | .inr (.inr (.inr (.inl (t, L', st')))) => sm_wp X i t (sm_kl i t L') st' M Q
  | .inr (.inr (.inr (.inr (.inl (x, l, d, L', st'))))) => sm_wp X i (sm_sw x l d) (sm_kl i (sm_sw x l d) L') st' M Q
  | .inr (.inr (.inr (.inr (.inr (.inl (j, as, L', st')))))) =>
    bif Nat.ble 900 j then (match sm_prim j as M with
      | some (c, v, M') => c.1 ∧ sm_wp X i pc (sm_kl i pc L') (v.toList ++ st') M' Q
      | none => False)
    else sm_wp X j 0 (sm_en j as) [] M (fun v M' => sm_wp X i pc (sm_kl i pc L') (v.toList ++ st') M' Q)
  | .inr (.inr (.inr (.inr (.inr (.inr (c, v)))))) => c.1 ∧ Q v M
theorem sm_wo_iff (X : (Nat → Int32) × Nat) (i pc : Nat) (M : sm_M) (Q : Option Value → sm_M → Prop) (o : sm_O) : sm_wo X i pc M Q o ↔ ∃ n v M', sm_act (sm_run X n) i pc M o = some (v, M') ∧ Q v M' := by
  rcases o with ⟨L', st', M'⟩ | ⟨c, L', st', M'⟩ | ⟨c, t, L', st'⟩ | ⟨t, L', st'⟩ | ⟨x, l, d, L', st'⟩ | ⟨j, as, L', st'⟩ | ⟨c, v⟩
  · exact Iff.rfl
  · simp only [sm_wo, sm_act]
    constructor
    · rintro ⟨hc, n, v, M1, e, q⟩
      exact ⟨n, v, M1, by rw [if_pos hc]; exact e, q⟩
    · rintro ⟨n, v, M1, e, q⟩
      split at e
      · rename_i hc; exact ⟨hc, n, v, M1, e, q⟩
      · cases e
  · simp only [sm_wo, sm_act]
    by_cases hc : c.1
    · simp only [if_pos hc]; exact Iff.rfl
    · simp only [if_neg hc]; exact Iff.rfl
  · exact Iff.rfl
  · exact Iff.rfl
  · simp only [sm_wo, sm_act]
    cases Nat.ble 900 j with
    | true =>
      simp only [cond_true]
      cases sm_prim j as M with
      | none => simp
      | some z =>
        obtain ⟨c, v, M'⟩ := z
        simp only
        constructor
        · rintro ⟨hc, n, w, M1, e, q⟩
          exact ⟨n, w, M1, by rw [if_pos hc]; exact e, q⟩
        · rintro ⟨n, w, M1, e, q⟩
          split at e
          · rename_i hc; exact ⟨hc, n, w, M1, e, q⟩
          · cases e
    | false =>
      simp only [cond_false]
      constructor
      · rintro ⟨n, v, M1, e, k, w, M2, e2, q⟩
        refine ⟨max n k, w, M2, ?_, q⟩
        rw [sm_mono X (Nat.le_max_left n k) _ _ _ _ _ _ e]
        exact sm_mono X (Nat.le_max_right n k) _ _ _ _ _ _ e2
      · rintro ⟨n, w, M2, e, q⟩
        cases hp : sm_run X n j 0 (sm_en j as) [] M with
        | none => rw [hp] at e; cases e
        | some z =>
          obtain ⟨v, M1⟩ := z
          rw [hp] at e
          exact ⟨n, v, M1, hp, n, w, M2, e, q⟩
  · simp only [sm_wo, sm_act]
    constructor
    · rintro ⟨hc, q⟩
      exact ⟨0, v, M, by rw [if_pos hc], q⟩
    · rintro ⟨n, w, M1, e, q⟩
      split at e
      · rename_i hc; cases e; exact ⟨hc, q⟩
      · cases e
theorem sm_wp_step (X : (Nat → Int32) × Nat) {i pc : Nat} {p : Nat} {ks : List Bool} {r : sm_R} {l : sm_T} (hc : sm_from (sm_code i) pc = (p, ks, r) :: l) {L : sm_L} {st : sm_S} {M : sm_M} {Q : Option Value → sm_M → Prop} :
    sm_wp X i pc L st M Q ↔ ∃ o, sm_step X r L st M = some o ∧ sm_wo X i (pc + r.2.1) M Q o := by
  constructor
  · rintro ⟨n, v, M1, e, q⟩
    cases n with
    | zero => cases e
    | succ n =>
      have e : sm_body X (sm_run X n) i pc L st M = some (v, M1) := e
      unfold sm_body at e
      rw [hc] at e
      simp only at e
      cases hs : sm_step X r L st M with
      | none => rw [hs] at e; cases e
      | some o => rw [hs] at e; exact ⟨o, rfl, (sm_wo_iff _ _ _ _ _ _).mpr ⟨n, v, M1, e, q⟩⟩
  · rintro ⟨o, hs, h⟩
    obtain ⟨n, v, M1, e, q⟩ := (sm_wo_iff _ _ _ _ _ _).mp h
    refine ⟨n + 1, v, M1, ?_, q⟩
    show sm_body X (sm_run X n) i pc L st M = some (v, M1)
    unfold sm_body
    rw [hc]
    simp only
    rw [hs]
    exact e
/-- the table's rows follow each other -/
def sm_lin : sm_T → Bool
  | [] => true
  | [e] => Nat.ble 1 e.2.2.2.1
  | e :: e2 :: l => Nat.beq e2.1 (e.1 + e.2.2.2.1) && (Nat.ble 1 e.2.2.2.1 && sm_lin (e2 :: l))
def sm_sfx (t : sm_T) : sm_T → Prop := fun s => ∃ a, t = a ++ s
theorem sm_from_sfx (t : sm_T) (pc : Nat) : sm_sfx t (sm_from t pc) := by
  induction t with
  | nil => exact ⟨[], rfl⟩
  | cons e l ih =>
    unfold sm_from
    cases Nat.beq e.1 pc with
    | true => exact ⟨[], rfl⟩
    | false =>
      obtain ⟨a, h⟩ := ih
      exact ⟨e :: a, by simp only [cond_false, List.cons_append]; rw [← h]⟩
theorem sm_lin_lt : ∀ (l : sm_T) (e : Nat × List Bool × sm_R), sm_lin (e :: l) = true → ∀ x ∈ l, e.1 < x.1
  | [], _, _, x, hx => by cases hx
  | e2 :: l, e, h, x, hx => by
    simp only [sm_lin, Bool.and_eq_true] at h
    have h1 : e2.1 = e.1 + e.2.2.2.1 := Nat.eq_of_beq_eq_true h.1
    have h2 : 1 ≤ e.2.2.2.1 := Nat.le_of_ble_eq_true h.2.1
    rcases List.mem_cons.mp hx with rfl | hx
    · omega
    · have := sm_lin_lt l e2 h.2.2 x hx
      omega
theorem sm_lin_tl {e : Nat × List Bool × sm_R} {l : sm_T} (h : sm_lin (e :: l) = true) : sm_lin l = true := by
  cases l with
  | nil => rfl
  | cons e2 l => simp only [sm_lin, Bool.and_eq_true] at h; exact h.2.2
theorem sm_lin_app : ∀ {a l : sm_T}, sm_lin (a ++ l) = true → sm_lin l = true
  | [], _, h => h
  | _ :: a, _, h => sm_lin_app (a := a) (sm_lin_tl h)
theorem sm_from_app : ∀ (a : sm_T) (e : Nat × List Bool × sm_R) (l : sm_T), sm_lin (a ++ e :: l) = true → sm_from (a ++ e :: l) e.1 = e :: l
  | [], e, l, _ => by
    show sm_from (e :: l) e.1 = _
    unfold sm_from
    rw [show Nat.beq e.1 e.1 = true from Nat.beq_refl e.1]
    rfl
  | x :: a, e, l, h => by
    have hlt := sm_lin_lt (a ++ e :: l) x h e (by simp)
    show sm_from (x :: (a ++ e :: l)) e.1 = _
    unfold sm_from
    rw [show Nat.beq x.1 e.1 = false from (by cases hb : Nat.beq x.1 e.1 with | false => rfl | true => have := Nat.eq_of_beq_eq_true hb; omega)]
    exact sm_from_app a e l (sm_lin_tl h)
theorem sm_from_none : ∀ (t : sm_T) (pc : Nat), (∀ x ∈ t, x.1 ≠ pc) → sm_from t pc = []
  | [], _, _ => rfl
  | e :: l, pc, h => by
    unfold sm_from
    rw [show Nat.beq e.1 pc = false from (by cases hb : Nat.beq e.1 pc with | false => rfl | true => exact absurd (Nat.eq_of_beq_eq_true hb) (h e List.mem_cons_self))]
    exact sm_from_none l pc fun x hx => h x (List.mem_cons_of_mem _ hx)
/-- a suffix of the code, entered at its first row -/
theorem sm_wb_iff (X : (Nat → Int32) × Nat) (i : Nat) (hl : sm_lin (sm_code i) = true) (Q : Option Value → sm_M → Prop) : ∀ (rs : sm_T), sm_sfx (sm_code i) rs → ∀ (fst : Bool) (L : sm_L) (st : sm_S) (M : sm_M),
    sm_wb X i Q rs fst L st M ↔ (match rs with | [] => False | e :: _ => sm_wp X i e.1 (bif fst then L else sm_kl i e.1 L) st M Q) := by
  intro rs
  induction rs with
  | nil => intro _ fst L st M; exact Iff.rfl
  | cons e rs ih =>
    intro hs fst L st M
    obtain ⟨pc, ks, r⟩ := e
    obtain ⟨a, ha⟩ := hs
    have hfrom : sm_from (sm_code i) pc = (pc, ks, r) :: rs := by
      rw [ha] at hl ⊢
      exact sm_from_app a (pc, ks, r) rs hl
    have hkl : sm_kl i pc L = sm_kill ks L := by unfold sm_kl; rw [hfrom]
    have hs' : sm_sfx (sm_code i) rs := ⟨a ++ [(pc, ks, r)], by rw [ha]; simp⟩
    have hlin : sm_lin ((pc, ks, r) :: rs) = true := sm_lin_app (a := a) (by rw [← ha]; exact hl)
    have nxt : ∀ (L' : sm_L) (st' : sm_S) (M' : sm_M), sm_wb X i Q rs false L' st' M' ↔ sm_wp X i (pc + r.2.1) (sm_kl i (pc + r.2.1) L') st' M' Q := by
      intro L' st' M'
      rw [ih hs' false L' st' M']
      cases rs with
      | nil =>
        simp only [false_iff]
        rintro ⟨n, v, M1, e, -⟩
        have h0 : sm_from (sm_code i) (pc + r.2.1) = [] := by
          have h1 : 1 ≤ r.2.1 := Nat.le_of_ble_eq_true hlin
          have hle : ∀ x ∈ sm_code i, x.1 ≤ pc := by
            rw [ha]
            intro x hx
            rcases List.mem_append.mp hx with h | h
            · obtain ⟨b, c, hbc⟩ := List.append_of_mem h
              have hl2 : sm_lin (x :: (c ++ [(pc, ks, r)])) = true := by
                refine sm_lin_app (a := b) ?_
                have : b ++ (x :: (c ++ [(pc, ks, r)])) = a ++ [(pc, ks, r)] := by rw [hbc]; simp
                rw [this, ← ha]; exact hl
              have := sm_lin_lt _ x hl2 (pc, ks, r) (by simp)
              exact Nat.le_of_lt this
            · have : x = (pc, ks, r) := by simpa using h
              rw [this]
              exact Nat.le_refl _
          exact sm_from_none _ _ fun x hx hz => by have := hle x hx; omega
        cases n with
        | zero => cases e
        | succ n =>
          have e : sm_body X (sm_run X n) i (pc + r.2.1) (sm_kl i (pc + r.2.1) L') st' M' = some (v, M1) := e
          unfold sm_body at e
          rw [h0] at e
          cases e
      | cons e2 rs2 =>
        simp only [sm_lin, Bool.and_eq_true] at hlin
        have h1 : e2.1 = pc + r.2.1 := Nat.eq_of_beq_eq_true hlin.1
        simp only [cond_false, h1]
    unfold sm_wb
    cases hb : (fst || ks.isEmpty) with
    | false =>
      simp only [Bool.or_eq_false_iff] at hb
      simp only [cond_false, hb.1]
      rw [hkl]
    | true =>
      simp only [cond_true]
      have hL : (bif fst then L else sm_kl i pc L) = L := by
        cases fst with
        | true => rfl
        | false =>
          simp only [Bool.false_or] at hb
          have : ks = [] := List.isEmpty_iff.mp hb
          rw [hkl, this]
          rfl
      simp only [hL]
      rw [sm_wp_step X hfrom]
      cases hst : sm_step X r L st M with
      | none => simp
      | some o =>
        simp only [Option.some.injEq, exists_eq_left']
        rcases o with ⟨L', st', M'⟩ | ⟨c, L', st', M'⟩ | ⟨c, t, L', st'⟩ | ⟨t, L', st'⟩ | ⟨x, l, d, L', st'⟩ | ⟨j, as, L', st'⟩ | ⟨c, v⟩
        · exact nxt _ _ _
        · exact and_congr_right fun _ => nxt _ _ _
        · simp only [sm_wo]
          by_cases hc : c.1
          · rw [if_pos hc, if_pos hc]
          · rw [if_neg hc, if_neg hc]; exact nxt _ _ _
        · exact Iff.rfl
        · simp only [sm_wo]
          rw [sm_swp_eq]
        · simp only [sm_wo]
          cases Nat.ble 900 j with
          | true =>
            simp only [cond_true]
            cases sm_prim j as M with
            | none => exact Iff.rfl
            | some z => exact and_congr_right fun _ => nxt _ _ _
          | false => exact Iff.rfl
        · exact Iff.rfl
theorem sm_blk (X : (Nat → Int32) × Nat) (i pc : Nat) (hl : sm_lin (sm_code i) = true) {e : Nat × List Bool × sm_R} {rs : sm_T} (hf : sm_from (sm_code i) pc = e :: rs) (he : e.1 = pc) (L : sm_L) (st : sm_S) (M : sm_M) (Q : Option Value → sm_M → Prop) :
    sm_wp X i pc L st M Q = sm_wb X i Q (sm_from (sm_code i) pc) true L st M := by
  have h := sm_wb_iff X i hl Q (sm_from (sm_code i) pc) (sm_from_sfx _ _) true L st M
  rw [hf] at h ⊢
  simp only [cond_true, he] at h
  exact propext h.symm
end
section
/-! The start: kinds and references of all cells, by their numbers:
  0: House
  1: House.realm
  2: Realm.souls
  3: Realm.nearBits
  4: Realm.holder
  5: Realm.claims
  6: Realm.wayLength
  7: Realm.wayState
  8: Realm.wayDay
  9: Realm.wayPaper
  10: Realm.rank
  11: Realm.home
  12: Realm.bounds
  13: Realm.worths
  14: House.tape
  15: Tape.bytes
  16: House.reader
  17: Read.code
  18: Read.verb
  19: Read.lineEnd
  20: Read.waiting
  21: House.book
  22: Book.lines
  23: Book.codes
  24: Book.verbs
  25: Book.lineEnds
  26: House.spies
  27: Spy.owner
  28: Spy.victim
  29: Spy.firstDay
  30: Spy.lastDay
  31: House.papers
  32: Pap.from
  33: Pap.to
  34: Pap.told
  35: Pap.words
  36: Pap.openers
  37: Pap.gives
  38: Pap.takes
  39: Pap.till
  40: Pap.links
  41: Pap.root
  42: Pap.standing
  43: Pap.line
  44: Pap.answer
  45: House.delegates
  46: Del.view
  47: Del.stack
  48: Set.shares
  49: Shar.start
  50: Shar.reach
  51: Shar.most
  52: House.settlements
  53: Set.lands
  54: Set.claimants
  55: Set.choice
  56: Set.gets
  57: Set.hasNow
  58: Set.bounds
  59: Set.bestChoice
  60: House.settlementsWithout
  61: SetW.lands
  62: SetW.claimants
  63: SetW.choice
  64: SetW.gets
  65: SetW.hasNow
  66: SetW.bounds
  67: SetW.bestChoice
  68: House.ring
  69: Ring.members
  70: Ring.lands
  71: House.articles
  72: Art.lengths
  73: Art.words
  74: Art.hangsOn
  75: Art.reserves
  76: Art.left
  77: Art.right
  78: Art.steps
  79: Art.sums
  80: Art.held
  81: Model
  82: Model.tape
  83: Model.souls
  84: Model.nearOf
  85: Model.holder
  86: Model.claims
  87: Model.ways
  88: Model.wayOf
  89: Model.rank
  90: Model.home
  91: Model.worths
  92: Model.bounds
  93: Model.words
  94: Model.knot
  95: Model.left
  96: Model.right
  97: Model.amount
  98: Model.goesBy
  99: Model.verb
  100: Model.first
  101: Model.many
  102: Model.lines
  103: Model.wait
  104: Model.waitOf
  105: Model.held
  106: Model.compared
  107: Model.isNote
  108: Model.from
  109: Model.to
  110: Model.toldOn
  111: Model.gives
  112: Model.takes
  113: Model.till
  114: Model.link
  115: Model.wordOf
  116: Model.opened
  117: Model.fate
  118: Model.lineOf
  119: Model.answer
  120: Model.spy
  121: Model.worked
  122: Model.inChain
  123: Model.disputed
  124: Model.claimant
  125: Model.claimants
  126: Model.sure
  127: Model.now
  128: Model.gets
  129: Model.given
  130: Model.leaves
  131: Model.bestOf
  132: Model.kept
  133: Model.ring
  134: Model.ringLand
  135: Model.size
  136: Model.text
  137: Model.hangs
  138: Model.reserves
  139: Model.far
  140: Model.heldBy
  141: Model.openNow
  142: the law's out
-/
def sK0 : List (Nat × Nat) := [(11, 11), (5, 17), (100, 12), (100, 12), (100, 12), (100, 12), (100, 12), (100, 960), (100, 960), (100, 960), (100, 6), (100, 6), (100, 6), (100, 72), (10, 6), (102, 400), (3, 14), (100, 64), (100, 16), (100, 16), (100, 72), (2, 4), (100, 6), (100, 384), (100, 96), (100, 96), (9, 5), (100, 20), (100, 20), (100, 20), (100, 20), (4, 14), (100, 60), (100, 60), (100, 60), (100, 60), (100, 60), (100, 60), (100, 60), (100, 60), (100, 60), (100, 60), (100, 60), (100, 60), (100, 60), (1, 6), (103, 12), (103, 64), (8, 6), (100, 15), (100, 15), (100, 0), (7, 20), (100, 8), (100, 8), (100, 8), (100, 6), (100, 6), (100, 6), (100, 8), (7, 20), (100, 8), (100, 8), (100, 8), (100, 6), (100, 6), (100, 6), (100, 8), (6, 5), (100, 4), (100, 4), (0, 11), (100, 48), (100, 384), (100, 8), (100, 8), (100, 8), (100, 8), (100, 81), (100, 6), (100, 8), (12, 90), (100, 400), (100, 12), (101, 144), (100, 12), (100, 12), (100, 12), (100, 3600), (100, 6), (100, 6), (100, 72), (100, 6), (100, 95), (100, 448), (100, 448), (100, 448), (100, 448), (100, 448), (100, 112), (100, 112), (100, 112), (100, 7), (100, 120), (100, 120), (100, 120), (101, 8), (101, 60), (100, 60), (100, 60), (100, 60), (100, 60), (100, 60), (100, 60), (100, 60), (100, 60), (100, 60), (100, 60), (100, 60), (100, 60), (100, 80), (103, 384), (101, 60), (100, 12), (100, 24), (100, 8), (100, 6), (100, 6), (100, 6), (100, 8), (100, 43200), (100, 12), (101, 64), (100, 4), (100, 4), (100, 48), (100, 384), (101, 64), (100, 8), (100, 81), (100, 8), (101, 8), (103, 1)]
def sK (mo : Bool) : List (Nat × Nat) := sK0 ++ (bif mo then [(100, 5955)] else [])
def sR (mo : Bool) : List (List (Option Nat)) := [[some 1, some 14, some 16, some 21, some 26, some 31, some 45, some 52, some 60, some 68, some 71],
  [none, none, none, none, none, some 2, some 3, some 4, some 5, some 6, some 7, some 8, some 9, some 10, some 11, some 12, some 13],
  [],
  [],
  [],
  [],
  [],
  [],
  [],
  [],
  [],
  [],
  [],
  [],
  [none, none, none, some 15, none, none],
  [],
  [none, none, none, none, some 17, some 18, some 19, some 14, some 20, none, none, none, none, none],
  [],
  [],
  [],
  [],
  [some 22, some 23, some 24, some 25],
  [],
  [],
  [],
  [],
  [none, some 27, some 28, some 29, some 30],
  [],
  [],
  [],
  [],
  [none, some 32, some 33, some 34, some 35, some 36, some 37, some 38, some 39, some 40, some 41, some 42, some 43, some 44],
  [],
  [],
  [],
  [],
  [],
  [],
  [],
  [],
  [],
  [],
  [],
  [],
  [],
  [some 1, some 31, some 21, some 46, some 47, none],
  [],
  [],
  [some 1, none, none, some 49, some 50, bif mo then some 143 else some 51],
  [],
  [],
  [],
  [some 1, some 48, none, none, none, none, some 53, some 54, some 55, some 56, some 57, some 58, none, none, none, none, none, none, none, some 59],
  [],
  [],
  [],
  [],
  [],
  [],
  [],
  [some 1, some 48, none, none, none, none, some 61, some 62, some 63, some 64, some 65, some 66, none, none, none, none, none, none, none, some 67],
  [],
  [],
  [],
  [],
  [],
  [],
  [],
  [some 1, some 69, some 70, none, none],
  [],
  [],
  [none, some 1, some 72, some 73, some 74, some 75, some 76, some 77, some 78, some 79, some 80],
  [],
  [],
  [],
  [],
  [],
  [],
  [],
  [],
  [],
  [some 82, none, none, none, some 83, some 84, some 85, some 86, some 87, some 88, none, some 89, some 90, some 91, some 92, none, none, some 93, none, none, none, none, none, none, none, some 94, some 95, some 96, some 97, some 98, some 99, some 100, some 101, some 102, none, none, some 103, some 104, none, some 105, none, some 106, none, none, none, none, none, some 107, some 108, some 109, some 110, some 111, some 112, some 113, some 114, some 115, some 116, some 117, some 118, some 119, none, some 120, some 121, none, some 122, none, some 123, some 124, some 125, none, some 126, some 127, some 128, some 129, some 130, some 131, none, none, some 132, some 133, some 134, none, some 135, some 136, some 137, some 138, some 139, some 140, none, some 141],
  [],
  [],
  [],
  [],
  [],
  [],
  [],
  [],
  [],
  [],
  [],
  [],
  [],
  [],
  [],
  [],
  [],
  [],
  [],
  [],
  [],
  [],
  [],
  [],
  [],
  [],
  [],
  [],
  [],
  [],
  [],
  [],
  [],
  [],
  [],
  [],
  [],
  [],
  [],
  [],
  [],
  [],
  [],
  [],
  [],
  [],
  [],
  [],
  [],
  [],
  [],
  [],
  [],
  [],
  [],
  [],
  [],
  [],
  [],
  [],
  []] ++ (bif mo then [[]] else [])
abbrev sM (mo : Bool) (G : Nat × Nat) (I : Nat → Nat → Int32) (J : Nat → Nat → Int64) : sm_M := (sK mo, G, I, J, sR mo)
theorem tt_all : (List.range 316).all (fun i => sm_lin (sm_code i)) = true := by decide +kernel
theorem tt_lin (i : Nat) (h : i < 316) : sm_lin (sm_code i) = true := List.all_eq_true.mp tt_all i (List.mem_range.mpr h)
end
