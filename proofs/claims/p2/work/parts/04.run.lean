/-! One step, a run, and what a run comes to. -/
def sm_step (X : (Nat → Int32) × Nat) (r : sm_R) (L : sm_L) (st : sm_S) (M : sm_M) : Option sm_O := match r with
  | (q, _, a, b, c, k, kl, sw) => match q with
    | .iconst _ => sm_go L (.int k :: st) M
    | .bipush _ => sm_go L (.int k :: st) M
    | .sipush _ => sm_go L (.int k :: st) M
    | .lconst _ => sm_go L (.long kl :: st) M
    | .ldc _ => bif Nat.beq a 1 then sm_go L (.retAddr 2 :: st) M else sm_go L (.int k :: st) M
    | .ldc_w _ => sm_go L (.int k :: st) M
    | .ldc2_w _ => sm_go L (.long kl :: st) M
    | .iload n => sm_ldi L n st M
    | .iload_n n => sm_ldi L n.val st M
    | .lload n => sm_ldl L n st M
    | .lload_n n => sm_ldl L n.val st M
    | .aload n => sm_lda L n st M
    | .aload_n n => sm_lda L n.val st M
    | .istore n => sm_sti L n st M
    | .istore_n n => sm_sti L n.val st M
    | .lstore n => sm_stl L n st M
    | .lstore_n n => sm_stl L n.val st M
    | .astore n => sm_sta L n st M
    | .astore_n n => sm_sta L n.val st M
    | .iinc n _ => (match sm_nth L n with
      | some (.int x) => sm_go (sm_st1 L n (.int (x + k))) st M
      | _ => none)
    | .iadd => sm_i2 st fun x y r => sm_go L (.int (x + y) :: r) M
    | .isub => sm_i2 st fun x y r => sm_go L (.int (x - y) :: r) M
    | .imul => sm_i2 st fun x y r => sm_go L (.int (x * y) :: r) M
    | .iand => sm_i2 st fun x y r => sm_go L (.int (x &&& y) :: r) M
    | .ior => sm_i2 st fun x y r => sm_go L (.int (x ||| y) :: r) M
    | .ixor => sm_i2 st fun x y r => sm_go L (.int (x ^^^ y) :: r) M
    | .ishl => sm_i2 st fun x y r => sm_go L (.int (x <<< (y &&& 31)) :: r) M
    | .ishr => sm_i2 st fun x y r => sm_go L (.int (x >>> (y &&& 31)) :: r) M
    | .iushr => sm_i2 st fun x y r => sm_go L (.int ((x.toUInt32 >>> (y.toUInt32 &&& Int32.toUInt32 31)).toInt32) :: r) M
    | .idiv => sm_i2 st fun x y r => sm_ck ⟨¬ y = 0, inferInstance⟩ L (.int (x / y) :: r) M
    | .irem => sm_i2 st fun x y r => sm_ck ⟨¬ y = 0, inferInstance⟩ L (.int (x - x / y * y) :: r) M
    | .ineg => sm_i1 st fun x r => sm_go L (.int (-x) :: r) M
    | .i2l => sm_i1 st fun x r => sm_go L (.long x.toInt64 :: r) M
    | .i2b => sm_i1 st fun x r => sm_go L (.int x.toInt8.toInt32 :: r) M
    | .l2i => sm_l1 st fun x r => sm_go L (.int x.toInt32 :: r) M
    | .lneg => sm_l1 st fun x r => sm_go L (.long (-x) :: r) M
    | .ladd => sm_l2 st fun x y r => sm_go L (.long (x + y) :: r) M
    | .lsub => sm_l2 st fun x y r => sm_go L (.long (x - y) :: r) M
    | .lmul => sm_l2 st fun x y r => sm_go L (.long (x * y) :: r) M
    | .land => sm_l2 st fun x y r => sm_go L (.long (x &&& y) :: r) M
    | .lor => sm_l2 st fun x y r => sm_go L (.long (x ||| y) :: r) M
    | .ldiv => sm_l2 st fun x y r => sm_ck ⟨¬ y = 0, inferInstance⟩ L (.long (x / y) :: r) M
    | .lrem => sm_l2 st fun x y r => sm_ck ⟨¬ y = 0, inferInstance⟩ L (.long (x - x / y * y) :: r) M
    | .lcmp => sm_l2 st fun x y r => sm_go L (.int (lg_cmp x y) :: r) M
    | .lshl => sm_li st fun x y r => sm_go L (.long (x <<< (y.toInt64 &&& 63)) :: r) M
    | .lushr => sm_li st fun x y r => sm_go L (.long ((x.toUInt64 >>> (y.toInt64.toUInt64 &&& Int64.toUInt64 63)).toInt64) :: r) M
    | .pop => (match st with
      | v :: r => bif sm_long (some v) then none else sm_go L r M
      | _ => none)
    | .pop2 => (match st with
      | v :: r => bif sm_long (some v) then sm_go L r M else none
      | _ => none)
    | .dup => (match st with
      | v :: r => bif sm_long (some v) then none else sm_go L (v :: v :: r) M
      | _ => none)
    | .dup2 => (match st with
      | v :: w :: r => bif sm_long (some v) || sm_long (some w) then none else sm_go L (v :: w :: v :: w :: r) M
      | _ => none)
    | .ifCond cd _ => sm_i1 st fun x r => sm_fk (sm_cmp cd x 0) a L r
    | .if_icmp cd _ => sm_i2 st fun x y r => sm_fk (sm_cmp cd x y) a L r
    | .goto _ => sm_jp a L st
    | .tableswitch _ _ _ _ => sm_i1 st fun x r => sm_se x sw a L r
    | .getfield _ => sm_get a b c L st M
    | .putfield _ => sm_put a b c L st M
    | .iaload => sm_ial X 100 L st M
    | .baload => sm_ial X a L st M
    | .laload => sm_lal L st M
    | .iastore => sm_ias 100 L st M
    | .bastore => sm_ias a L st M
    | .lastore => sm_las L st M
    | .arraylength => sm_aln X a L st M
    | .new _ => sm_new a b L st M
    | .newarray _ => sm_nwa a L st M
    | .invokevirtual _ => sm_inv a b c (sm_mi a).1 (sm_mi a).2 L st M
    | .invokestatic _ => sm_inv a b c 0 (sm_mi a).2 L st M
    | .invokespecial _ => sm_inv a b c 0 (sm_mi a).2 L st M
    | .ireturn => (match st with
      | [.int x] => bif Nat.beq a 1 then sm_rt (sm_cZ x) (some (.int x)) else sm_rt ⟨True, inferInstance⟩ (some (.int x))
      | _ => none)
    | .lreturn => (match st with
      | [.long x] => sm_rt ⟨True, inferInstance⟩ (some (.long x))
      | _ => none)
    | .return_ => (match st with
      | [] => sm_rt ⟨True, inferInstance⟩ none
      | _ => none)
    | _ => none
abbrev sm_T : Type := List (Nat × List Bool × sm_R)
def sm_from : sm_T → Nat → sm_T
  | [], _ => []
  | e :: l, pc => bif Nat.beq e.1 pc then e :: l else sm_from l pc
def sm_kl (i pc : Nat) (L : sm_L) : sm_L := match sm_from (sm_code i) pc with
  | [] => L
  | e :: _ => sm_kill e.2.1 L
def sm_sw : Int32 → List (Int32 × Nat) → Nat → Nat
  | _, [], d => d
  | x, (k, t) :: r, d => if x = k then t else sm_sw x r d
def sm_swp {α : Sort _} (x : Int32) : List (Int32 × Nat) → Nat → (Nat → α) → α
  | [], d, f => f d
  | (k, t) :: r, d, f => if x = k then f t else sm_swp x r d f
theorem sm_swp_eq {α : Sort _} (x : Int32) (f : Nat → α) : ∀ (l : List (Int32 × Nat)) (d : Nat), sm_swp x l d f = f (sm_sw x l d)
  | [], _ => rfl
  | (k, t) :: r, d => by
    simp only [sm_swp, sm_sw]
    split
    · rfl
    · exact sm_swp_eq x f r d
def sm_words : List Int32 := [116, 97, 107, 101, 32, 114, 101, 102, 117, 115, 101, 32, 97, 115, 107, 32, 104, 111, 109, 101, 32, 110, 111, 116, 32, 97, 110, 100, 32, 111, 114, 32, 103, 97, 105, 110, 32, 103, 111, 116, 32, 108, 111, 115, 116, 32, 115, 111, 117, 108, 115, 32, 110, 101, 97, 114, 32, 109, 105, 110, 101, 32, 98, 111, 117, 110, 100, 32, 114, 97, 110, 107, 32, 111, 116, 104, 101, 114, 32, 100, 97, 121, 32, 108, 101, 102, 116, 32, 108, 105, 110, 107, 101, 100, 32]
/-- the cells that look reads and writes are there -/
def sm_is (R : List (List (Option Nat))) (o j r : Nat) : Bool := match sm_on (sm_rw R o) j with
  | some a => Nat.beq a r
  | none => false
def sm_ik (K : List (Nat × Nat)) (o t n : Nat) : Bool := Nat.beq (sm_kd K o).1 t && Nat.beq (sm_kd K o).2 n
def sm_shp (M : sm_M) : Bool := sm_ik M.1 0 11 11 && (sm_ik M.1 1 5 17 && (sm_ik M.1 2 100 12 && (sm_ik M.1 4 100 12 && (sm_ik M.1 5 100 12 && (sm_ik M.1 142 103 1 && (sm_is M.2.2.2.2 0 0 1 && (sm_is M.2.2.2.2 1 5 2 && (sm_is M.2.2.2.2 1 7 4 && sm_is M.2.2.2.2 1 8 5))))))))
/-- the law's look: what it answers, what it writes, what it drops -/
def sm_look (as : List Value) (M : sm_M) : Option (sm_C × Option Value × sm_M) := match as with
  | [.ref x, .int l, .int w, .ref o] =>
    bif (Nat.beq x 0 && Nat.beq o 142) && sm_shp M then
      if 0 ≤ l ∧ l < M.2.2.1 1 0 ∧ l < 12 then
        (if w = 0 then some (⟨True, inferInstance⟩, some (.int 0), (M.1, M.2.1, M.2.2.1, up2 M.2.2.2.1 142 0 (M.2.2.1 2 l.toNatClampNeg).toInt64, M.2.2.2.2))
         else if w = 1 then some (⟨True, inferInstance⟩, some (.int 0), (M.1, M.2.1, M.2.2.1, up2 M.2.2.2.1 142 0 (M.2.2.1 4 l.toNatClampNeg).toInt64, M.2.2.2.2))
         else if w = 2 then some (⟨True, inferInstance⟩, some (.int 0), (M.1, M.2.1, M.2.2.1, up2 M.2.2.2.1 142 0 (M.2.2.1 5 l.toNatClampNeg).toInt64, M.2.2.2.2))
         else some (⟨True, inferInstance⟩, some (.int 2), (M.1, (M.2.1.1 + 1, M.2.1.2 + 6), M.2.2.1, M.2.2.2.1, M.2.2.2.2)))
      else some (⟨True, inferInstance⟩, some (.int 1), (M.1, (M.2.1.1 + 1, M.2.1.2 + 6), M.2.2.1, M.2.2.2.1, M.2.2.2.2))
    else none
  | _ => none
/-- what isn't walked: the String constant's length and signs; the law's look, which catches -/
def sm_prim (j : Nat) (as : List Value) (M : sm_M) : Option (sm_C × Option Value × sm_M) :=
  bif Nat.beq j 900 then (match as with
    | [.retAddr z] => bif Nat.beq z 2 then some (⟨True, inferInstance⟩, some (.int 95), M) else none
    | _ => none)
  else bif Nat.beq j 901 then (match as with
    | [.retAddr z, .int i] => bif Nat.beq z 2 then some (sm_cI i 95, some (.int (sm_words.getD i.toNatClampNeg 0)), M) else none
    | _ => none)
  else bif Nat.beq j 903 then (match as with
    | [.int x, .int y] => some (⟨True, inferInstance⟩, some (.int (if x < y then y else x)), M)
    | _ => none)
  else bif Nat.beq j 904 then (match as with
    | [.int x, .int y] => some (⟨True, inferInstance⟩, some (.int (if y < x then y else x)), M)
    | _ => none)
  else bif Nat.beq j 905 then (match as with
    | [.long x] => some (⟨True, inferInstance⟩, some (.long (if 0 < x then x else -x)), M)
    | _ => none)
  else bif Nat.beq j 902 then sm_look as M
  else none
def sm_en (j : Nat) (as : List Value) : sm_L := sm_pad (sm_mi j).2 (sm_ent as)
abbrev sm_F : Type := Nat → Nat → sm_L → sm_S → sm_M → Option (Option Value × sm_M)
def sm_act (f : sm_F) (i pc : Nat) (M : sm_M) (o : sm_O) : Option (Option Value × sm_M) := match o with
  | .inl (L', st', M') => f i pc (sm_kl i pc L') st' M'
  | .inr (.inl (c, L', st', M')) => @ite _ c.1 c.2 (f i pc (sm_kl i pc L') st' M') none
  | .inr (.inr (.inl (c, t, L', st'))) => @ite _ c.1 c.2 (f i t (sm_kl i t L') st' M) (f i pc (sm_kl i pc L') st' M)
  | .inr (.inr (.inr (.inl (t, L', st')))) => f i t (sm_kl i t L') st' M
  | .inr (.inr (.inr (.inr (.inl (x, l, d, L', st'))))) => f i (sm_sw x l d) (sm_kl i (sm_sw x l d) L') st' M
  | .inr (.inr (.inr (.inr (.inr (.inl (j, as, L', st')))))) =>
    bif Nat.ble 900 j then (match sm_prim j as M with
      | some (c, v, M') => @ite _ c.1 c.2 (f i pc (sm_kl i pc L') (v.toList ++ st') M') none
      | none => none)
    else (match f j 0 (sm_en j as) [] M with
      | some (v, M') => f i pc (sm_kl i pc L') (v.toList ++ st') M'
      | none => none)
  | .inr (.inr (.inr (.inr (.inr (.inr (c, v)))))) => @ite _ c.1 c.2 (some (v, M)) none
def sm_body (X : (Nat → Int32) × Nat) (f : sm_F) : sm_F := fun i pc L st M => match sm_from (sm_code i) pc with
  | [] => none
  | (_, _, r) :: _ => match sm_step X r L st M with
    | none => none
    | some o => sm_act f i (pc + r.2.1) M o
def sm_run (X : (Nat → Int32) × Nat) : Nat → sm_F
  | 0 => fun _ _ _ _ _ => none
  | n + 1 => sm_body X (sm_run X n)
/-- the run from here ends, and Q holds of its end -/
def sm_wp (X : (Nat → Int32) × Nat) (i pc : Nat) (L : sm_L) (st : sm_S) (M : sm_M) (Q : Option Value → sm_M → Prop) : Prop := ∃ n v M', sm_run X n i pc L st M = some (v, M') ∧ Q v M'
/-- a stretch of instructions up to the next head of a loop, call, jump or end -/
def sm_wb (X : (Nat → Int32) × Nat) (i : Nat) (Q : Option Value → sm_M → Prop) : sm_T → Bool → sm_L → sm_S → sm_M → Prop
  | [], _, _, _, _ => False
  | (pc, ks, r) :: rs, fst, L, st, M =>
    bif fst || ks.isEmpty then (match sm_step X r L st M with
      | none => False
      | some (.inl (L', st', M')) => sm_wb X i Q rs false L' st' M'
      | some (.inr (.inl (c, L', st', M'))) => c.1 ∧ sm_wb X i Q rs false L' st' M'
      | some (.inr (.inr (.inl (c, t, L', st')))) => @ite _ c.1 c.2 (sm_wp X i t (sm_kl i t L') st' M Q) (sm_wb X i Q rs false L' st' M)
      | some (.inr (.inr (.inr (.inl (t, L', st'))))) => sm_wp X i t (sm_kl i t L') st' M Q
      | some (.inr (.inr (.inr (.inr (.inl (x, l, d, L', st')))))) => sm_swp x l d (fun t => sm_wp X i t (sm_kl i t L') st' M Q)
      | some (.inr (.inr (.inr (.inr (.inr (.inl (j, as, L', st'))))))) =>
        bif Nat.ble 900 j then (match sm_prim j as M with
          | some (c, v, M') => c.1 ∧ sm_wb X i Q rs false L' (v.toList ++ st') M'
          | none => False)
        else sm_wp X j 0 (sm_en j as) [] M (fun v M' => sm_wp X i (pc + r.2.1) (sm_kl i (pc + r.2.1) L') (v.toList ++ st') M' Q)
      | some (.inr (.inr (.inr (.inr (.inr (.inr (c, v))))))) => c.1 ∧ Q v M)
    else sm_wp X i pc (sm_kill ks L) st M Q
