/-! The shadow machine: frames and memory as plain data; what it does, the machine does (part 05). -/
abbrev sm_L : Type := List (Option Value)
abbrev sm_S : Type := List Value
/-- kinds of the cells (tag, length); dropped cells and slots; ints, longs, references -/
abbrev sm_M : Type := List (Nat × Nat) × (Nat × Nat) × (Nat → Nat → Int32) × (Nat → Nat → Int64) × List (List (Option Nat))
abbrev sm_C : Type := PSigma (fun p : Prop => Decidable p)
/-- an instruction, resolved: itself, its length, three numbers, its constants, its jumps -/
abbrev sm_R : Type := Instr × Nat × Nat × Nat × Nat × Int32 × Int64 × List (Int32 × Nat)
abbrev sm_O : Type := (sm_L × sm_S × sm_M) ⊕ (sm_C × sm_L × sm_S × sm_M) ⊕ (sm_C × Nat × sm_L × sm_S) ⊕ (Nat × sm_L × sm_S) ⊕ (Int32 × List (Int32 × Nat) × Nat × sm_L × sm_S) ⊕ (Nat × List Value × sm_L × sm_S) ⊕ (sm_C × Option Value)
abbrev ri_0 (q : Instr) (n : Nat) : sm_R := (q, n, 0, 0, 0, 0, 0, [])
abbrev ri_k (q : Instr) (n : Nat) (k : Int32) : sm_R := (q, n, 0, 0, 0, k, 0, [])
abbrev ri_l (q : Instr) (n : Nat) (k : Int64) : sm_R := (q, n, 0, 0, 0, 0, k, [])
abbrev ri_a (q : Instr) (n a b c : Nat) : sm_R := (q, n, a, b, c, 0, 0, [])
abbrev ri_s (q : Instr) (n a : Nat) (l : List (Int32 × Nat)) : sm_R := (q, n, a, 0, 0, 0, 0, l)
def sm_nth : sm_L → Nat → Option Value
  | [], _ => none
  | x :: _, 0 => x
  | _ :: l, n + 1 => sm_nth l n
def sm_set {α : Type} : List α → Nat → α → List α
  | [], _, _ => []
  | _ :: l, 0, v => v :: l
  | x :: l, n + 1, v => x :: sm_set l n v
def sm_kd : List (Nat × Nat) → Nat → Nat × Nat
  | [], _ => (99, 0)
  | x :: _, 0 => x
  | _ :: l, n + 1 => sm_kd l n
def sm_rw : List (List (Option Nat)) → Nat → List (Option Nat)
  | [], _ => []
  | x :: _, 0 => x
  | _ :: l, n + 1 => sm_rw l n
def sm_on : List (Option Nat) → Nat → Option Nat
  | [], _ => none
  | x :: _, 0 => x
  | _ :: l, n + 1 => sm_on l n
def up2 {α : Type} (I : Nat → Nat → α) (a k : Nat) (v : α) : Nat → Nat → α := va_up I a (va_up (I a) k v)
def sm_long (v : Option Value) : Bool := match v with
  | some (.long _) => true
  | some (.double _) => true
  | _ => false
/-- storing a value of one slot, of two -/
def sm_st1 : sm_L → Nat → Value → sm_L
  | [], _, _ => []
  | _ :: l, 0, v => some v :: l
  | x :: l, 1, v => (bif sm_long x then none else x) :: sm_st1 l 0 v
  | x :: l, n + 2, v => x :: sm_st1 l (n + 1) v
def sm_st2 (L : sm_L) (n : Nat) (v : Value) : sm_L := sm_set (sm_st1 L n v) (n + 1) none
def sm_kill : List Bool → sm_L → sm_L
  | [], L => L
  | _ :: _, [] => []
  | b :: bs, x :: L => (bif b then x else none) :: sm_kill bs L
def sm_take : Nat → sm_S → List Value → Option (List Value × sm_S)
  | 0, st, acc => some (acc, st)
  | n + 1, v :: st, acc => sm_take n st (v :: acc)
  | _ + 1, [], _ => none
def sm_ent : List Value → sm_L
  | [] => []
  | v :: l => bif sm_long (some v) then some v :: none :: sm_ent l else some v :: sm_ent l
def sm_pad : Nat → sm_L → sm_L
  | 0, L => L
  | n + 1, [] => none :: sm_pad n []
  | n + 1, x :: L => x :: sm_pad n L
def sm_cat : List Value → Nat
  | [] => 0
  | v :: l => (bif sm_long (some v) then 2 else 1) + sm_cat l
def sm_len (K : List (Nat × Nat)) (t o : Nat) : Nat := bif Nat.beq (sm_kd K o).1 t then (sm_kd K o).2 else 0
def sm_zb (v : Int32) : Prop := v = 0 ∨ v = 1
abbrev sm_cI (i : Int32) (n : Nat) : sm_C := ⟨vp_in i n, (inferInstance : Decidable (¬ (i < 0 ∨ n ≤ i.toNatClampNeg)))⟩
abbrev sm_cZ (v : Int32) : sm_C := ⟨sm_zb v, (inferInstance : Decidable (v = 0 ∨ v = 1))⟩
abbrev sm_go (L : sm_L) (st : sm_S) (M : sm_M) : Option sm_O := some (.inl (L, st, M))
abbrev sm_ck (c : sm_C) (L : sm_L) (st : sm_S) (M : sm_M) : Option sm_O := some (.inr (.inl (c, L, st, M)))
abbrev sm_fk (c : sm_C) (t : Nat) (L : sm_L) (st : sm_S) : Option sm_O := some (.inr (.inr (.inl (c, t, L, st))))
abbrev sm_jp (t : Nat) (L : sm_L) (st : sm_S) : Option sm_O := some (.inr (.inr (.inr (.inl (t, L, st)))))
abbrev sm_se (x : Int32) (l : List (Int32 × Nat)) (d : Nat) (L : sm_L) (st : sm_S) : Option sm_O := some (.inr (.inr (.inr (.inr (.inl (x, l, d, L, st))))))
abbrev sm_ca (j : Nat) (as : List Value) (L : sm_L) (st : sm_S) : Option sm_O := some (.inr (.inr (.inr (.inr (.inr (.inl (j, as, L, st)))))))
abbrev sm_rt (c : sm_C) (v : Option Value) : Option sm_O := some (.inr (.inr (.inr (.inr (.inr (.inr (c, v)))))))
def sm_i2 (st : sm_S) (f : Int32 → Int32 → sm_S → Option sm_O) : Option sm_O := match st with
  | .int y :: .int x :: r => f x y r
  | _ => none
def sm_i1 (st : sm_S) (f : Int32 → sm_S → Option sm_O) : Option sm_O := match st with
  | .int x :: r => f x r
  | _ => none
def sm_l2 (st : sm_S) (f : Int64 → Int64 → sm_S → Option sm_O) : Option sm_O := match st with
  | .long y :: .long x :: r => f x y r
  | _ => none
def sm_l1 (st : sm_S) (f : Int64 → sm_S → Option sm_O) : Option sm_O := match st with
  | .long x :: r => f x r
  | _ => none
def sm_li (st : sm_S) (f : Int64 → Int32 → sm_S → Option sm_O) : Option sm_O := match st with
  | .int y :: .long x :: r => f x y r
  | _ => none
def sm_r1 (st : sm_S) (f : Nat → sm_S → Option sm_O) : Option sm_O := match st with
  | .ref x :: r => f x r
  | _ => none
def sm_ldi (L : sm_L) (n : Nat) (st : sm_S) (M : sm_M) : Option sm_O := match sm_nth L n with
  | some (.int x) => sm_go L (.int x :: st) M
  | _ => none
def sm_ldl (L : sm_L) (n : Nat) (st : sm_S) (M : sm_M) : Option sm_O := match sm_nth L n with
  | some (.long x) => sm_go L (.long x :: st) M
  | _ => none
def sm_lda (L : sm_L) (n : Nat) (st : sm_S) (M : sm_M) : Option sm_O := match sm_nth L n with
  | some (.ref x) => sm_go L (.ref x :: st) M
  | some (.retAddr x) => bif Nat.beq x 1 || Nat.beq x 2 then sm_go L (.retAddr x :: st) M else none
  | _ => none
def sm_sti (L : sm_L) (n : Nat) (st : sm_S) (M : sm_M) : Option sm_O := match st with
  | .int x :: r => sm_go (sm_st1 L n (.int x)) r M
  | _ => none
def sm_stl (L : sm_L) (n : Nat) (st : sm_S) (M : sm_M) : Option sm_O := match st with
  | .long x :: r => sm_go (sm_st2 L n (.long x)) r M
  | _ => none
def sm_sta (L : sm_L) (n : Nat) (st : sm_S) (M : sm_M) : Option sm_O := match st with
  | .ref x :: r => sm_go (sm_st1 L n (.ref x)) r M
  | _ => none
abbrev sm_cmp (c : ClassFile.Cond) (x y : Int32) : sm_C := match c with
  | .eq => ⟨x = y, inferInstance⟩
  | .ne => ⟨¬ x = y, inferInstance⟩
  | .lt => ⟨x < y, inferInstance⟩
  | .ge => ⟨y ≤ x, inferInstance⟩
  | .gt => ⟨y < x, inferInstance⟩
  | .le => ⟨x ≤ y, inferInstance⟩
abbrev sm_ro (r : Option Nat) : Value := match r with
  | some a => .ref a
  | none => .null
def sm_fv (c : Nat) (M : sm_M) (o k : Nat) : Value :=
  bif Nat.beq c 3 then sm_ro (sm_on (sm_rw M.2.2.2.2 o) k) else bif Nat.beq c 2 then .long (M.2.2.2.1 o k) else .int (M.2.2.1 o k)
def sm_get (a b c : Nat) (L : sm_L) (st : sm_S) (M : sm_M) : Option sm_O := sm_r1 st fun o r =>
  bif Nat.beq (sm_kd M.1 o).1 a then sm_go L (sm_fv c M o b :: r) M else none
def sm_put (a b c : Nat) (L : sm_L) (st : sm_S) (M : sm_M) : Option sm_O := match st with
  | .int x :: .ref o :: r => bif Nat.beq (sm_kd M.1 o).1 a then
      (bif Nat.beq c 0 then sm_go L r (M.1, M.2.1, up2 M.2.2.1 o b x, M.2.2.2.1, M.2.2.2.2)
       else bif Nat.beq c 1 then sm_ck (sm_cZ x) L r (M.1, M.2.1, up2 M.2.2.1 o b x, M.2.2.2.1, M.2.2.2.2) else none) else none
  | .long x :: .ref o :: r => bif Nat.beq (sm_kd M.1 o).1 a && Nat.beq c 2 then sm_go L r (M.1, M.2.1, M.2.2.1, up2 M.2.2.2.1 o b x, M.2.2.2.2) else none
  | .ref x :: .ref o :: r => bif Nat.beq (sm_kd M.1 o).1 a && Nat.beq c 3 then sm_go L r (M.1, M.2.1, M.2.2.1, M.2.2.2.1, sm_set M.2.2.2.2 o (sm_set (sm_rw M.2.2.2.2 o) b (some x))) else none
  | _ => none
def sm_ial (X : (Nat → Int32) × Nat) (t : Nat) (L : sm_L) (st : sm_S) (M : sm_M) : Option sm_O := match st with
  | .int i :: .ref o :: r => sm_ck (sm_cI i (sm_len M.1 t o)) L (.int (M.2.2.1 o i.toNatClampNeg) :: r) M
  | .int i :: .retAddr z :: r => bif Nat.beq z 1 && Nat.beq t 100 then sm_ck (sm_cI i X.2) L (.int (X.1 i.toNatClampNeg) :: r) M else none
  | _ => none
def sm_lal (L : sm_L) (st : sm_S) (M : sm_M) : Option sm_O := match st with
  | .int i :: .ref o :: r => sm_ck (sm_cI i (sm_len M.1 103 o)) L (.long (M.2.2.2.1 o i.toNatClampNeg) :: r) M
  | _ => none
def sm_nar (t : Nat) (x : Int32) : Int32 := bif Nat.beq t 101 then vp_nar .boolean x else bif Nat.beq t 102 then vp_nar .byte x else x
def sm_ias (t : Nat) (L : sm_L) (st : sm_S) (M : sm_M) : Option sm_O := match st with
  | .int x :: .int i :: .ref o :: r => sm_ck (sm_cI i (sm_len M.1 t o)) L r (M.1, M.2.1, up2 M.2.2.1 o i.toNatClampNeg (sm_nar t x), M.2.2.2.1, M.2.2.2.2)
  | _ => none
def sm_las (L : sm_L) (st : sm_S) (M : sm_M) : Option sm_O := match st with
  | .long x :: .int i :: .ref o :: r => sm_ck (sm_cI i (sm_len M.1 103 o)) L r (M.1, M.2.1, M.2.2.1, up2 M.2.2.2.1 o i.toNatClampNeg x, M.2.2.2.2)
  | _ => none
def sm_aln (X : (Nat → Int32) × Nat) (t : Nat) (L : sm_L) (st : sm_S) (M : sm_M) : Option sm_O := match st with
  | .ref o :: r => bif Nat.beq (sm_kd M.1 o).1 t then sm_go L (.int (Int32.ofNat (sm_kd M.1 o).2) :: r) M else none
  | .retAddr z :: r => bif Nat.beq z 1 then sm_go L (.int (Int32.ofNat X.2) :: r) M else none
  | _ => none
/-- a new object of class a with n fields; a new array -/
def sm_new (a n : Nat) (L : sm_L) (st : sm_S) (M : sm_M) : Option sm_O :=
  sm_go L (.ref M.1.length :: st) (M.1 ++ [(a, n)], M.2.1, M.2.2.1, M.2.2.2.1, M.2.2.2.2 ++ [List.replicate n none])
def sm_nwa (t : Nat) (L : sm_L) (st : sm_S) (M : sm_M) : Option sm_O := match st with
  | .int n :: r => bif decide (0 ≤ n) && decide (n ≤ 65536) then sm_go L (.ref M.1.length :: r) (M.1 ++ [(t, n.toNatClampNeg)], M.2.1, M.2.2.1, M.2.2.2.1, M.2.2.2.2 ++ [[]]) else none
  | _ => none
def sm_inv (j n c cl ml : Nat) (L : sm_L) (st : sm_S) (M : sm_M) : Option sm_O := match sm_take n st [] with
  | some (as, r) => bif Nat.ble (sm_cat r) 8 && Nat.ble (sm_cat as) ml then
      (bif Nat.beq c 0 then (match as with
        | .ref o :: _ => bif Nat.beq (sm_kd M.1 o).1 cl then sm_ca j as L r else none
        | _ => none)
       else bif Nat.beq c 3 then (match as with
        | .ref _ :: _ => sm_ca j as L r
        | _ => none)
       else bif Nat.beq c 4 then (match as with
        | [.ref _] => sm_go L r M
        | _ => none)
       else sm_ca j as L r) else none
  | none => none
