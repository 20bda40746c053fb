/-! What each row of the tables must be, tested by the kernel. -/
def uw : List Cond := lw_tbl.filter goodWord
def wi (p : Nat) (w : Cond) : Bool := decide (lw_tbl[p]? = some w) && goodWord w
def wn (p : Nat) (w : Cond) : Bool := decide (lw_tbl[p]? = some w)
theorem wn_in {p : Nat} {w : Cond} (h : wn p w = true) : w ∈ lw_tbl := List.mem_of_getElem? (of_decide_eq_true h)
theorem wi_in {p : Nat} {w : Cond} (h : wi p w = true) : w ∈ uw := by
  simp only [wi, Bool.and_eq_true] at h
  exact List.mem_filter.mpr ⟨wn_in h.1, h.2⟩
def fcode (d : String) : Nat := if d = "I" then 0 else if d = "Z" then 1 else if d = "J" then 2 else 3
def atag : ArrayType → Nat
  | .int => 100
  | .boolean => 101
  | .byte => 102
  | .long => 103
  | _ => 0
def cl_at (a : Nat) : vw_C := cl_all.getD a ("", T_0, 0)
/-- a field's row -/
def kf (i a b c p : Nat) (ix : Nat) : Bool := decide (a < 13) && decide (b < (cl_at a).2.2) && wi p (.fieldLink (my i).cls ix ((cl_at a).2.1 b).1 ((cl_at a).2.1 b).2.1 ((cl_at a).2.1 b).2.2.1) && decide (fcode ((cl_at a).2.1 b).2.2.1 = c)
/-- a call's row: the callee's number, how many values it takes, room -/
def kc (i a n : Nat) : Bool := (decide (a < 311) || decide (a = 314)) && decide (a ≠ 205) && decide ((mrm a).1 + 1 ≤ (mrm i).1) && decide (8 + ((sm_mi a).2 + 11) + (mrm a).2 ≤ (mrm i).2) && decide ((parseMethodDescriptor (my a).desc).map (fun d => d.parameters.length) = some n)
/-- a call that isn't walked -/
def kp (i a b c p ix : Nat) : Bool := decide (c = 5) && (match a with
  | 900 => decide (b = 1) && wi p (.methodLink (my i).cls ix ⟨"java/lang/String", "length", "()I"⟩) && decide (4 ≤ (mrm i).1) && decide (80 ≤ (mrm i).2)
  | 901 => decide (b = 2) && wi p (.methodLink (my i).cls ix ⟨"java/lang/String", "charAt", "(I)C"⟩) && decide (4 ≤ (mrm i).1) && decide (85 ≤ (mrm i).2)
  | 902 => decide (b = 4) && decide (i = 315) && decide (ix = 171)
  | 903 => decide (b = 2) && wi p (.methodLink (my i).cls ix Lib.Math.max.name) && decide (1 ≤ (mrm i).1) && decide (21 ≤ (mrm i).2)
  | 904 => decide (b = 2) && wi p (.methodLink (my i).cls ix Lib.Math.min.name) && decide (1 ≤ (mrm i).1) && decide (21 ≤ (mrm i).2)
  | 905 => decide (b = 1) && wi p (.methodLink (my i).cls ix Lib.MathLoose.abs_long.x) && decide (1 ≤ (mrm i).1) && decide (21 ≤ (mrm i).2)
  | _ => false)
def lkb (i pc : Nat) (r : sm_R) (p : Nat) : Bool := match r with
  | (q, len, a, b, c, k, kl, sw) => decide (decode (mb i) pc = .ok (q, len)) && (match q with
    | .iconst n => decide (Int32.ofInt n = k) && decide (len = 1)
    | .bipush n => decide ((Int8.ofInt n).toInt32 = k) && decide (len = 2)
    | .sipush n => decide ((Int16.ofInt n).toInt32 = k) && decide (len = 3)
    | .lconst n => decide (Int64.ofNat n.val = kl) && decide (len = 1)
    | .ldc ix => decide (len = 2) && (bif Nat.beq a 1 then decide ((my i).cls = "PowersHouse$Tape") && decide (ix = 64) else wi p (.constant (my i).cls ix k))
    | .ldc_w ix => wi p (.constant (my i).cls ix k) && decide (len = 3)
    | .ldc2_w ix => wi p (.constantLong (my i).cls ix kl) && decide (len = 3)
    | .iload _ => decide (len = 2)
    | .lload _ => decide (len = 2)
    | .aload _ => decide (len = 2)
    | .istore n => decide (len = 2) && decide (n < (sm_mi i).2)
    | .lstore n => decide (len = 2) && decide (n + 1 < (sm_mi i).2)
    | .astore n => decide (len = 2) && decide (n < (sm_mi i).2)
    | .istore_n n => decide (len = 1) && decide (n.val < (sm_mi i).2)
    | .lstore_n n => decide (len = 1) && decide (n.val + 1 < (sm_mi i).2)
    | .astore_n n => decide (len = 1) && decide (n.val < (sm_mi i).2)
    | .iinc n v => decide (Int32.ofInt v = k) && decide (len = 3) && decide (n < (sm_mi i).2)
    | .ifCond _ o => decide ((pc : Int) + o = (a : Int)) && decide (len = 3)
    | .if_icmp _ o => decide ((pc : Int) + o = (a : Int)) && decide (len = 3)
    | .goto o => decide ((pc : Int) + o = (a : Int)) && decide (len = 3)
    | .tableswitch d lo hi offs => decide ((pc : Int) + d = (a : Int)) && decide (lo ≤ hi) && decide (sw.map (fun e => e.1.toInt) = (List.range (hi - lo + 1).toNat).map (fun (j : Nat) => lo + (j : Int))) && decide (offs.toList.map (fun o => (pc : Int) + o) = sw.map (fun e => (e.2 : Int)))
    | .getfield ix => kf i a b c p ix && decide (len = 3)
    | .putfield ix => kf i a b c p ix && decide (len = 3) && (!((cl_at a).2.1 b).2.2.2 || (decide ((my i).name = "<init>") && decide (((cl_at a).2.1 b).1 = (my i).cls)))
    | .new ix => decide (a < 13) && decide (b = (cl_at a).2.2) && wi p (.classLink (my i).cls ix (cl_at a).1) && decide (len = 3)
    | .newarray t => decide (atag t = a) && decide (100 ≤ a) && decide (len = 2)
    | .invokevirtual ix => decide (len = 3) && (bif Nat.beq c 0 then kc i a (b - 1) && decide (1 ≤ b) && decide ((mq a).1 = 0) && wi p (.methodLink (my i).cls ix (my a)) && decide ((sm_mi a).1 < 13) && decide ((cl_at (sm_mi a).1).1 = (my a).cls) else decide (a ≤ 901) && kp i a b c p ix)
    | .invokestatic ix => decide (len = 3) && (bif Nat.beq c 1 then kc i a b && decide ((mq a).1 = 1) && wi p (.methodLink (my i).cls ix (my a)) else bif Nat.beq c 2 then kc i a b && decide ((mq a).1 = 1) && wn p (.methodLinkNest (my i).cls ix (my a) "PowersHouse") else decide (902 ≤ a) && kp i a b c p ix)
    | .invokespecial ix => decide (len = 3) && (bif Nat.beq c 3 then kc i a (b - 1) && decide (1 ≤ b) && decide ((mq a).1 = 2) && wi p (.methodLink (my i).cls ix (my a)) && decide ((my a).name = "<init>") else decide (c = 4) && decide (b = 1) && wi p (.methodLink (my i).cls ix Lib.objectInit) && decide (1 ≤ (mrm i).1) && decide (20 ≤ (mrm i).2))
    | .ireturn => decide (len = 1) && (bif Nat.beq a 1 then decide (mr i = some .boolean) else decide (mr i = some .int))
    | .lreturn => decide (mr i = some .long) && decide (len = 1)
    | .return_ => decide (mr i = none) && decide (len = 1)
    | .baload => (decide (a = 101) || decide (a = 102)) && decide (len = 1)
    | .bastore => (decide (a = 101) || decide (a = 102)) && decide (len = 1)
    | .arraylength => decide (100 ≤ a) && decide (a ≤ 103) && decide (len = 1)
    | _ => decide (len = 1))
def lkm (i : Nat) : Bool := decide ((sm_pos i).length = (sm_code i).length) && ((sm_code i).zip (sm_pos i)).all (fun e => lkb i e.1.1 e.1.2.2 e.2)
/-- a method's own words -/
def lkw (i : Nat) : Bool := wi (mq i).2.2.2.2 (.initialized (my i).cls) && decide ((my i).cls ≠ "java/lang/invoke/MethodHandle") && decide ((my i).cls ≠ "java/lang/invoke/VarHandle") && plainName (my i).cls && (match (mq i).1 with
  | 0 => wi (mq i).2.2.1 (.instanceMethod (my i)) && wi (mq i).2.2.2.1 (.selects (my i).cls (my i) (my i))
  | 1 => wi (mq i).2.2.1 (.static (my i))
  | _ => wi (mq i).2.2.1 (.instanceMethod (my i)))
