/-! PowersHouse.look: it returns or throws. -/
def lkE1 : String := "java/lang/IndexOutOfBoundsException"
def lkE2 : String := "java/util/NoSuchElementException"
theorem sn_W_ext {cA : Nat → ClassId} {ad ad' : Nat → Nat} {b sa : Nat} {M : sm_M} (h : sn_ok M) (he : ∀ k, k < M.1.length → ad' k = ad k) : sn_W cA ad' b sa M = sn_W cA ad b sa M := by
  unfold sn_W
  refine List.map_congr_left fun k hk => ?_
  have hk : k < M.1.length := List.mem_range.mp hk
  refine Prod.ext (he k hk) ?_
  show sn_e cA ad' b sa M k (sm_kd M.1 k) = sn_e cA ad b sa M k (sm_kd M.1 k)
  unfold sn_e
  cases Nat.ble 100 (sm_kd M.1 k).1 with
  | true => rfl
  | false =>
    simp only [cond_false]
    congr 2
    refine List.map_congr_left fun j _ => ?_
    exact cv_ext (sn_fv_ok h _ k j) he
def lk_ans (M : sm_M) (l w r : Int32) : Prop := lk_in M l ∧ ((w = 0 ∧ r = M.2.2.1 2 l.toNatClampNeg) ∨ (w = 1 ∧ r = M.2.2.1 4 l.toNatClampNeg) ∨ (w = 2 ∧ r = M.2.2.1 5 l.toNatClampNeg))
def lk_thr (M : sm_M) (l w : Int32) (E : String) : Prop := (¬ lk_in M l ∧ E = lkE1) ∨ (lk_in M l ∧ w ≠ 0 ∧ w ≠ 1 ∧ w ≠ 2 ∧ E = lkE2)
/-- words that a call may not carry as they are -/
def lkB : List Cond := [.castable lkE1 lkE1, .castable lkE2 lkE2, .declares (Bundle.initS "java/lang/RuntimeException"), .declares (Bundle.initS "java/lang/Exception"), .declares (Bundle.initS Bundle.tN)]
theorem lkB_ot : ∀ w ∈ lkB, w.onTables = true := by
  intro w hw
  simp only [lkB, List.mem_cons, List.not_mem_nil, or_false] at hw
  rcases hw with rfl | rfl | rfl | rfl | rfl <;> rfl
theorem lkB_next {s U : State} (hv : U.vm = s.vm ∨ s.WarmedH U.vm) (h : ∀ w ∈ lkB, va_Nw w s) : ∀ w ∈ lkB, va_Nw w U := by
  intro w hw
  have h1 := h w hw
  rcases hv with e | e
  · exact va_Nw.same (lkB_ot w hw) e.symm h1
  · simp only [lkB, List.mem_cons, List.not_mem_nil, or_false] at hw
    rcases hw with rfl | rfl | rfl | rfl | rfl
    · exact va_Nw.warmC e h1
    · exact va_Nw.warmC e h1
    · exact va_Nw.warmD e h1
    · exact va_Nw.warmD e h1
    · exact va_Nw.warmD e h1
/-- what the throws want besides -/
def lk_EX (t1 t2 : Nat) (A : Nat → Prop) (U : State) : Prop :=
  vx_Zq Bundle.tN "UNASSIGNED_STACK" Bundle.steD A U U.heap ∧ vx_Zq Bundle.tN "SUPPRESSED_SENTINEL" Bundle.listD A U U.heap ∧ vk_R "PowersHouse" 321 "no such land" t1 U ∧ vk_R "PowersHouse" 331 "no such what" t2 U ∧ va_Nc lkE2 lkE1 U ∧ ∀ w ∈ lkB, va_Nw w U
theorem lk_EX.next {t1 t2 : Nat} {A A' : Nat → Prop} {s U : State} (h : lk_EX t1 t2 A s) (hA : ∀ q, A' q → A q) (hh : ∀ q : Nat, q < s.heap.size → ¬ A q → U.heap[q]? = s.heap[q]?) (hv : U.vm = s.vm ∨ s.WarmedH U.vm) : lk_EX t1 t2 A' U := by
  obtain ⟨h1, h2, h3, h4, h5, h6⟩ := h
  have hal : s.vm.Alike U.vm := by
    rcases hv with e | e
    · rw [e]; exact Vm.Alike.refl _
    · exact e.alike
  refine ⟨((h1.moved hal).kept hh).narrow hA, ((h2.moved hal).kept hh).narrow hA, ?_, ?_, h5.moved hal, lkB_next hv h6⟩
  · rcases hv with e | e
    · exact h3.same e
    · exact h3.warm e
  · rcases hv with e | e
    · exact h4.same e
    · exact h4.warm e
/-- the law's own part left out -/
abbrev zs0 (sa sv : Nat) : Nat → (Nat → Prop) → State → Prop := zs sa sv (fun _ _ => False)
theorem lk_ih (l : Launch) (X : (Nat → Int32) × Nat) (D : va_G) (cA : Nat → ClassId) (b sa sv : Nat) : ∀ n, sn_IH l X D cA b sa (zs0 sa sv) n :=
  snd (zs_cl sa sv _) (zs_ldc l X D cA b sa sv _) (zs_prims fun p e R s m args below meth c Q A z0 w0 ad0 n0 pc L M M1 as rest c0 v C => absurd (C.2.2.2.2.2.2.2.2.2.2.1.2.2.2.2.2 rfl) (fun h => h))
theorem lk_in_uw {w : Cond} (h : (decide (w ∈ lw_tbl) && goodWord w) = true) : w ∈ uw := by
  have h := lk_and h
  exact List.mem_filter.mpr ⟨of_decide_eq_true h.1, h.2⟩
theorem lk_all_uw {l : List Cond} (h : l.all (fun w => decide (w ∈ lw_tbl) && goodWord w) = true) : ∀ w ∈ l, w ∈ uw := fun w hw => lk_in_uw (List.all_eq_true.mp h w hw)
theorem lk_c1 : Cond.classLink "PowersHouse" 319 lkE1 ∈ uw := lk_in_uw (by decide +kernel)
theorem lk_c2 : Cond.classLink "PowersHouse" 329 lkE2 ∈ uw := lk_in_uw (by decide +kernel)
theorem lk_i1 : Cond.initialized lkE1 ∈ uw := lk_in_uw (by decide +kernel)
theorem lk_i2 : Cond.initialized lkE2 ∈ uw := lk_in_uw (by decide +kernel)
def lkN : List String := ["java/lang/RuntimeException", "java/lang/Exception"]
theorem lk_orB {l : List Cond} (h : l.all (fun w => (decide (w ∈ lw_tbl) && goodWord w) || decide (w ∈ lkB)) = true) : ∀ w ∈ l, w ∈ uw ∨ w ∈ lkB := fun w hw => by
  have h1 := List.all_eq_true.mp h w hw
  rw [Bool.or_eq_true] at h1
  exact h1.imp lk_in_uw of_decide_eq_true
theorem lk_a1 : ∀ w ∈ vx_atS "PowersHouse" 323 lkE1 lkN, w ∈ uw ∨ w ∈ lkB := lk_orB (by decide +kernel)
abbrev lkrx : ByteArray := prog_24_method_4_code
theorem lkrx_0 : decode lkrx 0 = .ok (.aload_n 0, 1) := by decide +kernel
theorem lkrx_1 : decode lkrx 1 = .ok (.aload_n 1, 1) := by decide +kernel
theorem lkrx_2 : decode lkrx 2 = .ok (.invokespecial 13, 3) := by decide +kernel
theorem lkrx_5 : decode lkrx 5 = .ok (.return_, 1) := by decide +kernel
def lkY : String := "java/lang/RuntimeException"
def lkN2 : List String := ["java/lang/Exception"]
theorem lk_a2 : ∀ w ∈ lk_oat "PowersHouse" 333 lkE2 13 lkrx lkY lkN2, w ∈ uw ∨ w ∈ lkB := lk_orB (by decide +kernel)
theorem lk_otu {w : Cond} (h : w ∈ uw ∨ w ∈ lkB) : vx_ot w = true := by
  unfold vx_ot
  rcases h with h | h
  · rw [(List.mem_filter.mp h).2, Bool.or_true]
  · rw [lkB_ot w h, Bool.true_or]
theorem lk_g1 : ∀ w ∈ Cond.classLink "PowersHouse" 319 lkE1 :: Cond.initialized lkE1 :: vx_atS "PowersHouse" 323 lkE1 lkN, vx_ot w = true := by
  intro w hw
  rcases List.mem_cons.mp hw with rfl | hw
  · exact lk_otu (Or.inl lk_c1)
  · rcases List.mem_cons.mp hw with rfl | hw
    · exact lk_otu (Or.inl lk_i1)
    · exact lk_otu (lk_a1 w hw)
theorem lk_g2 : ∀ w ∈ Cond.classLink "PowersHouse" 329 lkE2 :: Cond.initialized lkE2 :: lk_oat "PowersHouse" 333 lkE2 13 lkrx lkY lkN2, vx_ot w = true := by
  intro w hw
  rcases List.mem_cons.mp hw with rfl | hw
  · exact lk_otu (Or.inl lk_c2)
  · rcases List.mem_cons.mp hw with rfl | hw
    · exact lk_otu (Or.inl lk_i2)
    · exact lk_otu (lk_a2 w hw)
theorem lk_fit : ∀ n ∈ lkN, Bundle.fit n = true := by decide +kernel
theorem lk_fitY : Bundle.fit lkY = true := by decide +kernel
theorem lk_fitN : ∀ n ∈ lkN2, Bundle.fit n = true := by decide +kernel
theorem lk_fit1 : Bundle.fit lkE1 = true := by decide +kernel
theorem lk_fit2 : Bundle.fit lkE2 = true := by decide +kernel
theorem lkd_0 : decode (mb 205) 0 = .ok (.aload_n 0, 1) := by decide +kernel
theorem lkd_1 : decode (mb 205) 1 = .ok (.getfield 14, 3) := by decide +kernel
theorem lkd_4 : decode (mb 205) 4 = .ok (.iload_n 1, 1) := by decide +kernel
theorem lkd_5 : decode (mb 205) 5 = .ok (.invokevirtual 127, 3) := by decide +kernel
theorem lkd_8 : decode (mb 205) 8 = .ok (.ifCond .ne 14, 3) := by decide +kernel
theorem lkd_11 : decode (mb 205) 11 = .ok (.new 319, 3) := by decide +kernel
theorem lkd_14 : decode (mb 205) 14 = .ok (.dup, 1) := by decide +kernel
theorem lkd_15 : decode (mb 205) 15 = .ok (.ldc_w 321, 3) := by decide +kernel
theorem lkd_18 : decode (mb 205) 18 = .ok (.invokespecial 323, 3) := by decide +kernel
theorem lkd_21 : decode (mb 205) 21 = .ok (.athrow, 1) := by decide +kernel
theorem lkd_22 : decode (mb 205) 22 = .ok (.iload_n 2, 1) := by decide +kernel
theorem lkd_23 : decode (mb 205) 23 = .ok (.tableswitch 52 0 2 #[25, 34, 43], 25) := by decide +kernel
theorem lkd_48 : decode (mb 205) 48 = .ok (.aload_n 0, 1) := by decide +kernel
theorem lkd_49 : decode (mb 205) 49 = .ok (.getfield 14, 3) := by decide +kernel
theorem lkd_52 : decode (mb 205) 52 = .ok (.iload_n 1, 1) := by decide +kernel
theorem lkd_53 : decode (mb 205) 53 = .ok (.invokevirtual 326, 3) := by decide +kernel
theorem lkd_56 : decode (mb 205) 56 = .ok (.ireturn, 1) := by decide +kernel
theorem lkd_57 : decode (mb 205) 57 = .ok (.aload_n 0, 1) := by decide +kernel
theorem lkd_58 : decode (mb 205) 58 = .ok (.getfield 14, 3) := by decide +kernel
theorem lkd_61 : decode (mb 205) 61 = .ok (.iload_n 1, 1) := by decide +kernel
theorem lkd_62 : decode (mb 205) 62 = .ok (.invokevirtual 145, 3) := by decide +kernel
theorem lkd_65 : decode (mb 205) 65 = .ok (.ireturn, 1) := by decide +kernel
theorem lkd_66 : decode (mb 205) 66 = .ok (.aload_n 0, 1) := by decide +kernel
theorem lkd_67 : decode (mb 205) 67 = .ok (.getfield 14, 3) := by decide +kernel
theorem lkd_70 : decode (mb 205) 70 = .ok (.iload_n 1, 1) := by decide +kernel
theorem lkd_71 : decode (mb 205) 71 = .ok (.invokevirtual 155, 3) := by decide +kernel
theorem lkd_74 : decode (mb 205) 74 = .ok (.ireturn, 1) := by decide +kernel
theorem lkd_75 : decode (mb 205) 75 = .ok (.new 329, 3) := by decide +kernel
theorem lkd_78 : decode (mb 205) 78 = .ok (.dup, 1) := by decide +kernel
theorem lkd_79 : decode (mb 205) 79 = .ok (.ldc_w 331, 3) := by decide +kernel
theorem lkd_82 : decode (mb 205) 82 = .ok (.invokespecial 333, 3) := by decide +kernel
theorem lkd_85 : decode (mb 205) 85 = .ok (.athrow, 1) := by decide +kernel
theorem lk_hf : kf 205 11 0 3 582 14 = true := by decide +kernel
theorem lk_k90 : kc 205 90 1 = true := by decide +kernel
theorem lk_k117 : kc 205 117 1 = true := by decide +kernel
theorem lk_k95 : kc 205 95 1 = true := by decide +kernel
theorem lk_k98 : kc 205 98 1 = true := by decide +kernel
theorem lk_l90 : Cond.methodLink (my 205).cls 127 (my 90) ∈ uw := wi_in (p := 818) (by decide +kernel)
theorem lk_l117 : Cond.methodLink (my 205).cls 326 (my 117) ∈ uw := wi_in (p := 1584) (by decide +kernel)
theorem lk_l95 : Cond.methodLink (my 205).cls 145 (my 95) ∈ uw := wi_in (p := 849) (by decide +kernel)
theorem lk_l98 : Cond.methodLink (my 205).cls 155 (my 98) ∈ uw := wi_in (p := 865) (by decide +kernel)
section LKH
variable {p : Program} {l : Launch} {e : Env} {R : Room} {s : State} {m : MethodId} {args : Array Value} {below : List Frame} {meth : Method} {c : Code} {Q : State → Prop} {D : va_G} {cA : Nat → ClassId} {b sa sv : Nat} {A : Nat → Prop} {z0 w0 : Nat} {ad0 : Nat → Nat} {n0 : Nat} {pc : Nat} {X : (Nat → Int32) × Nat} {L : sm_L} {st : sm_S} {M : sm_M}
/-- a call of one of the Realm's four, from look -/
theorem lk_call (C : sn_C p R s m args meth c D cA A X b (zs0 sa sv) 205) {j ix : Nat} {x r : Int32} (hrun : ∃ n, sm_run X n j 0 (sm_en j [.ref 1, .int x]) [] M = some (some (.int r), M)) (hfc : cz M ≤ z0 + R.cells) (hfs : sz M ≤ w0 + R.slots) (hj : j < 311) (hj5 : j ≠ 205)
    (h1 : sm_kd M.1 1 = (5, 17)) (hd : decode (mb 205) pc = .ok (.invokevirtual ix, 3)) (hkc : kc 205 j 1 = true) (hq : (mq j).1 = 0) (hl : Cond.methodLink (my 205).cls ix (my j) ∈ uw) (hmi : (sm_mi j).1 = 5) (hmi2 : 2 ≤ (sm_mi j).2) (hcl : (cl_at 5).1 = (my j).cls)
    (k : sn_J p l e R s m args below meth c Q D cA b sa A z0 w0 ad0 n0 205 (pc + 3) L [.int r] M) : sn_J p l e R s m args below meth c Q D cA b sa A z0 w0 ad0 n0 205 pc L [.int x, .ref 1] M := by
  obtain ⟨n, hrun⟩ := hrun
  exact sj_call (nn := 2) (cd := 0) (pp := 0) (as := [.ref 1, .int x]) (rest := []) (zs_cl sa sv _) C (lk_ih l X D cA b sa sv n) hrun (Nat.le_refl _) (Nat.le_refl _) hfc hfs (Or.inl hj) hj5 (lkw_all j (by omega) (Or.inl hj)) (cw_all j (by omega)) (by decide) hmi2 rfl hkc
    (Or.inl ⟨rfl, hd, hq, hl, by rw [hmi]; decide, by rw [hmi]; exact hcl, 1, [.int x], rfl, by rw [h1, hmi]; rfl⟩) k
end LKH
