/-! The claim out of a run of the shadow from the empty memory. -/
def sM00 : sm_M := ([], (0, 0), fun _ _ => 0, fun _ _ => 0, [])
/-- what is to be shown of the shadow: the law's run ends with 1, in the room -/
def law_wp (X : (Nat → Int32) × Nat) : Prop := sm_wp X 315 0 [some (.retAddr 1), none, none, none, none, none, none] [] sM00 (fun v M' => v = some (.int 1) ∧ cz M' ≤ 601024 ∧ sz M' ≤ 7293034)
theorem law_cls {s : State} {args : Array Value} (hts : ∀ w ∈ uw, w.before args s = true) : ∃ D : va_G, ∀ (k : Nat) (q : vw_C), cl_all[k]? = some q → u_Kn s q.1 q.2.1 q.2.2 (D.1 k) (D.2 k) := by
  have h : ∀ k, ∃ z : ClassId × (Nat → Nat), k < 13 → u_Kn s (cl_at k).1 (cl_at k).2.1 (cl_at k).2.2 z.1 z.2 := by
    intro k
    by_cases hk : k < 13
    · have hc := List.all_eq_true.mp lkc_all k (List.mem_range.mpr hk)
      simp only [Bool.and_eq_true] at hc
      obtain ⟨cC, iS, hn⟩ := u_known (C := (cl_at k).1) (T := (cl_at k).2.1) (N := (cl_at k).2.2) (n := (cl_at k).2.2) hts (cl_in hk) (hts _ (wi_in hc.1))
      exact ⟨(cC, iS), fun _ => hn⟩
    · exact ⟨(0, fun _ => 0), fun h => absurd h hk⟩
  refine ⟨(fun k => (Classical.choose (h k)).1, fun k => (Classical.choose (h k)).2), fun k q hq => ?_⟩
  have hk : k < 13 := (List.getElem?_eq_some_iff.mp hq).1
  have e := (cl_get hk).symm.trans hq
  have e : ((cl_at k).1, (cl_at k).2.1, (cl_at k).2.2) = q := Option.some.inj e
  rw [← e]
  exact Classical.choose_spec (h k) hk
theorem law_arr {s : State} {args : Array Value} {ty : FieldType} (h : (Cond.arrayClass ty).before args s = true) : ∃ cA : ClassId, s.vm.findClass ("[" ++ ty.toString) = some cA ∧ ArrOfT s cA ty := by
  obtain ⟨cA, kA, comp, h1, h2, h3⟩ := Cond.arrayClass_spec h
  exact ⟨cA, h1, fun n z => ⟨fun k h => (by cases h), kA, h2, comp, h3⟩⟩
theorem law_tys {s : State} {args : Array Value} (hts : ∀ w ∈ uw, w.before args s = true) : ∃ cA : Nat → ClassId, ∀ (k : Nat) (q : ClassId × FieldType), (sn_ty cA)[k]? = some q → ArrOfT s q.1 q.2 ∧ va_RA s q.1 q.2 := by
  obtain ⟨c0, a0, b0⟩ := law_arr (hts _ (arr_in .int (by decide)))
  obtain ⟨c1, a1, b1⟩ := law_arr (hts _ (arr_in .boolean (by decide)))
  obtain ⟨c2, a2, b2⟩ := law_arr (hts _ (arr_in .byte (by decide)))
  obtain ⟨c3, a3, b3⟩ := law_arr (hts _ (arr_in .long (by decide)))
  refine ⟨fun t => if t = 100 then c0 else if t = 101 then c1 else if t = 102 then c2 else c3, fun k q hq => ?_⟩
  match k, hq with
  | 0, hq => cases hq; exact ⟨b0, a0⟩
  | 1, hq => cases hq; exact ⟨b1, a1⟩
  | 2, hq => cases hq; exact ⟨b2, a2⟩
  | 3, hq => cases hq; exact ⟨b3, a3⟩
  | k + 4, hq => simp at hq
theorem law_str {s : State} {b : Nat} (hts : ∀ w ∈ lw_tbl, w.before #[Value.ref b] s = true) (hgv : (Jvm.Cond.and given_1 narrow_1).before #[Value.ref b] s = true) : ∃ sa sv, st_Z sa sv (fun q => s.heap.size ≤ q) s := by
  have hs := flat_of_before _ hgv
  have hA : ∀ a : Nat, a < s.heap.size → ¬ s.heap.size ≤ a := fun a h => Nat.not_le.mpr h
  have hel : ∀ j : Nat, j < 95 → (Cond.eq (.elem (.field (.string "PowersHouse$Tape" 64) "java/lang/String" "value" "[B") (.int (Int32.ofNat j))) (.int (sm_words.getD j 0))).before #[Value.ref b] s = true := by
    have hh : (List.range 95).all (fun j => decide (Cond.eq (.elem (.field (.string "PowersHouse$Tape" 64) "java/lang/String" "value" "[B") (.int (Int32.ofNat j))) (.int (sm_words.getD j 0)) ∈ flatC (Jvm.Cond.and given_1 narrow_1))) = true := by decide +kernel
    exact fun j hj => hs _ (of_decide_eq_true (List.all_eq_true.mp hh j (List.mem_range.mpr hj)))
  obtain ⟨adK, adV, hK, hV⟩ := vk_Sof (args := #[Value.ref b]) (s := s) (N := 1) (tm := fun _ => .string "PowersHouse$Tape" 64) (len := [95]) (byt := [sm_words]) (A := fun q => s.heap.size ≤ q)
    (fun i hi => by
      have : i = 0 := by omega
      subst this
      decide) (fun i _ => hs _ (by decide +kernel)) (fun i _ => hs _ (by decide +kernel)) (fun i _ => hs _ (by decide +kernel)) (fun i hi => by
      have : i = 0 := by omega
      subst this
      exact hs _ (by decide +kernel)) (fun i hi j hj => by
      have : i = 0 := by omega
      subst this
      exact hel j hj) (fun i j hi hj hne => by omega) hA
  obtain ⟨k1, k2, k3, k4⟩ := hK.1 0 (by decide)
  refine ⟨adK 0, adV 0, vk_R.of (hts _ (List.mem_of_getElem? (i := 664) (by decide +kernel))) (hV 0 (by decide)), k1, k2, k3, k4, ?_, ?_⟩
  · exact va_Zof (hts _ (List.mem_of_getElem? (i := 674) (by decide +kernel))) (hts _ (List.mem_of_getElem? (i := 134) (by decide +kernel))) (va_eqi (hs (.eq (.static "java/lang/String" "COMPACT_STRINGS" "Z") (.int 1)) (by decide +kernel))) hA
  · exact va_Zqof (hts _ (List.mem_of_getElem? (i := 690) (by decide +kernel))) (hts _ (List.mem_of_getElem? (i := 136) (by decide +kernel))) (hs _ (by decide +kernel)) hA
/-- what the law knows at its start -/
def law_F (b : Nat) (A : Nat → Prop) (s : State) : Prop := A = (fun q => s.heap.size ≤ q) ∧ (∀ w ∈ lw_tbl, w.before #[Value.ref b] s = true) ∧ (Jvm.Cond.and given_1 narrow_1).before #[Value.ref b] s = true
set_option maxHeartbeats 4000000 in
theorem whole_of {p : Program} {e : Env} {s : State} {m : MethodId} {below : List Frame} {meth : Method} {c : Code} (l : Launch) {b L : Nat} {xs : Nat → Int32} (C0 : lw_At p s m meth c b L xs) (hmain : law_wp (xs, L)) (hlook : ∀ (D : va_G) (cA : Nat → ClassId) (sa sv : Nat), sn_lookr l (xs, L) D cA b sa (zs sa sv (law_F b))) : W p l e room_1 s m #[Value.ref b] below meth c s.heap [] 0 0 (lw_Z below #[Value.ref b] s) (entryFrame m ([Value.ref b] : List Value).toArray 7) := by
  obtain ⟨hx, hb, hr, hml, hown, hts, hX, hbl, hlocks, hgv, hnm⟩ := C0
  have htu : ∀ w ∈ uw, w.before #[Value.ref b] s = true := fun w hw => hts w (List.mem_filter.mp hw).1
  obtain ⟨D, hD⟩ := law_cls htu
  obtain ⟨cA, hcA⟩ := law_tys htu
  obtain ⟨sa, sv, hst⟩ := law_str hts hgv
  obtain ⟨n, v, M', hrun, rfl, hcz, hsz⟩ := hmain
  have C : sn_C p room_1 s m #[Value.ref b] meth c D cA (fun q => s.heap.size ≤ q) (xs, L) b (zs sa sv (law_F b)) 315 :=
    ⟨hx, hb, hr, hlocks, hml, hown, hnm, htu, ⟨hD, hcA⟩, fun _ h => h, ⟨hX, hbl, Nat.not_le.mpr hbl, fun w hw hn => va_Nw.of (by cases w <;> first | rfl | cases hn) (hts w hw), hst, fun _ => ⟨rfl, hts, hgv⟩⟩, by decide, by decide⟩
  rw [lg_entry_eq]
  have hl := lv_entry ([Value.ref b]) (n := 7) (Nat.le_of_ble_eq_true rfl)
  refine snd (zs_cl sa sv (law_F b)) (zs_ldc l (xs, L) D cA b sa sv (law_F b)) (zs_prims (hlook D cA sa sv)) n 315 0 _ [] sM00 _ M' hrun (by decide) (by decide) p e room_1 s m #[Value.ref b] below meth c _ (fun q => s.heap.size ≤ q) 0 0 (fun _ => 0) 0 C (by rw [Nat.zero_add]; exact hcz) (by rw [Nat.zero_add]; exact hsz) ?_ (fun _ => 0) _ s.heap [] 0 0 ⟨rfl, Nat.le_refl _, fun _ h => absurd h (Nat.not_lt_zero _)⟩ rfl ⟨hl, ?_, vs_nil, ⟨rfl, fun k h => absurd h (Nat.not_lt_zero _), fun k j r h => (by simp [sM00, sm_rw, sm_on] at h), fun _ _ _ => ⟨rfl, rfl⟩⟩, fun k q h => (by simp [sn_W, sM00] at h), ⟨fun i j p q h => (by simp [sn_W, sM00] at h), fun k q h => (by simp [sn_W, sM00] at h)⟩, va_S.rf⟩
  · intro pc' L' hrt ad' ls' H' locs' cells' slots' h1 h2 hr'
    have hd : decode code pc' = .ok (.ireturn, 1) := by
      rcases hrt with ⟨h, -⟩ | ⟨x, -, h, -⟩ | ⟨x, h, -⟩
      · cases h
      · exact h
      · cases h
    have h1' := h1.1
    refine va_forget (fun q hq => hr'.2.2.2.2.2.2.2.2 q hq) ?_
    refine W.widen (k := 601024) (n := 7293034) (by omega) (by omega) ?_
    exact lw_ret hx hb hr hlocks hd
  · intro k w hk
    match k, hk with
    | 0, hk => cases hk; exact vv_ra
    | 1, hk => cases hk
    | 2, hk => cases hk
    | 3, hk => cases hk
    | 4, hk => cases hk
    | 5, hk => cases hk
    | 6, hk => cases hk
    | k + 7, hk => cases hk
