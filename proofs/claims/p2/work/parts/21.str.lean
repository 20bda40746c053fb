/-! The String constant of Tape.readWord: length and charAt. -/
def st_tx : String := "take refuse ask home not and or gain got lost souls near mine bound rank other day left linked "
def st_Z (sa sv : Nat) (A : Nat → Prop) (U : State) : Prop := vk_R "PowersHouse$Tape" 64 st_tx sa U ∧ va_O "java/lang/String" sa A U U.heap ∧ va_OF "java/lang/String" "coder" "B" (.int 0) sa A U U.heap ∧ va_OF "java/lang/String" "value" "[B" (.ref sv) sa A U U.heap ∧ va_T .byte sv 95 (fun j => .int (sm_words.getD j 0)) A U U.heap ∧ va_Z "java/lang/String" "COMPACT_STRINGS" "Z" (.int 1) A U U.heap ∧ va_Zq "jdk/internal/util/Preconditions" "SIOOBE_FORMATTER" "Ljava/util/function/BiFunction;" A U U.heap
theorem st_Z.next {sa sv : Nat} {A A' : Nat → Prop} {s U : State} (h : st_Z sa sv A s) (hA : ∀ q, A' q → A q) (hh : ∀ q : Nat, q < s.heap.size → ¬ A q → U.heap[q]? = s.heap[q]?) (hv : U.vm = s.vm ∨ s.WarmedH U.vm) : st_Z sa sv A' U := by
  obtain ⟨h1, h2, h3, h4, h5, h6, h7⟩ := h
  have hal : s.vm.Alike U.vm := by
    rcases hv with e | e
    · rw [e]; exact Vm.Alike.refl _
    · exact e.alike
  refine ⟨?_, ((h2.moved hal).kept hh).narrow hA, ((h3.moved hal).kept hh).narrow hA, ((h4.moved hal).kept hh).narrow hA, ((h5.moved hal).kept hh).narrow hA, ((h6.moved hal).kept hh).narrow hA, ((h7.moved hal).kept hh).narrow hA⟩
  rcases hv with e | e
  · exact h1.same e
  · exact h1.warm e
def nw : Nat → Prop := fun _ => False
theorem st_bl {sa sv : Nat} {As : List Value} : FrameBlind (va_Pc As (st_Z sa sv nw)) := fun a U g mk h => ⟨h.1, h.2.next (fun _ h => h) (fun _ _ _ => rfl) (Or.inl rfl)⟩
theorem st_pre {sa sv : Nat} {s : State} (h : st_Z sa sv nw s) (As : List Value) (U : State) (hU : U.heap = s.heap) (hW : s.WarmedH U.vm) : va_Pc As (st_Z sa sv nw) As.toArray U := ⟨rfl, h.next (fun _ h => h) (fun _ _ _ => by rw [hU]) (Or.inr hW)⟩
abbrev ys_coder : MethodName := ⟨"java/lang/String", "coder", "()B"⟩
abbrev cs_coder : ByteArray := prog_20_method_152_code
set_option maxRecDepth 100000 in
theorem cws_coder : Cond.code ys_coder cs_coder 1 (some .byte) ∈ uw := List.mem_filter.mpr ⟨List.mem_of_getElem? (show lw_tbl[672]? = some (Cond.code ys_coder cs_coder 1 (some .byte)) from rfl), rfl⟩
abbrev ws_coder : List Cond := Cond.code ys_coder cs_coder 1 (some .byte) :: uw
theorem wsi_coder : ∀ w ∈ ws_coder, w ∈ uw := fun w hw => (List.mem_cons.mp hw).elim (fun e => e ▸ cws_coder) id
theorem wsn_coder : Cond.initialized "java/lang/String" ∈ uw := wi_in (p := 134) (by decide +kernel)
theorem ds_coder_0 : decode cs_coder 0 = .ok (.getstatic 38, 3) := by decide +kernel
theorem ds_coder_3 : decode cs_coder 3 = .ok (.ifCond .eq 10, 3) := by decide +kernel
theorem ds_coder_6 : decode cs_coder 6 = .ok (.aload_n 0, 1) := by decide +kernel
theorem ds_coder_7 : decode cs_coder 7 = .ok (.getfield 15, 3) := by decide +kernel
theorem ds_coder_10 : decode cs_coder 10 = .ok (.goto 4, 3) := by decide +kernel
theorem ds_coder_13 : decode cs_coder 13 = .ok (.iconst 1, 1) := by decide +kernel
theorem ds_coder_14 : decode cs_coder 14 = .ok (.ireturn, 1) := by decide +kernel
abbrev ys_length : MethodName := ⟨"java/lang/String", "length", "()I"⟩
abbrev cs_length : ByteArray := prog_20_method_54_code
set_option maxRecDepth 100000 in
theorem cws_length : Cond.code ys_length cs_length 1 (some .int) ∈ uw := List.mem_filter.mpr ⟨List.mem_of_getElem? (show lw_tbl[668]? = some (Cond.code ys_length cs_length 1 (some .int)) from rfl), rfl⟩
abbrev ws_length : List Cond := Cond.code ys_length cs_length 1 (some .int) :: uw
theorem wsi_length : ∀ w ∈ ws_length, w ∈ uw := fun w hw => (List.mem_cons.mp hw).elim (fun e => e ▸ cws_length) id
theorem wsn_length : Cond.initialized "java/lang/String" ∈ uw := wi_in (p := 134) (by decide +kernel)
theorem ds_length_0 : decode cs_length 0 = .ok (.aload_n 0, 1) := by decide +kernel
theorem ds_length_1 : decode cs_length 1 = .ok (.getfield 9, 3) := by decide +kernel
theorem ds_length_4 : decode cs_length 4 = .ok (.arraylength, 1) := by decide +kernel
theorem ds_length_5 : decode cs_length 5 = .ok (.aload_n 0, 1) := by decide +kernel
theorem ds_length_6 : decode cs_length 6 = .ok (.invokevirtual 335, 3) := by decide +kernel
theorem ds_length_9 : decode cs_length 9 = .ok (.ishr, 1) := by decide +kernel
theorem ds_length_10 : decode cs_length 10 = .ok (.ireturn, 1) := by decide +kernel
abbrev ys_isl : MethodName := ⟨"java/lang/String", "isLatin1", "()Z"⟩
abbrev cs_isl : ByteArray := prog_20_method_154_code
set_option maxRecDepth 100000 in
theorem cws_isl : Cond.code ys_isl cs_isl 1 (some .boolean) ∈ uw := List.mem_filter.mpr ⟨List.mem_of_getElem? (show lw_tbl[682]? = some (Cond.code ys_isl cs_isl 1 (some .boolean)) from rfl), rfl⟩
abbrev ws_isl : List Cond := Cond.code ys_isl cs_isl 1 (some .boolean) :: uw
theorem wsi_isl : ∀ w ∈ ws_isl, w ∈ uw := fun w hw => (List.mem_cons.mp hw).elim (fun e => e ▸ cws_isl) id
theorem wsn_isl : Cond.initialized "java/lang/String" ∈ uw := wi_in (p := 134) (by decide +kernel)
theorem ds_isl_0 : decode cs_isl 0 = .ok (.getstatic 38, 3) := by decide +kernel
theorem ds_isl_3 : decode cs_isl 3 = .ok (.ifCond .eq 14, 3) := by decide +kernel
theorem ds_isl_6 : decode cs_isl 6 = .ok (.aload_n 0, 1) := by decide +kernel
theorem ds_isl_7 : decode cs_isl 7 = .ok (.getfield 15, 3) := by decide +kernel
theorem ds_isl_10 : decode cs_isl 10 = .ok (.ifCond .ne 7, 3) := by decide +kernel
theorem ds_isl_13 : decode cs_isl 13 = .ok (.iconst 1, 1) := by decide +kernel
theorem ds_isl_14 : decode cs_isl 14 = .ok (.goto 4, 3) := by decide +kernel
theorem ds_isl_17 : decode cs_isl 17 = .ok (.iconst 0, 1) := by decide +kernel
theorem ds_isl_18 : decode cs_isl 18 = .ok (.ireturn, 1) := by decide +kernel
abbrev ys_pchk : MethodName := ⟨"jdk/internal/util/Preconditions", "checkIndex", "(IILjava/util/function/BiFunction;)I"⟩
abbrev cs_pchk : ByteArray := prog_25_method_11_code
set_option maxRecDepth 100000 in
theorem cws_pchk : Cond.code ys_pchk cs_pchk 3 (some .int) ∈ uw := List.mem_filter.mpr ⟨List.mem_of_getElem? (show lw_tbl[693]? = some (Cond.code ys_pchk cs_pchk 3 (some .int)) from rfl), rfl⟩
abbrev ws_pchk : List Cond := Cond.code ys_pchk cs_pchk 3 (some .int) :: uw
theorem wsi_pchk : ∀ w ∈ ws_pchk, w ∈ uw := fun w hw => (List.mem_cons.mp hw).elim (fun e => e ▸ cws_pchk) id
theorem wsn_pchk : Cond.initialized "jdk/internal/util/Preconditions" ∈ uw := wi_in (p := 136) (by decide +kernel)
theorem ds_pchk_0 : decode cs_pchk 0 = .ok (.iload_n 0, 1) := by decide +kernel
theorem ds_pchk_1 : decode cs_pchk 1 = .ok (.ifCond .lt 8, 3) := by decide +kernel
theorem ds_pchk_4 : decode cs_pchk 4 = .ok (.iload_n 0, 1) := by decide +kernel
theorem ds_pchk_5 : decode cs_pchk 5 = .ok (.iload_n 1, 1) := by decide +kernel
theorem ds_pchk_6 : decode cs_pchk 6 = .ok (.if_icmp .lt 10, 3) := by decide +kernel
theorem ds_pchk_9 : decode cs_pchk 9 = .ok (.aload_n 2, 1) := by decide +kernel
theorem ds_pchk_10 : decode cs_pchk 10 = .ok (.iload_n 0, 1) := by decide +kernel
theorem ds_pchk_11 : decode cs_pchk 11 = .ok (.iload_n 1, 1) := by decide +kernel
theorem ds_pchk_12 : decode cs_pchk 12 = .ok (.invokestatic 95, 3) := by decide +kernel
theorem ds_pchk_15 : decode cs_pchk 15 = .ok (.athrow, 1) := by decide +kernel
theorem ds_pchk_16 : decode cs_pchk 16 = .ok (.iload_n 0, 1) := by decide +kernel
theorem ds_pchk_17 : decode cs_pchk 17 = .ok (.ireturn, 1) := by decide +kernel
abbrev ys_chk : MethodName := ⟨"java/lang/String", "checkIndex", "(II)V"⟩
abbrev cs_chk : ByteArray := prog_20_method_155_code
set_option maxRecDepth 100000 in
theorem cws_chk : Cond.code ys_chk cs_chk 2 none ∈ uw := List.mem_filter.mpr ⟨List.mem_of_getElem? (show lw_tbl[688]? = some (Cond.code ys_chk cs_chk 2 none) from rfl), rfl⟩
abbrev ws_chk : List Cond := Cond.code ys_chk cs_chk 2 none :: uw
theorem wsi_chk : ∀ w ∈ ws_chk, w ∈ uw := fun w hw => (List.mem_cons.mp hw).elim (fun e => e ▸ cws_chk) id
theorem wsn_chk : Cond.initialized "java/lang/String" ∈ uw := wi_in (p := 134) (by decide +kernel)
theorem ds_chk_0 : decode cs_chk 0 = .ok (.iload_n 0, 1) := by decide +kernel
theorem ds_chk_1 : decode cs_chk 1 = .ok (.iload_n 1, 1) := by decide +kernel
theorem ds_chk_2 : decode cs_chk 2 = .ok (.getstatic 1053, 3) := by decide +kernel
theorem ds_chk_5 : decode cs_chk 5 = .ok (.invokestatic 1059, 3) := by decide +kernel
theorem ds_chk_8 : decode cs_chk 8 = .ok (.pop, 1) := by decide +kernel
theorem ds_chk_9 : decode cs_chk 9 = .ok (.return_, 1) := by decide +kernel
abbrev ys_lch : MethodName := ⟨"java/lang/StringLatin1", "charAt", "([BI)C"⟩
abbrev cs_lch : ByteArray := prog_21_method_2_code
set_option maxRecDepth 100000 in
theorem cws_lch : Cond.code ys_lch cs_lch 2 (some .char) ∈ uw := List.mem_filter.mpr ⟨List.mem_of_getElem? (show lw_tbl[685]? = some (Cond.code ys_lch cs_lch 2 (some .char)) from rfl), rfl⟩
abbrev ws_lch : List Cond := Cond.code ys_lch cs_lch 2 (some .char) :: uw
theorem wsi_lch : ∀ w ∈ ws_lch, w ∈ uw := fun w hw => (List.mem_cons.mp hw).elim (fun e => e ▸ cws_lch) id
theorem wsn_lch : Cond.initialized "java/lang/StringLatin1" ∈ uw := wi_in (p := 135) (by decide +kernel)
theorem ds_lch_0 : decode cs_lch 0 = .ok (.iload_n 1, 1) := by decide +kernel
theorem ds_lch_1 : decode cs_lch 1 = .ok (.aload_n 0, 1) := by decide +kernel
theorem ds_lch_2 : decode cs_lch 2 = .ok (.arraylength, 1) := by decide +kernel
theorem ds_lch_3 : decode cs_lch 3 = .ok (.invokestatic 9, 3) := by decide +kernel
theorem ds_lch_6 : decode cs_lch 6 = .ok (.aload_n 0, 1) := by decide +kernel
theorem ds_lch_7 : decode cs_lch 7 = .ok (.iload_n 1, 1) := by decide +kernel
theorem ds_lch_8 : decode cs_lch 8 = .ok (.baload, 1) := by decide +kernel
theorem ds_lch_9 : decode cs_lch 9 = .ok (.sipush 255, 3) := by decide +kernel
theorem ds_lch_12 : decode cs_lch 12 = .ok (.iand, 1) := by decide +kernel
theorem ds_lch_13 : decode cs_lch 13 = .ok (.i2c, 1) := by decide +kernel
theorem ds_lch_14 : decode cs_lch 14 = .ok (.ireturn, 1) := by decide +kernel
abbrev ys_charAt : MethodName := ⟨"java/lang/String", "charAt", "(I)C"⟩
abbrev cs_charAt : ByteArray := prog_20_method_56_code
set_option maxRecDepth 100000 in
theorem cws_charAt : Cond.code ys_charAt cs_charAt 2 (some .char) ∈ uw := List.mem_filter.mpr ⟨List.mem_of_getElem? (show lw_tbl[678]? = some (Cond.code ys_charAt cs_charAt 2 (some .char)) from rfl), rfl⟩
abbrev ws_charAt : List Cond := Cond.code ys_charAt cs_charAt 2 (some .char) :: uw
theorem wsi_charAt : ∀ w ∈ ws_charAt, w ∈ uw := fun w hw => (List.mem_cons.mp hw).elim (fun e => e ▸ cws_charAt) id
theorem wsn_charAt : Cond.initialized "java/lang/String" ∈ uw := wi_in (p := 134) (by decide +kernel)
theorem ds_charAt_0 : decode cs_charAt 0 = .ok (.aload_n 0, 1) := by decide +kernel
theorem ds_charAt_1 : decode cs_charAt 1 = .ok (.invokevirtual 492, 3) := by decide +kernel
theorem ds_charAt_4 : decode cs_charAt 4 = .ok (.ifCond .eq 12, 3) := by decide +kernel
theorem ds_charAt_7 : decode cs_charAt 7 = .ok (.aload_n 0, 1) := by decide +kernel
theorem ds_charAt_8 : decode cs_charAt 8 = .ok (.getfield 9, 3) := by decide +kernel
theorem ds_charAt_11 : decode cs_charAt 11 = .ok (.iload_n 1, 1) := by decide +kernel
theorem ds_charAt_12 : decode cs_charAt 12 = .ok (.invokestatic 495, 3) := by decide +kernel
theorem ds_charAt_15 : decode cs_charAt 15 = .ok (.ireturn, 1) := by decide +kernel
theorem ds_charAt_16 : decode cs_charAt 16 = .ok (.aload_n 0, 1) := by decide +kernel
theorem ds_charAt_17 : decode cs_charAt 17 = .ok (.getfield 9, 3) := by decide +kernel
theorem ds_charAt_20 : decode cs_charAt 20 = .ok (.iload_n 1, 1) := by decide +kernel
theorem ds_charAt_21 : decode cs_charAt 21 = .ok (.invokestatic 498, 3) := by decide +kernel
theorem ds_charAt_24 : decode cs_charAt 24 = .ok (.ireturn, 1) := by decide +kernel
theorem lk_cs : Cond.fieldLink "java/lang/String" 38 "java/lang/String" "COMPACT_STRINGS" "Z" ∈ uw := wi_in (p := 673) (by decide +kernel)
theorem lk_cod : Cond.fieldLink "java/lang/String" 15 "java/lang/String" "coder" "B" ∈ uw := wi_in (p := 2313) (by decide +kernel)
theorem lk_val : Cond.fieldLink "java/lang/String" 9 "java/lang/String" "value" "[B" ∈ uw := wi_in (p := 2312) (by decide +kernel)
theorem lk_fmt : Cond.fieldLink "java/lang/String" 1053 "jdk/internal/util/Preconditions" "SIOOBE_FORMATTER" "Ljava/util/function/BiFunction;" ∈ uw := wi_in (p := 689) (by decide +kernel)
theorem lk_coder : Cond.methodLink "java/lang/String" 335 ⟨"java/lang/String", "coder", "()B"⟩ ∈ uw := wi_in (p := 669) (by decide +kernel)
theorem lk_isl : Cond.methodLink "java/lang/String" 492 ⟨"java/lang/String", "isLatin1", "()Z"⟩ ∈ uw := wi_in (p := 679) (by decide +kernel)
theorem lk_lch : Cond.methodLink "java/lang/String" 495 ⟨"java/lang/StringLatin1", "charAt", "([BI)C"⟩ ∈ uw := wi_in (p := 683) (by decide +kernel)
theorem lk_chk : Cond.methodLink "java/lang/StringLatin1" 9 ⟨"java/lang/String", "checkIndex", "(II)V"⟩ ∈ uw := wi_in (p := 686) (by decide +kernel)
theorem lk_pchk : Cond.methodLink "java/lang/String" 1059 ⟨"jdk/internal/util/Preconditions", "checkIndex", "(IILjava/util/function/BiFunction;)I"⟩ ∈ uw := wi_in (p := 691) (by decide +kernel)
theorem im_coder : Cond.instanceMethod ys_coder ∈ uw := wi_in (p := 670) (by decide +kernel)
theorem se_coder : Cond.selects "java/lang/String" ys_coder ys_coder ∈ uw := wi_in (p := 671) (by decide +kernel)
theorem im_isl : Cond.instanceMethod ys_isl ∈ uw := wi_in (p := 680) (by decide +kernel)
theorem se_isl : Cond.selects "java/lang/String" ys_isl ys_isl ∈ uw := wi_in (p := 681) (by decide +kernel)
theorem im_length : Cond.instanceMethod ys_length ∈ uw := wi_in (p := 666) (by decide +kernel)
theorem se_length : Cond.selects "java/lang/String" ys_length ys_length ∈ uw := wi_in (p := 667) (by decide +kernel)
theorem im_charAt : Cond.instanceMethod ys_charAt ∈ uw := wi_in (p := 676) (by decide +kernel)
theorem se_charAt : Cond.selects "java/lang/String" ys_charAt ys_charAt ∈ uw := wi_in (p := 677) (by decide +kernel)
theorem sm_lch : Cond.static ys_lch ∈ uw := wi_in (p := 684) (by decide +kernel)
theorem sm_chk : Cond.static ys_chk ∈ uw := wi_in (p := 687) (by decide +kernel)
theorem sm_pchk : Cond.static ys_pchk ∈ uw := wi_in (p := 692) (by decide +kernel)
set_option maxRecDepth 100000 in
theorem cm_coder (l : Launch) (sa sv : Nat)  : Met l ys_coder ws_coder ({ frames := 0, cells := 0, slots := 0, locals := 0 } : Room) (va_Pc [.ref sa] (st_Z sa sv nw)) (QcRead 0) 0 0 nw := by
  refine Met.ofW (cc := cs_coder) (maxL := 1) (ret := (some .byte)) (by decide) rfl ?_
  intro p e s m args below meth c s₁ B hml hv
  obtain ⟨rfl, hZ⟩ := hv
  have hx := B.exec
  have hb := B.bytes
  have hr := B.returns
  have hts0 := atoms_spec (ws := ws_coder) B.pre
  have hts : ∀ w ∈ uw, w.before _ s = true := fun w hw => hts0 w (List.mem_cons_of_mem _ hw)
  have hown : s.vm.findClass "java/lang/String" = some m.cls := findClass_of_methodNamed B.named
  have hlocks := B.notSynchronized
  have hS : va_S nw s.heap s.heap [] := va_S.rf
  rw [lg_entry_eq]
  have hl := lv_entry ([.ref sa]) (n := 1) (Nat.le_of_ble_eq_true rfl)
  generalize (lg_sl ([.ref sa]) ++ List.replicate (1 - (lg_sl ([.ref sa])).length) Slot.unset).toArray = ls at hl ⊢
  refine va_gets hx hb hZ.2.2.2.2.2.1 hS hown (hts _ lk_cs) (fun _ h => h) ds_coder_0 ?_
  refine lv_if_eq (tgt := 13) hx hb ds_coder_3 (by decide) (fun h => absurd h (by decide)) (fun _ => ?_)
  refine lv_aload_n hx hb ds_coder_6 rfl (lv_at hl 0 rfl) ?_
  refine vk_getf hx hb hZ.2.2.1 hS hown (hts _ lk_cod) (fun _ h => h) ds_coder_7 ?_
  refine lv_goto (tgt := 14) hx hb ds_coder_10 (by decide) ?_
  exact W.zret hx hb hr (by decide) (fun t ht _ => ⟨rfl, ht⟩) hS.2.2 ds_coder_14
set_option maxRecDepth 100000 in
theorem cm_isl (l : Launch) (sa sv : Nat)  : Met l ys_isl ws_isl ({ frames := 0, cells := 0, slots := 0, locals := 0 } : Room) (va_Pc [.ref sa] (st_Z sa sv nw)) (QcRead 1) 0 0 nw := by
  refine Met.ofW (cc := cs_isl) (maxL := 1) (ret := (some .boolean)) (by decide) rfl ?_
  intro p e s m args below meth c s₁ B hml hv
  obtain ⟨rfl, hZ⟩ := hv
  have hx := B.exec
  have hb := B.bytes
  have hr := B.returns
  have hts0 := atoms_spec (ws := ws_isl) B.pre
  have hts : ∀ w ∈ uw, w.before _ s = true := fun w hw => hts0 w (List.mem_cons_of_mem _ hw)
  have hown : s.vm.findClass "java/lang/String" = some m.cls := findClass_of_methodNamed B.named
  have hlocks := B.notSynchronized
  have hS : va_S nw s.heap s.heap [] := va_S.rf
  rw [lg_entry_eq]
  have hl := lv_entry ([.ref sa]) (n := 1) (Nat.le_of_ble_eq_true rfl)
  generalize (lg_sl ([.ref sa]) ++ List.replicate (1 - (lg_sl ([.ref sa])).length) Slot.unset).toArray = ls at hl ⊢
  refine va_gets hx hb hZ.2.2.2.2.2.1 hS hown (hts _ lk_cs) (fun _ h => h) ds_isl_0 ?_
  refine lv_if_eq (tgt := 17) hx hb ds_isl_3 (by decide) (fun h => absurd h (by decide)) (fun _ => ?_)
  refine lv_aload_n hx hb ds_isl_6 rfl (lv_at hl 0 rfl) ?_
  refine vk_getf hx hb hZ.2.2.1 hS hown (hts _ lk_cod) (fun _ h => h) ds_isl_7 ?_
  refine lv_if_ne (tgt := 17) hx hb ds_isl_10 (by decide) (fun h => absurd rfl h) (fun _ => ?_)
  refine lv_iconst (v := 1) hx hb ds_isl_13 (by decide) ?_
  refine lv_goto (tgt := 18) hx hb ds_isl_14 (by decide) ?_
  exact W.zret hx hb hr (by decide) (fun t ht _ => ⟨rfl, ht⟩) hS.2.2 ds_isl_18
set_option maxRecDepth 100000 in
theorem cm_length (l : Launch) (sa sv : Nat)  : Met l ys_length ws_length ({ frames := 1, cells := 0, slots := 0, locals := 20 } : Room) (va_Pc [.ref sa] (st_Z sa sv nw)) (QcRead 95) 0 0 nw := by
  refine Met.ofW (cc := cs_length) (maxL := 1) (ret := (some .int)) (by decide) rfl ?_
  intro p e s m args below meth c s₁ B hml hv
  obtain ⟨rfl, hZ⟩ := hv
  have hx := B.exec
  have hb := B.bytes
  have hr := B.returns
  have hts0 := atoms_spec (ws := ws_length) B.pre
  have hts : ∀ w ∈ uw, w.before _ s = true := fun w hw => hts0 w (List.mem_cons_of_mem _ hw)
  have hown : s.vm.findClass "java/lang/String" = some m.cls := findClass_of_methodNamed B.named
  have hlocks := B.notSynchronized
  have hS : va_S nw s.heap s.heap [] := va_S.rf
  rw [lg_entry_eq]
  have hl := lv_entry ([.ref sa]) (n := 1) (Nat.le_of_ble_eq_true rfl)
  generalize (lg_sl ([.ref sa]) ++ List.replicate (1 - (lg_sl ([.ref sa])).length) Slot.unset).toArray = ls at hl ⊢
  refine lv_aload_n hx hb ds_length_0 rfl (lv_at hl 0 rfl) ?_
  refine vk_getf hx hb hZ.2.2.2.1 hS hown (hts _ lk_val) (fun _ h => h) ds_length_1 ?_
  refine va_tlen (v := 95) hx hb hZ.2.2.2.2.1 hS (by decide) ds_length_4 ?_
  refine lv_aload_n hx hb ds_length_5 rfl (lv_at hl 0 rfl) ?_
  refine W.callR (W.runV (As := []) (rest := [.int 95]) (C := "java/lang/String") (b := sa) ⟨hx, hb, hml, hown, hts⟩ (cm_coder l sa sv) (cwV (ws' := uw) 0 hts (uw_good fun w hw => ?_) rfl rfl rfl (by decide +kernel) ⟨Nat.le_of_ble_eq_true rfl, Nat.le_of_ble_eq_true rfl⟩) ⟨st_bl, ?_, fun U hU hW => st_pre hZ _ U hU hW⟩ rfl rfl hl.1 rfl (lv_room (Nat.le_of_ble_eq_true rfl)) ds_length_6 ⟨Nat.zero_le _, Nat.zero_le _⟩) ?_
  · rcases List.mem_append.mp hw with h | h
    · simp only [List.mem_cons, List.not_mem_nil, or_false] at h
      rcases h with rfl | rfl | rfl | rfl
      · exact lk_coder
      · exact im_coder
      · exact se_coder
      · exact wsn_coder
    · exact wsi_coder w h
  · obtain ⟨cell, g1, g2, g3, -⟩ := hZ.2.1
    exact ⟨cell, g1, g2, g3⟩
  refine lv_ishr hx hb ds_length_9 ?_
  exact W.iret (v := 95) hx hb hr (fun t ht _ => ⟨rfl, ht⟩) hS.2.2 ds_length_10
def QcVo : Array Value → State → Outcome → State → Prop := fun _ st o t => o = .returned none ∧ t.heap = st.heap
set_option maxRecDepth 100000 in
theorem cm_pchk (l : Launch) (sa sv : Nat) (x n : Int32) (v : Value) (hv0 : v = .null ∨ ∃ t, v = .ref t) (h1 : ¬ x < 0) (h2 : x < n) : Met l ys_pchk ws_pchk ({ frames := 0, cells := 0, slots := 0, locals := 0 } : Room) (va_Pc [.int x, .int n, v] (st_Z sa sv nw)) (QcRead x) 0 0 nw := by
  refine Met.ofW (cc := cs_pchk) (maxL := 3) (ret := (some .int)) (by decide) rfl ?_
  intro p e s m args below meth c s₁ B hml hv
  obtain ⟨rfl, hZ⟩ := hv
  have hx := B.exec
  have hb := B.bytes
  have hr := B.returns
  have hts0 := atoms_spec (ws := ws_pchk) B.pre
  have hts : ∀ w ∈ uw, w.before _ s = true := fun w hw => hts0 w (List.mem_cons_of_mem _ hw)
  have hown : s.vm.findClass "jdk/internal/util/Preconditions" = some m.cls := findClass_of_methodNamed B.named
  have hlocks := B.notSynchronized
  have hS : va_S nw s.heap s.heap [] := va_S.rf
  rw [lg_entry_eq]
  have hl := lv_entry ([.int x, .int n, v]) (n := 3) (by rcases hv0 with rfl | ⟨t, rfl⟩ <;> exact Nat.le_of_ble_eq_true rfl)
  generalize (lg_sl ([.int x, .int n, v]) ++ List.replicate (3 - (lg_sl ([.int x, .int n, v])).length) Slot.unset).toArray = ls at hl ⊢
  have hlx : lv_has ls 3 [(0, .int x), (1, .int n)] := by rcases hv0 with rfl | ⟨t, rfl⟩ <;> exact lv_sub hl [0, 1] rfl
  refine lv_iload_n hx hb ds_pchk_0 rfl (lv_at hlx 0 rfl) ?_
  refine lv_if_lt (tgt := 9) hx hb ds_pchk_1 (by decide) (fun h => absurd h h1) (fun _ => ?_)
  refine lv_iload_n hx hb ds_pchk_4 rfl (lv_at hlx 0 rfl) ?_
  refine lv_iload_n hx hb ds_pchk_5 rfl (lv_at hlx 1 rfl) ?_
  refine lv_icmp_lt (tgt := 16) hx hb ds_pchk_6 (by decide) (fun _ => ?_) (fun h => absurd h2 h)
  refine lv_iload_n hx hb ds_pchk_16 rfl (lv_at hlx 0 rfl) ?_
  exact W.iret (v := x) hx hb hr (fun t ht _ => ⟨rfl, ht⟩) hS.2.2 ds_pchk_17
set_option maxRecDepth 100000 in
theorem cm_chk (l : Launch) (sa sv : Nat) (x n : Int32) (h1 : ¬ x < 0) (h2 : x < n) : Met l ys_chk ws_chk ({ frames := 1, cells := 0, slots := 0, locals := 22 } : Room) (va_Pc [.int x, .int n] (st_Z sa sv nw)) (QcVo) 0 0 nw := by
  refine Met.ofW (cc := cs_chk) (maxL := 2) (ret := none) (by decide) rfl ?_
  intro p e s m args below meth c s₁ B hml hv
  obtain ⟨rfl, hZ⟩ := hv
  have hx := B.exec
  have hb := B.bytes
  have hr := B.returns
  have hts0 := atoms_spec (ws := ws_chk) B.pre
  have hts : ∀ w ∈ uw, w.before _ s = true := fun w hw => hts0 w (List.mem_cons_of_mem _ hw)
  have hown : s.vm.findClass "java/lang/String" = some m.cls := findClass_of_methodNamed B.named
  have hlocks := B.notSynchronized
  have hS : va_S nw s.heap s.heap [] := va_S.rf
  rw [lg_entry_eq]
  have hl := lv_entry ([.int x, .int n]) (n := 2) (Nat.le_of_ble_eq_true rfl)
  generalize (lg_sl ([.int x, .int n]) ++ List.replicate (2 - (lg_sl ([.int x, .int n])).length) Slot.unset).toArray = ls at hl ⊢
  refine lv_iload_n hx hb ds_chk_0 rfl (lv_at hl 0 rfl) ?_
  refine lv_iload_n hx hb ds_chk_1 rfl (lv_at hl 1 rfl) ?_
  have go : ∀ v : Value, (v = .null ∨ ∃ t, v = .ref t) → W p l e (headSpec ws_chk ({ frames := 1, cells := 0, slots := 0, locals := 22 } : Room)).room s m ([.int x, .int n] : List Value).toArray below meth c s.heap [] 0 0 (MQ below QcVo ([.int x, .int n] : List Value).toArray s 0 0 nw) (F0 m 5 ls [v, .int n, .int x]) := by
    intro v hv0
    refine W.callR (W.runS (As := [.int x, .int n, v]) (rest := []) ⟨hx, hb, hml, hown, hts⟩ (cm_pchk l sa sv x n v hv0 h1 h2) (va_cwS (ws' := uw) 3 hts (uw_good fun w hw => ?_) rfl rfl rfl (by decide +kernel) ⟨Nat.le_of_ble_eq_true rfl, Nat.le_of_ble_eq_true rfl⟩) ⟨st_bl, fun U hU hW => st_pre hZ _ U hU hW⟩ rfl rfl hl.1 rfl (lv_room (Nat.le_of_ble_eq_true rfl)) ds_chk_5 ⟨Nat.zero_le _, Nat.zero_le _⟩) ?_
    · rcases List.mem_append.mp hw with h | h
      · simp only [List.mem_cons, List.not_mem_nil, or_false] at h
        rcases h with rfl | rfl | rfl
        · exact lk_pchk
        · exact sm_pchk
        · exact wsn_pchk
      · exact wsi_pchk w h
    refine lv_pop hx hb ds_chk_8 rfl ?_
    exact W.vret hx hb hr (fun t ht _ => ⟨rfl, ht⟩) hS.2.2 ds_chk_9
  rcases hZ.2.2.2.2.2.2 with hq | ⟨t, hq⟩
  · refine va_gets hx hb hq hS hown (hts _ lk_fmt) (fun _ h => h) ds_chk_2 ?_
    exact go .null (Or.inl rfl)
  · refine va_gets hx hb hq hS hown (hts _ lk_fmt) (fun _ h => h) ds_chk_2 ?_
    exact go (.ref t) (Or.inr ⟨t, rfl⟩)
theorem sw_c : ∀ k, k < 95 → ((sm_words.getD k 0 &&& 255).toUInt32 % 65536).toInt32 = sm_words.getD k 0 ∧ narrow .char (.int (sm_words.getD k 0)) = .int (sm_words.getD k 0) := by decide +kernel
theorem sw_in95 {x : Int32} (h : vp_in x 95) : ¬ x < 0 ∧ x < 95 ∧ x.toNatClampNeg < 95 := by
  obtain ⟨j, hj, rfl⟩ := vp_in_of h (by decide)
  exact ⟨nI_pos (by omega), (nI_lt (b := 95) hj (by decide)), by rw [nI_clamp (by omega)]; exact hj⟩
set_option maxRecDepth 100000 in
theorem cm_lch (l : Launch) (sa sv : Nat) (x : Int32) (hin : vp_in x 95) : Met l ys_lch ws_lch ({ frames := 2, cells := 0, slots := 0, locals := 43 } : Room) (va_Pc [.ref sv, .int x] (st_Z sa sv nw)) (QcRead (sm_words.getD x.toNatClampNeg 0)) 0 0 nw := by
  refine Met.ofW (cc := cs_lch) (maxL := 2) (ret := (some .char)) (by decide) rfl ?_
  intro p e s m args below meth c s₁ B hml hv
  obtain ⟨rfl, hZ⟩ := hv
  have hx := B.exec
  have hb := B.bytes
  have hr := B.returns
  have hts0 := atoms_spec (ws := ws_lch) B.pre
  have hts : ∀ w ∈ uw, w.before _ s = true := fun w hw => hts0 w (List.mem_cons_of_mem _ hw)
  have hown : s.vm.findClass "java/lang/StringLatin1" = some m.cls := findClass_of_methodNamed B.named
  have hlocks := B.notSynchronized
  have hS : va_S nw s.heap s.heap [] := va_S.rf
  rw [lg_entry_eq]
  have hl := lv_entry ([.ref sv, .int x]) (n := 2) (Nat.le_of_ble_eq_true rfl)
  generalize (lg_sl ([.ref sv, .int x]) ++ List.replicate (2 - (lg_sl ([.ref sv, .int x])).length) Slot.unset).toArray = ls at hl ⊢
  obtain ⟨g1, g2, g3⟩ := sw_in95 hin
  refine lv_iload_n hx hb ds_lch_0 rfl (lv_at hl 1 rfl) ?_
  refine lv_aload_n hx hb ds_lch_1 rfl (lv_at hl 0 rfl) ?_
  refine va_tlen (v := 95) hx hb hZ.2.2.2.2.1 hS (by decide) ds_lch_2 ?_
  refine W.callX (W.runS (As := [.int x, .int 95]) (rest := []) ⟨hx, hb, hml, hown, hts⟩ (cm_chk l sa sv x 95 g1 g2) (va_cwS (ws' := uw) 2 hts (uw_good fun w hw => ?_) rfl rfl rfl (by decide +kernel) ⟨Nat.le_of_ble_eq_true rfl, Nat.le_of_ble_eq_true rfl⟩) ⟨st_bl, fun U hU hW => st_pre hZ _ U hU hW⟩ rfl rfl hl.1 rfl (lv_room (Nat.le_of_ble_eq_true rfl)) ds_lch_3 ⟨Nat.zero_le _, Nat.zero_le _⟩) (fun _ h => h.elim) (fun v st₀ t h0 hq => ?_)
  · rcases List.mem_append.mp hw with h | h
    · simp only [List.mem_cons, List.not_mem_nil, or_false] at h
      rcases h with rfl | rfl | rfl
      · exact lk_chk
      · exact sm_chk
      · exact wsn_chk
    · exact wsi_chk w h
  obtain ⟨hv, hh⟩ := hq
  cases hv
  rw [hh, h0]
  refine lv_aload_n hx hb ds_lch_6 rfl (lv_at hl 0 rfl) ?_
  refine lv_iload_n hx hb ds_lch_7 rfl (lv_at hl 1 rfl) ?_
  refine va_tb hx hb hZ.2.2.2.2.1 hS hin rfl ds_lch_8 ?_
  refine lv_sipush (v := 255) hx hb ds_lch_9 (by decide) ?_
  refine lv_iand hx hb ds_lch_12 ?_
  refine lv_i2c (v := sm_words.getD x.toNatClampNeg 0) hx hb ds_lch_13 (sw_c _ g3).1 ?_
  exact W.zret hx hb hr (sw_c _ g3).2 (fun t ht _ => ⟨rfl, ht⟩) hS.2.2 ds_lch_14
set_option maxRecDepth 100000 in
theorem cm_charAt (l : Launch) (sa sv : Nat) (x : Int32) (hin : vp_in x 95) : Met l ys_charAt ws_charAt ({ frames := 3, cells := 0, slots := 0, locals := 64 } : Room) (va_Pc [.ref sa, .int x] (st_Z sa sv nw)) (QcRead (sm_words.getD x.toNatClampNeg 0)) 0 0 nw := by
  refine Met.ofW (cc := cs_charAt) (maxL := 2) (ret := (some .char)) (by decide) rfl ?_
  intro p e s m args below meth c s₁ B hml hv
  obtain ⟨rfl, hZ⟩ := hv
  have hx := B.exec
  have hb := B.bytes
  have hr := B.returns
  have hts0 := atoms_spec (ws := ws_charAt) B.pre
  have hts : ∀ w ∈ uw, w.before _ s = true := fun w hw => hts0 w (List.mem_cons_of_mem _ hw)
  have hown : s.vm.findClass "java/lang/String" = some m.cls := findClass_of_methodNamed B.named
  have hlocks := B.notSynchronized
  have hS : va_S nw s.heap s.heap [] := va_S.rf
  rw [lg_entry_eq]
  have hl := lv_entry ([.ref sa, .int x]) (n := 2) (Nat.le_of_ble_eq_true rfl)
  generalize (lg_sl ([.ref sa, .int x]) ++ List.replicate (2 - (lg_sl ([.ref sa, .int x])).length) Slot.unset).toArray = ls at hl ⊢
  obtain ⟨g1, g2, g3⟩ := sw_in95 hin
  refine lv_aload_n hx hb ds_charAt_0 rfl (lv_at hl 0 rfl) ?_
  refine W.callR (W.runV (As := []) (rest := []) (C := "java/lang/String") (b := sa) ⟨hx, hb, hml, hown, hts⟩ (cm_isl l sa sv) (cwV (ws' := uw) 0 hts (uw_good fun w hw => ?_) rfl rfl rfl (by decide +kernel) ⟨Nat.le_of_ble_eq_true rfl, Nat.le_of_ble_eq_true rfl⟩) ⟨st_bl, ?_, fun U hU hW => st_pre hZ _ U hU hW⟩ rfl rfl hl.1 rfl (lv_room (Nat.le_of_ble_eq_true rfl)) ds_charAt_1 ⟨Nat.zero_le _, Nat.zero_le _⟩) ?_
  · rcases List.mem_append.mp hw with h | h
    · simp only [List.mem_cons, List.not_mem_nil, or_false] at h
      rcases h with rfl | rfl | rfl | rfl
      · exact lk_isl
      · exact im_isl
      · exact se_isl
      · exact wsn_isl
    · exact wsi_isl w h
  · obtain ⟨cell, g1, g2, g3, -⟩ := hZ.2.1
    exact ⟨cell, g1, g2, g3⟩
  refine W.eq (g2 := F0 m 4 ls [.int 1]) rfl ?_
  refine lv_if_eq (tgt := 16) hx hb ds_charAt_4 (by decide) (fun h => absurd h (by decide)) (fun _ => ?_)
  refine lv_aload_n hx hb ds_charAt_7 rfl (lv_at hl 0 rfl) ?_
  refine vk_getf hx hb hZ.2.2.2.1 hS hown (hts _ lk_val) (fun _ h => h) ds_charAt_8 ?_
  refine lv_iload_n hx hb ds_charAt_11 rfl (lv_at hl 1 rfl) ?_
  refine W.callR (W.runS (As := [.ref sv, .int x]) (rest := []) ⟨hx, hb, hml, hown, hts⟩ (cm_lch l sa sv x hin) (va_cwS (ws' := uw) 2 hts (uw_good fun w hw => ?_) rfl rfl rfl (by decide +kernel) ⟨Nat.le_of_ble_eq_true rfl, Nat.le_of_ble_eq_true rfl⟩) ⟨st_bl, fun U hU hW => st_pre hZ _ U hU hW⟩ rfl rfl hl.1 rfl (lv_room (Nat.le_of_ble_eq_true rfl)) ds_charAt_12 ⟨Nat.zero_le _, Nat.zero_le _⟩) ?_
  · rcases List.mem_append.mp hw with h | h
    · simp only [List.mem_cons, List.not_mem_nil, or_false] at h
      rcases h with rfl | rfl | rfl
      · exact lk_lch
      · exact sm_lch
      · exact wsn_lch
    · exact wsi_lch w h
  exact W.zret hx hb hr (sw_c _ g3).2 (fun t ht _ => ⟨rfl, ht⟩) hS.2.2 ds_charAt_15
