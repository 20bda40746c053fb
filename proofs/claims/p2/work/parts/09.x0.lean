set_option maxRecDepth 100000 in
theorem cwt_0 : lw_tbl[(mq 0).2.1]? = some (.code (my 0) (mb 0) (sm_mi 0).2 (mr 0)) := rfl
set_option maxRecDepth 100000 in
theorem cwt_1 : lw_tbl[(mq 1).2.1]? = some (.code (my 1) (mb 1) (sm_mi 1).2 (mr 1)) := rfl
set_option maxRecDepth 100000 in
theorem cwt_2 : lw_tbl[(mq 2).2.1]? = some (.code (my 2) (mb 2) (sm_mi 2).2 (mr 2)) := rfl
set_option maxRecDepth 100000 in
theorem cwt_3 : lw_tbl[(mq 3).2.1]? = some (.code (my 3) (mb 3) (sm_mi 3).2 (mr 3)) := rfl
set_option maxRecDepth 100000 in
theorem cwt_4 : lw_tbl[(mq 4).2.1]? = some (.code (my 4) (mb 4) (sm_mi 4).2 (mr 4)) := rfl
set_option maxRecDepth 100000 in
theorem cwt_5 : lw_tbl[(mq 5).2.1]? = some (.code (my 5) (mb 5) (sm_mi 5).2 (mr 5)) := rfl
set_option maxRecDepth 100000 in
theorem cwt_6 : lw_tbl[(mq 6).2.1]? = some (.code (my 6) (mb 6) (sm_mi 6).2 (mr 6)) := rfl
set_option maxRecDepth 100000 in
theorem cwt_7 : lw_tbl[(mq 7).2.1]? = some (.code (my 7) (mb 7) (sm_mi 7).2 (mr 7)) := rfl
set_option maxRecDepth 100000 in
theorem cwt_8 : lw_tbl[(mq 8).2.1]? = some (.code (my 8) (mb 8) (sm_mi 8).2 (mr 8)) := rfl
set_option maxRecDepth 100000 in
theorem cwt_9 : lw_tbl[(mq 9).2.1]? = some (.code (my 9) (mb 9) (sm_mi 9).2 (mr 9)) := rfl
set_option maxRecDepth 100000 in
theorem cwt_10 : lw_tbl[(mq 10).2.1]? = some (.code (my 10) (mb 10) (sm_mi 10).2 (mr 10)) := rfl
set_option maxRecDepth 100000 in
theorem cwt_11 : lw_tbl[(mq 11).2.1]? = some (.code (my 11) (mb 11) (sm_mi 11).2 (mr 11)) := rfl
set_option maxRecDepth 100000 in
theorem cwt_12 : lw_tbl[(mq 12).2.1]? = some (.code (my 12) (mb 12) (sm_mi 12).2 (mr 12)) := rfl
set_option maxRecDepth 100000 in
theorem cwt_13 : lw_tbl[(mq 13).2.1]? = some (.code (my 13) (mb 13) (sm_mi 13).2 (mr 13)) := rfl
set_option maxRecDepth 100000 in
theorem cwt_14 : lw_tbl[(mq 14).2.1]? = some (.code (my 14) (mb 14) (sm_mi 14).2 (mr 14)) := rfl
set_option maxRecDepth 100000 in
theorem cwt_15 : lw_tbl[(mq 15).2.1]? = some (.code (my 15) (mb 15) (sm_mi 15).2 (mr 15)) := rfl
set_option maxRecDepth 100000 in
theorem cwt_16 : lw_tbl[(mq 16).2.1]? = some (.code (my 16) (mb 16) (sm_mi 16).2 (mr 16)) := rfl
set_option maxRecDepth 100000 in
theorem cwt_17 : lw_tbl[(mq 17).2.1]? = some (.code (my 17) (mb 17) (sm_mi 17).2 (mr 17)) := rfl
set_option maxRecDepth 100000 in
theorem cwt_18 : lw_tbl[(mq 18).2.1]? = some (.code (my 18) (mb 18) (sm_mi 18).2 (mr 18)) := rfl
set_option maxRecDepth 100000 in
theorem cwt_19 : lw_tbl[(mq 19).2.1]? = some (.code (my 19) (mb 19) (sm_mi 19).2 (mr 19)) := rfl
set_option maxRecDepth 100000 in
theorem cwt_20 : lw_tbl[(mq 20).2.1]? = some (.code (my 20) (mb 20) (sm_mi 20).2 (mr 20)) := rfl
set_option maxRecDepth 100000 in
theorem cwt_21 : lw_tbl[(mq 21).2.1]? = some (.code (my 21) (mb 21) (sm_mi 21).2 (mr 21)) := rfl
set_option maxRecDepth 100000 in
theorem cwt_22 : lw_tbl[(mq 22).2.1]? = some (.code (my 22) (mb 22) (sm_mi 22).2 (mr 22)) := rfl
set_option maxRecDepth 100000 in
theorem cwt_23 : lw_tbl[(mq 23).2.1]? = some (.code (my 23) (mb 23) (sm_mi 23).2 (mr 23)) := rfl
theorem cwg_0 : ∀ i ∈ List.range' 0 24, lw_tbl[(mq i).2.1]? = some (.code (my i) (mb i) (sm_mi i).2 (mr i)) := by
  show ∀ i ∈ [0, 1, 2, 3, 4, 5, 6, 7, 8, 9, 10, 11, 12, 13, 14, 15, 16, 17, 18, 19, 20, 21, 22, 23], _
  exact List.forall_mem_cons.mpr ⟨cwt_0, List.forall_mem_cons.mpr ⟨cwt_1, List.forall_mem_cons.mpr ⟨cwt_2, List.forall_mem_cons.mpr ⟨cwt_3, List.forall_mem_cons.mpr ⟨cwt_4, List.forall_mem_cons.mpr ⟨cwt_5, List.forall_mem_cons.mpr ⟨cwt_6, List.forall_mem_cons.mpr ⟨cwt_7, List.forall_mem_cons.mpr ⟨cwt_8, List.forall_mem_cons.mpr ⟨cwt_9, List.forall_mem_cons.mpr ⟨cwt_10, List.forall_mem_cons.mpr ⟨cwt_11, List.forall_mem_cons.mpr ⟨cwt_12, List.forall_mem_cons.mpr ⟨cwt_13, List.forall_mem_cons.mpr ⟨cwt_14, List.forall_mem_cons.mpr ⟨cwt_15, List.forall_mem_cons.mpr ⟨cwt_16, List.forall_mem_cons.mpr ⟨cwt_17, List.forall_mem_cons.mpr ⟨cwt_18, List.forall_mem_cons.mpr ⟨cwt_19, List.forall_mem_cons.mpr ⟨cwt_20, List.forall_mem_cons.mpr ⟨cwt_21, List.forall_mem_cons.mpr ⟨cwt_22, List.forall_mem_cons.mpr ⟨cwt_23, fun _ h => absurd h List.not_mem_nil⟩⟩⟩⟩⟩⟩⟩⟩⟩⟩⟩⟩⟩⟩⟩⟩⟩⟩⟩⟩⟩⟩⟩⟩
theorem lkwg_0 : (List.range' 0 24).all (fun i => Nat.beq i 311 || (Nat.beq i 312 || (Nat.beq i 313 || lkw i))) = true := by decide +kernel
set_option maxRecDepth 100000 in
theorem cwt_24 : lw_tbl[(mq 24).2.1]? = some (.code (my 24) (mb 24) (sm_mi 24).2 (mr 24)) := rfl
set_option maxRecDepth 100000 in
theorem cwt_25 : lw_tbl[(mq 25).2.1]? = some (.code (my 25) (mb 25) (sm_mi 25).2 (mr 25)) := rfl
set_option maxRecDepth 100000 in
theorem cwt_26 : lw_tbl[(mq 26).2.1]? = some (.code (my 26) (mb 26) (sm_mi 26).2 (mr 26)) := rfl
set_option maxRecDepth 100000 in
theorem cwt_27 : lw_tbl[(mq 27).2.1]? = some (.code (my 27) (mb 27) (sm_mi 27).2 (mr 27)) := rfl
set_option maxRecDepth 100000 in
theorem cwt_28 : lw_tbl[(mq 28).2.1]? = some (.code (my 28) (mb 28) (sm_mi 28).2 (mr 28)) := rfl
set_option maxRecDepth 100000 in
theorem cwt_29 : lw_tbl[(mq 29).2.1]? = some (.code (my 29) (mb 29) (sm_mi 29).2 (mr 29)) := rfl
set_option maxRecDepth 100000 in
theorem cwt_30 : lw_tbl[(mq 30).2.1]? = some (.code (my 30) (mb 30) (sm_mi 30).2 (mr 30)) := rfl
set_option maxRecDepth 100000 in
theorem cwt_31 : lw_tbl[(mq 31).2.1]? = some (.code (my 31) (mb 31) (sm_mi 31).2 (mr 31)) := rfl
set_option maxRecDepth 100000 in
theorem cwt_32 : lw_tbl[(mq 32).2.1]? = some (.code (my 32) (mb 32) (sm_mi 32).2 (mr 32)) := rfl
set_option maxRecDepth 100000 in
theorem cwt_33 : lw_tbl[(mq 33).2.1]? = some (.code (my 33) (mb 33) (sm_mi 33).2 (mr 33)) := rfl
set_option maxRecDepth 100000 in
theorem cwt_34 : lw_tbl[(mq 34).2.1]? = some (.code (my 34) (mb 34) (sm_mi 34).2 (mr 34)) := rfl
set_option maxRecDepth 100000 in
theorem cwt_35 : lw_tbl[(mq 35).2.1]? = some (.code (my 35) (mb 35) (sm_mi 35).2 (mr 35)) := rfl
set_option maxRecDepth 100000 in
theorem cwt_36 : lw_tbl[(mq 36).2.1]? = some (.code (my 36) (mb 36) (sm_mi 36).2 (mr 36)) := rfl
set_option maxRecDepth 100000 in
theorem cwt_37 : lw_tbl[(mq 37).2.1]? = some (.code (my 37) (mb 37) (sm_mi 37).2 (mr 37)) := rfl
set_option maxRecDepth 100000 in
theorem cwt_38 : lw_tbl[(mq 38).2.1]? = some (.code (my 38) (mb 38) (sm_mi 38).2 (mr 38)) := rfl
set_option maxRecDepth 100000 in
theorem cwt_39 : lw_tbl[(mq 39).2.1]? = some (.code (my 39) (mb 39) (sm_mi 39).2 (mr 39)) := rfl
set_option maxRecDepth 100000 in
theorem cwt_40 : lw_tbl[(mq 40).2.1]? = some (.code (my 40) (mb 40) (sm_mi 40).2 (mr 40)) := rfl
set_option maxRecDepth 100000 in
theorem cwt_41 : lw_tbl[(mq 41).2.1]? = some (.code (my 41) (mb 41) (sm_mi 41).2 (mr 41)) := rfl
set_option maxRecDepth 100000 in
theorem cwt_42 : lw_tbl[(mq 42).2.1]? = some (.code (my 42) (mb 42) (sm_mi 42).2 (mr 42)) := rfl
set_option maxRecDepth 100000 in
theorem cwt_43 : lw_tbl[(mq 43).2.1]? = some (.code (my 43) (mb 43) (sm_mi 43).2 (mr 43)) := rfl
set_option maxRecDepth 100000 in
theorem cwt_44 : lw_tbl[(mq 44).2.1]? = some (.code (my 44) (mb 44) (sm_mi 44).2 (mr 44)) := rfl
set_option maxRecDepth 100000 in
theorem cwt_45 : lw_tbl[(mq 45).2.1]? = some (.code (my 45) (mb 45) (sm_mi 45).2 (mr 45)) := rfl
set_option maxRecDepth 100000 in
theorem cwt_46 : lw_tbl[(mq 46).2.1]? = some (.code (my 46) (mb 46) (sm_mi 46).2 (mr 46)) := rfl
set_option maxRecDepth 100000 in
theorem cwt_47 : lw_tbl[(mq 47).2.1]? = some (.code (my 47) (mb 47) (sm_mi 47).2 (mr 47)) := rfl
theorem cwg_24 : ∀ i ∈ List.range' 24 24, lw_tbl[(mq i).2.1]? = some (.code (my i) (mb i) (sm_mi i).2 (mr i)) := by
  show ∀ i ∈ [24, 25, 26, 27, 28, 29, 30, 31, 32, 33, 34, 35, 36, 37, 38, 39, 40, 41, 42, 43, 44, 45, 46, 47], _
  exact List.forall_mem_cons.mpr ⟨cwt_24, List.forall_mem_cons.mpr ⟨cwt_25, List.forall_mem_cons.mpr ⟨cwt_26, List.forall_mem_cons.mpr ⟨cwt_27, List.forall_mem_cons.mpr ⟨cwt_28, List.forall_mem_cons.mpr ⟨cwt_29, List.forall_mem_cons.mpr ⟨cwt_30, List.forall_mem_cons.mpr ⟨cwt_31, List.forall_mem_cons.mpr ⟨cwt_32, List.forall_mem_cons.mpr ⟨cwt_33, List.forall_mem_cons.mpr ⟨cwt_34, List.forall_mem_cons.mpr ⟨cwt_35, List.forall_mem_cons.mpr ⟨cwt_36, List.forall_mem_cons.mpr ⟨cwt_37, List.forall_mem_cons.mpr ⟨cwt_38, List.forall_mem_cons.mpr ⟨cwt_39, List.forall_mem_cons.mpr ⟨cwt_40, List.forall_mem_cons.mpr ⟨cwt_41, List.forall_mem_cons.mpr ⟨cwt_42, List.forall_mem_cons.mpr ⟨cwt_43, List.forall_mem_cons.mpr ⟨cwt_44, List.forall_mem_cons.mpr ⟨cwt_45, List.forall_mem_cons.mpr ⟨cwt_46, List.forall_mem_cons.mpr ⟨cwt_47, fun _ h => absurd h List.not_mem_nil⟩⟩⟩⟩⟩⟩⟩⟩⟩⟩⟩⟩⟩⟩⟩⟩⟩⟩⟩⟩⟩⟩⟩⟩
theorem lkwg_24 : (List.range' 24 24).all (fun i => Nat.beq i 311 || (Nat.beq i 312 || (Nat.beq i 313 || lkw i))) = true := by decide +kernel
set_option maxRecDepth 100000 in
theorem cwt_48 : lw_tbl[(mq 48).2.1]? = some (.code (my 48) (mb 48) (sm_mi 48).2 (mr 48)) := rfl
set_option maxRecDepth 100000 in
theorem cwt_49 : lw_tbl[(mq 49).2.1]? = some (.code (my 49) (mb 49) (sm_mi 49).2 (mr 49)) := rfl
set_option maxRecDepth 100000 in
theorem cwt_50 : lw_tbl[(mq 50).2.1]? = some (.code (my 50) (mb 50) (sm_mi 50).2 (mr 50)) := rfl
set_option maxRecDepth 100000 in
theorem cwt_51 : lw_tbl[(mq 51).2.1]? = some (.code (my 51) (mb 51) (sm_mi 51).2 (mr 51)) := rfl
set_option maxRecDepth 100000 in
theorem cwt_52 : lw_tbl[(mq 52).2.1]? = some (.code (my 52) (mb 52) (sm_mi 52).2 (mr 52)) := rfl
set_option maxRecDepth 100000 in
theorem cwt_53 : lw_tbl[(mq 53).2.1]? = some (.code (my 53) (mb 53) (sm_mi 53).2 (mr 53)) := rfl
set_option maxRecDepth 100000 in
theorem cwt_54 : lw_tbl[(mq 54).2.1]? = some (.code (my 54) (mb 54) (sm_mi 54).2 (mr 54)) := rfl
set_option maxRecDepth 100000 in
theorem cwt_55 : lw_tbl[(mq 55).2.1]? = some (.code (my 55) (mb 55) (sm_mi 55).2 (mr 55)) := rfl
set_option maxRecDepth 100000 in
theorem cwt_56 : lw_tbl[(mq 56).2.1]? = some (.code (my 56) (mb 56) (sm_mi 56).2 (mr 56)) := rfl
set_option maxRecDepth 100000 in
theorem cwt_57 : lw_tbl[(mq 57).2.1]? = some (.code (my 57) (mb 57) (sm_mi 57).2 (mr 57)) := rfl
set_option maxRecDepth 100000 in
theorem cwt_58 : lw_tbl[(mq 58).2.1]? = some (.code (my 58) (mb 58) (sm_mi 58).2 (mr 58)) := rfl
set_option maxRecDepth 100000 in
theorem cwt_59 : lw_tbl[(mq 59).2.1]? = some (.code (my 59) (mb 59) (sm_mi 59).2 (mr 59)) := rfl
set_option maxRecDepth 100000 in
theorem cwt_60 : lw_tbl[(mq 60).2.1]? = some (.code (my 60) (mb 60) (sm_mi 60).2 (mr 60)) := rfl
set_option maxRecDepth 100000 in
theorem cwt_61 : lw_tbl[(mq 61).2.1]? = some (.code (my 61) (mb 61) (sm_mi 61).2 (mr 61)) := rfl
set_option maxRecDepth 100000 in
theorem cwt_62 : lw_tbl[(mq 62).2.1]? = some (.code (my 62) (mb 62) (sm_mi 62).2 (mr 62)) := rfl
set_option maxRecDepth 100000 in
theorem cwt_63 : lw_tbl[(mq 63).2.1]? = some (.code (my 63) (mb 63) (sm_mi 63).2 (mr 63)) := rfl
set_option maxRecDepth 100000 in
theorem cwt_64 : lw_tbl[(mq 64).2.1]? = some (.code (my 64) (mb 64) (sm_mi 64).2 (mr 64)) := rfl
set_option maxRecDepth 100000 in
theorem cwt_65 : lw_tbl[(mq 65).2.1]? = some (.code (my 65) (mb 65) (sm_mi 65).2 (mr 65)) := rfl
set_option maxRecDepth 100000 in
theorem cwt_66 : lw_tbl[(mq 66).2.1]? = some (.code (my 66) (mb 66) (sm_mi 66).2 (mr 66)) := rfl
set_option maxRecDepth 100000 in
theorem cwt_67 : lw_tbl[(mq 67).2.1]? = some (.code (my 67) (mb 67) (sm_mi 67).2 (mr 67)) := rfl
set_option maxRecDepth 100000 in
theorem cwt_68 : lw_tbl[(mq 68).2.1]? = some (.code (my 68) (mb 68) (sm_mi 68).2 (mr 68)) := rfl
set_option maxRecDepth 100000 in
theorem cwt_69 : lw_tbl[(mq 69).2.1]? = some (.code (my 69) (mb 69) (sm_mi 69).2 (mr 69)) := rfl
set_option maxRecDepth 100000 in
theorem cwt_70 : lw_tbl[(mq 70).2.1]? = some (.code (my 70) (mb 70) (sm_mi 70).2 (mr 70)) := rfl
set_option maxRecDepth 100000 in
theorem cwt_71 : lw_tbl[(mq 71).2.1]? = some (.code (my 71) (mb 71) (sm_mi 71).2 (mr 71)) := rfl
theorem cwg_48 : ∀ i ∈ List.range' 48 24, lw_tbl[(mq i).2.1]? = some (.code (my i) (mb i) (sm_mi i).2 (mr i)) := by
  show ∀ i ∈ [48, 49, 50, 51, 52, 53, 54, 55, 56, 57, 58, 59, 60, 61, 62, 63, 64, 65, 66, 67, 68, 69, 70, 71], _
  exact List.forall_mem_cons.mpr ⟨cwt_48, List.forall_mem_cons.mpr ⟨cwt_49, List.forall_mem_cons.mpr ⟨cwt_50, List.forall_mem_cons.mpr ⟨cwt_51, List.forall_mem_cons.mpr ⟨cwt_52, List.forall_mem_cons.mpr ⟨cwt_53, List.forall_mem_cons.mpr ⟨cwt_54, List.forall_mem_cons.mpr ⟨cwt_55, List.forall_mem_cons.mpr ⟨cwt_56, List.forall_mem_cons.mpr ⟨cwt_57, List.forall_mem_cons.mpr ⟨cwt_58, List.forall_mem_cons.mpr ⟨cwt_59, List.forall_mem_cons.mpr ⟨cwt_60, List.forall_mem_cons.mpr ⟨cwt_61, List.forall_mem_cons.mpr ⟨cwt_62, List.forall_mem_cons.mpr ⟨cwt_63, List.forall_mem_cons.mpr ⟨cwt_64, List.forall_mem_cons.mpr ⟨cwt_65, List.forall_mem_cons.mpr ⟨cwt_66, List.forall_mem_cons.mpr ⟨cwt_67, List.forall_mem_cons.mpr ⟨cwt_68, List.forall_mem_cons.mpr ⟨cwt_69, List.forall_mem_cons.mpr ⟨cwt_70, List.forall_mem_cons.mpr ⟨cwt_71, fun _ h => absurd h List.not_mem_nil⟩⟩⟩⟩⟩⟩⟩⟩⟩⟩⟩⟩⟩⟩⟩⟩⟩⟩⟩⟩⟩⟩⟩⟩
theorem lkwg_48 : (List.range' 48 24).all (fun i => Nat.beq i 311 || (Nat.beq i 312 || (Nat.beq i 313 || lkw i))) = true := by decide +kernel
set_option maxRecDepth 100000 in
theorem cwt_72 : lw_tbl[(mq 72).2.1]? = some (.code (my 72) (mb 72) (sm_mi 72).2 (mr 72)) := rfl
set_option maxRecDepth 100000 in
theorem cwt_73 : lw_tbl[(mq 73).2.1]? = some (.code (my 73) (mb 73) (sm_mi 73).2 (mr 73)) := rfl
set_option maxRecDepth 100000 in
theorem cwt_74 : lw_tbl[(mq 74).2.1]? = some (.code (my 74) (mb 74) (sm_mi 74).2 (mr 74)) := rfl
set_option maxRecDepth 100000 in
theorem cwt_75 : lw_tbl[(mq 75).2.1]? = some (.code (my 75) (mb 75) (sm_mi 75).2 (mr 75)) := rfl
set_option maxRecDepth 100000 in
theorem cwt_76 : lw_tbl[(mq 76).2.1]? = some (.code (my 76) (mb 76) (sm_mi 76).2 (mr 76)) := rfl
set_option maxRecDepth 100000 in
theorem cwt_77 : lw_tbl[(mq 77).2.1]? = some (.code (my 77) (mb 77) (sm_mi 77).2 (mr 77)) := rfl
set_option maxRecDepth 100000 in
theorem cwt_78 : lw_tbl[(mq 78).2.1]? = some (.code (my 78) (mb 78) (sm_mi 78).2 (mr 78)) := rfl
set_option maxRecDepth 100000 in
theorem cwt_79 : lw_tbl[(mq 79).2.1]? = some (.code (my 79) (mb 79) (sm_mi 79).2 (mr 79)) := rfl
set_option maxRecDepth 100000 in
theorem cwt_80 : lw_tbl[(mq 80).2.1]? = some (.code (my 80) (mb 80) (sm_mi 80).2 (mr 80)) := rfl
set_option maxRecDepth 100000 in
theorem cwt_81 : lw_tbl[(mq 81).2.1]? = some (.code (my 81) (mb 81) (sm_mi 81).2 (mr 81)) := rfl
set_option maxRecDepth 100000 in
theorem cwt_82 : lw_tbl[(mq 82).2.1]? = some (.code (my 82) (mb 82) (sm_mi 82).2 (mr 82)) := rfl
set_option maxRecDepth 100000 in
theorem cwt_83 : lw_tbl[(mq 83).2.1]? = some (.code (my 83) (mb 83) (sm_mi 83).2 (mr 83)) := rfl
set_option maxRecDepth 100000 in
theorem cwt_84 : lw_tbl[(mq 84).2.1]? = some (.code (my 84) (mb 84) (sm_mi 84).2 (mr 84)) := rfl
set_option maxRecDepth 100000 in
theorem cwt_85 : lw_tbl[(mq 85).2.1]? = some (.code (my 85) (mb 85) (sm_mi 85).2 (mr 85)) := rfl
set_option maxRecDepth 100000 in
theorem cwt_86 : lw_tbl[(mq 86).2.1]? = some (.code (my 86) (mb 86) (sm_mi 86).2 (mr 86)) := rfl
set_option maxRecDepth 100000 in
theorem cwt_87 : lw_tbl[(mq 87).2.1]? = some (.code (my 87) (mb 87) (sm_mi 87).2 (mr 87)) := rfl
set_option maxRecDepth 100000 in
theorem cwt_88 : lw_tbl[(mq 88).2.1]? = some (.code (my 88) (mb 88) (sm_mi 88).2 (mr 88)) := rfl
set_option maxRecDepth 100000 in
theorem cwt_89 : lw_tbl[(mq 89).2.1]? = some (.code (my 89) (mb 89) (sm_mi 89).2 (mr 89)) := rfl
set_option maxRecDepth 100000 in
theorem cwt_90 : lw_tbl[(mq 90).2.1]? = some (.code (my 90) (mb 90) (sm_mi 90).2 (mr 90)) := rfl
set_option maxRecDepth 100000 in
theorem cwt_91 : lw_tbl[(mq 91).2.1]? = some (.code (my 91) (mb 91) (sm_mi 91).2 (mr 91)) := rfl
set_option maxRecDepth 100000 in
theorem cwt_92 : lw_tbl[(mq 92).2.1]? = some (.code (my 92) (mb 92) (sm_mi 92).2 (mr 92)) := rfl
set_option maxRecDepth 100000 in
theorem cwt_93 : lw_tbl[(mq 93).2.1]? = some (.code (my 93) (mb 93) (sm_mi 93).2 (mr 93)) := rfl
set_option maxRecDepth 100000 in
theorem cwt_94 : lw_tbl[(mq 94).2.1]? = some (.code (my 94) (mb 94) (sm_mi 94).2 (mr 94)) := rfl
set_option maxRecDepth 100000 in
theorem cwt_95 : lw_tbl[(mq 95).2.1]? = some (.code (my 95) (mb 95) (sm_mi 95).2 (mr 95)) := rfl
theorem cwg_72 : ∀ i ∈ List.range' 72 24, lw_tbl[(mq i).2.1]? = some (.code (my i) (mb i) (sm_mi i).2 (mr i)) := by
  show ∀ i ∈ [72, 73, 74, 75, 76, 77, 78, 79, 80, 81, 82, 83, 84, 85, 86, 87, 88, 89, 90, 91, 92, 93, 94, 95], _
  exact List.forall_mem_cons.mpr ⟨cwt_72, List.forall_mem_cons.mpr ⟨cwt_73, List.forall_mem_cons.mpr ⟨cwt_74, List.forall_mem_cons.mpr ⟨cwt_75, List.forall_mem_cons.mpr ⟨cwt_76, List.forall_mem_cons.mpr ⟨cwt_77, List.forall_mem_cons.mpr ⟨cwt_78, List.forall_mem_cons.mpr ⟨cwt_79, List.forall_mem_cons.mpr ⟨cwt_80, List.forall_mem_cons.mpr ⟨cwt_81, List.forall_mem_cons.mpr ⟨cwt_82, List.forall_mem_cons.mpr ⟨cwt_83, List.forall_mem_cons.mpr ⟨cwt_84, List.forall_mem_cons.mpr ⟨cwt_85, List.forall_mem_cons.mpr ⟨cwt_86, List.forall_mem_cons.mpr ⟨cwt_87, List.forall_mem_cons.mpr ⟨cwt_88, List.forall_mem_cons.mpr ⟨cwt_89, List.forall_mem_cons.mpr ⟨cwt_90, List.forall_mem_cons.mpr ⟨cwt_91, List.forall_mem_cons.mpr ⟨cwt_92, List.forall_mem_cons.mpr ⟨cwt_93, List.forall_mem_cons.mpr ⟨cwt_94, List.forall_mem_cons.mpr ⟨cwt_95, fun _ h => absurd h List.not_mem_nil⟩⟩⟩⟩⟩⟩⟩⟩⟩⟩⟩⟩⟩⟩⟩⟩⟩⟩⟩⟩⟩⟩⟩⟩
theorem lkwg_72 : (List.range' 72 24).all (fun i => Nat.beq i 311 || (Nat.beq i 312 || (Nat.beq i 313 || lkw i))) = true := by decide +kernel
set_option maxRecDepth 100000 in
theorem cwt_96 : lw_tbl[(mq 96).2.1]? = some (.code (my 96) (mb 96) (sm_mi 96).2 (mr 96)) := rfl
set_option maxRecDepth 100000 in
theorem cwt_97 : lw_tbl[(mq 97).2.1]? = some (.code (my 97) (mb 97) (sm_mi 97).2 (mr 97)) := rfl
set_option maxRecDepth 100000 in
theorem cwt_98 : lw_tbl[(mq 98).2.1]? = some (.code (my 98) (mb 98) (sm_mi 98).2 (mr 98)) := rfl
set_option maxRecDepth 100000 in
theorem cwt_99 : lw_tbl[(mq 99).2.1]? = some (.code (my 99) (mb 99) (sm_mi 99).2 (mr 99)) := rfl
set_option maxRecDepth 100000 in
theorem cwt_100 : lw_tbl[(mq 100).2.1]? = some (.code (my 100) (mb 100) (sm_mi 100).2 (mr 100)) := rfl
set_option maxRecDepth 100000 in
theorem cwt_101 : lw_tbl[(mq 101).2.1]? = some (.code (my 101) (mb 101) (sm_mi 101).2 (mr 101)) := rfl
set_option maxRecDepth 100000 in
theorem cwt_102 : lw_tbl[(mq 102).2.1]? = some (.code (my 102) (mb 102) (sm_mi 102).2 (mr 102)) := rfl
set_option maxRecDepth 100000 in
theorem cwt_103 : lw_tbl[(mq 103).2.1]? = some (.code (my 103) (mb 103) (sm_mi 103).2 (mr 103)) := rfl
set_option maxRecDepth 100000 in
theorem cwt_104 : lw_tbl[(mq 104).2.1]? = some (.code (my 104) (mb 104) (sm_mi 104).2 (mr 104)) := rfl
set_option maxRecDepth 100000 in
theorem cwt_105 : lw_tbl[(mq 105).2.1]? = some (.code (my 105) (mb 105) (sm_mi 105).2 (mr 105)) := rfl
set_option maxRecDepth 100000 in
theorem cwt_106 : lw_tbl[(mq 106).2.1]? = some (.code (my 106) (mb 106) (sm_mi 106).2 (mr 106)) := rfl
set_option maxRecDepth 100000 in
theorem cwt_107 : lw_tbl[(mq 107).2.1]? = some (.code (my 107) (mb 107) (sm_mi 107).2 (mr 107)) := rfl
set_option maxRecDepth 100000 in
theorem cwt_108 : lw_tbl[(mq 108).2.1]? = some (.code (my 108) (mb 108) (sm_mi 108).2 (mr 108)) := rfl
set_option maxRecDepth 100000 in
theorem cwt_109 : lw_tbl[(mq 109).2.1]? = some (.code (my 109) (mb 109) (sm_mi 109).2 (mr 109)) := rfl
set_option maxRecDepth 100000 in
theorem cwt_110 : lw_tbl[(mq 110).2.1]? = some (.code (my 110) (mb 110) (sm_mi 110).2 (mr 110)) := rfl
set_option maxRecDepth 100000 in
theorem cwt_111 : lw_tbl[(mq 111).2.1]? = some (.code (my 111) (mb 111) (sm_mi 111).2 (mr 111)) := rfl
set_option maxRecDepth 100000 in
theorem cwt_112 : lw_tbl[(mq 112).2.1]? = some (.code (my 112) (mb 112) (sm_mi 112).2 (mr 112)) := rfl
set_option maxRecDepth 100000 in
theorem cwt_113 : lw_tbl[(mq 113).2.1]? = some (.code (my 113) (mb 113) (sm_mi 113).2 (mr 113)) := rfl
set_option maxRecDepth 100000 in
theorem cwt_114 : lw_tbl[(mq 114).2.1]? = some (.code (my 114) (mb 114) (sm_mi 114).2 (mr 114)) := rfl
set_option maxRecDepth 100000 in
theorem cwt_115 : lw_tbl[(mq 115).2.1]? = some (.code (my 115) (mb 115) (sm_mi 115).2 (mr 115)) := rfl
set_option maxRecDepth 100000 in
theorem cwt_116 : lw_tbl[(mq 116).2.1]? = some (.code (my 116) (mb 116) (sm_mi 116).2 (mr 116)) := rfl
set_option maxRecDepth 100000 in
theorem cwt_117 : lw_tbl[(mq 117).2.1]? = some (.code (my 117) (mb 117) (sm_mi 117).2 (mr 117)) := rfl
set_option maxRecDepth 100000 in
theorem cwt_118 : lw_tbl[(mq 118).2.1]? = some (.code (my 118) (mb 118) (sm_mi 118).2 (mr 118)) := rfl
set_option maxRecDepth 100000 in
theorem cwt_119 : lw_tbl[(mq 119).2.1]? = some (.code (my 119) (mb 119) (sm_mi 119).2 (mr 119)) := rfl
theorem cwg_96 : ∀ i ∈ List.range' 96 24, lw_tbl[(mq i).2.1]? = some (.code (my i) (mb i) (sm_mi i).2 (mr i)) := by
  show ∀ i ∈ [96, 97, 98, 99, 100, 101, 102, 103, 104, 105, 106, 107, 108, 109, 110, 111, 112, 113, 114, 115, 116, 117, 118, 119], _
  exact List.forall_mem_cons.mpr ⟨cwt_96, List.forall_mem_cons.mpr ⟨cwt_97, List.forall_mem_cons.mpr ⟨cwt_98, List.forall_mem_cons.mpr ⟨cwt_99, List.forall_mem_cons.mpr ⟨cwt_100, List.forall_mem_cons.mpr ⟨cwt_101, List.forall_mem_cons.mpr ⟨cwt_102, List.forall_mem_cons.mpr ⟨cwt_103, List.forall_mem_cons.mpr ⟨cwt_104, List.forall_mem_cons.mpr ⟨cwt_105, List.forall_mem_cons.mpr ⟨cwt_106, List.forall_mem_cons.mpr ⟨cwt_107, List.forall_mem_cons.mpr ⟨cwt_108, List.forall_mem_cons.mpr ⟨cwt_109, List.forall_mem_cons.mpr ⟨cwt_110, List.forall_mem_cons.mpr ⟨cwt_111, List.forall_mem_cons.mpr ⟨cwt_112, List.forall_mem_cons.mpr ⟨cwt_113, List.forall_mem_cons.mpr ⟨cwt_114, List.forall_mem_cons.mpr ⟨cwt_115, List.forall_mem_cons.mpr ⟨cwt_116, List.forall_mem_cons.mpr ⟨cwt_117, List.forall_mem_cons.mpr ⟨cwt_118, List.forall_mem_cons.mpr ⟨cwt_119, fun _ h => absurd h List.not_mem_nil⟩⟩⟩⟩⟩⟩⟩⟩⟩⟩⟩⟩⟩⟩⟩⟩⟩⟩⟩⟩⟩⟩⟩⟩
theorem lkwg_96 : (List.range' 96 24).all (fun i => Nat.beq i 311 || (Nat.beq i 312 || (Nat.beq i 313 || lkw i))) = true := by decide +kernel
set_option maxRecDepth 100000 in
theorem cwt_120 : lw_tbl[(mq 120).2.1]? = some (.code (my 120) (mb 120) (sm_mi 120).2 (mr 120)) := rfl
set_option maxRecDepth 100000 in
theorem cwt_121 : lw_tbl[(mq 121).2.1]? = some (.code (my 121) (mb 121) (sm_mi 121).2 (mr 121)) := rfl
set_option maxRecDepth 100000 in
theorem cwt_122 : lw_tbl[(mq 122).2.1]? = some (.code (my 122) (mb 122) (sm_mi 122).2 (mr 122)) := rfl
set_option maxRecDepth 100000 in
theorem cwt_123 : lw_tbl[(mq 123).2.1]? = some (.code (my 123) (mb 123) (sm_mi 123).2 (mr 123)) := rfl
set_option maxRecDepth 100000 in
theorem cwt_124 : lw_tbl[(mq 124).2.1]? = some (.code (my 124) (mb 124) (sm_mi 124).2 (mr 124)) := rfl
set_option maxRecDepth 100000 in
theorem cwt_125 : lw_tbl[(mq 125).2.1]? = some (.code (my 125) (mb 125) (sm_mi 125).2 (mr 125)) := rfl
set_option maxRecDepth 100000 in
theorem cwt_126 : lw_tbl[(mq 126).2.1]? = some (.code (my 126) (mb 126) (sm_mi 126).2 (mr 126)) := rfl
set_option maxRecDepth 100000 in
theorem cwt_127 : lw_tbl[(mq 127).2.1]? = some (.code (my 127) (mb 127) (sm_mi 127).2 (mr 127)) := rfl
set_option maxRecDepth 100000 in
theorem cwt_128 : lw_tbl[(mq 128).2.1]? = some (.code (my 128) (mb 128) (sm_mi 128).2 (mr 128)) := rfl
set_option maxRecDepth 100000 in
theorem cwt_129 : lw_tbl[(mq 129).2.1]? = some (.code (my 129) (mb 129) (sm_mi 129).2 (mr 129)) := rfl
set_option maxRecDepth 100000 in
theorem cwt_130 : lw_tbl[(mq 130).2.1]? = some (.code (my 130) (mb 130) (sm_mi 130).2 (mr 130)) := rfl
set_option maxRecDepth 100000 in
theorem cwt_131 : lw_tbl[(mq 131).2.1]? = some (.code (my 131) (mb 131) (sm_mi 131).2 (mr 131)) := rfl
set_option maxRecDepth 100000 in
theorem cwt_132 : lw_tbl[(mq 132).2.1]? = some (.code (my 132) (mb 132) (sm_mi 132).2 (mr 132)) := rfl
set_option maxRecDepth 100000 in
theorem cwt_133 : lw_tbl[(mq 133).2.1]? = some (.code (my 133) (mb 133) (sm_mi 133).2 (mr 133)) := rfl
set_option maxRecDepth 100000 in
theorem cwt_134 : lw_tbl[(mq 134).2.1]? = some (.code (my 134) (mb 134) (sm_mi 134).2 (mr 134)) := rfl
set_option maxRecDepth 100000 in
theorem cwt_135 : lw_tbl[(mq 135).2.1]? = some (.code (my 135) (mb 135) (sm_mi 135).2 (mr 135)) := rfl
set_option maxRecDepth 100000 in
theorem cwt_136 : lw_tbl[(mq 136).2.1]? = some (.code (my 136) (mb 136) (sm_mi 136).2 (mr 136)) := rfl
set_option maxRecDepth 100000 in
theorem cwt_137 : lw_tbl[(mq 137).2.1]? = some (.code (my 137) (mb 137) (sm_mi 137).2 (mr 137)) := rfl
set_option maxRecDepth 100000 in
theorem cwt_138 : lw_tbl[(mq 138).2.1]? = some (.code (my 138) (mb 138) (sm_mi 138).2 (mr 138)) := rfl
set_option maxRecDepth 100000 in
theorem cwt_139 : lw_tbl[(mq 139).2.1]? = some (.code (my 139) (mb 139) (sm_mi 139).2 (mr 139)) := rfl
set_option maxRecDepth 100000 in
theorem cwt_140 : lw_tbl[(mq 140).2.1]? = some (.code (my 140) (mb 140) (sm_mi 140).2 (mr 140)) := rfl
set_option maxRecDepth 100000 in
theorem cwt_141 : lw_tbl[(mq 141).2.1]? = some (.code (my 141) (mb 141) (sm_mi 141).2 (mr 141)) := rfl
set_option maxRecDepth 100000 in
theorem cwt_142 : lw_tbl[(mq 142).2.1]? = some (.code (my 142) (mb 142) (sm_mi 142).2 (mr 142)) := rfl
set_option maxRecDepth 100000 in
theorem cwt_143 : lw_tbl[(mq 143).2.1]? = some (.code (my 143) (mb 143) (sm_mi 143).2 (mr 143)) := rfl
theorem cwg_120 : ∀ i ∈ List.range' 120 24, lw_tbl[(mq i).2.1]? = some (.code (my i) (mb i) (sm_mi i).2 (mr i)) := by
  show ∀ i ∈ [120, 121, 122, 123, 124, 125, 126, 127, 128, 129, 130, 131, 132, 133, 134, 135, 136, 137, 138, 139, 140, 141, 142, 143], _
  exact List.forall_mem_cons.mpr ⟨cwt_120, List.forall_mem_cons.mpr ⟨cwt_121, List.forall_mem_cons.mpr ⟨cwt_122, List.forall_mem_cons.mpr ⟨cwt_123, List.forall_mem_cons.mpr ⟨cwt_124, List.forall_mem_cons.mpr ⟨cwt_125, List.forall_mem_cons.mpr ⟨cwt_126, List.forall_mem_cons.mpr ⟨cwt_127, List.forall_mem_cons.mpr ⟨cwt_128, List.forall_mem_cons.mpr ⟨cwt_129, List.forall_mem_cons.mpr ⟨cwt_130, List.forall_mem_cons.mpr ⟨cwt_131, List.forall_mem_cons.mpr ⟨cwt_132, List.forall_mem_cons.mpr ⟨cwt_133, List.forall_mem_cons.mpr ⟨cwt_134, List.forall_mem_cons.mpr ⟨cwt_135, List.forall_mem_cons.mpr ⟨cwt_136, List.forall_mem_cons.mpr ⟨cwt_137, List.forall_mem_cons.mpr ⟨cwt_138, List.forall_mem_cons.mpr ⟨cwt_139, List.forall_mem_cons.mpr ⟨cwt_140, List.forall_mem_cons.mpr ⟨cwt_141, List.forall_mem_cons.mpr ⟨cwt_142, List.forall_mem_cons.mpr ⟨cwt_143, fun _ h => absurd h List.not_mem_nil⟩⟩⟩⟩⟩⟩⟩⟩⟩⟩⟩⟩⟩⟩⟩⟩⟩⟩⟩⟩⟩⟩⟩⟩
theorem lkwg_120 : (List.range' 120 24).all (fun i => Nat.beq i 311 || (Nat.beq i 312 || (Nat.beq i 313 || lkw i))) = true := by decide +kernel
set_option maxRecDepth 100000 in
theorem cwt_144 : lw_tbl[(mq 144).2.1]? = some (.code (my 144) (mb 144) (sm_mi 144).2 (mr 144)) := rfl
set_option maxRecDepth 100000 in
theorem cwt_145 : lw_tbl[(mq 145).2.1]? = some (.code (my 145) (mb 145) (sm_mi 145).2 (mr 145)) := rfl
set_option maxRecDepth 100000 in
theorem cwt_146 : lw_tbl[(mq 146).2.1]? = some (.code (my 146) (mb 146) (sm_mi 146).2 (mr 146)) := rfl
set_option maxRecDepth 100000 in
theorem cwt_147 : lw_tbl[(mq 147).2.1]? = some (.code (my 147) (mb 147) (sm_mi 147).2 (mr 147)) := rfl
set_option maxRecDepth 100000 in
theorem cwt_148 : lw_tbl[(mq 148).2.1]? = some (.code (my 148) (mb 148) (sm_mi 148).2 (mr 148)) := rfl
set_option maxRecDepth 100000 in
theorem cwt_149 : lw_tbl[(mq 149).2.1]? = some (.code (my 149) (mb 149) (sm_mi 149).2 (mr 149)) := rfl
set_option maxRecDepth 100000 in
theorem cwt_150 : lw_tbl[(mq 150).2.1]? = some (.code (my 150) (mb 150) (sm_mi 150).2 (mr 150)) := rfl
set_option maxRecDepth 100000 in
theorem cwt_151 : lw_tbl[(mq 151).2.1]? = some (.code (my 151) (mb 151) (sm_mi 151).2 (mr 151)) := rfl
set_option maxRecDepth 100000 in
theorem cwt_152 : lw_tbl[(mq 152).2.1]? = some (.code (my 152) (mb 152) (sm_mi 152).2 (mr 152)) := rfl
set_option maxRecDepth 100000 in
theorem cwt_153 : lw_tbl[(mq 153).2.1]? = some (.code (my 153) (mb 153) (sm_mi 153).2 (mr 153)) := rfl
set_option maxRecDepth 100000 in
theorem cwt_154 : lw_tbl[(mq 154).2.1]? = some (.code (my 154) (mb 154) (sm_mi 154).2 (mr 154)) := rfl
set_option maxRecDepth 100000 in
theorem cwt_155 : lw_tbl[(mq 155).2.1]? = some (.code (my 155) (mb 155) (sm_mi 155).2 (mr 155)) := rfl
set_option maxRecDepth 100000 in
theorem cwt_156 : lw_tbl[(mq 156).2.1]? = some (.code (my 156) (mb 156) (sm_mi 156).2 (mr 156)) := rfl
set_option maxRecDepth 100000 in
theorem cwt_157 : lw_tbl[(mq 157).2.1]? = some (.code (my 157) (mb 157) (sm_mi 157).2 (mr 157)) := rfl
set_option maxRecDepth 100000 in
theorem cwt_158 : lw_tbl[(mq 158).2.1]? = some (.code (my 158) (mb 158) (sm_mi 158).2 (mr 158)) := rfl
set_option maxRecDepth 100000 in
theorem cwt_159 : lw_tbl[(mq 159).2.1]? = some (.code (my 159) (mb 159) (sm_mi 159).2 (mr 159)) := rfl
set_option maxRecDepth 100000 in
theorem cwt_160 : lw_tbl[(mq 160).2.1]? = some (.code (my 160) (mb 160) (sm_mi 160).2 (mr 160)) := rfl
set_option maxRecDepth 100000 in
theorem cwt_161 : lw_tbl[(mq 161).2.1]? = some (.code (my 161) (mb 161) (sm_mi 161).2 (mr 161)) := rfl
set_option maxRecDepth 100000 in
theorem cwt_162 : lw_tbl[(mq 162).2.1]? = some (.code (my 162) (mb 162) (sm_mi 162).2 (mr 162)) := rfl
set_option maxRecDepth 100000 in
theorem cwt_163 : lw_tbl[(mq 163).2.1]? = some (.code (my 163) (mb 163) (sm_mi 163).2 (mr 163)) := rfl
set_option maxRecDepth 100000 in
theorem cwt_164 : lw_tbl[(mq 164).2.1]? = some (.code (my 164) (mb 164) (sm_mi 164).2 (mr 164)) := rfl
set_option maxRecDepth 100000 in
theorem cwt_165 : lw_tbl[(mq 165).2.1]? = some (.code (my 165) (mb 165) (sm_mi 165).2 (mr 165)) := rfl
set_option maxRecDepth 100000 in
theorem cwt_166 : lw_tbl[(mq 166).2.1]? = some (.code (my 166) (mb 166) (sm_mi 166).2 (mr 166)) := rfl
set_option maxRecDepth 100000 in
theorem cwt_167 : lw_tbl[(mq 167).2.1]? = some (.code (my 167) (mb 167) (sm_mi 167).2 (mr 167)) := rfl
theorem cwg_144 : ∀ i ∈ List.range' 144 24, lw_tbl[(mq i).2.1]? = some (.code (my i) (mb i) (sm_mi i).2 (mr i)) := by
  show ∀ i ∈ [144, 145, 146, 147, 148, 149, 150, 151, 152, 153, 154, 155, 156, 157, 158, 159, 160, 161, 162, 163, 164, 165, 166, 167], _
  exact List.forall_mem_cons.mpr ⟨cwt_144, List.forall_mem_cons.mpr ⟨cwt_145, List.forall_mem_cons.mpr ⟨cwt_146, List.forall_mem_cons.mpr ⟨cwt_147, List.forall_mem_cons.mpr ⟨cwt_148, List.forall_mem_cons.mpr ⟨cwt_149, List.forall_mem_cons.mpr ⟨cwt_150, List.forall_mem_cons.mpr ⟨cwt_151, List.forall_mem_cons.mpr ⟨cwt_152, List.forall_mem_cons.mpr ⟨cwt_153, List.forall_mem_cons.mpr ⟨cwt_154, List.forall_mem_cons.mpr ⟨cwt_155, List.forall_mem_cons.mpr ⟨cwt_156, List.forall_mem_cons.mpr ⟨cwt_157, List.forall_mem_cons.mpr ⟨cwt_158, List.forall_mem_cons.mpr ⟨cwt_159, List.forall_mem_cons.mpr ⟨cwt_160, List.forall_mem_cons.mpr ⟨cwt_161, List.forall_mem_cons.mpr ⟨cwt_162, List.forall_mem_cons.mpr ⟨cwt_163, List.forall_mem_cons.mpr ⟨cwt_164, List.forall_mem_cons.mpr ⟨cwt_165, List.forall_mem_cons.mpr ⟨cwt_166, List.forall_mem_cons.mpr ⟨cwt_167, fun _ h => absurd h List.not_mem_nil⟩⟩⟩⟩⟩⟩⟩⟩⟩⟩⟩⟩⟩⟩⟩⟩⟩⟩⟩⟩⟩⟩⟩⟩
theorem lkwg_144 : (List.range' 144 24).all (fun i => Nat.beq i 311 || (Nat.beq i 312 || (Nat.beq i 313 || lkw i))) = true := by decide +kernel
set_option maxRecDepth 100000 in
theorem cwt_168 : lw_tbl[(mq 168).2.1]? = some (.code (my 168) (mb 168) (sm_mi 168).2 (mr 168)) := rfl
set_option maxRecDepth 100000 in
theorem cwt_169 : lw_tbl[(mq 169).2.1]? = some (.code (my 169) (mb 169) (sm_mi 169).2 (mr 169)) := rfl
set_option maxRecDepth 100000 in
theorem cwt_170 : lw_tbl[(mq 170).2.1]? = some (.code (my 170) (mb 170) (sm_mi 170).2 (mr 170)) := rfl
set_option maxRecDepth 100000 in
theorem cwt_171 : lw_tbl[(mq 171).2.1]? = some (.code (my 171) (mb 171) (sm_mi 171).2 (mr 171)) := rfl
set_option maxRecDepth 100000 in
theorem cwt_172 : lw_tbl[(mq 172).2.1]? = some (.code (my 172) (mb 172) (sm_mi 172).2 (mr 172)) := rfl
set_option maxRecDepth 100000 in
theorem cwt_173 : lw_tbl[(mq 173).2.1]? = some (.code (my 173) (mb 173) (sm_mi 173).2 (mr 173)) := rfl
set_option maxRecDepth 100000 in
theorem cwt_174 : lw_tbl[(mq 174).2.1]? = some (.code (my 174) (mb 174) (sm_mi 174).2 (mr 174)) := rfl
set_option maxRecDepth 100000 in
theorem cwt_175 : lw_tbl[(mq 175).2.1]? = some (.code (my 175) (mb 175) (sm_mi 175).2 (mr 175)) := rfl
set_option maxRecDepth 100000 in
theorem cwt_176 : lw_tbl[(mq 176).2.1]? = some (.code (my 176) (mb 176) (sm_mi 176).2 (mr 176)) := rfl
set_option maxRecDepth 100000 in
theorem cwt_177 : lw_tbl[(mq 177).2.1]? = some (.code (my 177) (mb 177) (sm_mi 177).2 (mr 177)) := rfl
set_option maxRecDepth 100000 in
theorem cwt_178 : lw_tbl[(mq 178).2.1]? = some (.code (my 178) (mb 178) (sm_mi 178).2 (mr 178)) := rfl
set_option maxRecDepth 100000 in
theorem cwt_179 : lw_tbl[(mq 179).2.1]? = some (.code (my 179) (mb 179) (sm_mi 179).2 (mr 179)) := rfl
set_option maxRecDepth 100000 in
theorem cwt_180 : lw_tbl[(mq 180).2.1]? = some (.code (my 180) (mb 180) (sm_mi 180).2 (mr 180)) := rfl
set_option maxRecDepth 100000 in
theorem cwt_181 : lw_tbl[(mq 181).2.1]? = some (.code (my 181) (mb 181) (sm_mi 181).2 (mr 181)) := rfl
set_option maxRecDepth 100000 in
theorem cwt_182 : lw_tbl[(mq 182).2.1]? = some (.code (my 182) (mb 182) (sm_mi 182).2 (mr 182)) := rfl
set_option maxRecDepth 100000 in
theorem cwt_183 : lw_tbl[(mq 183).2.1]? = some (.code (my 183) (mb 183) (sm_mi 183).2 (mr 183)) := rfl
set_option maxRecDepth 100000 in
theorem cwt_184 : lw_tbl[(mq 184).2.1]? = some (.code (my 184) (mb 184) (sm_mi 184).2 (mr 184)) := rfl
set_option maxRecDepth 100000 in
theorem cwt_185 : lw_tbl[(mq 185).2.1]? = some (.code (my 185) (mb 185) (sm_mi 185).2 (mr 185)) := rfl
set_option maxRecDepth 100000 in
theorem cwt_186 : lw_tbl[(mq 186).2.1]? = some (.code (my 186) (mb 186) (sm_mi 186).2 (mr 186)) := rfl
set_option maxRecDepth 100000 in
theorem cwt_187 : lw_tbl[(mq 187).2.1]? = some (.code (my 187) (mb 187) (sm_mi 187).2 (mr 187)) := rfl
set_option maxRecDepth 100000 in
theorem cwt_188 : lw_tbl[(mq 188).2.1]? = some (.code (my 188) (mb 188) (sm_mi 188).2 (mr 188)) := rfl
set_option maxRecDepth 100000 in
theorem cwt_189 : lw_tbl[(mq 189).2.1]? = some (.code (my 189) (mb 189) (sm_mi 189).2 (mr 189)) := rfl
set_option maxRecDepth 100000 in
theorem cwt_190 : lw_tbl[(mq 190).2.1]? = some (.code (my 190) (mb 190) (sm_mi 190).2 (mr 190)) := rfl
set_option maxRecDepth 100000 in
theorem cwt_191 : lw_tbl[(mq 191).2.1]? = some (.code (my 191) (mb 191) (sm_mi 191).2 (mr 191)) := rfl
theorem cwg_168 : ∀ i ∈ List.range' 168 24, lw_tbl[(mq i).2.1]? = some (.code (my i) (mb i) (sm_mi i).2 (mr i)) := by
  show ∀ i ∈ [168, 169, 170, 171, 172, 173, 174, 175, 176, 177, 178, 179, 180, 181, 182, 183, 184, 185, 186, 187, 188, 189, 190, 191], _
  exact List.forall_mem_cons.mpr ⟨cwt_168, List.forall_mem_cons.mpr ⟨cwt_169, List.forall_mem_cons.mpr ⟨cwt_170, List.forall_mem_cons.mpr ⟨cwt_171, List.forall_mem_cons.mpr ⟨cwt_172, List.forall_mem_cons.mpr ⟨cwt_173, List.forall_mem_cons.mpr ⟨cwt_174, List.forall_mem_cons.mpr ⟨cwt_175, List.forall_mem_cons.mpr ⟨cwt_176, List.forall_mem_cons.mpr ⟨cwt_177, List.forall_mem_cons.mpr ⟨cwt_178, List.forall_mem_cons.mpr ⟨cwt_179, List.forall_mem_cons.mpr ⟨cwt_180, List.forall_mem_cons.mpr ⟨cwt_181, List.forall_mem_cons.mpr ⟨cwt_182, List.forall_mem_cons.mpr ⟨cwt_183, List.forall_mem_cons.mpr ⟨cwt_184, List.forall_mem_cons.mpr ⟨cwt_185, List.forall_mem_cons.mpr ⟨cwt_186, List.forall_mem_cons.mpr ⟨cwt_187, List.forall_mem_cons.mpr ⟨cwt_188, List.forall_mem_cons.mpr ⟨cwt_189, List.forall_mem_cons.mpr ⟨cwt_190, List.forall_mem_cons.mpr ⟨cwt_191, fun _ h => absurd h List.not_mem_nil⟩⟩⟩⟩⟩⟩⟩⟩⟩⟩⟩⟩⟩⟩⟩⟩⟩⟩⟩⟩⟩⟩⟩⟩
theorem lkwg_168 : (List.range' 168 24).all (fun i => Nat.beq i 311 || (Nat.beq i 312 || (Nat.beq i 313 || lkw i))) = true := by decide +kernel
set_option maxRecDepth 100000 in
theorem cwt_192 : lw_tbl[(mq 192).2.1]? = some (.code (my 192) (mb 192) (sm_mi 192).2 (mr 192)) := rfl
set_option maxRecDepth 100000 in
theorem cwt_193 : lw_tbl[(mq 193).2.1]? = some (.code (my 193) (mb 193) (sm_mi 193).2 (mr 193)) := rfl
set_option maxRecDepth 100000 in
theorem cwt_194 : lw_tbl[(mq 194).2.1]? = some (.code (my 194) (mb 194) (sm_mi 194).2 (mr 194)) := rfl
set_option maxRecDepth 100000 in
theorem cwt_195 : lw_tbl[(mq 195).2.1]? = some (.code (my 195) (mb 195) (sm_mi 195).2 (mr 195)) := rfl
set_option maxRecDepth 100000 in
theorem cwt_196 : lw_tbl[(mq 196).2.1]? = some (.code (my 196) (mb 196) (sm_mi 196).2 (mr 196)) := rfl
set_option maxRecDepth 100000 in
theorem cwt_197 : lw_tbl[(mq 197).2.1]? = some (.code (my 197) (mb 197) (sm_mi 197).2 (mr 197)) := rfl
set_option maxRecDepth 100000 in
theorem cwt_198 : lw_tbl[(mq 198).2.1]? = some (.code (my 198) (mb 198) (sm_mi 198).2 (mr 198)) := rfl
set_option maxRecDepth 100000 in
theorem cwt_199 : lw_tbl[(mq 199).2.1]? = some (.code (my 199) (mb 199) (sm_mi 199).2 (mr 199)) := rfl
set_option maxRecDepth 100000 in
theorem cwt_200 : lw_tbl[(mq 200).2.1]? = some (.code (my 200) (mb 200) (sm_mi 200).2 (mr 200)) := rfl
set_option maxRecDepth 100000 in
theorem cwt_201 : lw_tbl[(mq 201).2.1]? = some (.code (my 201) (mb 201) (sm_mi 201).2 (mr 201)) := rfl
set_option maxRecDepth 100000 in
theorem cwt_202 : lw_tbl[(mq 202).2.1]? = some (.code (my 202) (mb 202) (sm_mi 202).2 (mr 202)) := rfl
set_option maxRecDepth 100000 in
theorem cwt_203 : lw_tbl[(mq 203).2.1]? = some (.code (my 203) (mb 203) (sm_mi 203).2 (mr 203)) := rfl
set_option maxRecDepth 100000 in
theorem cwt_204 : lw_tbl[(mq 204).2.1]? = some (.code (my 204) (mb 204) (sm_mi 204).2 (mr 204)) := rfl
set_option maxRecDepth 100000 in
theorem cwt_205 : lw_tbl[(mq 205).2.1]? = some (.code (my 205) (mb 205) (sm_mi 205).2 (mr 205)) := rfl
set_option maxRecDepth 100000 in
theorem cwt_206 : lw_tbl[(mq 206).2.1]? = some (.code (my 206) (mb 206) (sm_mi 206).2 (mr 206)) := rfl
set_option maxRecDepth 100000 in
theorem cwt_207 : lw_tbl[(mq 207).2.1]? = some (.code (my 207) (mb 207) (sm_mi 207).2 (mr 207)) := rfl
set_option maxRecDepth 100000 in
theorem cwt_208 : lw_tbl[(mq 208).2.1]? = some (.code (my 208) (mb 208) (sm_mi 208).2 (mr 208)) := rfl
set_option maxRecDepth 100000 in
theorem cwt_209 : lw_tbl[(mq 209).2.1]? = some (.code (my 209) (mb 209) (sm_mi 209).2 (mr 209)) := rfl
set_option maxRecDepth 100000 in
theorem cwt_210 : lw_tbl[(mq 210).2.1]? = some (.code (my 210) (mb 210) (sm_mi 210).2 (mr 210)) := rfl
set_option maxRecDepth 100000 in
theorem cwt_211 : lw_tbl[(mq 211).2.1]? = some (.code (my 211) (mb 211) (sm_mi 211).2 (mr 211)) := rfl
set_option maxRecDepth 100000 in
theorem cwt_212 : lw_tbl[(mq 212).2.1]? = some (.code (my 212) (mb 212) (sm_mi 212).2 (mr 212)) := rfl
set_option maxRecDepth 100000 in
theorem cwt_213 : lw_tbl[(mq 213).2.1]? = some (.code (my 213) (mb 213) (sm_mi 213).2 (mr 213)) := rfl
set_option maxRecDepth 100000 in
theorem cwt_214 : lw_tbl[(mq 214).2.1]? = some (.code (my 214) (mb 214) (sm_mi 214).2 (mr 214)) := rfl
set_option maxRecDepth 100000 in
theorem cwt_215 : lw_tbl[(mq 215).2.1]? = some (.code (my 215) (mb 215) (sm_mi 215).2 (mr 215)) := rfl
theorem cwg_192 : ∀ i ∈ List.range' 192 24, lw_tbl[(mq i).2.1]? = some (.code (my i) (mb i) (sm_mi i).2 (mr i)) := by
  show ∀ i ∈ [192, 193, 194, 195, 196, 197, 198, 199, 200, 201, 202, 203, 204, 205, 206, 207, 208, 209, 210, 211, 212, 213, 214, 215], _
  exact List.forall_mem_cons.mpr ⟨cwt_192, List.forall_mem_cons.mpr ⟨cwt_193, List.forall_mem_cons.mpr ⟨cwt_194, List.forall_mem_cons.mpr ⟨cwt_195, List.forall_mem_cons.mpr ⟨cwt_196, List.forall_mem_cons.mpr ⟨cwt_197, List.forall_mem_cons.mpr ⟨cwt_198, List.forall_mem_cons.mpr ⟨cwt_199, List.forall_mem_cons.mpr ⟨cwt_200, List.forall_mem_cons.mpr ⟨cwt_201, List.forall_mem_cons.mpr ⟨cwt_202, List.forall_mem_cons.mpr ⟨cwt_203, List.forall_mem_cons.mpr ⟨cwt_204, List.forall_mem_cons.mpr ⟨cwt_205, List.forall_mem_cons.mpr ⟨cwt_206, List.forall_mem_cons.mpr ⟨cwt_207, List.forall_mem_cons.mpr ⟨cwt_208, List.forall_mem_cons.mpr ⟨cwt_209, List.forall_mem_cons.mpr ⟨cwt_210, List.forall_mem_cons.mpr ⟨cwt_211, List.forall_mem_cons.mpr ⟨cwt_212, List.forall_mem_cons.mpr ⟨cwt_213, List.forall_mem_cons.mpr ⟨cwt_214, List.forall_mem_cons.mpr ⟨cwt_215, fun _ h => absurd h List.not_mem_nil⟩⟩⟩⟩⟩⟩⟩⟩⟩⟩⟩⟩⟩⟩⟩⟩⟩⟩⟩⟩⟩⟩⟩⟩
theorem lkwg_192 : (List.range' 192 24).all (fun i => Nat.beq i 311 || (Nat.beq i 312 || (Nat.beq i 313 || lkw i))) = true := by decide +kernel
set_option maxRecDepth 100000 in
theorem cwt_216 : lw_tbl[(mq 216).2.1]? = some (.code (my 216) (mb 216) (sm_mi 216).2 (mr 216)) := rfl
set_option maxRecDepth 100000 in
theorem cwt_217 : lw_tbl[(mq 217).2.1]? = some (.code (my 217) (mb 217) (sm_mi 217).2 (mr 217)) := rfl
set_option maxRecDepth 100000 in
theorem cwt_218 : lw_tbl[(mq 218).2.1]? = some (.code (my 218) (mb 218) (sm_mi 218).2 (mr 218)) := rfl
set_option maxRecDepth 100000 in
theorem cwt_219 : lw_tbl[(mq 219).2.1]? = some (.code (my 219) (mb 219) (sm_mi 219).2 (mr 219)) := rfl
set_option maxRecDepth 100000 in
theorem cwt_220 : lw_tbl[(mq 220).2.1]? = some (.code (my 220) (mb 220) (sm_mi 220).2 (mr 220)) := rfl
set_option maxRecDepth 100000 in
theorem cwt_221 : lw_tbl[(mq 221).2.1]? = some (.code (my 221) (mb 221) (sm_mi 221).2 (mr 221)) := rfl
set_option maxRecDepth 100000 in
theorem cwt_222 : lw_tbl[(mq 222).2.1]? = some (.code (my 222) (mb 222) (sm_mi 222).2 (mr 222)) := rfl
set_option maxRecDepth 100000 in
theorem cwt_223 : lw_tbl[(mq 223).2.1]? = some (.code (my 223) (mb 223) (sm_mi 223).2 (mr 223)) := rfl
set_option maxRecDepth 100000 in
theorem cwt_224 : lw_tbl[(mq 224).2.1]? = some (.code (my 224) (mb 224) (sm_mi 224).2 (mr 224)) := rfl
set_option maxRecDepth 100000 in
theorem cwt_225 : lw_tbl[(mq 225).2.1]? = some (.code (my 225) (mb 225) (sm_mi 225).2 (mr 225)) := rfl
set_option maxRecDepth 100000 in
theorem cwt_226 : lw_tbl[(mq 226).2.1]? = some (.code (my 226) (mb 226) (sm_mi 226).2 (mr 226)) := rfl
set_option maxRecDepth 100000 in
theorem cwt_227 : lw_tbl[(mq 227).2.1]? = some (.code (my 227) (mb 227) (sm_mi 227).2 (mr 227)) := rfl
set_option maxRecDepth 100000 in
theorem cwt_228 : lw_tbl[(mq 228).2.1]? = some (.code (my 228) (mb 228) (sm_mi 228).2 (mr 228)) := rfl
set_option maxRecDepth 100000 in
theorem cwt_229 : lw_tbl[(mq 229).2.1]? = some (.code (my 229) (mb 229) (sm_mi 229).2 (mr 229)) := rfl
set_option maxRecDepth 100000 in
theorem cwt_230 : lw_tbl[(mq 230).2.1]? = some (.code (my 230) (mb 230) (sm_mi 230).2 (mr 230)) := rfl
set_option maxRecDepth 100000 in
theorem cwt_231 : lw_tbl[(mq 231).2.1]? = some (.code (my 231) (mb 231) (sm_mi 231).2 (mr 231)) := rfl
set_option maxRecDepth 100000 in
theorem cwt_232 : lw_tbl[(mq 232).2.1]? = some (.code (my 232) (mb 232) (sm_mi 232).2 (mr 232)) := rfl
set_option maxRecDepth 100000 in
theorem cwt_233 : lw_tbl[(mq 233).2.1]? = some (.code (my 233) (mb 233) (sm_mi 233).2 (mr 233)) := rfl
set_option maxRecDepth 100000 in
theorem cwt_234 : lw_tbl[(mq 234).2.1]? = some (.code (my 234) (mb 234) (sm_mi 234).2 (mr 234)) := rfl
set_option maxRecDepth 100000 in
theorem cwt_235 : lw_tbl[(mq 235).2.1]? = some (.code (my 235) (mb 235) (sm_mi 235).2 (mr 235)) := rfl
set_option maxRecDepth 100000 in
theorem cwt_236 : lw_tbl[(mq 236).2.1]? = some (.code (my 236) (mb 236) (sm_mi 236).2 (mr 236)) := rfl
set_option maxRecDepth 100000 in
theorem cwt_237 : lw_tbl[(mq 237).2.1]? = some (.code (my 237) (mb 237) (sm_mi 237).2 (mr 237)) := rfl
set_option maxRecDepth 100000 in
theorem cwt_238 : lw_tbl[(mq 238).2.1]? = some (.code (my 238) (mb 238) (sm_mi 238).2 (mr 238)) := rfl
set_option maxRecDepth 100000 in
theorem cwt_239 : lw_tbl[(mq 239).2.1]? = some (.code (my 239) (mb 239) (sm_mi 239).2 (mr 239)) := rfl
theorem cwg_216 : ∀ i ∈ List.range' 216 24, lw_tbl[(mq i).2.1]? = some (.code (my i) (mb i) (sm_mi i).2 (mr i)) := by
  show ∀ i ∈ [216, 217, 218, 219, 220, 221, 222, 223, 224, 225, 226, 227, 228, 229, 230, 231, 232, 233, 234, 235, 236, 237, 238, 239], _
  exact List.forall_mem_cons.mpr ⟨cwt_216, List.forall_mem_cons.mpr ⟨cwt_217, List.forall_mem_cons.mpr ⟨cwt_218, List.forall_mem_cons.mpr ⟨cwt_219, List.forall_mem_cons.mpr ⟨cwt_220, List.forall_mem_cons.mpr ⟨cwt_221, List.forall_mem_cons.mpr ⟨cwt_222, List.forall_mem_cons.mpr ⟨cwt_223, List.forall_mem_cons.mpr ⟨cwt_224, List.forall_mem_cons.mpr ⟨cwt_225, List.forall_mem_cons.mpr ⟨cwt_226, List.forall_mem_cons.mpr ⟨cwt_227, List.forall_mem_cons.mpr ⟨cwt_228, List.forall_mem_cons.mpr ⟨cwt_229, List.forall_mem_cons.mpr ⟨cwt_230, List.forall_mem_cons.mpr ⟨cwt_231, List.forall_mem_cons.mpr ⟨cwt_232, List.forall_mem_cons.mpr ⟨cwt_233, List.forall_mem_cons.mpr ⟨cwt_234, List.forall_mem_cons.mpr ⟨cwt_235, List.forall_mem_cons.mpr ⟨cwt_236, List.forall_mem_cons.mpr ⟨cwt_237, List.forall_mem_cons.mpr ⟨cwt_238, List.forall_mem_cons.mpr ⟨cwt_239, fun _ h => absurd h List.not_mem_nil⟩⟩⟩⟩⟩⟩⟩⟩⟩⟩⟩⟩⟩⟩⟩⟩⟩⟩⟩⟩⟩⟩⟩⟩
theorem lkwg_216 : (List.range' 216 24).all (fun i => Nat.beq i 311 || (Nat.beq i 312 || (Nat.beq i 313 || lkw i))) = true := by decide +kernel
set_option maxRecDepth 100000 in
theorem cwt_240 : lw_tbl[(mq 240).2.1]? = some (.code (my 240) (mb 240) (sm_mi 240).2 (mr 240)) := rfl
set_option maxRecDepth 100000 in
theorem cwt_241 : lw_tbl[(mq 241).2.1]? = some (.code (my 241) (mb 241) (sm_mi 241).2 (mr 241)) := rfl
set_option maxRecDepth 100000 in
theorem cwt_242 : lw_tbl[(mq 242).2.1]? = some (.code (my 242) (mb 242) (sm_mi 242).2 (mr 242)) := rfl
set_option maxRecDepth 100000 in
theorem cwt_243 : lw_tbl[(mq 243).2.1]? = some (.code (my 243) (mb 243) (sm_mi 243).2 (mr 243)) := rfl
set_option maxRecDepth 100000 in
theorem cwt_244 : lw_tbl[(mq 244).2.1]? = some (.code (my 244) (mb 244) (sm_mi 244).2 (mr 244)) := rfl
set_option maxRecDepth 100000 in
theorem cwt_245 : lw_tbl[(mq 245).2.1]? = some (.code (my 245) (mb 245) (sm_mi 245).2 (mr 245)) := rfl
set_option maxRecDepth 100000 in
theorem cwt_246 : lw_tbl[(mq 246).2.1]? = some (.code (my 246) (mb 246) (sm_mi 246).2 (mr 246)) := rfl
set_option maxRecDepth 100000 in
theorem cwt_247 : lw_tbl[(mq 247).2.1]? = some (.code (my 247) (mb 247) (sm_mi 247).2 (mr 247)) := rfl
set_option maxRecDepth 100000 in
theorem cwt_248 : lw_tbl[(mq 248).2.1]? = some (.code (my 248) (mb 248) (sm_mi 248).2 (mr 248)) := rfl
set_option maxRecDepth 100000 in
theorem cwt_249 : lw_tbl[(mq 249).2.1]? = some (.code (my 249) (mb 249) (sm_mi 249).2 (mr 249)) := rfl
set_option maxRecDepth 100000 in
theorem cwt_250 : lw_tbl[(mq 250).2.1]? = some (.code (my 250) (mb 250) (sm_mi 250).2 (mr 250)) := rfl
set_option maxRecDepth 100000 in
theorem cwt_251 : lw_tbl[(mq 251).2.1]? = some (.code (my 251) (mb 251) (sm_mi 251).2 (mr 251)) := rfl
set_option maxRecDepth 100000 in
theorem cwt_252 : lw_tbl[(mq 252).2.1]? = some (.code (my 252) (mb 252) (sm_mi 252).2 (mr 252)) := rfl
set_option maxRecDepth 100000 in
theorem cwt_253 : lw_tbl[(mq 253).2.1]? = some (.code (my 253) (mb 253) (sm_mi 253).2 (mr 253)) := rfl
set_option maxRecDepth 100000 in
theorem cwt_254 : lw_tbl[(mq 254).2.1]? = some (.code (my 254) (mb 254) (sm_mi 254).2 (mr 254)) := rfl
set_option maxRecDepth 100000 in
theorem cwt_255 : lw_tbl[(mq 255).2.1]? = some (.code (my 255) (mb 255) (sm_mi 255).2 (mr 255)) := rfl
set_option maxRecDepth 100000 in
theorem cwt_256 : lw_tbl[(mq 256).2.1]? = some (.code (my 256) (mb 256) (sm_mi 256).2 (mr 256)) := rfl
set_option maxRecDepth 100000 in
theorem cwt_257 : lw_tbl[(mq 257).2.1]? = some (.code (my 257) (mb 257) (sm_mi 257).2 (mr 257)) := rfl
set_option maxRecDepth 100000 in
theorem cwt_258 : lw_tbl[(mq 258).2.1]? = some (.code (my 258) (mb 258) (sm_mi 258).2 (mr 258)) := rfl
set_option maxRecDepth 100000 in
theorem cwt_259 : lw_tbl[(mq 259).2.1]? = some (.code (my 259) (mb 259) (sm_mi 259).2 (mr 259)) := rfl
set_option maxRecDepth 100000 in
theorem cwt_260 : lw_tbl[(mq 260).2.1]? = some (.code (my 260) (mb 260) (sm_mi 260).2 (mr 260)) := rfl
set_option maxRecDepth 100000 in
theorem cwt_261 : lw_tbl[(mq 261).2.1]? = some (.code (my 261) (mb 261) (sm_mi 261).2 (mr 261)) := rfl
set_option maxRecDepth 100000 in
theorem cwt_262 : lw_tbl[(mq 262).2.1]? = some (.code (my 262) (mb 262) (sm_mi 262).2 (mr 262)) := rfl
set_option maxRecDepth 100000 in
theorem cwt_263 : lw_tbl[(mq 263).2.1]? = some (.code (my 263) (mb 263) (sm_mi 263).2 (mr 263)) := rfl
theorem cwg_240 : ∀ i ∈ List.range' 240 24, lw_tbl[(mq i).2.1]? = some (.code (my i) (mb i) (sm_mi i).2 (mr i)) := by
  show ∀ i ∈ [240, 241, 242, 243, 244, 245, 246, 247, 248, 249, 250, 251, 252, 253, 254, 255, 256, 257, 258, 259, 260, 261, 262, 263], _
  exact List.forall_mem_cons.mpr ⟨cwt_240, List.forall_mem_cons.mpr ⟨cwt_241, List.forall_mem_cons.mpr ⟨cwt_242, List.forall_mem_cons.mpr ⟨cwt_243, List.forall_mem_cons.mpr ⟨cwt_244, List.forall_mem_cons.mpr ⟨cwt_245, List.forall_mem_cons.mpr ⟨cwt_246, List.forall_mem_cons.mpr ⟨cwt_247, List.forall_mem_cons.mpr ⟨cwt_248, List.forall_mem_cons.mpr ⟨cwt_249, List.forall_mem_cons.mpr ⟨cwt_250, List.forall_mem_cons.mpr ⟨cwt_251, List.forall_mem_cons.mpr ⟨cwt_252, List.forall_mem_cons.mpr ⟨cwt_253, List.forall_mem_cons.mpr ⟨cwt_254, List.forall_mem_cons.mpr ⟨cwt_255, List.forall_mem_cons.mpr ⟨cwt_256, List.forall_mem_cons.mpr ⟨cwt_257, List.forall_mem_cons.mpr ⟨cwt_258, List.forall_mem_cons.mpr ⟨cwt_259, List.forall_mem_cons.mpr ⟨cwt_260, List.forall_mem_cons.mpr ⟨cwt_261, List.forall_mem_cons.mpr ⟨cwt_262, List.forall_mem_cons.mpr ⟨cwt_263, fun _ h => absurd h List.not_mem_nil⟩⟩⟩⟩⟩⟩⟩⟩⟩⟩⟩⟩⟩⟩⟩⟩⟩⟩⟩⟩⟩⟩⟩⟩
theorem lkwg_240 : (List.range' 240 24).all (fun i => Nat.beq i 311 || (Nat.beq i 312 || (Nat.beq i 313 || lkw i))) = true := by decide +kernel
set_option maxRecDepth 100000 in
theorem cwt_264 : lw_tbl[(mq 264).2.1]? = some (.code (my 264) (mb 264) (sm_mi 264).2 (mr 264)) := rfl
set_option maxRecDepth 100000 in
theorem cwt_265 : lw_tbl[(mq 265).2.1]? = some (.code (my 265) (mb 265) (sm_mi 265).2 (mr 265)) := rfl
set_option maxRecDepth 100000 in
theorem cwt_266 : lw_tbl[(mq 266).2.1]? = some (.code (my 266) (mb 266) (sm_mi 266).2 (mr 266)) := rfl
set_option maxRecDepth 100000 in
theorem cwt_267 : lw_tbl[(mq 267).2.1]? = some (.code (my 267) (mb 267) (sm_mi 267).2 (mr 267)) := rfl
set_option maxRecDepth 100000 in
theorem cwt_268 : lw_tbl[(mq 268).2.1]? = some (.code (my 268) (mb 268) (sm_mi 268).2 (mr 268)) := rfl
set_option maxRecDepth 100000 in
theorem cwt_269 : lw_tbl[(mq 269).2.1]? = some (.code (my 269) (mb 269) (sm_mi 269).2 (mr 269)) := rfl
set_option maxRecDepth 100000 in
theorem cwt_270 : lw_tbl[(mq 270).2.1]? = some (.code (my 270) (mb 270) (sm_mi 270).2 (mr 270)) := rfl
set_option maxRecDepth 100000 in
theorem cwt_271 : lw_tbl[(mq 271).2.1]? = some (.code (my 271) (mb 271) (sm_mi 271).2 (mr 271)) := rfl
set_option maxRecDepth 100000 in
theorem cwt_272 : lw_tbl[(mq 272).2.1]? = some (.code (my 272) (mb 272) (sm_mi 272).2 (mr 272)) := rfl
set_option maxRecDepth 100000 in
theorem cwt_273 : lw_tbl[(mq 273).2.1]? = some (.code (my 273) (mb 273) (sm_mi 273).2 (mr 273)) := rfl
set_option maxRecDepth 100000 in
theorem cwt_274 : lw_tbl[(mq 274).2.1]? = some (.code (my 274) (mb 274) (sm_mi 274).2 (mr 274)) := rfl
set_option maxRecDepth 100000 in
theorem cwt_275 : lw_tbl[(mq 275).2.1]? = some (.code (my 275) (mb 275) (sm_mi 275).2 (mr 275)) := rfl
set_option maxRecDepth 100000 in
theorem cwt_276 : lw_tbl[(mq 276).2.1]? = some (.code (my 276) (mb 276) (sm_mi 276).2 (mr 276)) := rfl
set_option maxRecDepth 100000 in
theorem cwt_277 : lw_tbl[(mq 277).2.1]? = some (.code (my 277) (mb 277) (sm_mi 277).2 (mr 277)) := rfl
set_option maxRecDepth 100000 in
theorem cwt_278 : lw_tbl[(mq 278).2.1]? = some (.code (my 278) (mb 278) (sm_mi 278).2 (mr 278)) := rfl
set_option maxRecDepth 100000 in
theorem cwt_279 : lw_tbl[(mq 279).2.1]? = some (.code (my 279) (mb 279) (sm_mi 279).2 (mr 279)) := rfl
set_option maxRecDepth 100000 in
theorem cwt_280 : lw_tbl[(mq 280).2.1]? = some (.code (my 280) (mb 280) (sm_mi 280).2 (mr 280)) := rfl
set_option maxRecDepth 100000 in
theorem cwt_281 : lw_tbl[(mq 281).2.1]? = some (.code (my 281) (mb 281) (sm_mi 281).2 (mr 281)) := rfl
set_option maxRecDepth 100000 in
theorem cwt_282 : lw_tbl[(mq 282).2.1]? = some (.code (my 282) (mb 282) (sm_mi 282).2 (mr 282)) := rfl
set_option maxRecDepth 100000 in
theorem cwt_283 : lw_tbl[(mq 283).2.1]? = some (.code (my 283) (mb 283) (sm_mi 283).2 (mr 283)) := rfl
set_option maxRecDepth 100000 in
theorem cwt_284 : lw_tbl[(mq 284).2.1]? = some (.code (my 284) (mb 284) (sm_mi 284).2 (mr 284)) := rfl
set_option maxRecDepth 100000 in
theorem cwt_285 : lw_tbl[(mq 285).2.1]? = some (.code (my 285) (mb 285) (sm_mi 285).2 (mr 285)) := rfl
set_option maxRecDepth 100000 in
theorem cwt_286 : lw_tbl[(mq 286).2.1]? = some (.code (my 286) (mb 286) (sm_mi 286).2 (mr 286)) := rfl
set_option maxRecDepth 100000 in
theorem cwt_287 : lw_tbl[(mq 287).2.1]? = some (.code (my 287) (mb 287) (sm_mi 287).2 (mr 287)) := rfl
theorem cwg_264 : ∀ i ∈ List.range' 264 24, lw_tbl[(mq i).2.1]? = some (.code (my i) (mb i) (sm_mi i).2 (mr i)) := by
  show ∀ i ∈ [264, 265, 266, 267, 268, 269, 270, 271, 272, 273, 274, 275, 276, 277, 278, 279, 280, 281, 282, 283, 284, 285, 286, 287], _
  exact List.forall_mem_cons.mpr ⟨cwt_264, List.forall_mem_cons.mpr ⟨cwt_265, List.forall_mem_cons.mpr ⟨cwt_266, List.forall_mem_cons.mpr ⟨cwt_267, List.forall_mem_cons.mpr ⟨cwt_268, List.forall_mem_cons.mpr ⟨cwt_269, List.forall_mem_cons.mpr ⟨cwt_270, List.forall_mem_cons.mpr ⟨cwt_271, List.forall_mem_cons.mpr ⟨cwt_272, List.forall_mem_cons.mpr ⟨cwt_273, List.forall_mem_cons.mpr ⟨cwt_274, List.forall_mem_cons.mpr ⟨cwt_275, List.forall_mem_cons.mpr ⟨cwt_276, List.forall_mem_cons.mpr ⟨cwt_277, List.forall_mem_cons.mpr ⟨cwt_278, List.forall_mem_cons.mpr ⟨cwt_279, List.forall_mem_cons.mpr ⟨cwt_280, List.forall_mem_cons.mpr ⟨cwt_281, List.forall_mem_cons.mpr ⟨cwt_282, List.forall_mem_cons.mpr ⟨cwt_283, List.forall_mem_cons.mpr ⟨cwt_284, List.forall_mem_cons.mpr ⟨cwt_285, List.forall_mem_cons.mpr ⟨cwt_286, List.forall_mem_cons.mpr ⟨cwt_287, fun _ h => absurd h List.not_mem_nil⟩⟩⟩⟩⟩⟩⟩⟩⟩⟩⟩⟩⟩⟩⟩⟩⟩⟩⟩⟩⟩⟩⟩⟩
theorem lkwg_264 : (List.range' 264 24).all (fun i => Nat.beq i 311 || (Nat.beq i 312 || (Nat.beq i 313 || lkw i))) = true := by decide +kernel
set_option maxRecDepth 100000 in
theorem cwt_288 : lw_tbl[(mq 288).2.1]? = some (.code (my 288) (mb 288) (sm_mi 288).2 (mr 288)) := rfl
set_option maxRecDepth 100000 in
theorem cwt_289 : lw_tbl[(mq 289).2.1]? = some (.code (my 289) (mb 289) (sm_mi 289).2 (mr 289)) := rfl
set_option maxRecDepth 100000 in
theorem cwt_290 : lw_tbl[(mq 290).2.1]? = some (.code (my 290) (mb 290) (sm_mi 290).2 (mr 290)) := rfl
set_option maxRecDepth 100000 in
theorem cwt_291 : lw_tbl[(mq 291).2.1]? = some (.code (my 291) (mb 291) (sm_mi 291).2 (mr 291)) := rfl
set_option maxRecDepth 100000 in
theorem cwt_292 : lw_tbl[(mq 292).2.1]? = some (.code (my 292) (mb 292) (sm_mi 292).2 (mr 292)) := rfl
set_option maxRecDepth 100000 in
theorem cwt_293 : lw_tbl[(mq 293).2.1]? = some (.code (my 293) (mb 293) (sm_mi 293).2 (mr 293)) := rfl
set_option maxRecDepth 100000 in
theorem cwt_294 : lw_tbl[(mq 294).2.1]? = some (.code (my 294) (mb 294) (sm_mi 294).2 (mr 294)) := rfl
set_option maxRecDepth 100000 in
theorem cwt_295 : lw_tbl[(mq 295).2.1]? = some (.code (my 295) (mb 295) (sm_mi 295).2 (mr 295)) := rfl
set_option maxRecDepth 100000 in
theorem cwt_296 : lw_tbl[(mq 296).2.1]? = some (.code (my 296) (mb 296) (sm_mi 296).2 (mr 296)) := rfl
set_option maxRecDepth 100000 in
theorem cwt_297 : lw_tbl[(mq 297).2.1]? = some (.code (my 297) (mb 297) (sm_mi 297).2 (mr 297)) := rfl
set_option maxRecDepth 100000 in
theorem cwt_298 : lw_tbl[(mq 298).2.1]? = some (.code (my 298) (mb 298) (sm_mi 298).2 (mr 298)) := rfl
set_option maxRecDepth 100000 in
theorem cwt_299 : lw_tbl[(mq 299).2.1]? = some (.code (my 299) (mb 299) (sm_mi 299).2 (mr 299)) := rfl
set_option maxRecDepth 100000 in
theorem cwt_300 : lw_tbl[(mq 300).2.1]? = some (.code (my 300) (mb 300) (sm_mi 300).2 (mr 300)) := rfl
set_option maxRecDepth 100000 in
theorem cwt_301 : lw_tbl[(mq 301).2.1]? = some (.code (my 301) (mb 301) (sm_mi 301).2 (mr 301)) := rfl
set_option maxRecDepth 100000 in
theorem cwt_302 : lw_tbl[(mq 302).2.1]? = some (.code (my 302) (mb 302) (sm_mi 302).2 (mr 302)) := rfl
set_option maxRecDepth 100000 in
theorem cwt_303 : lw_tbl[(mq 303).2.1]? = some (.code (my 303) (mb 303) (sm_mi 303).2 (mr 303)) := rfl
set_option maxRecDepth 100000 in
theorem cwt_304 : lw_tbl[(mq 304).2.1]? = some (.code (my 304) (mb 304) (sm_mi 304).2 (mr 304)) := rfl
set_option maxRecDepth 100000 in
theorem cwt_305 : lw_tbl[(mq 305).2.1]? = some (.code (my 305) (mb 305) (sm_mi 305).2 (mr 305)) := rfl
set_option maxRecDepth 100000 in
theorem cwt_306 : lw_tbl[(mq 306).2.1]? = some (.code (my 306) (mb 306) (sm_mi 306).2 (mr 306)) := rfl
set_option maxRecDepth 100000 in
theorem cwt_307 : lw_tbl[(mq 307).2.1]? = some (.code (my 307) (mb 307) (sm_mi 307).2 (mr 307)) := rfl
set_option maxRecDepth 100000 in
theorem cwt_308 : lw_tbl[(mq 308).2.1]? = some (.code (my 308) (mb 308) (sm_mi 308).2 (mr 308)) := rfl
set_option maxRecDepth 100000 in
theorem cwt_309 : lw_tbl[(mq 309).2.1]? = some (.code (my 309) (mb 309) (sm_mi 309).2 (mr 309)) := rfl
set_option maxRecDepth 100000 in
theorem cwt_310 : lw_tbl[(mq 310).2.1]? = some (.code (my 310) (mb 310) (sm_mi 310).2 (mr 310)) := rfl
set_option maxRecDepth 100000 in
theorem cwt_311 : lw_tbl[(mq 311).2.1]? = some (.code (my 311) (mb 311) (sm_mi 311).2 (mr 311)) := rfl
theorem cwg_288 : ∀ i ∈ List.range' 288 24, lw_tbl[(mq i).2.1]? = some (.code (my i) (mb i) (sm_mi i).2 (mr i)) := by
  show ∀ i ∈ [288, 289, 290, 291, 292, 293, 294, 295, 296, 297, 298, 299, 300, 301, 302, 303, 304, 305, 306, 307, 308, 309, 310, 311], _
  exact List.forall_mem_cons.mpr ⟨cwt_288, List.forall_mem_cons.mpr ⟨cwt_289, List.forall_mem_cons.mpr ⟨cwt_290, List.forall_mem_cons.mpr ⟨cwt_291, List.forall_mem_cons.mpr ⟨cwt_292, List.forall_mem_cons.mpr ⟨cwt_293, List.forall_mem_cons.mpr ⟨cwt_294, List.forall_mem_cons.mpr ⟨cwt_295, List.forall_mem_cons.mpr ⟨cwt_296, List.forall_mem_cons.mpr ⟨cwt_297, List.forall_mem_cons.mpr ⟨cwt_298, List.forall_mem_cons.mpr ⟨cwt_299, List.forall_mem_cons.mpr ⟨cwt_300, List.forall_mem_cons.mpr ⟨cwt_301, List.forall_mem_cons.mpr ⟨cwt_302, List.forall_mem_cons.mpr ⟨cwt_303, List.forall_mem_cons.mpr ⟨cwt_304, List.forall_mem_cons.mpr ⟨cwt_305, List.forall_mem_cons.mpr ⟨cwt_306, List.forall_mem_cons.mpr ⟨cwt_307, List.forall_mem_cons.mpr ⟨cwt_308, List.forall_mem_cons.mpr ⟨cwt_309, List.forall_mem_cons.mpr ⟨cwt_310, List.forall_mem_cons.mpr ⟨cwt_311, fun _ h => absurd h List.not_mem_nil⟩⟩⟩⟩⟩⟩⟩⟩⟩⟩⟩⟩⟩⟩⟩⟩⟩⟩⟩⟩⟩⟩⟩⟩
theorem lkwg_288 : (List.range' 288 24).all (fun i => Nat.beq i 311 || (Nat.beq i 312 || (Nat.beq i 313 || lkw i))) = true := by decide +kernel
set_option maxRecDepth 100000 in
theorem cwt_312 : lw_tbl[(mq 312).2.1]? = some (.code (my 312) (mb 312) (sm_mi 312).2 (mr 312)) := rfl
set_option maxRecDepth 100000 in
theorem cwt_313 : lw_tbl[(mq 313).2.1]? = some (.code (my 313) (mb 313) (sm_mi 313).2 (mr 313)) := rfl
set_option maxRecDepth 100000 in
theorem cwt_314 : lw_tbl[(mq 314).2.1]? = some (.code (my 314) (mb 314) (sm_mi 314).2 (mr 314)) := rfl
theorem cwg_312 : ∀ i ∈ List.range' 312 3, lw_tbl[(mq i).2.1]? = some (.code (my i) (mb i) (sm_mi i).2 (mr i)) := by
  show ∀ i ∈ [312, 313, 314], _
  exact List.forall_mem_cons.mpr ⟨cwt_312, List.forall_mem_cons.mpr ⟨cwt_313, List.forall_mem_cons.mpr ⟨cwt_314, fun _ h => absurd h List.not_mem_nil⟩⟩⟩
theorem lkwg_312 : (List.range' 312 3).all (fun i => Nat.beq i 311 || (Nat.beq i 312 || (Nat.beq i 313 || lkw i))) = true := by decide +kernel
theorem cw_all : ∀ i, i < 315 → lw_tbl[(mq i).2.1]? = some (.code (my i) (mb i) (sm_mi i).2 (mr i)) := by
  intro i h
  by_cases h24 : i < 24
  · exact cwg_0 i (List.mem_range'_1.mpr ⟨by omega, by omega⟩)
  by_cases h48 : i < 48
  · exact cwg_24 i (List.mem_range'_1.mpr ⟨by omega, by omega⟩)
  by_cases h72 : i < 72
  · exact cwg_48 i (List.mem_range'_1.mpr ⟨by omega, by omega⟩)
  by_cases h96 : i < 96
  · exact cwg_72 i (List.mem_range'_1.mpr ⟨by omega, by omega⟩)
  by_cases h120 : i < 120
  · exact cwg_96 i (List.mem_range'_1.mpr ⟨by omega, by omega⟩)
  by_cases h144 : i < 144
  · exact cwg_120 i (List.mem_range'_1.mpr ⟨by omega, by omega⟩)
  by_cases h168 : i < 168
  · exact cwg_144 i (List.mem_range'_1.mpr ⟨by omega, by omega⟩)
  by_cases h192 : i < 192
  · exact cwg_168 i (List.mem_range'_1.mpr ⟨by omega, by omega⟩)
  by_cases h216 : i < 216
  · exact cwg_192 i (List.mem_range'_1.mpr ⟨by omega, by omega⟩)
  by_cases h240 : i < 240
  · exact cwg_216 i (List.mem_range'_1.mpr ⟨by omega, by omega⟩)
  by_cases h264 : i < 264
  · exact cwg_240 i (List.mem_range'_1.mpr ⟨by omega, by omega⟩)
  by_cases h288 : i < 288
  · exact cwg_264 i (List.mem_range'_1.mpr ⟨by omega, by omega⟩)
  by_cases h312 : i < 312
  · exact cwg_288 i (List.mem_range'_1.mpr ⟨by omega, by omega⟩)
  exact cwg_312 i (List.mem_range'_1.mpr ⟨by omega, by omega⟩)
theorem lkw_of {l : List Nat} {i : Nat} (h : l.all (fun i => Nat.beq i 311 || (Nat.beq i 312 || (Nat.beq i 313 || lkw i))) = true) (hi : i ∈ l) (hn : i < 311 ∨ i = 314) : lkw i = true := by
  have h := List.all_eq_true.mp h i hi
  simp only [Bool.or_eq_true] at h
  rcases h with h | h | h | h
  · have := Nat.eq_of_beq_eq_true h; omega
  · have := Nat.eq_of_beq_eq_true h; omega
  · have := Nat.eq_of_beq_eq_true h; omega
  · exact h
theorem lkw_all : ∀ i, i < 315 → (i < 311 ∨ i = 314) → lkw i = true := by
  intro i h hn
  by_cases h24 : i < 24
  · exact lkw_of lkwg_0 (List.mem_range'_1.mpr ⟨by omega, by omega⟩) hn
  by_cases h48 : i < 48
  · exact lkw_of lkwg_24 (List.mem_range'_1.mpr ⟨by omega, by omega⟩) hn
  by_cases h72 : i < 72
  · exact lkw_of lkwg_48 (List.mem_range'_1.mpr ⟨by omega, by omega⟩) hn
  by_cases h96 : i < 96
  · exact lkw_of lkwg_72 (List.mem_range'_1.mpr ⟨by omega, by omega⟩) hn
  by_cases h120 : i < 120
  · exact lkw_of lkwg_96 (List.mem_range'_1.mpr ⟨by omega, by omega⟩) hn
  by_cases h144 : i < 144
  · exact lkw_of lkwg_120 (List.mem_range'_1.mpr ⟨by omega, by omega⟩) hn
  by_cases h168 : i < 168
  · exact lkw_of lkwg_144 (List.mem_range'_1.mpr ⟨by omega, by omega⟩) hn
  by_cases h192 : i < 192
  · exact lkw_of lkwg_168 (List.mem_range'_1.mpr ⟨by omega, by omega⟩) hn
  by_cases h216 : i < 216
  · exact lkw_of lkwg_192 (List.mem_range'_1.mpr ⟨by omega, by omega⟩) hn
  by_cases h240 : i < 240
  · exact lkw_of lkwg_216 (List.mem_range'_1.mpr ⟨by omega, by omega⟩) hn
  by_cases h264 : i < 264
  · exact lkw_of lkwg_240 (List.mem_range'_1.mpr ⟨by omega, by omega⟩) hn
  by_cases h288 : i < 288
  · exact lkw_of lkwg_264 (List.mem_range'_1.mpr ⟨by omega, by omega⟩) hn
  by_cases h312 : i < 312
  · exact lkw_of lkwg_288 (List.mem_range'_1.mpr ⟨by omega, by omega⟩) hn
  exact lkw_of lkwg_312 (List.mem_range'_1.mpr ⟨by omega, by omega⟩) hn
