theorem xco_41 (pc : Nat) : p_code 41 pc = p_find pc pc_41 := rfl
theorem xow_41 : p_own 41 = 1 := rfl
theorem xc_41_0 : p_code 41 0 = some (.aload_n 0, 1) := (xco_41 0).trans rfl
theorem xc_41_1 : p_code 41 1 = some (.invokevirtual 45, 3) := (xco_41 1).trans rfl
theorem xm_41_1 : p_calls 41 (.invokevirtual 45) = some (14, 1) := by dsimp only [p_calls]; rw [xow_41]; rfl
theorem xc_41_4 : p_code 41 4 = some (.aload_n 0, 1) := (xco_41 4).trans rfl
theorem xc_41_5 : p_code 41 5 = some (.getfield 28, 3) := (xco_41 5).trans rfl
theorem xf_41_28 : p_fld (p_own 41) 28 = some (1, 3) := by rw [xow_41]; rfl
theorem xc_41_8 : p_code 41 8 = some (.istore_n 1, 1) := (xco_41 8).trans rfl
theorem xc_41_9 : p_code 41 9 = some (.aload_n 0, 1) := (xco_41 9).trans rfl
theorem xc_41_10 : p_code 41 10 = some (.invokevirtual 115, 3) := (xco_41 10).trans rfl
theorem xm_41_10 : p_calls 41 (.invokevirtual 115) = some (23, 1) := by dsimp only [p_calls]; rw [xow_41]; rfl
theorem xc_41_13 : p_code 41 13 = some (.aload_n 0, 1) := (xco_41 13).trans rfl
theorem xc_41_14 : p_code 41 14 = some (.getfield 28, 3) := (xco_41 14).trans rfl
theorem xc_41_17 : p_code 41 17 = some (.iload_n 1, 1) := (xco_41 17).trans rfl
theorem xc_41_18 : p_code 41 18 = some (.isub, 1) := (xco_41 18).trans rfl
theorem xc_41_19 : p_code 41 19 = some (.istore_n 2, 1) := (xco_41 19).trans rfl
theorem xc_41_20 : p_code 41 20 = some (.iload_n 2, 1) := (xco_41 20).trans rfl
theorem xc_41_21 : p_code 41 21 = some (.iconst 1, 1) := (xco_41 21).trans rfl
theorem xc_41_22 : p_code 41 22 = some (.if_icmp .lt 9, 3) := (xco_41 22).trans rfl
theorem xj_41_22 : p_tgt 22 (9) = 31 ∧ 0 ≤ ((22 : Nat) : Int) + (9) := ⟨by decide, by decide⟩
theorem xc_41_25 : p_code 41 25 = some (.iload_n 2, 1) := (xco_41 25).trans rfl
theorem xc_41_26 : p_code 41 26 = some (.bipush 6, 2) := (xco_41 26).trans rfl
theorem xc_41_28 : p_code 41 28 = some (.if_icmp .le 11, 3) := (xco_41 28).trans rfl
theorem xj_41_28 : p_tgt 28 (11) = 39 ∧ 0 ≤ ((28 : Nat) : Int) + (11) := ⟨by decide, by decide⟩
theorem xc_41_31 : p_code 41 31 = some (.aload_n 0, 1) := (xco_41 31).trans rfl
theorem xc_41_32 : p_code 41 32 = some (.iload_n 1, 1) := (xco_41 32).trans rfl
theorem xc_41_33 : p_code 41 33 = some (.invokevirtual 48, 3) := (xco_41 33).trans rfl
theorem xm_41_33 : p_calls 41 (.invokevirtual 48) = some (17, 2) := by dsimp only [p_calls]; rw [xow_41]; rfl
theorem xc_41_36 : p_code 41 36 = some (.pop, 1) := (xco_41 36).trans rfl
theorem xc_41_37 : p_code 41 37 = some (.iconst (-1), 1) := (xco_41 37).trans rfl
theorem xc_41_38 : p_code 41 38 = some (.ireturn, 1) := (xco_41 38).trans rfl
theorem xc_41_39 : p_code 41 39 = some (.aload_n 0, 1) := (xco_41 39).trans rfl
theorem xc_41_40 : p_code 41 40 = some (.iload_n 1, 1) := (xco_41 40).trans rfl
theorem xc_41_41 : p_code 41 41 = some (.invokevirtual 118, 3) := (xco_41 41).trans rfl
theorem xm_41_41 : p_calls 41 (.invokevirtual 118) = some (24, 2) := by dsimp only [p_calls]; rw [xow_41]; rfl
theorem xc_41_44 : p_code 41 44 = some (.ireturn, 1) := (xco_41 44).trans rfl
theorem xrt_41 : p_rty 41 = some .int := rfl
theorem xhh_41 : p_hh 41 = [] := rfl
theorem xin_41  : p_in0 41 [.ref 11] = [some (.ref 11), none, none] := rfl
theorem xrc_41 {z : Nat → Int32} {a : Nat → Nat → Int32} {w : Nat → Nat → Int64} {y : Nat → Int64} {g : List pE}  : p_recv 41 [.ref 11] (hp z a w y g) = true := rfl
theorem xco_42 (pc : Nat) : p_code 42 pc = p_find pc pc_42 := rfl
theorem xow_42 : p_own 42 = 2 := rfl
theorem xc_42_0 : p_code 42 0 = some (.aload_n 0, 1) := (xco_42 0).trans rfl
theorem xc_42_1 : p_code 42 1 = some (.iload_n 1, 1) := (xco_42 1).trans rfl
theorem xc_42_2 : p_code 42 2 = some (.invokevirtual 57, 3) := (xco_42 2).trans rfl
theorem xm_42_2 : p_calls 42 (.invokevirtual 57) = some (39, 2) := by dsimp only [p_calls]; rw [xow_42]; rfl
theorem xc_42_5 : p_code 42 5 = some (.ifCond .eq 10, 3) := (xco_42 5).trans rfl
theorem xj_42_5 : p_tgt 5 (10) = 15 ∧ 0 ≤ ((5 : Nat) : Int) + (10) := ⟨by decide, by decide⟩
theorem xc_42_8 : p_code 42 8 = some (.aload_n 0, 1) := (xco_42 8).trans rfl
theorem xc_42_9 : p_code 42 9 = some (.getfield 15, 3) := (xco_42 9).trans rfl
theorem xf_42_15 : p_fld (p_own 42) 15 = some (2, 1) := by rw [xow_42]; rfl
theorem xc_42_12 : p_code 42 12 = some (.iload_n 1, 1) := (xco_42 12).trans rfl
theorem xc_42_13 : p_code 42 13 = some (.iload_n 2, 1) := (xco_42 13).trans rfl
theorem xc_42_14 : p_code 42 14 = some (.iastore, 1) := (xco_42 14).trans rfl
theorem xc_42_15 : p_code 42 15 = some (.return_, 1) := (xco_42 15).trans rfl
theorem xrt_42 : p_rty 42 = none := rfl
theorem xhh_42 : p_hh 42 = [] := rfl
theorem xin_42 {x1 : Int32} {x2 : Int32} : p_in0 42 [.ref 1, .int x1, .int x2] = [some (.ref 1), some (.int x1), some (.int x2)] := rfl
theorem xrc_42 {z : Nat → Int32} {a : Nat → Nat → Int32} {w : Nat → Nat → Int64} {y : Nat → Int64} {g : List pE} {x1 : Int32} {x2 : Int32} : p_recv 42 [.ref 1, .int x1, .int x2] (hp z a w y g) = true := rfl
theorem xco_43 (pc : Nat) : p_code 43 pc = p_find pc pc_43 := rfl
theorem xow_43 : p_own 43 = 1 := rfl
theorem xc_43_0 : p_code 43 0 = some (.iconst (-1), 1) := (xco_43 0).trans rfl
theorem xc_43_1 : p_code 43 1 = some (.istore_n 2, 1) := (xco_43 1).trans rfl
theorem xc_43_2 : p_code 43 2 = some (.iconst 0, 1) := (xco_43 2).trans rfl
theorem xc_43_3 : p_code 43 3 = some (.istore_n 3, 1) := (xco_43 3).trans rfl
theorem xc_43_4 : p_code 43 4 = some (.iload_n 3, 1) := (xco_43 4).trans rfl
theorem xc_43_5 : p_code 43 5 = some (.bipush 6, 2) := (xco_43 5).trans rfl
theorem xc_43_7 : p_code 43 7 = some (.if_icmp .gt 115, 3) := (xco_43 7).trans rfl
theorem xj_43_7 : p_tgt 7 (115) = 122 ∧ 0 ≤ ((7 : Nat) : Int) + (115) := ⟨by decide, by decide⟩
theorem xc_43_10 : p_code 43 10 = some (.aload_n 0, 1) := (xco_43 10).trans rfl
theorem xc_43_11 : p_code 43 11 = some (.invokevirtual 45, 3) := (xco_43 11).trans rfl
theorem xm_43_11 : p_calls 43 (.invokevirtual 45) = some (14, 1) := by dsimp only [p_calls]; rw [xow_43]; rfl
theorem xc_43_14 : p_code 43 14 = some (.aload_n 0, 1) := (xco_43 14).trans rfl
theorem xc_43_15 : p_code 43 15 = some (.getfield 28, 3) := (xco_43 15).trans rfl
theorem xf_43_28 : p_fld (p_own 43) 28 = some (1, 3) := by rw [xow_43]; rfl
theorem xc_43_18 : p_code 43 18 = some (.istore 4, 2) := (xco_43 18).trans rfl
theorem xc_43_20 : p_code 43 20 = some (.aload_n 0, 1) := (xco_43 20).trans rfl
theorem xc_43_21 : p_code 43 21 = some (.invokevirtual 106, 3) := (xco_43 21).trans rfl
theorem xm_43_21 : p_calls 43 (.invokevirtual 106) = some (41, 1) := by dsimp only [p_calls]; rw [xow_43]; rfl
theorem xc_43_24 : p_code 43 24 = some (.istore 5, 2) := (xco_43 24).trans rfl
theorem xc_43_26 : p_code 43 26 = some (.iload 5, 2) := (xco_43 26).trans rfl
theorem xc_43_28 : p_code 43 28 = some (.iconst (-1), 1) := (xco_43 28).trans rfl
theorem xc_43_29 : p_code 43 29 = some (.if_icmp .eq 12, 3) := (xco_43 29).trans rfl
theorem xj_43_29 : p_tgt 29 (12) = 41 ∧ 0 ≤ ((29 : Nat) : Int) + (12) := ⟨by decide, by decide⟩
theorem xc_43_32 : p_code 43 32 = some (.aload_n 0, 1) := (xco_43 32).trans rfl
theorem xc_43_33 : p_code 43 33 = some (.bipush 61, 2) := (xco_43 33).trans rfl
theorem xc_43_35 : p_code 43 35 = some (.invokevirtual 96, 3) := (xco_43 35).trans rfl
theorem xm_43_35 : p_calls 43 (.invokevirtual 96) = some (20, 2) := by dsimp only [p_calls]; rw [xow_43]; rfl
theorem xc_43_38 : p_code 43 38 = some (.ifCond .ne 5, 3) := (xco_43 38).trans rfl
theorem xj_43_38 : p_tgt 38 (5) = 43 ∧ 0 ≤ ((38 : Nat) : Int) + (5) := ⟨by decide, by decide⟩
theorem xc_43_41 : p_code 43 41 = some (.iconst 0, 1) := (xco_43 41).trans rfl
theorem xc_43_42 : p_code 43 42 = some (.ireturn, 1) := (xco_43 42).trans rfl
theorem xc_43_43 : p_code 43 43 = some (.aload_n 0, 1) := (xco_43 43).trans rfl
theorem xc_43_44 : p_code 43 44 = some (.invokevirtual 106, 3) := (xco_43 44).trans rfl
theorem xm_43_44 : p_calls 43 (.invokevirtual 106) = some (41, 1) := by dsimp only [p_calls]; rw [xow_43]; rfl
theorem xc_43_47 : p_code 43 47 = some (.istore 6, 2) := (xco_43 47).trans rfl
theorem xc_43_49 : p_code 43 49 = some (.iload 6, 2) := (xco_43 49).trans rfl
theorem xc_43_51 : p_code 43 51 = some (.iconst (-1), 1) := (xco_43 51).trans rfl
theorem xc_43_52 : p_code 43 52 = some (.if_icmp .ne 5, 3) := (xco_43 52).trans rfl
theorem xj_43_52 : p_tgt 52 (5) = 57 ∧ 0 ≤ ((52 : Nat) : Int) + (5) := ⟨by decide, by decide⟩
theorem xc_43_55 : p_code 43 55 = some (.iconst 0, 1) := (xco_43 55).trans rfl
theorem xc_43_56 : p_code 43 56 = some (.ireturn, 1) := (xco_43 56).trans rfl
theorem xc_43_57 : p_code 43 57 = some (.iload_n 3, 1) := (xco_43 57).trans rfl
theorem xc_43_58 : p_code 43 58 = some (.bipush 6, 2) := (xco_43 58).trans rfl
theorem xc_43_60 : p_code 43 60 = some (.if_icmp .eq 9, 3) := (xco_43 60).trans rfl
theorem xj_43_60 : p_tgt 60 (9) = 69 ∧ 0 ≤ ((60 : Nat) : Int) + (9) := ⟨by decide, by decide⟩
theorem xc_43_63 : p_code 43 63 = some (.iload 5, 2) := (xco_43 63).trans rfl
theorem xc_43_65 : p_code 43 65 = some (.iload_n 2, 1) := (xco_43 65).trans rfl
theorem xc_43_66 : p_code 43 66 = some (.if_icmp .gt 10, 3) := (xco_43 66).trans rfl
theorem xj_43_66 : p_tgt 66 (10) = 76 ∧ 0 ≤ ((66 : Nat) : Int) + (10) := ⟨by decide, by decide⟩
theorem xc_43_69 : p_code 43 69 = some (.aload_n 0, 1) := (xco_43 69).trans rfl
theorem xc_43_70 : p_code 43 70 = some (.iload 4, 2) := (xco_43 70).trans rfl
theorem xc_43_72 : p_code 43 72 = some (.invokevirtual 48, 3) := (xco_43 72).trans rfl
theorem xm_43_72 : p_calls 43 (.invokevirtual 48) = some (17, 2) := by dsimp only [p_calls]; rw [xow_43]; rfl
theorem xc_43_75 : p_code 43 75 = some (.ireturn, 1) := (xco_43 75).trans rfl
theorem xc_43_76 : p_code 43 76 = some (.aload_n 0, 1) := (xco_43 76).trans rfl
theorem xc_43_77 : p_code 43 77 = some (.getfield 15, 3) := (xco_43 77).trans rfl
theorem xf_43_15 : p_fld (p_own 43) 15 = some (1, 0) := by rw [xow_43]; rfl
theorem xc_43_80 : p_code 43 80 = some (.iload_n 1, 1) := (xco_43 80).trans rfl
theorem xc_43_81 : p_code 43 81 = some (.iload 5, 2) := (xco_43 81).trans rfl
theorem xc_43_83 : p_code 43 83 = some (.iload 6, 2) := (xco_43 83).trans rfl
theorem xc_43_85 : p_code 43 85 = some (.invokevirtual 112, 3) := (xco_43 85).trans rfl
theorem xm_43_85 : p_calls 43 (.invokevirtual 112) = some (44, 4) := by dsimp only [p_calls]; rw [xow_43]; rfl
theorem xc_43_88 : p_code 43 88 = some (.iload 5, 2) := (xco_43 88).trans rfl
theorem xc_43_90 : p_code 43 90 = some (.istore_n 2, 1) := (xco_43 90).trans rfl
theorem xc_43_91 : p_code 43 91 = some (.aload_n 0, 1) := (xco_43 91).trans rfl
theorem xc_43_92 : p_code 43 92 = some (.invokevirtual 45, 3) := (xco_43 92).trans rfl
theorem xm_43_92 : p_calls 43 (.invokevirtual 45) = some (14, 1) := by dsimp only [p_calls]; rw [xow_43]; rfl
theorem xc_43_95 : p_code 43 95 = some (.aload_n 0, 1) := (xco_43 95).trans rfl
theorem xc_43_96 : p_code 43 96 = some (.invokevirtual 54, 3) := (xco_43 96).trans rfl
theorem xm_43_96 : p_calls 43 (.invokevirtual 54) = some (15, 1) := by dsimp only [p_calls]; rw [xow_43]; rfl
theorem xc_43_99 : p_code 43 99 = some (.bipush 44, 2) := (xco_43 99).trans rfl
theorem xc_43_101 : p_code 43 101 = some (.if_icmp .eq 5, 3) := (xco_43 101).trans rfl
theorem xj_43_101 : p_tgt 101 (5) = 106 ∧ 0 ≤ ((101 : Nat) : Int) + (5) := ⟨by decide, by decide⟩
theorem xc_43_104 : p_code 43 104 = some (.iconst 1, 1) := (xco_43 104).trans rfl
theorem xc_43_105 : p_code 43 105 = some (.ireturn, 1) := (xco_43 105).trans rfl
theorem xc_43_106 : p_code 43 106 = some (.aload_n 0, 1) := (xco_43 106).trans rfl
theorem xc_43_107 : p_code 43 107 = some (.dup, 1) := (xco_43 107).trans rfl
theorem xc_43_108 : p_code 43 108 = some (.getfield 28, 3) := (xco_43 108).trans rfl
theorem xc_43_111 : p_code 43 111 = some (.iconst 1, 1) := (xco_43 111).trans rfl
theorem xc_43_112 : p_code 43 112 = some (.iadd, 1) := (xco_43 112).trans rfl
theorem xc_43_113 : p_code 43 113 = some (.putfield 28, 3) := (xco_43 113).trans rfl
theorem xc_43_116 : p_code 43 116 = some (.iinc 3 1, 3) := (xco_43 116).trans rfl
theorem xc_43_119 : p_code 43 119 = some (.goto (-115), 3) := (xco_43 119).trans rfl
theorem xj_43_119 : p_tgt 119 (-115) = 4 ∧ 0 ≤ ((119 : Nat) : Int) + (-115) := ⟨by decide, by decide⟩
theorem xc_43_122 : p_code 43 122 = some (.aload_n 0, 1) := (xco_43 122).trans rfl
theorem xc_43_123 : p_code 43 123 = some (.aload_n 0, 1) := (xco_43 123).trans rfl
theorem xc_43_124 : p_code 43 124 = some (.getfield 28, 3) := (xco_43 124).trans rfl
theorem xc_43_127 : p_code 43 127 = some (.invokevirtual 48, 3) := (xco_43 127).trans rfl
theorem xm_43_127 : p_calls 43 (.invokevirtual 48) = some (17, 2) := by dsimp only [p_calls]; rw [xow_43]; rfl
theorem xc_43_130 : p_code 43 130 = some (.ireturn, 1) := (xco_43 130).trans rfl
theorem xrt_43 : p_rty 43 = some .boolean := rfl
theorem xhh_43 : p_hh 43 = [] := rfl
theorem xin_43 {x1 : Int32} : p_in0 43 [.ref 11, .int x1] = [some (.ref 11), some (.int x1), none, none, none, none, none] := rfl
theorem xrc_43 {z : Nat → Int32} {a : Nat → Nat → Int32} {w : Nat → Nat → Int64} {y : Nat → Int64} {g : List pE} {x1 : Int32} : p_recv 43 [.ref 11, .int x1] (hp z a w y g) = true := rfl
theorem xco_44 (pc : Nat) : p_code 44 pc = p_find pc pc_44 := rfl
theorem xow_44 : p_own 44 = 2 := rfl
theorem xc_44_0 : p_code 44 0 = some (.aload_n 0, 1) := (xco_44 0).trans rfl
theorem xc_44_1 : p_code 44 1 = some (.iload_n 1, 1) := (xco_44 1).trans rfl
theorem xc_44_2 : p_code 44 2 = some (.invokevirtual 57, 3) := (xco_44 2).trans rfl
theorem xm_44_2 : p_calls 44 (.invokevirtual 57) = some (39, 2) := by dsimp only [p_calls]; rw [xow_44]; rfl
theorem xc_44_5 : p_code 44 5 = some (.ifCond .eq 13, 3) := (xco_44 5).trans rfl
theorem xj_44_5 : p_tgt 5 (13) = 18 ∧ 0 ≤ ((5 : Nat) : Int) + (13) := ⟨by decide, by decide⟩
theorem xc_44_8 : p_code 44 8 = some (.aload_n 0, 1) := (xco_44 8).trans rfl
theorem xc_44_9 : p_code 44 9 = some (.getfield 39, 3) := (xco_44 9).trans rfl
theorem xf_44_39 : p_fld (p_own 44) 39 = some (2, 9) := by rw [xow_44]; rfl
theorem xc_44_12 : p_code 44 12 = some (.sipush 300, 3) := (xco_44 12).trans rfl
theorem xc_44_15 : p_code 44 15 = some (.if_icmp .lt 4, 3) := (xco_44 15).trans rfl
theorem xj_44_15 : p_tgt 15 (4) = 19 ∧ 0 ≤ ((15 : Nat) : Int) + (4) := ⟨by decide, by decide⟩
theorem xc_44_18 : p_code 44 18 = some (.return_, 1) := (xco_44 18).trans rfl
theorem xc_44_19 : p_code 44 19 = some (.aload_n 0, 1) := (xco_44 19).trans rfl
theorem xc_44_20 : p_code 44 20 = some (.getfield 30, 3) := (xco_44 20).trans rfl
theorem xf_44_30 : p_fld (p_own 44) 30 = some (2, 6) := by rw [xow_44]; rfl
theorem xc_44_23 : p_code 44 23 = some (.iload_n 1, 1) := (xco_44 23).trans rfl
theorem xc_44_24 : p_code 44 24 = some (.iaload, 1) := (xco_44 24).trans rfl
theorem xc_44_25 : p_code 44 25 = some (.ifCond .ne 13, 3) := (xco_44 25).trans rfl
theorem xj_44_25 : p_tgt 25 (13) = 38 ∧ 0 ≤ ((25 : Nat) : Int) + (13) := ⟨by decide, by decide⟩
theorem xc_44_28 : p_code 44 28 = some (.aload_n 0, 1) := (xco_44 28).trans rfl
theorem xc_44_29 : p_code 44 29 = some (.getfield 27, 3) := (xco_44 29).trans rfl
theorem xf_44_27 : p_fld (p_own 44) 27 = some (2, 5) := by rw [xow_44]; rfl
theorem xc_44_32 : p_code 44 32 = some (.iload_n 1, 1) := (xco_44 32).trans rfl
theorem xc_44_33 : p_code 44 33 = some (.aload_n 0, 1) := (xco_44 33).trans rfl
theorem xc_44_34 : p_code 44 34 = some (.getfield 39, 3) := (xco_44 34).trans rfl
theorem xc_44_37 : p_code 44 37 = some (.iastore, 1) := (xco_44 37).trans rfl
theorem xc_44_38 : p_code 44 38 = some (.aload_n 0, 1) := (xco_44 38).trans rfl
theorem xc_44_39 : p_code 44 39 = some (.getfield 33, 3) := (xco_44 39).trans rfl
theorem xf_44_33 : p_fld (p_own 44) 33 = some (2, 7) := by rw [xow_44]; rfl
theorem xc_44_42 : p_code 44 42 = some (.aload_n 0, 1) := (xco_44 42).trans rfl
theorem xc_44_43 : p_code 44 43 = some (.getfield 39, 3) := (xco_44 43).trans rfl
theorem xc_44_46 : p_code 44 46 = some (.iload_n 2, 1) := (xco_44 46).trans rfl
theorem xc_44_47 : p_code 44 47 = some (.iastore, 1) := (xco_44 47).trans rfl
theorem xc_44_48 : p_code 44 48 = some (.aload_n 0, 1) := (xco_44 48).trans rfl
theorem xc_44_49 : p_code 44 49 = some (.getfield 36, 3) := (xco_44 49).trans rfl
theorem xf_44_36 : p_fld (p_own 44) 36 = some (2, 8) := by rw [xow_44]; rfl
theorem xc_44_52 : p_code 44 52 = some (.aload_n 0, 1) := (xco_44 52).trans rfl
theorem xc_44_53 : p_code 44 53 = some (.getfield 39, 3) := (xco_44 53).trans rfl
theorem xc_44_56 : p_code 44 56 = some (.iload_n 3, 1) := (xco_44 56).trans rfl
theorem xc_44_57 : p_code 44 57 = some (.iastore, 1) := (xco_44 57).trans rfl
theorem xc_44_58 : p_code 44 58 = some (.aload_n 0, 1) := (xco_44 58).trans rfl
theorem xc_44_59 : p_code 44 59 = some (.dup, 1) := (xco_44 59).trans rfl
theorem xc_44_60 : p_code 44 60 = some (.getfield 39, 3) := (xco_44 60).trans rfl
theorem xc_44_63 : p_code 44 63 = some (.iconst 1, 1) := (xco_44 63).trans rfl
theorem xc_44_64 : p_code 44 64 = some (.iadd, 1) := (xco_44 64).trans rfl
theorem xc_44_65 : p_code 44 65 = some (.putfield 39, 3) := (xco_44 65).trans rfl
theorem xc_44_68 : p_code 44 68 = some (.aload_n 0, 1) := (xco_44 68).trans rfl
theorem xc_44_69 : p_code 44 69 = some (.getfield 30, 3) := (xco_44 69).trans rfl
theorem xc_44_72 : p_code 44 72 = some (.iload_n 1, 1) := (xco_44 72).trans rfl
theorem xc_44_73 : p_code 44 73 = some (.dup2, 1) := (xco_44 73).trans rfl
theorem xc_44_74 : p_code 44 74 = some (.iaload, 1) := (xco_44 74).trans rfl
theorem xc_44_75 : p_code 44 75 = some (.iconst 1, 1) := (xco_44 75).trans rfl
theorem xc_44_76 : p_code 44 76 = some (.iadd, 1) := (xco_44 76).trans rfl
theorem xc_44_77 : p_code 44 77 = some (.iastore, 1) := (xco_44 77).trans rfl
theorem xc_44_78 : p_code 44 78 = some (.return_, 1) := (xco_44 78).trans rfl
theorem xrt_44 : p_rty 44 = none := rfl
theorem xhh_44 : p_hh 44 = [] := rfl
theorem xin_44 {x1 : Int32} {x2 : Int32} {x3 : Int32} : p_in0 44 [.ref 1, .int x1, .int x2, .int x3] = [some (.ref 1), some (.int x1), some (.int x2), some (.int x3)] := rfl
theorem xrc_44 {z : Nat → Int32} {a : Nat → Nat → Int32} {w : Nat → Nat → Int64} {y : Nat → Int64} {g : List pE} {x1 : Int32} {x2 : Int32} {x3 : Int32} : p_recv 44 [.ref 1, .int x1, .int x2, .int x3] (hp z a w y g) = true := rfl
theorem xco_45 (pc : Nat) : p_code 45 pc = p_find pc pc_45 := rfl
theorem xow_45 : p_own 45 = 1 := rfl
theorem xc_45_0 : p_code 45 0 = some (.iload_n 0, 1) := (xco_45 0).trans rfl
theorem xc_45_1 : p_code 45 1 = some (.bipush 43, 2) := (xco_45 1).trans rfl
theorem xc_45_3 : p_code 45 3 = some (.if_icmp .ne 5, 3) := (xco_45 3).trans rfl
theorem xj_45_3 : p_tgt 3 (5) = 8 ∧ 0 ≤ ((3 : Nat) : Int) + (5) := ⟨by decide, by decide⟩
theorem xc_45_6 : p_code 45 6 = some (.iconst 3, 1) := (xco_45 6).trans rfl
theorem xc_45_7 : p_code 45 7 = some (.ireturn, 1) := (xco_45 7).trans rfl
theorem xc_45_8 : p_code 45 8 = some (.iload_n 0, 1) := (xco_45 8).trans rfl
theorem xc_45_9 : p_code 45 9 = some (.bipush 45, 2) := (xco_45 9).trans rfl
theorem xc_45_11 : p_code 45 11 = some (.if_icmp .ne 7, 3) := (xco_45 11).trans rfl
theorem xj_45_11 : p_tgt 11 (7) = 18 ∧ 0 ≤ ((11 : Nat) : Int) + (7) := ⟨by decide, by decide⟩
theorem xc_45_14 : p_code 45 14 = some (.iconst 4, 1) := (xco_45 14).trans rfl
theorem xc_45_15 : p_code 45 15 = some (.goto 4, 3) := (xco_45 15).trans rfl
theorem xj_45_15 : p_tgt 15 (4) = 19 ∧ 0 ≤ ((15 : Nat) : Int) + (4) := ⟨by decide, by decide⟩
theorem xc_45_18 : p_code 45 18 = some (.iconst (-1), 1) := (xco_45 18).trans rfl
theorem xc_45_19 : p_code 45 19 = some (.ireturn, 1) := (xco_45 19).trans rfl
theorem xrt_45 : p_rty 45 = some .int := rfl
theorem xhh_45 : p_hh 45 = [] := rfl
theorem xin_45 {x0 : Int32} : p_in0 45 [.int x0] = [some (.int x0)] := rfl
theorem xrc_45 {z : Nat → Int32} {a : Nat → Nat → Int32} {w : Nat → Nat → Int64} {y : Nat → Int64} {g : List pE} {x0 : Int32} : p_recv 45 [.int x0] (hp z a w y g) = true := rfl
theorem xco_46 (pc : Nat) : p_code 46 pc = p_find pc pc_46 := rfl
theorem xow_46 : p_own 46 = 2 := rfl
theorem xc_46_0 : p_code 46 0 = some (.aload_n 0, 1) := (xco_46 0).trans rfl
theorem xc_46_1 : p_code 46 1 = some (.invokevirtual 49, 3) := (xco_46 1).trans rfl
theorem xm_46_1 : p_calls 46 (.invokevirtual 49) = some (25, 1) := by dsimp only [p_calls]; rw [xow_46]; rfl
theorem xc_46_4 : p_code 46 4 = some (.ifCond .ne 11, 3) := (xco_46 4).trans rfl
theorem xj_46_4 : p_tgt 4 (11) = 15 ∧ 0 ≤ ((4 : Nat) : Int) + (11) := ⟨by decide, by decide⟩
theorem xc_46_7 : p_code 46 7 = some (.aload_n 0, 1) := (xco_46 7).trans rfl
theorem xc_46_8 : p_code 46 8 = some (.iload_n 1, 1) := (xco_46 8).trans rfl
theorem xc_46_9 : p_code 46 9 = some (.invokevirtual 57, 3) := (xco_46 9).trans rfl
theorem xm_46_9 : p_calls 46 (.invokevirtual 57) = some (39, 2) := by dsimp only [p_calls]; rw [xow_46]; rfl
theorem xc_46_12 : p_code 46 12 = some (.ifCond .ne 4, 3) := (xco_46 12).trans rfl
theorem xj_46_12 : p_tgt 12 (4) = 16 ∧ 0 ≤ ((12 : Nat) : Int) + (4) := ⟨by decide, by decide⟩
theorem xc_46_15 : p_code 46 15 = some (.return_, 1) := (xco_46 15).trans rfl
theorem xc_46_16 : p_code 46 16 = some (.aload_n 0, 1) := (xco_46 16).trans rfl
theorem xc_46_17 : p_code 46 17 = some (.getfield 43, 3) := (xco_46 17).trans rfl
theorem xf_46_43 : p_fld (p_own 46) 43 = some (2, 10) := by rw [xow_46]; rfl
theorem xc_46_20 : p_code 46 20 = some (.istore_n 3, 1) := (xco_46 20).trans rfl
theorem xc_46_21 : p_code 46 21 = some (.iload_n 3, 1) := (xco_46 21).trans rfl
theorem xc_46_22 : p_code 46 22 = some (.iload_n 1, 1) := (xco_46 22).trans rfl
theorem xc_46_23 : p_code 46 23 = some (.if_icmp .le 14, 3) := (xco_46 23).trans rfl
theorem xj_46_23 : p_tgt 23 (14) = 37 ∧ 0 ≤ ((23 : Nat) : Int) + (14) := ⟨by decide, by decide⟩
theorem xc_46_26 : p_code 46 26 = some (.aload_n 0, 1) := (xco_46 26).trans rfl
theorem xc_46_27 : p_code 46 27 = some (.iload_n 3, 1) := (xco_46 27).trans rfl
theorem xc_46_28 : p_code 46 28 = some (.invokevirtual 61, 3) := (xco_46 28).trans rfl
theorem xm_46_28 : p_calls 46 (.invokevirtual 61) = some (47, 2) := by dsimp only [p_calls]; rw [xow_46]; rfl
theorem xc_46_31 : p_code 46 31 = some (.iinc 3 (-1), 3) := (xco_46 31).trans rfl
theorem xc_46_34 : p_code 46 34 = some (.goto (-13), 3) := (xco_46 34).trans rfl
theorem xj_46_34 : p_tgt 34 (-13) = 21 ∧ 0 ≤ ((34 : Nat) : Int) + (-13) := ⟨by decide, by decide⟩
theorem xc_46_37 : p_code 46 37 = some (.aload_n 0, 1) := (xco_46 37).trans rfl
theorem xc_46_38 : p_code 46 38 = some (.dup, 1) := (xco_46 38).trans rfl
theorem xc_46_39 : p_code 46 39 = some (.getfield 43, 3) := (xco_46 39).trans rfl
theorem xc_46_42 : p_code 46 42 = some (.iconst 1, 1) := (xco_46 42).trans rfl
theorem xc_46_43 : p_code 46 43 = some (.iadd, 1) := (xco_46 43).trans rfl
theorem xc_46_44 : p_code 46 44 = some (.putfield 43, 3) := (xco_46 44).trans rfl
theorem xc_46_47 : p_code 46 47 = some (.aload_n 0, 1) := (xco_46 47).trans rfl
theorem xc_46_48 : p_code 46 48 = some (.iload_n 1, 1) := (xco_46 48).trans rfl
theorem xc_46_49 : p_code 46 49 = some (.iload_n 2, 1) := (xco_46 49).trans rfl
theorem xc_46_50 : p_code 46 50 = some (.iconst 0, 1) := (xco_46 50).trans rfl
theorem xc_46_51 : p_code 46 51 = some (.iconst (-1), 1) := (xco_46 51).trans rfl
theorem xc_46_52 : p_code 46 52 = some (.invokevirtual 53, 3) := (xco_46 52).trans rfl
theorem xm_46_52 : p_calls 46 (.invokevirtual 53) = some (27, 5) := by dsimp only [p_calls]; rw [xow_46]; rfl
theorem xc_46_55 : p_code 46 55 = some (.return_, 1) := (xco_46 55).trans rfl
theorem xrt_46 : p_rty 46 = none := rfl
theorem xhh_46 : p_hh 46 = [] := rfl
theorem xin_46 {x1 : Int32} {x2 : Int32} : p_in0 46 [.ref 1, .int x1, .int x2] = [some (.ref 1), some (.int x1), some (.int x2), none] := rfl
theorem xrc_46 {z : Nat → Int32} {a : Nat → Nat → Int32} {w : Nat → Nat → Int64} {y : Nat → Int64} {g : List pE} {x1 : Int32} {x2 : Int32} : p_recv 46 [.ref 1, .int x1, .int x2] (hp z a w y g) = true := rfl
theorem xco_47 (pc : Nat) : p_code 47 pc = p_find pc pc_47 := rfl
theorem xow_47 : p_own 47 = 2 := rfl
theorem xc_47_0 : p_code 47 0 = some (.iload_n 1, 1) := (xco_47 0).trans rfl
theorem xc_47_1 : p_code 47 1 = some (.iconst 1, 1) := (xco_47 1).trans rfl
theorem xc_47_2 : p_code 47 2 = some (.isub, 1) := (xco_47 2).trans rfl
theorem xc_47_3 : p_code 47 3 = some (.istore_n 2, 1) := (xco_47 3).trans rfl
theorem xc_47_4 : p_code 47 4 = some (.aload_n 0, 1) := (xco_47 4).trans rfl
theorem xc_47_5 : p_code 47 5 = some (.getfield 9, 3) := (xco_47 5).trans rfl
theorem xf_47_9 : p_fld (p_own 47) 9 = some (2, 0) := by rw [xow_47]; rfl
theorem xc_47_8 : p_code 47 8 = some (.iload_n 1, 1) := (xco_47 8).trans rfl
theorem xc_47_9 : p_code 47 9 = some (.aload_n 0, 1) := (xco_47 9).trans rfl
theorem xc_47_10 : p_code 47 10 = some (.getfield 9, 3) := (xco_47 10).trans rfl
theorem xc_47_13 : p_code 47 13 = some (.iload_n 2, 1) := (xco_47 13).trans rfl
theorem xc_47_14 : p_code 47 14 = some (.iaload, 1) := (xco_47 14).trans rfl
theorem xc_47_15 : p_code 47 15 = some (.iastore, 1) := (xco_47 15).trans rfl
theorem xc_47_16 : p_code 47 16 = some (.aload_n 0, 1) := (xco_47 16).trans rfl
theorem xc_47_17 : p_code 47 17 = some (.getfield 15, 3) := (xco_47 17).trans rfl
theorem xf_47_15 : p_fld (p_own 47) 15 = some (2, 1) := by rw [xow_47]; rfl
theorem xc_47_20 : p_code 47 20 = some (.iload_n 1, 1) := (xco_47 20).trans rfl
theorem xc_47_21 : p_code 47 21 = some (.aload_n 0, 1) := (xco_47 21).trans rfl
theorem xc_47_22 : p_code 47 22 = some (.getfield 15, 3) := (xco_47 22).trans rfl
theorem xc_47_25 : p_code 47 25 = some (.iload_n 2, 1) := (xco_47 25).trans rfl
theorem xc_47_26 : p_code 47 26 = some (.iaload, 1) := (xco_47 26).trans rfl
theorem xc_47_27 : p_code 47 27 = some (.iastore, 1) := (xco_47 27).trans rfl
theorem xc_47_28 : p_code 47 28 = some (.aload_n 0, 1) := (xco_47 28).trans rfl
theorem xc_47_29 : p_code 47 29 = some (.getfield 18, 3) := (xco_47 29).trans rfl
theorem xf_47_18 : p_fld (p_own 47) 18 = some (2, 2) := by rw [xow_47]; rfl
theorem xc_47_32 : p_code 47 32 = some (.iload_n 1, 1) := (xco_47 32).trans rfl
theorem xc_47_33 : p_code 47 33 = some (.aload_n 0, 1) := (xco_47 33).trans rfl
theorem xc_47_34 : p_code 47 34 = some (.getfield 18, 3) := (xco_47 34).trans rfl
theorem xc_47_37 : p_code 47 37 = some (.iload_n 2, 1) := (xco_47 37).trans rfl
theorem xc_47_38 : p_code 47 38 = some (.iaload, 1) := (xco_47 38).trans rfl
theorem xc_47_39 : p_code 47 39 = some (.iastore, 1) := (xco_47 39).trans rfl
theorem xc_47_40 : p_code 47 40 = some (.aload_n 0, 1) := (xco_47 40).trans rfl
theorem xc_47_41 : p_code 47 41 = some (.getfield 21, 3) := (xco_47 41).trans rfl
theorem xf_47_21 : p_fld (p_own 47) 21 = some (2, 3) := by rw [xow_47]; rfl
theorem xc_47_44 : p_code 47 44 = some (.iload_n 1, 1) := (xco_47 44).trans rfl
theorem xc_47_45 : p_code 47 45 = some (.aload_n 0, 1) := (xco_47 45).trans rfl
theorem xc_47_46 : p_code 47 46 = some (.getfield 21, 3) := (xco_47 46).trans rfl
theorem xc_47_49 : p_code 47 49 = some (.iload_n 2, 1) := (xco_47 49).trans rfl
theorem xc_47_50 : p_code 47 50 = some (.iaload, 1) := (xco_47 50).trans rfl
theorem xc_47_51 : p_code 47 51 = some (.iconst (-1), 1) := (xco_47 51).trans rfl
theorem xc_47_52 : p_code 47 52 = some (.if_icmp .ne 7, 3) := (xco_47 52).trans rfl
theorem xj_47_52 : p_tgt 52 (7) = 59 ∧ 0 ≤ ((52 : Nat) : Int) + (7) := ⟨by decide, by decide⟩
theorem xc_47_55 : p_code 47 55 = some (.iconst (-1), 1) := (xco_47 55).trans rfl
theorem xc_47_56 : p_code 47 56 = some (.goto 11, 3) := (xco_47 56).trans rfl
theorem xj_47_56 : p_tgt 56 (11) = 67 ∧ 0 ≤ ((56 : Nat) : Int) + (11) := ⟨by decide, by decide⟩
theorem xc_47_59 : p_code 47 59 = some (.aload_n 0, 1) := (xco_47 59).trans rfl
theorem xc_47_60 : p_code 47 60 = some (.getfield 21, 3) := (xco_47 60).trans rfl
theorem xc_47_63 : p_code 47 63 = some (.iload_n 2, 1) := (xco_47 63).trans rfl
theorem xc_47_64 : p_code 47 64 = some (.iaload, 1) := (xco_47 64).trans rfl
theorem xc_47_65 : p_code 47 65 = some (.iconst 1, 1) := (xco_47 65).trans rfl
theorem xc_47_66 : p_code 47 66 = some (.iadd, 1) := (xco_47 66).trans rfl
theorem xc_47_67 : p_code 47 67 = some (.iastore, 1) := (xco_47 67).trans rfl
theorem xc_47_68 : p_code 47 68 = some (.aload_n 0, 1) := (xco_47 68).trans rfl
theorem xc_47_69 : p_code 47 69 = some (.getfield 24, 3) := (xco_47 69).trans rfl
theorem xf_47_24 : p_fld (p_own 47) 24 = some (2, 4) := by rw [xow_47]; rfl
theorem xc_47_72 : p_code 47 72 = some (.iload_n 1, 1) := (xco_47 72).trans rfl
theorem xc_47_73 : p_code 47 73 = some (.aload_n 0, 1) := (xco_47 73).trans rfl
theorem xc_47_74 : p_code 47 74 = some (.getfield 24, 3) := (xco_47 74).trans rfl
theorem xc_47_77 : p_code 47 77 = some (.iload_n 2, 1) := (xco_47 77).trans rfl
theorem xc_47_78 : p_code 47 78 = some (.iaload, 1) := (xco_47 78).trans rfl
theorem xc_47_79 : p_code 47 79 = some (.iconst (-1), 1) := (xco_47 79).trans rfl
theorem xc_47_80 : p_code 47 80 = some (.if_icmp .ne 7, 3) := (xco_47 80).trans rfl
theorem xj_47_80 : p_tgt 80 (7) = 87 ∧ 0 ≤ ((80 : Nat) : Int) + (7) := ⟨by decide, by decide⟩
theorem xc_47_83 : p_code 47 83 = some (.iconst (-1), 1) := (xco_47 83).trans rfl
theorem xc_47_84 : p_code 47 84 = some (.goto 11, 3) := (xco_47 84).trans rfl
theorem xj_47_84 : p_tgt 84 (11) = 95 ∧ 0 ≤ ((84 : Nat) : Int) + (11) := ⟨by decide, by decide⟩
theorem xc_47_87 : p_code 47 87 = some (.aload_n 0, 1) := (xco_47 87).trans rfl
theorem xc_47_88 : p_code 47 88 = some (.getfield 24, 3) := (xco_47 88).trans rfl
theorem xc_47_91 : p_code 47 91 = some (.iload_n 2, 1) := (xco_47 91).trans rfl
theorem xc_47_92 : p_code 47 92 = some (.iaload, 1) := (xco_47 92).trans rfl
theorem xc_47_93 : p_code 47 93 = some (.iconst 1, 1) := (xco_47 93).trans rfl
theorem xc_47_94 : p_code 47 94 = some (.iadd, 1) := (xco_47 94).trans rfl
theorem xc_47_95 : p_code 47 95 = some (.iastore, 1) := (xco_47 95).trans rfl
theorem xc_47_96 : p_code 47 96 = some (.aload_n 0, 1) := (xco_47 96).trans rfl
theorem xc_47_97 : p_code 47 97 = some (.getfield 27, 3) := (xco_47 97).trans rfl
theorem xf_47_27 : p_fld (p_own 47) 27 = some (2, 5) := by rw [xow_47]; rfl
theorem xc_47_100 : p_code 47 100 = some (.iload_n 1, 1) := (xco_47 100).trans rfl
theorem xc_47_101 : p_code 47 101 = some (.aload_n 0, 1) := (xco_47 101).trans rfl
theorem xc_47_102 : p_code 47 102 = some (.getfield 27, 3) := (xco_47 102).trans rfl
theorem xc_47_105 : p_code 47 105 = some (.iload_n 2, 1) := (xco_47 105).trans rfl
theorem xc_47_106 : p_code 47 106 = some (.iaload, 1) := (xco_47 106).trans rfl
theorem xc_47_107 : p_code 47 107 = some (.iastore, 1) := (xco_47 107).trans rfl
theorem xc_47_108 : p_code 47 108 = some (.aload_n 0, 1) := (xco_47 108).trans rfl
theorem xc_47_109 : p_code 47 109 = some (.getfield 30, 3) := (xco_47 109).trans rfl
theorem xf_47_30 : p_fld (p_own 47) 30 = some (2, 6) := by rw [xow_47]; rfl
theorem xc_47_112 : p_code 47 112 = some (.iload_n 1, 1) := (xco_47 112).trans rfl
theorem xc_47_113 : p_code 47 113 = some (.aload_n 0, 1) := (xco_47 113).trans rfl
theorem xc_47_114 : p_code 47 114 = some (.getfield 30, 3) := (xco_47 114).trans rfl
theorem xc_47_117 : p_code 47 117 = some (.iload_n 2, 1) := (xco_47 117).trans rfl
theorem xc_47_118 : p_code 47 118 = some (.iaload, 1) := (xco_47 118).trans rfl
theorem xc_47_119 : p_code 47 119 = some (.iastore, 1) := (xco_47 119).trans rfl
theorem xc_47_120 : p_code 47 120 = some (.return_, 1) := (xco_47 120).trans rfl
theorem xrt_47 : p_rty 47 = none := rfl
theorem xhh_47 : p_hh 47 = [] := rfl
theorem xin_47 {x1 : Int32} : p_in0 47 [.ref 1, .int x1] = [some (.ref 1), some (.int x1), none] := rfl
theorem xrc_47 {z : Nat → Int32} {a : Nat → Nat → Int32} {w : Nat → Nat → Int64} {y : Nat → Int64} {g : List pE} {x1 : Int32} : p_recv 47 [.ref 1, .int x1] (hp z a w y g) = true := rfl
theorem xco_48 (pc : Nat) : p_code 48 pc = p_find pc pc_48 := rfl
theorem xow_48 : p_own 48 = 1 := rfl
theorem xc_48_0 : p_code 48 0 = some (.aload_n 0, 1) := (xco_48 0).trans rfl
theorem xc_48_1 : p_code 48 1 = some (.invokevirtual 45, 3) := (xco_48 1).trans rfl
theorem xm_48_1 : p_calls 48 (.invokevirtual 45) = some (14, 1) := by dsimp only [p_calls]; rw [xow_48]; rfl
theorem xc_48_4 : p_code 48 4 = some (.aload_n 0, 1) := (xco_48 4).trans rfl
theorem xc_48_5 : p_code 48 5 = some (.getfield 28, 3) := (xco_48 5).trans rfl
theorem xf_48_28 : p_fld (p_own 48) 28 = some (1, 3) := by rw [xow_48]; rfl
theorem xc_48_8 : p_code 48 8 = some (.aload_n 0, 1) := (xco_48 8).trans rfl
theorem xc_48_9 : p_code 48 9 = some (.getfield 19, 3) := (xco_48 9).trans rfl
theorem xf_48_19 : p_fld (p_own 48) 19 = some (1, 2) := by rw [xow_48]; rfl
theorem xc_48_12 : p_code 48 12 = some (.if_icmp .ge 14, 3) := (xco_48 12).trans rfl
theorem xj_48_12 : p_tgt 12 (14) = 26 ∧ 0 ≤ ((12 : Nat) : Int) + (14) := ⟨by decide, by decide⟩
theorem xc_48_15 : p_code 48 15 = some (.aload_n 0, 1) := (xco_48 15).trans rfl
theorem xc_48_16 : p_code 48 16 = some (.aload_n 0, 1) := (xco_48 16).trans rfl
theorem xc_48_17 : p_code 48 17 = some (.getfield 28, 3) := (xco_48 17).trans rfl
theorem xc_48_20 : p_code 48 20 = some (.invokevirtual 48, 3) := (xco_48 20).trans rfl
theorem xm_48_20 : p_calls 48 (.invokevirtual 48) = some (17, 2) := by dsimp only [p_calls]; rw [xow_48]; rfl
theorem xc_48_23 : p_code 48 23 = some (.ifCond .eq 7, 3) := (xco_48 23).trans rfl
theorem xj_48_23 : p_tgt 23 (7) = 30 ∧ 0 ≤ ((23 : Nat) : Int) + (7) := ⟨by decide, by decide⟩
theorem xc_48_26 : p_code 48 26 = some (.iconst 1, 1) := (xco_48 26).trans rfl
theorem xc_48_27 : p_code 48 27 = some (.goto 4, 3) := (xco_48 27).trans rfl
theorem xj_48_27 : p_tgt 27 (4) = 31 ∧ 0 ≤ ((27 : Nat) : Int) + (4) := ⟨by decide, by decide⟩
theorem xc_48_30 : p_code 48 30 = some (.iconst 0, 1) := (xco_48 30).trans rfl
theorem xc_48_31 : p_code 48 31 = some (.ireturn, 1) := (xco_48 31).trans rfl
theorem xrt_48 : p_rty 48 = some .boolean := rfl
theorem xhh_48 : p_hh 48 = [] := rfl
theorem xin_48  : p_in0 48 [.ref 11] = [some (.ref 11)] := rfl
theorem xrc_48 {z : Nat → Int32} {a : Nat → Nat → Int32} {w : Nat → Nat → Int64} {y : Nat → Int64} {g : List pE}  : p_recv 48 [.ref 11] (hp z a w y g) = true := rfl
theorem xco_49 (pc : Nat) : p_code 49 pc = p_find pc pc_49 := rfl
theorem xow_49 : p_own 49 = 5 := rfl
theorem xc_49_0 : p_code 49 0 = some (.lload_n 1, 1) := (xco_49 0).trans rfl
theorem xc_49_1 : p_code 49 1 = some (.lconst 0, 1) := (xco_49 1).trans rfl
theorem xc_49_2 : p_code 49 2 = some (.lcmp, 1) := (xco_49 2).trans rfl
theorem xc_49_3 : p_code 49 3 = some (.ifCond .lt 11, 3) := (xco_49 3).trans rfl
theorem xj_49_3 : p_tgt 3 (11) = 14 ∧ 0 ≤ ((3 : Nat) : Int) + (11) := ⟨by decide, by decide⟩
theorem xc_49_6 : p_code 49 6 = some (.lload_n 1, 1) := (xco_49 6).trans rfl
theorem xc_49_7 : p_code 49 7 = some (.ldc2_w 58, 3) := (xco_49 7).trans rfl
theorem xl_49_58 : p_lng (p_own 49) 58 = some (100000000) := by rw [xow_49]; rfl
theorem xc_49_10 : p_code 49 10 = some (.lcmp, 1) := (xco_49 10).trans rfl
theorem xc_49_11 : p_code 49 11 = some (.ifCond .le 5, 3) := (xco_49 11).trans rfl
theorem xj_49_11 : p_tgt 11 (5) = 16 ∧ 0 ≤ ((11 : Nat) : Int) + (5) := ⟨by decide, by decide⟩
theorem xc_49_14 : p_code 49 14 = some (.iconst 0, 1) := (xco_49 14).trans rfl
theorem xc_49_15 : p_code 49 15 = some (.ireturn, 1) := (xco_49 15).trans rfl
theorem xc_49_16 : p_code 49 16 = some (.aload_n 0, 1) := (xco_49 16).trans rfl
theorem xc_49_17 : p_code 49 17 = some (.lload_n 1, 1) := (xco_49 17).trans rfl
theorem xc_49_18 : p_code 49 18 = some (.putfield 46, 3) := (xco_49 18).trans rfl
theorem xf_49_46 : p_fld (p_own 49) 46 = some (5, 5) := by rw [xow_49]; rfl
theorem xc_49_21 : p_code 49 21 = some (.iconst 1, 1) := (xco_49 21).trans rfl
theorem xc_49_22 : p_code 49 22 = some (.ireturn, 1) := (xco_49 22).trans rfl
theorem xrt_49 : p_rty 49 = some .boolean := rfl
theorem xhh_49 : p_hh 49 = [] := rfl
theorem xin_49 {x1 : Int64} : p_in0 49 [.ref 0, .long x1] = [some (.ref 0), some (.long x1), none] := rfl
theorem xrc_49 {z : Nat → Int32} {a : Nat → Nat → Int32} {w : Nat → Nat → Int64} {y : Nat → Int64} {g : List pE} {x1 : Int64} : p_recv 49 [.ref 0, .long x1] (hp z a w y g) = true := rfl
theorem xco_50 (pc : Nat) : p_code 50 pc = p_find pc pc_50 := rfl
theorem xow_50 : p_own 50 = 5 := rfl
theorem xc_50_0 : p_code 50 0 = some (.aload_n 0, 1) := (xco_50 0).trans rfl
theorem xc_50_1 : p_code 50 1 = some (.getfield 28, 3) := (xco_50 1).trans rfl
theorem xf_50_28 : p_fld (p_own 50) 28 = some (5, 2) := by rw [xow_50]; rfl
theorem xc_50_4 : p_code 50 4 = some (.iload_n 1, 1) := (xco_50 4).trans rfl
theorem xc_50_5 : p_code 50 5 = some (.lload_n 2, 1) := (xco_50 5).trans rfl
theorem xc_50_6 : p_code 50 6 = some (.invokevirtual 60, 3) := (xco_50 6).trans rfl
theorem xm_50_6 : p_calls 50 (.invokevirtual 60) = some (51, 3) := by dsimp only [p_calls]; rw [xow_50]; rfl
theorem xc_50_9 : p_code 50 9 = some (.ireturn, 1) := (xco_50 9).trans rfl
theorem xrt_50 : p_rty 50 = some .boolean := rfl
theorem xhh_50 : p_hh 50 = [] := rfl
theorem xin_50 {x1 : Int32} {x2 : Int64} : p_in0 50 [.ref 0, .int x1, .long x2] = [some (.ref 0), some (.int x1), some (.long x2), none] := rfl
theorem xrc_50 {z : Nat → Int32} {a : Nat → Nat → Int32} {w : Nat → Nat → Int64} {y : Nat → Int64} {g : List pE} {x1 : Int32} {x2 : Int64} : p_recv 50 [.ref 0, .int x1, .long x2] (hp z a w y g) = true := rfl
theorem xco_51 (pc : Nat) : p_code 51 pc = p_find pc pc_51 := rfl
theorem xow_51 : p_own 51 = 3 := rfl
theorem xc_51_0 : p_code 51 0 = some (.lload_n 2, 1) := (xco_51 0).trans rfl
theorem xc_51_1 : p_code 51 1 = some (.lconst 0, 1) := (xco_51 1).trans rfl
theorem xc_51_2 : p_code 51 2 = some (.lcmp, 1) := (xco_51 2).trans rfl
theorem xc_51_3 : p_code 51 3 = some (.ifCond .lt 15, 3) := (xco_51 3).trans rfl
theorem xj_51_3 : p_tgt 3 (15) = 18 ∧ 0 ≤ ((3 : Nat) : Int) + (15) := ⟨by decide, by decide⟩
theorem xc_51_6 : p_code 51 6 = some (.lload_n 2, 1) := (xco_51 6).trans rfl
theorem xc_51_7 : p_code 51 7 = some (.ldc2_w 30, 3) := (xco_51 7).trans rfl
theorem xl_51_30 : p_lng (p_own 51) 30 = some (100000000) := by rw [xow_51]; rfl
theorem xc_51_10 : p_code 51 10 = some (.lcmp, 1) := (xco_51 10).trans rfl
theorem xc_51_11 : p_code 51 11 = some (.ifCond .gt 7, 3) := (xco_51 11).trans rfl
theorem xj_51_11 : p_tgt 11 (7) = 18 ∧ 0 ≤ ((11 : Nat) : Int) + (7) := ⟨by decide, by decide⟩
theorem xc_51_14 : p_code 51 14 = some (.iconst 1, 1) := (xco_51 14).trans rfl
theorem xc_51_15 : p_code 51 15 = some (.goto 4, 3) := (xco_51 15).trans rfl
theorem xj_51_15 : p_tgt 15 (4) = 19 ∧ 0 ≤ ((15 : Nat) : Int) + (4) := ⟨by decide, by decide⟩
theorem xc_51_18 : p_code 51 18 = some (.iconst 0, 1) := (xco_51 18).trans rfl
theorem xc_51_19 : p_code 51 19 = some (.istore 4, 2) := (xco_51 19).trans rfl
theorem xc_51_21 : p_code 51 21 = some (.iload_n 1, 1) := (xco_51 21).trans rfl
theorem xc_51_22 : p_code 51 22 = some (.invokestatic 32, 3) := (xco_51 22).trans rfl
theorem xm_51_22 : p_calls 51 (.invokestatic 32) = some (52, 1) := by dsimp only [p_calls]; rw [xow_51]; rfl
theorem xc_51_25 : p_code 51 25 = some (.ifCond .eq 16, 3) := (xco_51 25).trans rfl
theorem xj_51_25 : p_tgt 25 (16) = 41 ∧ 0 ≤ ((25 : Nat) : Int) + (16) := ⟨by decide, by decide⟩
theorem xc_51_28 : p_code 51 28 = some (.iload 4, 2) := (xco_51 28).trans rfl
theorem xc_51_30 : p_code 51 30 = some (.ifCond .ne 13, 3) := (xco_51 30).trans rfl
theorem xj_51_30 : p_tgt 30 (13) = 43 ∧ 0 ≤ ((30 : Nat) : Int) + (13) := ⟨by decide, by decide⟩
theorem xc_51_33 : p_code 51 33 = some (.lload_n 2, 1) := (xco_51 33).trans rfl
theorem xc_51_34 : p_code 51 34 = some (.ldc2_w 22, 3) := (xco_51 34).trans rfl
theorem xl_51_22 : p_lng (p_own 51) 22 = some (-1) := by rw [xow_51]; rfl
theorem xc_51_37 : p_code 51 37 = some (.lcmp, 1) := (xco_51 37).trans rfl
theorem xc_51_38 : p_code 51 38 = some (.ifCond .eq 5, 3) := (xco_51 38).trans rfl
theorem xj_51_38 : p_tgt 38 (5) = 43 ∧ 0 ≤ ((38 : Nat) : Int) + (5) := ⟨by decide, by decide⟩
theorem xc_51_41 : p_code 51 41 = some (.iconst 0, 1) := (xco_51 41).trans rfl
theorem xc_51_42 : p_code 51 42 = some (.ireturn, 1) := (xco_51 42).trans rfl
theorem xc_51_43 : p_code 51 43 = some (.aload_n 0, 1) := (xco_51 43).trans rfl
theorem xc_51_44 : p_code 51 44 = some (.getfield 9, 3) := (xco_51 44).trans rfl
theorem xf_51_9 : p_fld (p_own 51) 9 = some (3, 0) := by rw [xow_51]; rfl
theorem xc_51_47 : p_code 51 47 = some (.iload_n 1, 1) := (xco_51 47).trans rfl
theorem xc_51_48 : p_code 51 48 = some (.lload_n 2, 1) := (xco_51 48).trans rfl
theorem xc_51_49 : p_code 51 49 = some (.lastore, 1) := (xco_51 49).trans rfl
theorem xc_51_50 : p_code 51 50 = some (.iconst 1, 1) := (xco_51 50).trans rfl
theorem xc_51_51 : p_code 51 51 = some (.ireturn, 1) := (xco_51 51).trans rfl
theorem xrt_51 : p_rty 51 = some .boolean := rfl
theorem xhh_51 : p_hh 51 = [] := rfl
theorem xin_51 {x1 : Int32} {x2 : Int64} : p_in0 51 [.ref 13, .int x1, .long x2] = [some (.ref 13), some (.int x1), some (.long x2), none, none] := rfl
theorem xrc_51 {z : Nat → Int32} {a : Nat → Nat → Int32} {w : Nat → Nat → Int64} {y : Nat → Int64} {g : List pE} {x1 : Int32} {x2 : Int64} : p_recv 51 [.ref 13, .int x1, .long x2] (hp z a w y g) = true := rfl
theorem xco_52 (pc : Nat) : p_code 52 pc = p_find pc pc_52 := rfl
theorem xow_52 : p_own 52 = 3 := rfl
theorem xc_52_0 : p_code 52 0 = some (.iload_n 0, 1) := (xco_52 0).trans rfl
theorem xc_52_1 : p_code 52 1 = some (.ifCond .lt 13, 3) := (xco_52 1).trans rfl
theorem xj_52_1 : p_tgt 1 (13) = 14 ∧ 0 ≤ ((1 : Nat) : Int) + (13) := ⟨by decide, by decide⟩
theorem xc_52_4 : p_code 52 4 = some (.iload_n 0, 1) := (xco_52 4).trans rfl
theorem xc_52_5 : p_code 52 5 = some (.bipush 8, 2) := (xco_52 5).trans rfl
theorem xc_52_7 : p_code 52 7 = some (.if_icmp .ge 7, 3) := (xco_52 7).trans rfl
theorem xj_52_7 : p_tgt 7 (7) = 14 ∧ 0 ≤ ((7 : Nat) : Int) + (7) := ⟨by decide, by decide⟩
theorem xc_52_10 : p_code 52 10 = some (.iconst 1, 1) := (xco_52 10).trans rfl
theorem xc_52_11 : p_code 52 11 = some (.goto 4, 3) := (xco_52 11).trans rfl
theorem xj_52_11 : p_tgt 11 (4) = 15 ∧ 0 ≤ ((11 : Nat) : Int) + (4) := ⟨by decide, by decide⟩
theorem xc_52_14 : p_code 52 14 = some (.iconst 0, 1) := (xco_52 14).trans rfl
theorem xc_52_15 : p_code 52 15 = some (.ireturn, 1) := (xco_52 15).trans rfl
theorem xrt_52 : p_rty 52 = some .boolean := rfl
theorem xhh_52 : p_hh 52 = [] := rfl
theorem xin_52 {x0 : Int32} : p_in0 52 [.int x0] = [some (.int x0)] := rfl
theorem xrc_52 {z : Nat → Int32} {a : Nat → Nat → Int32} {w : Nat → Nat → Int64} {y : Nat → Int64} {g : List pE} {x0 : Int32} : p_recv 52 [.int x0] (hp z a w y g) = true := rfl
theorem xco_53 (pc : Nat) : p_code 53 pc = p_find pc pc_53 := rfl
theorem xow_53 : p_own 53 = 5 := rfl
theorem xc_53_0 : p_code 53 0 = some (.aload_n 0, 1) := (xco_53 0).trans rfl
theorem xc_53_1 : p_code 53 1 = some (.getfield 28, 3) := (xco_53 1).trans rfl
theorem xf_53_28 : p_fld (p_own 53) 28 = some (5, 2) := by rw [xow_53]; rfl
theorem xc_53_4 : p_code 53 4 = some (.iload_n 1, 1) := (xco_53 4).trans rfl
theorem xc_53_5 : p_code 53 5 = some (.iload_n 2, 1) := (xco_53 5).trans rfl
theorem xc_53_6 : p_code 53 6 = some (.iload_n 3, 1) := (xco_53 6).trans rfl
theorem xc_53_7 : p_code 53 7 = some (.invokevirtual 64, 3) := (xco_53 7).trans rfl
theorem xm_53_7 : p_calls 53 (.invokevirtual 64) = some (54, 4) := by dsimp only [p_calls]; rw [xow_53]; rfl
theorem xc_53_10 : p_code 53 10 = some (.ireturn, 1) := (xco_53 10).trans rfl
theorem xrt_53 : p_rty 53 = some .boolean := rfl
theorem xhh_53 : p_hh 53 = [] := rfl
theorem xin_53 {x1 : Int32} {x2 : Int32} {x3 : Int32} : p_in0 53 [.ref 0, .int x1, .int x2, .int x3] = [some (.ref 0), some (.int x1), some (.int x2), some (.int x3)] := rfl
theorem xrc_53 {z : Nat → Int32} {a : Nat → Nat → Int32} {w : Nat → Nat → Int64} {y : Nat → Int64} {g : List pE} {x1 : Int32} {x2 : Int32} {x3 : Int32} : p_recv 53 [.ref 0, .int x1, .int x2, .int x3] (hp z a w y g) = true := rfl
theorem xco_54 (pc : Nat) : p_code 54 pc = p_find pc pc_54 := rfl
theorem xow_54 : p_own 54 = 3 := rfl
theorem xc_54_0 : p_code 54 0 = some (.iload_n 1, 1) := (xco_54 0).trans rfl
theorem xc_54_1 : p_code 54 1 = some (.invokestatic 32, 3) := (xco_54 1).trans rfl
theorem xm_54_1 : p_calls 54 (.invokestatic 32) = some (52, 1) := by dsimp only [p_calls]; rw [xow_54]; rfl
theorem xc_54_4 : p_code 54 4 = some (.ifCond .eq 21, 3) := (xco_54 4).trans rfl
theorem xj_54_4 : p_tgt 4 (21) = 25 ∧ 0 ≤ ((4 : Nat) : Int) + (21) := ⟨by decide, by decide⟩
theorem xc_54_7 : p_code 54 7 = some (.iload_n 2, 1) := (xco_54 7).trans rfl
theorem xc_54_8 : p_code 54 8 = some (.invokestatic 32, 3) := (xco_54 8).trans rfl
theorem xm_54_8 : p_calls 54 (.invokestatic 32) = some (52, 1) := by dsimp only [p_calls]; rw [xow_54]; rfl
theorem xc_54_11 : p_code 54 11 = some (.ifCond .eq 14, 3) := (xco_54 11).trans rfl
theorem xj_54_11 : p_tgt 11 (14) = 25 ∧ 0 ≤ ((11 : Nat) : Int) + (14) := ⟨by decide, by decide⟩
theorem xc_54_14 : p_code 54 14 = some (.iload_n 3, 1) := (xco_54 14).trans rfl
theorem xc_54_15 : p_code 54 15 = some (.ifCond .lt 10, 3) := (xco_54 15).trans rfl
theorem xj_54_15 : p_tgt 15 (10) = 25 ∧ 0 ≤ ((15 : Nat) : Int) + (10) := ⟨by decide, by decide⟩
theorem xc_54_18 : p_code 54 18 = some (.iload_n 3, 1) := (xco_54 18).trans rfl
theorem xc_54_19 : p_code 54 19 = some (.sipush 1000, 3) := (xco_54 19).trans rfl
theorem xc_54_22 : p_code 54 22 = some (.if_icmp .le 5, 3) := (xco_54 22).trans rfl
theorem xj_54_22 : p_tgt 22 (5) = 27 ∧ 0 ≤ ((22 : Nat) : Int) + (5) := ⟨by decide, by decide⟩
theorem xc_54_25 : p_code 54 25 = some (.iconst 0, 1) := (xco_54 25).trans rfl
theorem xc_54_26 : p_code 54 26 = some (.ireturn, 1) := (xco_54 26).trans rfl
theorem xc_54_27 : p_code 54 27 = some (.iload_n 3, 1) := (xco_54 27).trans rfl
theorem xc_54_28 : p_code 54 28 = some (.ifCond .le 14, 3) := (xco_54 28).trans rfl
theorem xj_54_28 : p_tgt 28 (14) = 42 ∧ 0 ≤ ((28 : Nat) : Int) + (14) := ⟨by decide, by decide⟩
theorem xc_54_31 : p_code 54 31 = some (.aload_n 0, 1) := (xco_54 31).trans rfl
theorem xc_54_32 : p_code 54 32 = some (.iload_n 2, 1) := (xco_54 32).trans rfl
theorem xc_54_33 : p_code 54 33 = some (.iload_n 1, 1) := (xco_54 33).trans rfl
theorem xc_54_34 : p_code 54 34 = some (.invokevirtual 36, 3) := (xco_54 34).trans rfl
theorem xm_54_34 : p_calls 54 (.invokevirtual 36) = some (55, 3) := by dsimp only [p_calls]; rw [xow_54]; rfl
theorem xc_54_37 : p_code 54 37 = some (.ifCond .eq 5, 3) := (xco_54 37).trans rfl
theorem xj_54_37 : p_tgt 37 (5) = 42 ∧ 0 ≤ ((37 : Nat) : Int) + (5) := ⟨by decide, by decide⟩
theorem xc_54_40 : p_code 54 40 = some (.iconst 0, 1) := (xco_54 40).trans rfl
theorem xc_54_41 : p_code 54 41 = some (.ireturn, 1) := (xco_54 41).trans rfl
theorem xc_54_42 : p_code 54 42 = some (.aload_n 0, 1) := (xco_54 42).trans rfl
theorem xc_54_43 : p_code 54 43 = some (.getfield 15, 3) := (xco_54 43).trans rfl
theorem xf_54_15 : p_fld (p_own 54) 15 = some (3, 1) := by rw [xow_54]; rfl
theorem xc_54_46 : p_code 54 46 = some (.iload_n 1, 1) := (xco_54 46).trans rfl
theorem xc_54_47 : p_code 54 47 = some (.iload_n 2, 1) := (xco_54 47).trans rfl
theorem xc_54_48 : p_code 54 48 = some (.iastore, 1) := (xco_54 48).trans rfl
theorem xc_54_49 : p_code 54 49 = some (.aload_n 0, 1) := (xco_54 49).trans rfl
theorem xc_54_50 : p_code 54 50 = some (.getfield 19, 3) := (xco_54 50).trans rfl
theorem xf_54_19 : p_fld (p_own 54) 19 = some (3, 2) := by rw [xow_54]; rfl
theorem xc_54_53 : p_code 54 53 = some (.iload_n 1, 1) := (xco_54 53).trans rfl
theorem xc_54_54 : p_code 54 54 = some (.iload_n 3, 1) := (xco_54 54).trans rfl
theorem xc_54_55 : p_code 54 55 = some (.iastore, 1) := (xco_54 55).trans rfl
theorem xc_54_56 : p_code 54 56 = some (.iconst 1, 1) := (xco_54 56).trans rfl
theorem xc_54_57 : p_code 54 57 = some (.ireturn, 1) := (xco_54 57).trans rfl
theorem xrt_54 : p_rty 54 = some .boolean := rfl
theorem xhh_54 : p_hh 54 = [] := rfl
theorem xin_54 {x1 : Int32} {x2 : Int32} {x3 : Int32} : p_in0 54 [.ref 13, .int x1, .int x2, .int x3] = [some (.ref 13), some (.int x1), some (.int x2), some (.int x3)] := rfl
theorem xrc_54 {z : Nat → Int32} {a : Nat → Nat → Int32} {w : Nat → Nat → Int64} {y : Nat → Int64} {g : List pE} {x1 : Int32} {x2 : Int32} {x3 : Int32} : p_recv 54 [.ref 13, .int x1, .int x2, .int x3] (hp z a w y g) = true := rfl
theorem xco_55 (pc : Nat) : p_code 55 pc = p_find pc pc_55 := rfl
theorem xow_55 : p_own 55 = 3 := rfl
theorem xc_55_0 : p_code 55 0 = some (.iload_n 1, 1) := (xco_55 0).trans rfl
theorem xc_55_1 : p_code 55 1 = some (.istore_n 3, 1) := (xco_55 1).trans rfl
theorem xc_55_2 : p_code 55 2 = some (.iconst 0, 1) := (xco_55 2).trans rfl
theorem xc_55_3 : p_code 55 3 = some (.istore 4, 2) := (xco_55 3).trans rfl
theorem xc_55_5 : p_code 55 5 = some (.iload 4, 2) := (xco_55 5).trans rfl
theorem xc_55_7 : p_code 55 7 = some (.bipush 8, 2) := (xco_55 7).trans rfl
theorem xc_55_9 : p_code 55 9 = some (.if_icmp .ge 32, 3) := (xco_55 9).trans rfl
theorem xj_55_9 : p_tgt 9 (32) = 41 ∧ 0 ≤ ((9 : Nat) : Int) + (32) := ⟨by decide, by decide⟩
theorem xc_55_12 : p_code 55 12 = some (.iload_n 3, 1) := (xco_55 12).trans rfl
theorem xc_55_13 : p_code 55 13 = some (.iload_n 2, 1) := (xco_55 13).trans rfl
theorem xc_55_14 : p_code 55 14 = some (.if_icmp .eq 27, 3) := (xco_55 14).trans rfl
theorem xj_55_14 : p_tgt 14 (27) = 41 ∧ 0 ≤ ((14 : Nat) : Int) + (27) := ⟨by decide, by decide⟩
theorem xc_55_17 : p_code 55 17 = some (.aload_n 0, 1) := (xco_55 17).trans rfl
theorem xc_55_18 : p_code 55 18 = some (.getfield 19, 3) := (xco_55 18).trans rfl
theorem xf_55_19 : p_fld (p_own 55) 19 = some (3, 2) := by rw [xow_55]; rfl
theorem xc_55_21 : p_code 55 21 = some (.iload_n 3, 1) := (xco_55 21).trans rfl
theorem xc_55_22 : p_code 55 22 = some (.iaload, 1) := (xco_55 22).trans rfl
theorem xc_55_23 : p_code 55 23 = some (.ifCond .ne 5, 3) := (xco_55 23).trans rfl
theorem xj_55_23 : p_tgt 23 (5) = 28 ∧ 0 ≤ ((23 : Nat) : Int) + (5) := ⟨by decide, by decide⟩
theorem xc_55_26 : p_code 55 26 = some (.iconst 0, 1) := (xco_55 26).trans rfl
theorem xc_55_27 : p_code 55 27 = some (.ireturn, 1) := (xco_55 27).trans rfl
theorem xc_55_28 : p_code 55 28 = some (.aload_n 0, 1) := (xco_55 28).trans rfl
theorem xc_55_29 : p_code 55 29 = some (.getfield 15, 3) := (xco_55 29).trans rfl
theorem xf_55_15 : p_fld (p_own 55) 15 = some (3, 1) := by rw [xow_55]; rfl
theorem xc_55_32 : p_code 55 32 = some (.iload_n 3, 1) := (xco_55 32).trans rfl
theorem xc_55_33 : p_code 55 33 = some (.iaload, 1) := (xco_55 33).trans rfl
theorem xc_55_34 : p_code 55 34 = some (.istore_n 3, 1) := (xco_55 34).trans rfl
theorem xc_55_35 : p_code 55 35 = some (.iinc 4 1, 3) := (xco_55 35).trans rfl
theorem xc_55_38 : p_code 55 38 = some (.goto (-33), 3) := (xco_55 38).trans rfl
theorem xj_55_38 : p_tgt 38 (-33) = 5 ∧ 0 ≤ ((38 : Nat) : Int) + (-33) := ⟨by decide, by decide⟩
theorem xc_55_41 : p_code 55 41 = some (.iload_n 3, 1) := (xco_55 41).trans rfl
theorem xc_55_42 : p_code 55 42 = some (.iload_n 2, 1) := (xco_55 42).trans rfl
theorem xc_55_43 : p_code 55 43 = some (.if_icmp .ne 7, 3) := (xco_55 43).trans rfl
theorem xj_55_43 : p_tgt 43 (7) = 50 ∧ 0 ≤ ((43 : Nat) : Int) + (7) := ⟨by decide, by decide⟩
theorem xc_55_46 : p_code 55 46 = some (.iconst 1, 1) := (xco_55 46).trans rfl
theorem xc_55_47 : p_code 55 47 = some (.goto 4, 3) := (xco_55 47).trans rfl
theorem xj_55_47 : p_tgt 47 (4) = 51 ∧ 0 ≤ ((47 : Nat) : Int) + (4) := ⟨by decide, by decide⟩
theorem xc_55_50 : p_code 55 50 = some (.iconst 0, 1) := (xco_55 50).trans rfl
theorem xc_55_51 : p_code 55 51 = some (.ireturn, 1) := (xco_55 51).trans rfl
theorem xrt_55 : p_rty 55 = some .boolean := rfl
theorem xhh_55 : p_hh 55 = [] := rfl
theorem xin_55 {x1 : Int32} {x2 : Int32} : p_in0 55 [.ref 13, .int x1, .int x2] = [some (.ref 13), some (.int x1), some (.int x2), none, none] := rfl
theorem xrc_55 {z : Nat → Int32} {a : Nat → Nat → Int32} {w : Nat → Nat → Int64} {y : Nat → Int64} {g : List pE} {x1 : Int32} {x2 : Int32} : p_recv 55 [.ref 13, .int x1, .int x2] (hp z a w y g) = true := rfl
theorem xco_56 (pc : Nat) : p_code 56 pc = p_find pc pc_56 := rfl
theorem xow_56 : p_own 56 = 5 := rfl
theorem xc_56_0 : p_code 56 0 = some (.iload_n 1, 1) := (xco_56 0).trans rfl
theorem xc_56_1 : p_code 56 1 = some (.ifCond .ge 5, 3) := (xco_56 1).trans rfl
theorem xj_56_1 : p_tgt 1 (5) = 6 ∧ 0 ≤ ((1 : Nat) : Int) + (5) := ⟨by decide, by decide⟩
theorem xc_56_4 : p_code 56 4 = some (.iconst (-1), 1) := (xco_56 4).trans rfl
theorem xc_56_5 : p_code 56 5 = some (.ireturn, 1) := (xco_56 5).trans rfl
theorem xc_56_6 : p_code 56 6 = some (.iload_n 1, 1) := (xco_56 6).trans rfl
theorem xc_56_7 : p_code 56 7 = some (.istore_n 2, 1) := (xco_56 7).trans rfl
theorem xc_56_8 : p_code 56 8 = some (.iconst 0, 1) := (xco_56 8).trans rfl
theorem xc_56_9 : p_code 56 9 = some (.istore_n 3, 1) := (xco_56 9).trans rfl
theorem xc_56_10 : p_code 56 10 = some (.iload_n 3, 1) := (xco_56 10).trans rfl
theorem xc_56_11 : p_code 56 11 = some (.bipush 8, 2) := (xco_56 11).trans rfl
theorem xc_56_13 : p_code 56 13 = some (.if_icmp .ge 44, 3) := (xco_56 13).trans rfl
theorem xj_56_13 : p_tgt 13 (44) = 57 ∧ 0 ≤ ((13 : Nat) : Int) + (44) := ⟨by decide, by decide⟩
theorem xc_56_16 : p_code 56 16 = some (.aload_n 0, 1) := (xco_56 16).trans rfl
theorem xc_56_17 : p_code 56 17 = some (.getfield 12, 3) := (xco_56 17).trans rfl
theorem xf_56_12 : p_fld (p_own 56) 12 = some (5, 0) := by rw [xow_56]; rfl
theorem xc_56_20 : p_code 56 20 = some (.iload_n 3, 1) := (xco_56 20).trans rfl
theorem xc_56_21 : p_code 56 21 = some (.invokevirtual 126, 3) := (xco_56 21).trans rfl
theorem xm_56_21 : p_calls 56 (.invokevirtual 126) = some (57, 2) := by dsimp only [p_calls]; rw [xow_56]; rfl
theorem xc_56_24 : p_code 56 24 = some (.ifCond .eq 27, 3) := (xco_56 24).trans rfl
theorem xj_56_24 : p_tgt 24 (27) = 51 ∧ 0 ≤ ((24 : Nat) : Int) + (27) := ⟨by decide, by decide⟩
theorem xc_56_27 : p_code 56 27 = some (.aload_n 0, 1) := (xco_56 27).trans rfl
theorem xc_56_28 : p_code 56 28 = some (.getfield 28, 3) := (xco_56 28).trans rfl
theorem xf_56_28 : p_fld (p_own 56) 28 = some (5, 2) := by rw [xow_56]; rfl
theorem xc_56_31 : p_code 56 31 = some (.iload_n 3, 1) := (xco_56 31).trans rfl
theorem xc_56_32 : p_code 56 32 = some (.invokevirtual 129, 3) := (xco_56 32).trans rfl
theorem xm_56_32 : p_calls 56 (.invokevirtual 129) = some (58, 2) := by dsimp only [p_calls]; rw [xow_56]; rfl
theorem xc_56_35 : p_code 56 35 = some (.ldc2_w 132, 3) := (xco_56 35).trans rfl
theorem xl_56_132 : p_lng (p_own 56) 132 = some (-1) := by rw [xow_56]; rfl
theorem xc_56_38 : p_code 56 38 = some (.lcmp, 1) := (xco_56 38).trans rfl
theorem xc_56_39 : p_code 56 39 = some (.ifCond .ne 12, 3) := (xco_56 39).trans rfl
theorem xj_56_39 : p_tgt 39 (12) = 51 ∧ 0 ≤ ((39 : Nat) : Int) + (12) := ⟨by decide, by decide⟩
theorem xc_56_42 : p_code 56 42 = some (.iload_n 2, 1) := (xco_56 42).trans rfl
theorem xc_56_43 : p_code 56 43 = some (.ifCond .ne 5, 3) := (xco_56 43).trans rfl
theorem xj_56_43 : p_tgt 43 (5) = 48 ∧ 0 ≤ ((43 : Nat) : Int) + (5) := ⟨by decide, by decide⟩
theorem xc_56_46 : p_code 56 46 = some (.iload_n 3, 1) := (xco_56 46).trans rfl
theorem xc_56_47 : p_code 56 47 = some (.ireturn, 1) := (xco_56 47).trans rfl
theorem xc_56_48 : p_code 56 48 = some (.iinc 2 (-1), 3) := (xco_56 48).trans rfl
theorem xc_56_51 : p_code 56 51 = some (.iinc 3 1, 3) := (xco_56 51).trans rfl
theorem xc_56_54 : p_code 56 54 = some (.goto (-44), 3) := (xco_56 54).trans rfl
theorem xj_56_54 : p_tgt 54 (-44) = 10 ∧ 0 ≤ ((54 : Nat) : Int) + (-44) := ⟨by decide, by decide⟩
theorem xc_56_57 : p_code 56 57 = some (.iconst (-1), 1) := (xco_56 57).trans rfl
theorem xc_56_58 : p_code 56 58 = some (.ireturn, 1) := (xco_56 58).trans rfl
theorem xrt_56 : p_rty 56 = some .int := rfl
theorem xhh_56 : p_hh 56 = [] := rfl
theorem xin_56 {x1 : Int32} : p_in0 56 [.ref 0, .int x1] = [some (.ref 0), some (.int x1), none, none] := rfl
theorem xrc_56 {z : Nat → Int32} {a : Nat → Nat → Int32} {w : Nat → Nat → Int64} {y : Nat → Int64} {g : List pE} {x1 : Int32} : p_recv 56 [.ref 0, .int x1] (hp z a w y g) = true := rfl
theorem xco_57 (pc : Nat) : p_code 57 pc = p_find pc pc_57 := rfl
theorem xow_57 : p_own 57 = 2 := rfl
theorem xc_57_0 : p_code 57 0 = some (.iconst 0, 1) := (xco_57 0).trans rfl
theorem xc_57_1 : p_code 57 1 = some (.istore_n 2, 1) := (xco_57 1).trans rfl
theorem xc_57_2 : p_code 57 2 = some (.iload_n 2, 1) := (xco_57 2).trans rfl
theorem xc_57_3 : p_code 57 3 = some (.aload_n 0, 1) := (xco_57 3).trans rfl
theorem xc_57_4 : p_code 57 4 = some (.getfield 43, 3) := (xco_57 4).trans rfl
theorem xf_57_43 : p_fld (p_own 57) 43 = some (2, 10) := by rw [xow_57]; rfl
theorem xc_57_7 : p_code 57 7 = some (.if_icmp .ge 31, 3) := (xco_57 7).trans rfl
theorem xj_57_7 : p_tgt 7 (31) = 38 ∧ 0 ≤ ((7 : Nat) : Int) + (31) := ⟨by decide, by decide⟩
theorem xc_57_10 : p_code 57 10 = some (.aload_n 0, 1) := (xco_57 10).trans rfl
theorem xc_57_11 : p_code 57 11 = some (.getfield 9, 3) := (xco_57 11).trans rfl
theorem xf_57_9 : p_fld (p_own 57) 9 = some (2, 0) := by rw [xow_57]; rfl
theorem xc_57_14 : p_code 57 14 = some (.iload_n 2, 1) := (xco_57 14).trans rfl
theorem xc_57_15 : p_code 57 15 = some (.iaload, 1) := (xco_57 15).trans rfl
theorem xc_57_16 : p_code 57 16 = some (.iconst 2, 1) := (xco_57 16).trans rfl
theorem xc_57_17 : p_code 57 17 = some (.if_icmp .ne 15, 3) := (xco_57 17).trans rfl
theorem xj_57_17 : p_tgt 17 (15) = 32 ∧ 0 ≤ ((17 : Nat) : Int) + (15) := ⟨by decide, by decide⟩
theorem xc_57_20 : p_code 57 20 = some (.aload_n 0, 1) := (xco_57 20).trans rfl
theorem xc_57_21 : p_code 57 21 = some (.getfield 18, 3) := (xco_57 21).trans rfl
theorem xf_57_18 : p_fld (p_own 57) 18 = some (2, 2) := by rw [xow_57]; rfl
theorem xc_57_24 : p_code 57 24 = some (.iload_n 2, 1) := (xco_57 24).trans rfl
theorem xc_57_25 : p_code 57 25 = some (.iaload, 1) := (xco_57 25).trans rfl
theorem xc_57_26 : p_code 57 26 = some (.iload_n 1, 1) := (xco_57 26).trans rfl
theorem xc_57_27 : p_code 57 27 = some (.if_icmp .ne 5, 3) := (xco_57 27).trans rfl
theorem xj_57_27 : p_tgt 27 (5) = 32 ∧ 0 ≤ ((27 : Nat) : Int) + (5) := ⟨by decide, by decide⟩
theorem xc_57_30 : p_code 57 30 = some (.iconst 1, 1) := (xco_57 30).trans rfl
theorem xc_57_31 : p_code 57 31 = some (.ireturn, 1) := (xco_57 31).trans rfl
theorem xc_57_32 : p_code 57 32 = some (.iinc 2 1, 3) := (xco_57 32).trans rfl
theorem xc_57_35 : p_code 57 35 = some (.goto (-33), 3) := (xco_57 35).trans rfl
theorem xj_57_35 : p_tgt 35 (-33) = 2 ∧ 0 ≤ ((35 : Nat) : Int) + (-33) := ⟨by decide, by decide⟩
theorem xc_57_38 : p_code 57 38 = some (.iconst 0, 1) := (xco_57 38).trans rfl
theorem xc_57_39 : p_code 57 39 = some (.ireturn, 1) := (xco_57 39).trans rfl
theorem xrt_57 : p_rty 57 = some .boolean := rfl
theorem xhh_57 : p_hh 57 = [] := rfl
theorem xin_57 {x1 : Int32} : p_in0 57 [.ref 1, .int x1] = [some (.ref 1), some (.int x1), none] := rfl
theorem xrc_57 {z : Nat → Int32} {a : Nat → Nat → Int32} {w : Nat → Nat → Int64} {y : Nat → Int64} {g : List pE} {x1 : Int32} : p_recv 57 [.ref 1, .int x1] (hp z a w y g) = true := rfl
theorem xco_58 (pc : Nat) : p_code 58 pc = p_find pc pc_58 := rfl
theorem xow_58 : p_own 58 = 3 := rfl
theorem xc_58_0 : p_code 58 0 = some (.lconst 1, 1) := (xco_58 0).trans rfl
theorem xc_58_1 : p_code 58 1 = some (.lstore_n 2, 1) := (xco_58 1).trans rfl
theorem xc_58_2 : p_code 58 2 = some (.iload_n 1, 1) := (xco_58 2).trans rfl
theorem xc_58_3 : p_code 58 3 = some (.istore 4, 2) := (xco_58 3).trans rfl
theorem xc_58_5 : p_code 58 5 = some (.iconst 0, 1) := (xco_58 5).trans rfl
theorem xc_58_6 : p_code 58 6 = some (.istore 5, 2) := (xco_58 6).trans rfl
theorem xc_58_8 : p_code 58 8 = some (.iload 5, 2) := (xco_58 8).trans rfl
theorem xc_58_10 : p_code 58 10 = some (.bipush 8, 2) := (xco_58 10).trans rfl
theorem xc_58_12 : p_code 58 12 = some (.if_icmp .ge 85, 3) := (xco_58 12).trans rfl
theorem xj_58_12 : p_tgt 12 (85) = 97 ∧ 0 ≤ ((12 : Nat) : Int) + (85) := ⟨by decide, by decide⟩
theorem xc_58_15 : p_code 58 15 = some (.iload 4, 2) := (xco_58 15).trans rfl
theorem xc_58_17 : p_code 58 17 = some (.invokestatic 32, 3) := (xco_58 17).trans rfl
theorem xm_58_17 : p_calls 58 (.invokestatic 32) = some (52, 1) := by dsimp only [p_calls]; rw [xow_58]; rfl
theorem xc_58_20 : p_code 58 20 = some (.ifCond .ne 7, 3) := (xco_58 20).trans rfl
theorem xj_58_20 : p_tgt 20 (7) = 27 ∧ 0 ≤ ((20 : Nat) : Int) + (7) := ⟨by decide, by decide⟩
theorem xc_58_23 : p_code 58 23 = some (.ldc2_w 22, 3) := (xco_58 23).trans rfl
theorem xl_58_22 : p_lng (p_own 58) 22 = some (-1) := by rw [xow_58]; rfl
theorem xc_58_26 : p_code 58 26 = some (.lreturn, 1) := (xco_58 26).trans rfl
theorem xc_58_27 : p_code 58 27 = some (.aload_n 0, 1) := (xco_58 27).trans rfl
theorem xc_58_28 : p_code 58 28 = some (.getfield 9, 3) := (xco_58 28).trans rfl
theorem xf_58_9 : p_fld (p_own 58) 9 = some (3, 0) := by rw [xow_58]; rfl
theorem xc_58_31 : p_code 58 31 = some (.iload 4, 2) := (xco_58 31).trans rfl
theorem xc_58_33 : p_code 58 33 = some (.laload, 1) := (xco_58 33).trans rfl
theorem xc_58_34 : p_code 58 34 = some (.ldc2_w 22, 3) := (xco_58 34).trans rfl
theorem xc_58_37 : p_code 58 37 = some (.lcmp, 1) := (xco_58 37).trans rfl
theorem xc_58_38 : p_code 58 38 = some (.ifCond .eq 13, 3) := (xco_58 38).trans rfl
theorem xj_58_38 : p_tgt 38 (13) = 51 ∧ 0 ≤ ((38 : Nat) : Int) + (13) := ⟨by decide, by decide⟩
theorem xc_58_41 : p_code 58 41 = some (.aload_n 0, 1) := (xco_58 41).trans rfl
theorem xc_58_42 : p_code 58 42 = some (.getfield 9, 3) := (xco_58 42).trans rfl
theorem xc_58_45 : p_code 58 45 = some (.iload 4, 2) := (xco_58 45).trans rfl
theorem xc_58_47 : p_code 58 47 = some (.laload, 1) := (xco_58 47).trans rfl
theorem xc_58_48 : p_code 58 48 = some (.lload_n 2, 1) := (xco_58 48).trans rfl
theorem xc_58_49 : p_code 58 49 = some (.lmul, 1) := (xco_58 49).trans rfl
theorem xc_58_50 : p_code 58 50 = some (.lreturn, 1) := (xco_58 50).trans rfl
theorem xc_58_51 : p_code 58 51 = some (.aload_n 0, 1) := (xco_58 51).trans rfl
theorem xc_58_52 : p_code 58 52 = some (.getfield 19, 3) := (xco_58 52).trans rfl
theorem xf_58_19 : p_fld (p_own 58) 19 = some (3, 2) := by rw [xow_58]; rfl
theorem xc_58_55 : p_code 58 55 = some (.iload 4, 2) := (xco_58 55).trans rfl
theorem xc_58_57 : p_code 58 57 = some (.iaload, 1) := (xco_58 57).trans rfl
theorem xc_58_58 : p_code 58 58 = some (.ifCond .ne 7, 3) := (xco_58 58).trans rfl
theorem xj_58_58 : p_tgt 58 (7) = 65 ∧ 0 ≤ ((58 : Nat) : Int) + (7) := ⟨by decide, by decide⟩
theorem xc_58_61 : p_code 58 61 = some (.ldc2_w 22, 3) := (xco_58 61).trans rfl
theorem xc_58_64 : p_code 58 64 = some (.lreturn, 1) := (xco_58 64).trans rfl
theorem xc_58_65 : p_code 58 65 = some (.lload_n 2, 1) := (xco_58 65).trans rfl
theorem xc_58_66 : p_code 58 66 = some (.aload_n 0, 1) := (xco_58 66).trans rfl
theorem xc_58_67 : p_code 58 67 = some (.getfield 19, 3) := (xco_58 67).trans rfl
theorem xc_58_70 : p_code 58 70 = some (.iload 4, 2) := (xco_58 70).trans rfl
theorem xc_58_72 : p_code 58 72 = some (.iaload, 1) := (xco_58 72).trans rfl
theorem xc_58_73 : p_code 58 73 = some (.i2l, 1) := (xco_58 73).trans rfl
theorem xc_58_74 : p_code 58 74 = some (.lmul, 1) := (xco_58 74).trans rfl
theorem xc_58_75 : p_code 58 75 = some (.ldc2_w 40, 3) := (xco_58 75).trans rfl
theorem xl_58_40 : p_lng (p_own 58) 40 = some (100000001) := by rw [xow_58]; rfl
theorem xc_58_78 : p_code 58 78 = some (.invokestatic 42, 3) := (xco_58 78).trans rfl
theorem xm_58_78 : p_calls 58 (.invokestatic 42) = some (59, 2) := by dsimp only [p_calls]; rw [xow_58]; rfl
theorem xc_58_81 : p_code 58 81 = some (.lstore_n 2, 1) := (xco_58 81).trans rfl
theorem xc_58_82 : p_code 58 82 = some (.aload_n 0, 1) := (xco_58 82).trans rfl
theorem xc_58_83 : p_code 58 83 = some (.getfield 15, 3) := (xco_58 83).trans rfl
theorem xf_58_15 : p_fld (p_own 58) 15 = some (3, 1) := by rw [xow_58]; rfl
theorem xc_58_86 : p_code 58 86 = some (.iload 4, 2) := (xco_58 86).trans rfl
theorem xc_58_88 : p_code 58 88 = some (.iaload, 1) := (xco_58 88).trans rfl
theorem xc_58_89 : p_code 58 89 = some (.istore 4, 2) := (xco_58 89).trans rfl
theorem xc_58_91 : p_code 58 91 = some (.iinc 5 1, 3) := (xco_58 91).trans rfl
theorem xc_58_94 : p_code 58 94 = some (.goto (-86), 3) := (xco_58 94).trans rfl
theorem xj_58_94 : p_tgt 94 (-86) = 8 ∧ 0 ≤ ((94 : Nat) : Int) + (-86) := ⟨by decide, by decide⟩
theorem xc_58_97 : p_code 58 97 = some (.ldc2_w 22, 3) := (xco_58 97).trans rfl
theorem xc_58_100 : p_code 58 100 = some (.lreturn, 1) := (xco_58 100).trans rfl
theorem xrt_58 : p_rty 58 = some .long := rfl
theorem xhh_58 : p_hh 58 = [] := rfl
theorem xin_58 {x1 : Int32} : p_in0 58 [.ref 13, .int x1] = [some (.ref 13), some (.int x1), none, none, none, none] := rfl
theorem xrc_58 {z : Nat → Int32} {a : Nat → Nat → Int32} {w : Nat → Nat → Int64} {y : Nat → Int64} {g : List pE} {x1 : Int32} : p_recv 58 [.ref 13, .int x1] (hp z a w y g) = true := rfl
theorem xco_59 (pc : Nat) : p_code 59 pc = p_find pc pc_59 := rfl
theorem xow_59 : p_own 59 = 14 := rfl
theorem xc_59_0 : p_code 59 0 = some (.lload_n 0, 1) := (xco_59 0).trans rfl
theorem xc_59_1 : p_code 59 1 = some (.lload_n 2, 1) := (xco_59 1).trans rfl
theorem xc_59_2 : p_code 59 2 = some (.lcmp, 1) := (xco_59 2).trans rfl
theorem xc_59_3 : p_code 59 3 = some (.ifCond .gt 7, 3) := (xco_59 3).trans rfl
theorem xj_59_3 : p_tgt 3 (7) = 10 ∧ 0 ≤ ((3 : Nat) : Int) + (7) := ⟨by decide, by decide⟩
theorem xc_59_6 : p_code 59 6 = some (.lload_n 0, 1) := (xco_59 6).trans rfl
theorem xc_59_7 : p_code 59 7 = some (.goto 4, 3) := (xco_59 7).trans rfl
theorem xj_59_7 : p_tgt 7 (4) = 11 ∧ 0 ≤ ((7 : Nat) : Int) + (4) := ⟨by decide, by decide⟩
theorem xc_59_10 : p_code 59 10 = some (.lload_n 2, 1) := (xco_59 10).trans rfl
theorem xc_59_11 : p_code 59 11 = some (.lreturn, 1) := (xco_59 11).trans rfl
theorem xrt_59 : p_rty 59 = some .long := rfl
theorem xhh_59 : p_hh 59 = [] := rfl
theorem xin_59 {x0 : Int64} {x1 : Int64} : p_in0 59 [.long x0, .long x1] = [some (.long x0), none, some (.long x1), none] := rfl
theorem xrc_59 {z : Nat → Int32} {a : Nat → Nat → Int32} {w : Nat → Nat → Int64} {y : Nat → Int64} {g : List pE} {x0 : Int64} {x1 : Int64} : p_recv 59 [.long x0, .long x1] (hp z a w y g) = true := rfl
theorem xco_60 (pc : Nat) : p_code 60 pc = p_find pc pc_60 := rfl
theorem xow_60 : p_own 60 = 5 := rfl
theorem xc_60_0 : p_code 60 0 = some (.iload_n 1, 1) := (xco_60 0).trans rfl
theorem xc_60_1 : p_code 60 1 = some (.tableswitch 63 0 3 #[31, 39, 47, 55], 31) := (xco_60 1).trans rfl
theorem xc_60_32 : p_code 60 32 = some (.aload_n 0, 1) := (xco_60 32).trans rfl
theorem xc_60_33 : p_code 60 33 = some (.getfield 21, 3) := (xco_60 33).trans rfl
theorem xf_60_21 : p_fld (p_own 60) 21 = some (5, 1) := by rw [xow_60]; rfl
theorem xc_60_36 : p_code 60 36 = some (.getfield 166, 3) := (xco_60 36).trans rfl
theorem xf_60_166 : p_fld (p_own 60) 166 = some (1, 2) := by rw [xow_60]; rfl
theorem xc_60_39 : p_code 60 39 = some (.ireturn, 1) := (xco_60 39).trans rfl
theorem xc_60_40 : p_code 60 40 = some (.aload_n 0, 1) := (xco_60 40).trans rfl
theorem xc_60_41 : p_code 60 41 = some (.getfield 12, 3) := (xco_60 41).trans rfl
theorem xf_60_12 : p_fld (p_own 60) 12 = some (5, 0) := by rw [xow_60]; rfl
theorem xc_60_44 : p_code 60 44 = some (.getfield 134, 3) := (xco_60 44).trans rfl
theorem xf_60_134 : p_fld (p_own 60) 134 = some (2, 10) := by rw [xow_60]; rfl
theorem xc_60_47 : p_code 60 47 = some (.ireturn, 1) := (xco_60 47).trans rfl
theorem xc_60_48 : p_code 60 48 = some (.aload_n 0, 1) := (xco_60 48).trans rfl
theorem xc_60_49 : p_code 60 49 = some (.getfield 42, 3) := (xco_60 49).trans rfl
theorem xf_60_42 : p_fld (p_own 60) 42 = some (5, 4) := by rw [xow_60]; rfl
theorem xc_60_52 : p_code 60 52 = some (.getfield 147, 3) := (xco_60 52).trans rfl
theorem xf_60_147 : p_fld (p_own 60) 147 = some (0, 1) := by rw [xow_60]; rfl
theorem xc_60_55 : p_code 60 55 = some (.ireturn, 1) := (xco_60 55).trans rfl
theorem xc_60_56 : p_code 60 56 = some (.aload_n 0, 1) := (xco_60 56).trans rfl
theorem xc_60_57 : p_code 60 57 = some (.getfield 12, 3) := (xco_60 57).trans rfl
theorem xc_60_60 : p_code 60 60 = some (.getfield 167, 3) := (xco_60 60).trans rfl
theorem xf_60_167 : p_fld (p_own 60) 167 = some (2, 11) := by rw [xow_60]; rfl
theorem xc_60_63 : p_code 60 63 = some (.ireturn, 1) := (xco_60 63).trans rfl
theorem xc_60_64 : p_code 60 64 = some (.iconst (-1), 1) := (xco_60 64).trans rfl
theorem xc_60_65 : p_code 60 65 = some (.ireturn, 1) := (xco_60 65).trans rfl
theorem xrt_60 : p_rty 60 = some .int := rfl
theorem xhh_60 : p_hh 60 = [] := rfl
theorem xin_60 {x1 : Int32} : p_in0 60 [.ref 0, .int x1] = [some (.ref 0), some (.int x1)] := rfl
theorem xrc_60 {z : Nat → Int32} {a : Nat → Nat → Int32} {w : Nat → Nat → Int64} {y : Nat → Int64} {g : List pE} {x1 : Int32} : p_recv 60 [.ref 0, .int x1] (hp z a w y g) = true := rfl
theorem xco_61 (pc : Nat) : p_code 61 pc = p_find pc pc_61 := rfl
theorem xow_61 : p_own 61 = 12 := rfl
theorem xc_61_0 : p_code 61 0 = some (.aload_n 2, 1) := (xco_61 0).trans rfl
theorem xc_61_1 : p_code 61 1 = some (.iconst 0, 1) := (xco_61 1).trans rfl
theorem xc_61_2 : p_code 61 2 = some (.aload_n 0, 1) := (xco_61 2).trans rfl
theorem xc_61_3 : p_code 61 3 = some (.iload_n 1, 1) := (xco_61 3).trans rfl
theorem xc_61_4 : p_code 61 4 = some (.invokevirtual 7, 3) := (xco_61 4).trans rfl
theorem xm_61_4 : p_calls 61 (.invokevirtual 7) = some (62, 2) := by dsimp only [p_calls]; rw [xow_61]; rfl
theorem xc_61_7 : p_code 61 7 = some (.lastore, 1) := (xco_61 7).trans rfl
theorem xc_61_8 : p_code 61 8 = some (.goto 12, 3) := (xco_61 8).trans rfl
theorem xj_61_8 : p_tgt 8 (12) = 20 ∧ 0 ≤ ((8 : Nat) : Int) + (12) := ⟨by decide, by decide⟩
theorem xc_61_11 : p_code 61 11 = some (.astore_n 3, 1) := (xco_61 11).trans rfl
theorem xc_61_12 : p_code 61 12 = some (.iconst 1, 1) := (xco_61 12).trans rfl
theorem xc_61_13 : p_code 61 13 = some (.ireturn, 1) := (xco_61 13).trans rfl
theorem xc_61_14 : p_code 61 14 = some (.astore_n 3, 1) := (xco_61 14).trans rfl
theorem xc_61_15 : p_code 61 15 = some (.iconst 2, 1) := (xco_61 15).trans rfl
theorem xc_61_16 : p_code 61 16 = some (.ireturn, 1) := (xco_61 16).trans rfl
theorem xc_61_17 : p_code 61 17 = some (.astore_n 3, 1) := (xco_61 17).trans rfl
theorem xc_61_18 : p_code 61 18 = some (.iconst 3, 1) := (xco_61 18).trans rfl
theorem xc_61_19 : p_code 61 19 = some (.ireturn, 1) := (xco_61 19).trans rfl
theorem xc_61_20 : p_code 61 20 = some (.iconst 0, 1) := (xco_61 20).trans rfl
theorem xc_61_21 : p_code 61 21 = some (.ireturn, 1) := (xco_61 21).trans rfl
theorem xrt_61 : p_rty 61 = some .int := rfl
theorem xhh_61 : p_hh 61 = [(0, 8, 11, 7), (0, 8, 14, 8), (0, 8, 17, 9)] := rfl
theorem xin_61 {x1 : Int32} : p_in0 61 [.ref 0, .int x1, .ref 43] = [some (.ref 0), some (.int x1), some (.ref 43), none] := rfl
theorem xrc_61 {z : Nat → Int32} {a : Nat → Nat → Int32} {w : Nat → Nat → Int64} {y : Nat → Int64} {g : List pE} {x1 : Int32} : p_recv 61 [.ref 0, .int x1, .ref 43] (hp z a w y g) = true := rfl
theorem xco_62 (pc : Nat) : p_code 62 pc = p_find pc pc_62 := rfl
theorem xow_62 : p_own 62 = 5 := rfl
theorem xc_62_0 : p_code 62 0 = some (.iload_n 1, 1) := (xco_62 0).trans rfl
theorem xc_62_1 : p_code 62 1 = some (.ifCond .eq 18, 3) := (xco_62 1).trans rfl
theorem xj_62_1 : p_tgt 1 (18) = 19 ∧ 0 ≤ ((1 : Nat) : Int) + (18) := ⟨by decide, by decide⟩
theorem xc_62_4 : p_code 62 4 = some (.iload_n 1, 1) := (xco_62 4).trans rfl
theorem xc_62_5 : p_code 62 5 = some (.iconst 1, 1) := (xco_62 5).trans rfl
theorem xc_62_6 : p_code 62 6 = some (.if_icmp .eq 13, 3) := (xco_62 6).trans rfl
theorem xj_62_6 : p_tgt 6 (13) = 19 ∧ 0 ≤ ((6 : Nat) : Int) + (13) := ⟨by decide, by decide⟩
theorem xc_62_9 : p_code 62 9 = some (.new 68, 3) := (xco_62 9).trans rfl
theorem xth_62_9 : p_thr 62 9 (.new 68) = some 7 := rfl
theorem xc_62_12 : p_code 62 12 = some (.dup, 1) := (xco_62 12).trans rfl
theorem xc_62_13 : p_code 62 13 = some (.ldc 70, 2) := (xco_62 13).trans rfl
theorem xln_62_70 : p_int (p_own 62) 70 = none := by rw [xow_62]; rfl
theorem xls_62_70 : p_str (p_own 62) 70 = some 4 := by rw [xow_62]; rfl
theorem xc_62_15 : p_code 62 15 = some (.invokespecial 72, 3) := (xco_62 15).trans rfl
theorem xc_62_18 : p_code 62 18 = some (.athrow, 1) := (xco_62 18).trans rfl
theorem xc_62_19 : p_code 62 19 = some (.aload_n 0, 1) := (xco_62 19).trans rfl
theorem xc_62_20 : p_code 62 20 = some (.invokevirtual 75, 3) := (xco_62 20).trans rfl
theorem xm_62_20 : p_calls 62 (.invokevirtual 75) = some (63, 1) := by dsimp only [p_calls]; rw [xow_62]; rfl
theorem xc_62_23 : p_code 62 23 = some (.lstore_n 2, 1) := (xco_62 23).trans rfl
theorem xc_62_24 : p_code 62 24 = some (.lload_n 2, 1) := (xco_62 24).trans rfl
theorem xc_62_25 : p_code 62 25 = some (.ldc2_w 79, 3) := (xco_62 25).trans rfl
theorem xl_62_79 : p_lng (p_own 62) 79 = some (1000000) := by rw [xow_62]; rfl
theorem xc_62_28 : p_code 62 28 = some (.invokestatic 81, 3) := (xco_62 28).trans rfl
theorem xm_62_28 : p_calls 62 (.invokestatic 81) = some (70, 2) := by dsimp only [p_calls]; rw [xow_62]; rfl
theorem xc_62_31 : p_code 62 31 = some (.lstore 4, 2) := (xco_62 31).trans rfl
theorem xc_62_33 : p_code 62 33 = some (.iload_n 1, 1) := (xco_62 33).trans rfl
theorem xc_62_34 : p_code 62 34 = some (.ifCond .ne 10, 3) := (xco_62 34).trans rfl
theorem xj_62_34 : p_tgt 34 (10) = 44 ∧ 0 ≤ ((34 : Nat) : Int) + (10) := ⟨by decide, by decide⟩
theorem xc_62_37 : p_code 62 37 = some (.lload_n 2, 1) := (xco_62 37).trans rfl
theorem xc_62_38 : p_code 62 38 = some (.lload 4, 2) := (xco_62 38).trans rfl
theorem xc_62_40 : p_code 62 40 = some (.ldiv, 1) := (xco_62 40).trans rfl
theorem xc_62_41 : p_code 62 41 = some (.goto 9, 3) := (xco_62 41).trans rfl
theorem xj_62_41 : p_tgt 41 (9) = 50 ∧ 0 ≤ ((41 : Nat) : Int) + (9) := ⟨by decide, by decide⟩
theorem xc_62_44 : p_code 62 44 = some (.ldc2_w 79, 3) := (xco_62 44).trans rfl
theorem xc_62_47 : p_code 62 47 = some (.lload 4, 2) := (xco_62 47).trans rfl
theorem xc_62_49 : p_code 62 49 = some (.ldiv, 1) := (xco_62 49).trans rfl
theorem xc_62_50 : p_code 62 50 = some (.lreturn, 1) := (xco_62 50).trans rfl
theorem xrt_62 : p_rty 62 = some .long := rfl
theorem xhh_62 : p_hh 62 = [] := rfl
theorem xin_62 {x1 : Int32} : p_in0 62 [.ref 0, .int x1] = [some (.ref 0), some (.int x1), none, none, none, none] := rfl
theorem xrc_62 {z : Nat → Int32} {a : Nat → Nat → Int32} {w : Nat → Nat → Int64} {y : Nat → Int64} {g : List pE} {x1 : Int32} : p_recv 62 [.ref 0, .int x1] (hp z a w y g) = true := rfl
theorem xco_63 (pc : Nat) : p_code 63 pc = p_find pc pc_63 := rfl
theorem xow_63 : p_own 63 = 5 := rfl
theorem xc_63_0 : p_code 63 0 = some (.aload_n 0, 1) := (xco_63 0).trans rfl
theorem xc_63_1 : p_code 63 1 = some (.getfield 12, 3) := (xco_63 1).trans rfl
theorem xf_63_12 : p_fld (p_own 63) 12 = some (5, 0) := by rw [xow_63]; rfl
theorem xc_63_4 : p_code 63 4 = some (.getfield 134, 3) := (xco_63 4).trans rfl
theorem xf_63_134 : p_fld (p_own 63) 134 = some (2, 10) := by rw [xow_63]; rfl
theorem xc_63_7 : p_code 63 7 = some (.ifCond .ne 13, 3) := (xco_63 7).trans rfl
theorem xj_63_7 : p_tgt 7 (13) = 20 ∧ 0 ≤ ((7 : Nat) : Int) + (13) := ⟨by decide, by decide⟩
theorem xc_63_10 : p_code 63 10 = some (.new 138, 3) := (xco_63 10).trans rfl
theorem xth_63_10 : p_thr 63 10 (.new 138) = some 8 := rfl
theorem xc_63_13 : p_code 63 13 = some (.dup, 1) := (xco_63 13).trans rfl
theorem xc_63_14 : p_code 63 14 = some (.ldc 140, 2) := (xco_63 14).trans rfl
theorem xln_63_140 : p_int (p_own 63) 140 = none := by rw [xow_63]; rfl
theorem xls_63_140 : p_str (p_own 63) 140 = some 5 := by rw [xow_63]; rfl
theorem xc_63_16 : p_code 63 16 = some (.invokespecial 142, 3) := (xco_63 16).trans rfl
theorem xc_63_19 : p_code 63 19 = some (.athrow, 1) := (xco_63 19).trans rfl
theorem xc_63_20 : p_code 63 20 = some (.lconst 0, 1) := (xco_63 20).trans rfl
theorem xc_63_21 : p_code 63 21 = some (.aload_n 0, 1) := (xco_63 21).trans rfl
theorem xc_63_22 : p_code 63 22 = some (.iconst 0, 1) := (xco_63 22).trans rfl
theorem xc_63_23 : p_code 63 23 = some (.invokevirtual 122, 3) := (xco_63 23).trans rfl
theorem xm_63_23 : p_calls 63 (.invokevirtual 122) = some (64, 2) := by dsimp only [p_calls]; rw [xow_63]; rfl
theorem xc_63_26 : p_code 63 26 = some (.invokestatic 170, 3) := (xco_63 26).trans rfl
theorem xm_63_26 : p_calls 63 (.invokestatic 170) = some (69, 2) := by dsimp only [p_calls]; rw [xow_63]; rfl
theorem xc_63_29 : p_code 63 29 = some (.lreturn, 1) := (xco_63 29).trans rfl
theorem xrt_63 : p_rty 63 = some .long := rfl
theorem xhh_63 : p_hh 63 = [] := rfl
theorem xin_63  : p_in0 63 [.ref 0] = [some (.ref 0)] := rfl
theorem xrc_63 {z : Nat → Int32} {a : Nat → Nat → Int32} {w : Nat → Nat → Int64} {y : Nat → Int64} {g : List pE}  : p_recv 63 [.ref 0] (hp z a w y g) = true := rfl
theorem xco_64 (pc : Nat) : p_code 64 pc = p_find pc pc_64 := rfl
theorem xow_64 : p_own 64 = 5 := rfl
theorem xc_64_0 : p_code 64 0 = some (.aload_n 0, 1) := (xco_64 0).trans rfl
theorem xc_64_1 : p_code 64 1 = some (.getfield 35, 3) := (xco_64 1).trans rfl
theorem xf_64_35 : p_fld (p_own 64) 35 = some (5, 3) := by rw [xow_64]; rfl
theorem xc_64_4 : p_code 64 4 = some (.aload_n 0, 1) := (xco_64 4).trans rfl
theorem xc_64_5 : p_code 64 5 = some (.getfield 12, 3) := (xco_64 5).trans rfl
theorem xf_64_12 : p_fld (p_own 64) 12 = some (5, 0) := by rw [xow_64]; rfl
theorem xc_64_8 : p_code 64 8 = some (.aload_n 0, 1) := (xco_64 8).trans rfl
theorem xc_64_9 : p_code 64 9 = some (.getfield 28, 3) := (xco_64 9).trans rfl
theorem xf_64_28 : p_fld (p_own 64) 28 = some (5, 2) := by rw [xow_64]; rfl
theorem xc_64_12 : p_code 64 12 = some (.aload_n 0, 1) := (xco_64 12).trans rfl
theorem xc_64_13 : p_code 64 13 = some (.getfield 46, 3) := (xco_64 13).trans rfl
theorem xf_64_46 : p_fld (p_own 64) 46 = some (5, 5) := by rw [xow_64]; rfl
theorem xc_64_16 : p_code 64 16 = some (.invokevirtual 175, 3) := (xco_64 16).trans rfl
theorem xm_64_16 : p_calls 64 (.invokevirtual 175) = some (65, 4) := by dsimp only [p_calls]; rw [xow_64]; rfl
theorem xc_64_19 : p_code 64 19 = some (.aload_n 0, 1) := (xco_64 19).trans rfl
theorem xc_64_20 : p_code 64 20 = some (.getfield 35, 3) := (xco_64 20).trans rfl
theorem xc_64_23 : p_code 64 23 = some (.getfield 179, 3) := (xco_64 23).trans rfl
theorem xf_64_179 : p_fld (p_own 64) 179 = some (4, 1) := by rw [xow_64]; rfl
theorem xc_64_26 : p_code 64 26 = some (.iload_n 1, 1) := (xco_64 26).trans rfl
theorem xc_64_27 : p_code 64 27 = some (.baload, 1) := (xco_64 27).trans rfl
theorem xc_64_28 : p_code 64 28 = some (.ifCond .ne 13, 3) := (xco_64 28).trans rfl
theorem xj_64_28 : p_tgt 28 (13) = 41 ∧ 0 ≤ ((28 : Nat) : Int) + (13) := ⟨by decide, by decide⟩
theorem xc_64_31 : p_code 64 31 = some (.new 183, 3) := (xco_64 31).trans rfl
theorem xth_64_31 : p_thr 64 31 (.new 183) = some 9 := rfl
theorem xc_64_34 : p_code 64 34 = some (.dup, 1) := (xco_64 34).trans rfl
theorem xc_64_35 : p_code 64 35 = some (.ldc 185, 2) := (xco_64 35).trans rfl
theorem xln_64_185 : p_int (p_own 64) 185 = none := by rw [xow_64]; rfl
theorem xls_64_185 : p_str (p_own 64) 185 = some 6 := by rw [xow_64]; rfl
theorem xc_64_37 : p_code 64 37 = some (.invokespecial 187, 3) := (xco_64 37).trans rfl
theorem xc_64_40 : p_code 64 40 = some (.athrow, 1) := (xco_64 40).trans rfl
theorem xc_64_41 : p_code 64 41 = some (.aload_n 0, 1) := (xco_64 41).trans rfl
theorem xc_64_42 : p_code 64 42 = some (.getfield 35, 3) := (xco_64 42).trans rfl
theorem xc_64_45 : p_code 64 45 = some (.getfield 188, 3) := (xco_64 45).trans rfl
theorem xf_64_188 : p_fld (p_own 64) 188 = some (4, 0) := by rw [xow_64]; rfl
theorem xc_64_48 : p_code 64 48 = some (.iload_n 1, 1) := (xco_64 48).trans rfl
theorem xc_64_49 : p_code 64 49 = some (.laload, 1) := (xco_64 49).trans rfl
theorem xc_64_50 : p_code 64 50 = some (.lreturn, 1) := (xco_64 50).trans rfl
theorem xrt_64 : p_rty 64 = some .long := rfl
theorem xhh_64 : p_hh 64 = [] := rfl
theorem xin_64 {x1 : Int32} : p_in0 64 [.ref 0, .int x1] = [some (.ref 0), some (.int x1)] := rfl
theorem xrc_64 {z : Nat → Int32} {a : Nat → Nat → Int32} {w : Nat → Nat → Int64} {y : Nat → Int64} {g : List pE} {x1 : Int32} : p_recv 64 [.ref 0, .int x1] (hp z a w y g) = true := rfl
theorem xco_65 (pc : Nat) : p_code 65 pc = p_find pc pc_65 := rfl
theorem xow_65 : p_own 65 = 4 := rfl
theorem xc_65_0 : p_code 65 0 = some (.aload_n 1, 1) := (xco_65 0).trans rfl
theorem xc_65_1 : p_code 65 1 = some (.getfield 19, 3) := (xco_65 1).trans rfl
theorem xf_65_19 : p_fld (p_own 65) 19 = some (2, 10) := by rw [xow_65]; rfl
theorem xc_65_4 : p_code 65 4 = some (.iconst 1, 1) := (xco_65 4).trans rfl
theorem xc_65_5 : p_code 65 5 = some (.isub, 1) := (xco_65 5).trans rfl
theorem xc_65_6 : p_code 65 6 = some (.istore 5, 2) := (xco_65 6).trans rfl
theorem xc_65_8 : p_code 65 8 = some (.iload 5, 2) := (xco_65 8).trans rfl
theorem xc_65_10 : p_code 65 10 = some (.ifCond .lt 183, 3) := (xco_65 10).trans rfl
theorem xj_65_10 : p_tgt 10 (183) = 193 ∧ 0 ≤ ((10 : Nat) : Int) + (183) := ⟨by decide, by decide⟩
theorem xc_65_13 : p_code 65 13 = some (.aload_n 0, 1) := (xco_65 13).trans rfl
theorem xc_65_14 : p_code 65 14 = some (.getfield 15, 3) := (xco_65 14).trans rfl
theorem xf_65_15 : p_fld (p_own 65) 15 = some (4, 1) := by rw [xow_65]; rfl
theorem xc_65_17 : p_code 65 17 = some (.iload 5, 2) := (xco_65 17).trans rfl
theorem xc_65_19 : p_code 65 19 = some (.iconst 1, 1) := (xco_65 19).trans rfl
theorem xc_65_20 : p_code 65 20 = some (.bastore, 1) := (xco_65 20).trans rfl
theorem xc_65_21 : p_code 65 21 = some (.aload_n 1, 1) := (xco_65 21).trans rfl
theorem xc_65_22 : p_code 65 22 = some (.getfield 25, 3) := (xco_65 22).trans rfl
theorem xf_65_25 : p_fld (p_own 65) 25 = some (2, 0) := by rw [xow_65]; rfl
theorem xc_65_25 : p_code 65 25 = some (.iload 5, 2) := (xco_65 25).trans rfl
theorem xc_65_27 : p_code 65 27 = some (.iaload, 1) := (xco_65 27).trans rfl
theorem xc_65_28 : p_code 65 28 = some (.tableswitch 132 0 7 #[48, 59, 83, 132, 132, 132, 132, 111], 48) := (xco_65 28).trans rfl
theorem xc_65_76 : p_code 65 76 = some (.aload_n 0, 1) := (xco_65 76).trans rfl
theorem xc_65_77 : p_code 65 77 = some (.getfield 9, 3) := (xco_65 77).trans rfl
theorem xf_65_9 : p_fld (p_own 65) 9 = some (4, 0) := by rw [xow_65]; rfl
theorem xc_65_80 : p_code 65 80 = some (.iload 5, 2) := (xco_65 80).trans rfl
theorem xc_65_82 : p_code 65 82 = some (.lconst 0, 1) := (xco_65 82).trans rfl
theorem xc_65_83 : p_code 65 83 = some (.lastore, 1) := (xco_65 83).trans rfl
theorem xc_65_84 : p_code 65 84 = some (.goto 103, 3) := (xco_65 84).trans rfl
theorem xj_65_84 : p_tgt 84 (103) = 187 ∧ 0 ≤ ((84 : Nat) : Int) + (103) := ⟨by decide, by decide⟩
theorem xc_65_87 : p_code 65 87 = some (.aload_n 0, 1) := (xco_65 87).trans rfl
theorem xc_65_88 : p_code 65 88 = some (.getfield 9, 3) := (xco_65 88).trans rfl
theorem xc_65_91 : p_code 65 91 = some (.iload 5, 2) := (xco_65 91).trans rfl
theorem xc_65_93 : p_code 65 93 = some (.lload_n 3, 1) := (xco_65 93).trans rfl
theorem xc_65_94 : p_code 65 94 = some (.aload_n 1, 1) := (xco_65 94).trans rfl
theorem xc_65_95 : p_code 65 95 = some (.getfield 29, 3) := (xco_65 95).trans rfl
theorem xf_65_29 : p_fld (p_own 65) 29 = some (2, 1) := by rw [xow_65]; rfl
theorem xc_65_98 : p_code 65 98 = some (.iload 5, 2) := (xco_65 98).trans rfl
theorem xc_65_100 : p_code 65 100 = some (.iaload, 1) := (xco_65 100).trans rfl
theorem xc_65_101 : p_code 65 101 = some (.i2l, 1) := (xco_65 101).trans rfl
theorem xc_65_102 : p_code 65 102 = some (.lmul, 1) := (xco_65 102).trans rfl
theorem xc_65_103 : p_code 65 103 = some (.ldc2_w 32, 3) := (xco_65 103).trans rfl
theorem xl_65_32 : p_lng (p_own 65) 32 = some (10) := by rw [xow_65]; rfl
theorem xc_65_106 : p_code 65 106 = some (.lmul, 1) := (xco_65 106).trans rfl
theorem xc_65_107 : p_code 65 107 = some (.lastore, 1) := (xco_65 107).trans rfl
theorem xc_65_108 : p_code 65 108 = some (.goto 79, 3) := (xco_65 108).trans rfl
theorem xj_65_108 : p_tgt 108 (79) = 187 ∧ 0 ≤ ((108 : Nat) : Int) + (79) := ⟨by decide, by decide⟩
theorem xc_65_111 : p_code 65 111 = some (.aload_n 0, 1) := (xco_65 111).trans rfl
theorem xc_65_112 : p_code 65 112 = some (.iload 5, 2) := (xco_65 112).trans rfl
theorem xc_65_114 : p_code 65 114 = some (.aload_n 1, 1) := (xco_65 114).trans rfl
theorem xc_65_115 : p_code 65 115 = some (.getfield 29, 3) := (xco_65 115).trans rfl
theorem xc_65_118 : p_code 65 118 = some (.iload 5, 2) := (xco_65 118).trans rfl
theorem xc_65_120 : p_code 65 120 = some (.iaload, 1) := (xco_65 120).trans rfl
theorem xc_65_121 : p_code 65 121 = some (.i2l, 1) := (xco_65 121).trans rfl
theorem xc_65_122 : p_code 65 122 = some (.aload_n 2, 1) := (xco_65 122).trans rfl
theorem xc_65_123 : p_code 65 123 = some (.aload_n 1, 1) := (xco_65 123).trans rfl
theorem xc_65_124 : p_code 65 124 = some (.getfield 34, 3) := (xco_65 124).trans rfl
theorem xf_65_34 : p_fld (p_own 65) 34 = some (2, 2) := by rw [xow_65]; rfl
theorem xc_65_127 : p_code 65 127 = some (.iload 5, 2) := (xco_65 127).trans rfl
theorem xc_65_129 : p_code 65 129 = some (.iaload, 1) := (xco_65 129).trans rfl
theorem xc_65_130 : p_code 65 130 = some (.invokevirtual 37, 3) := (xco_65 130).trans rfl
theorem xm_65_130 : p_calls 65 (.invokevirtual 37) = some (58, 2) := by dsimp only [p_calls]; rw [xow_65]; rfl
theorem xc_65_133 : p_code 65 133 = some (.invokevirtual 43, 3) := (xco_65 133).trans rfl
theorem xm_65_133 : p_calls 65 (.invokevirtual 43) = some (66, 4) := by dsimp only [p_calls]; rw [xow_65]; rfl
theorem xc_65_136 : p_code 65 136 = some (.goto 51, 3) := (xco_65 136).trans rfl
theorem xj_65_136 : p_tgt 136 (51) = 187 ∧ 0 ≤ ((136 : Nat) : Int) + (51) := ⟨by decide, by decide⟩
theorem xc_65_139 : p_code 65 139 = some (.aload_n 0, 1) := (xco_65 139).trans rfl
theorem xc_65_140 : p_code 65 140 = some (.getfield 9, 3) := (xco_65 140).trans rfl
theorem xc_65_143 : p_code 65 143 = some (.iload 5, 2) := (xco_65 143).trans rfl
theorem xc_65_145 : p_code 65 145 = some (.aload_n 1, 1) := (xco_65 145).trans rfl
theorem xc_65_146 : p_code 65 146 = some (.iload 5, 2) := (xco_65 146).trans rfl
theorem xc_65_148 : p_code 65 148 = some (.lload_n 3, 1) := (xco_65 148).trans rfl
theorem xc_65_149 : p_code 65 149 = some (.invokestatic 47, 3) := (xco_65 149).trans rfl
theorem xm_65_149 : p_calls 65 (.invokestatic 47) = some (67, 3) := by dsimp only [p_calls]; rw [xow_65]; rfl
theorem xc_65_152 : p_code 65 152 = some (.ldc2_w 51, 3) := (xco_65 152).trans rfl
theorem xl_65_51 : p_lng (p_own 65) 51 = some (1000000) := by rw [xow_65]; rfl
theorem xc_65_155 : p_code 65 155 = some (.lmul, 1) := (xco_65 155).trans rfl
theorem xc_65_156 : p_code 65 156 = some (.lastore, 1) := (xco_65 156).trans rfl
theorem xc_65_157 : p_code 65 157 = some (.goto 30, 3) := (xco_65 157).trans rfl
theorem xj_65_157 : p_tgt 157 (30) = 187 ∧ 0 ≤ ((157 : Nat) : Int) + (30) := ⟨by decide, by decide⟩
theorem xc_65_160 : p_code 65 160 = some (.aload_n 0, 1) := (xco_65 160).trans rfl
theorem xc_65_161 : p_code 65 161 = some (.iload 5, 2) := (xco_65 161).trans rfl
theorem xc_65_163 : p_code 65 163 = some (.aload_n 1, 1) := (xco_65 163).trans rfl
theorem xc_65_164 : p_code 65 164 = some (.getfield 25, 3) := (xco_65 164).trans rfl
theorem xc_65_167 : p_code 65 167 = some (.iload 5, 2) := (xco_65 167).trans rfl
theorem xc_65_169 : p_code 65 169 = some (.iaload, 1) := (xco_65 169).trans rfl
theorem xc_65_170 : p_code 65 170 = some (.aload_n 1, 1) := (xco_65 170).trans rfl
theorem xc_65_171 : p_code 65 171 = some (.getfield 53, 3) := (xco_65 171).trans rfl
theorem xf_65_53 : p_fld (p_own 65) 53 = some (2, 3) := by rw [xow_65]; rfl
theorem xc_65_174 : p_code 65 174 = some (.iload 5, 2) := (xco_65 174).trans rfl
theorem xc_65_176 : p_code 65 176 = some (.iaload, 1) := (xco_65 176).trans rfl
theorem xc_65_177 : p_code 65 177 = some (.aload_n 1, 1) := (xco_65 177).trans rfl
theorem xc_65_178 : p_code 65 178 = some (.getfield 56, 3) := (xco_65 178).trans rfl
theorem xf_65_56 : p_fld (p_own 65) 56 = some (2, 4) := by rw [xow_65]; rfl
set_option maxRecDepth 100000 in
theorem xc_65_181 : p_code 65 181 = some (.iload 5, 2) := (xco_65 181).trans rfl
set_option maxRecDepth 100000 in
theorem xc_65_183 : p_code 65 183 = some (.iaload, 1) := (xco_65 183).trans rfl
set_option maxRecDepth 100000 in
theorem xc_65_184 : p_code 65 184 = some (.invokevirtual 59, 3) := (xco_65 184).trans rfl
theorem xm_65_184 : p_calls 65 (.invokevirtual 59) = some (68, 5) := by dsimp only [p_calls]; rw [xow_65]; rfl
set_option maxRecDepth 100000 in
theorem xc_65_187 : p_code 65 187 = some (.iinc 5 (-1), 3) := (xco_65 187).trans rfl
set_option maxRecDepth 100000 in
theorem xc_65_190 : p_code 65 190 = some (.goto (-182), 3) := (xco_65 190).trans rfl
theorem xj_65_190 : p_tgt 190 (-182) = 8 ∧ 0 ≤ ((190 : Nat) : Int) + (-182) := ⟨by decide, by decide⟩
set_option maxRecDepth 100000 in
theorem xc_65_193 : p_code 65 193 = some (.return_, 1) := (xco_65 193).trans rfl
theorem xrt_65 : p_rty 65 = none := rfl
theorem xhh_65 : p_hh 65 = [] := rfl
theorem xin_65 {x3 : Int64} : p_in0 65 [.ref 17, .ref 1, .ref 13, .long x3] = [some (.ref 17), some (.ref 1), some (.ref 13), some (.long x3), none, none] := rfl
theorem xrc_65 {z : Nat → Int32} {a : Nat → Nat → Int32} {w : Nat → Nat → Int64} {y : Nat → Int64} {g : List pE} {x3 : Int64} : p_recv 65 [.ref 17, .ref 1, .ref 13, .long x3] (hp z a w y g) = true := rfl
theorem xco_66 (pc : Nat) : p_code 66 pc = p_find pc pc_66 := rfl
theorem xow_66 : p_own 66 = 4 := rfl
theorem xc_66_0 : p_code 66 0 = some (.aload_n 0, 1) := (xco_66 0).trans rfl
theorem xc_66_1 : p_code 66 1 = some (.getfield 15, 3) := (xco_66 1).trans rfl
theorem xf_66_15 : p_fld (p_own 66) 15 = some (4, 1) := by rw [xow_66]; rfl
theorem xc_66_4 : p_code 66 4 = some (.iload_n 1, 1) := (xco_66 4).trans rfl
theorem xc_66_5 : p_code 66 5 = some (.lload 4, 2) := (xco_66 5).trans rfl
theorem xc_66_7 : p_code 66 7 = some (.lconst 0, 1) := (xco_66 7).trans rfl
theorem xc_66_8 : p_code 66 8 = some (.lcmp, 1) := (xco_66 8).trans rfl
theorem xc_66_9 : p_code 66 9 = some (.ifCond .lt 16, 3) := (xco_66 9).trans rfl
theorem xj_66_9 : p_tgt 9 (16) = 25 ∧ 0 ≤ ((9 : Nat) : Int) + (16) := ⟨by decide, by decide⟩
theorem xc_66_12 : p_code 66 12 = some (.lload 4, 2) := (xco_66 12).trans rfl
theorem xc_66_14 : p_code 66 14 = some (.ldc2_w 63, 3) := (xco_66 14).trans rfl
theorem xl_66_63 : p_lng (p_own 66) 63 = some (100000000) := by rw [xow_66]; rfl
theorem xc_66_17 : p_code 66 17 = some (.lcmp, 1) := (xco_66 17).trans rfl
theorem xc_66_18 : p_code 66 18 = some (.ifCond .gt 7, 3) := (xco_66 18).trans rfl
theorem xj_66_18 : p_tgt 18 (7) = 25 ∧ 0 ≤ ((18 : Nat) : Int) + (7) := ⟨by decide, by decide⟩
theorem xc_66_21 : p_code 66 21 = some (.iconst 1, 1) := (xco_66 21).trans rfl
theorem xc_66_22 : p_code 66 22 = some (.goto 4, 3) := (xco_66 22).trans rfl
theorem xj_66_22 : p_tgt 22 (4) = 26 ∧ 0 ≤ ((22 : Nat) : Int) + (4) := ⟨by decide, by decide⟩
theorem xc_66_25 : p_code 66 25 = some (.iconst 0, 1) := (xco_66 25).trans rfl
theorem xc_66_26 : p_code 66 26 = some (.bastore, 1) := (xco_66 26).trans rfl
theorem xc_66_27 : p_code 66 27 = some (.aload_n 0, 1) := (xco_66 27).trans rfl
theorem xc_66_28 : p_code 66 28 = some (.getfield 9, 3) := (xco_66 28).trans rfl
theorem xf_66_9 : p_fld (p_own 66) 9 = some (4, 0) := by rw [xow_66]; rfl
theorem xc_66_31 : p_code 66 31 = some (.iload_n 1, 1) := (xco_66 31).trans rfl
theorem xc_66_32 : p_code 66 32 = some (.aload_n 0, 1) := (xco_66 32).trans rfl
theorem xc_66_33 : p_code 66 33 = some (.getfield 15, 3) := (xco_66 33).trans rfl
theorem xc_66_36 : p_code 66 36 = some (.iload_n 1, 1) := (xco_66 36).trans rfl
theorem xc_66_37 : p_code 66 37 = some (.baload, 1) := (xco_66 37).trans rfl
theorem xc_66_38 : p_code 66 38 = some (.ifCond .eq 10, 3) := (xco_66 38).trans rfl
theorem xj_66_38 : p_tgt 38 (10) = 48 ∧ 0 ≤ ((38 : Nat) : Int) + (10) := ⟨by decide, by decide⟩
theorem xc_66_41 : p_code 66 41 = some (.lload_n 2, 1) := (xco_66 41).trans rfl
theorem xc_66_42 : p_code 66 42 = some (.lload 4, 2) := (xco_66 42).trans rfl
theorem xc_66_44 : p_code 66 44 = some (.lmul, 1) := (xco_66 44).trans rfl
theorem xc_66_45 : p_code 66 45 = some (.goto 4, 3) := (xco_66 45).trans rfl
theorem xj_66_45 : p_tgt 45 (4) = 49 ∧ 0 ≤ ((45 : Nat) : Int) + (4) := ⟨by decide, by decide⟩
theorem xc_66_48 : p_code 66 48 = some (.lconst 0, 1) := (xco_66 48).trans rfl
theorem xc_66_49 : p_code 66 49 = some (.lastore, 1) := (xco_66 49).trans rfl
theorem xc_66_50 : p_code 66 50 = some (.return_, 1) := (xco_66 50).trans rfl
theorem xrt_66 : p_rty 66 = none := rfl
theorem xhh_66 : p_hh 66 = [] := rfl
theorem xin_66 {x1 : Int32} {x2 : Int64} {x3 : Int64} : p_in0 66 [.ref 17, .int x1, .long x2, .long x3] = [some (.ref 17), some (.int x1), some (.long x2), none, some (.long x3), none] := rfl
theorem xrc_66 {z : Nat → Int32} {a : Nat → Nat → Int32} {w : Nat → Nat → Int64} {y : Nat → Int64} {g : List pE} {x1 : Int32} {x2 : Int64} {x3 : Int64} : p_recv 66 [.ref 17, .int x1, .long x2, .long x3] (hp z a w y g) = true := rfl
theorem xco_67 (pc : Nat) : p_code 67 pc = p_find pc pc_67 := rfl
theorem xow_67 : p_own 67 = 4 := rfl
theorem xc_67_0 : p_code 67 0 = some (.aload_n 0, 1) := (xco_67 0).trans rfl
theorem xc_67_1 : p_code 67 1 = some (.getfield 74, 3) := (xco_67 1).trans rfl
theorem xf_67_74 : p_fld (p_own 67) 74 = some (2, 5) := by rw [xow_67]; rfl
theorem xc_67_4 : p_code 67 4 = some (.iload_n 1, 1) := (xco_67 4).trans rfl
theorem xc_67_5 : p_code 67 5 = some (.iaload, 1) := (xco_67 5).trans rfl
theorem xc_67_6 : p_code 67 6 = some (.istore 4, 2) := (xco_67 6).trans rfl
theorem xc_67_8 : p_code 67 8 = some (.iload 4, 2) := (xco_67 8).trans rfl
theorem xc_67_10 : p_code 67 10 = some (.aload_n 0, 1) := (xco_67 10).trans rfl
theorem xc_67_11 : p_code 67 11 = some (.getfield 77, 3) := (xco_67 11).trans rfl
theorem xf_67_77 : p_fld (p_own 67) 77 = some (2, 6) := by rw [xow_67]; rfl
theorem xc_67_14 : p_code 67 14 = some (.iload_n 1, 1) := (xco_67 14).trans rfl
theorem xc_67_15 : p_code 67 15 = some (.iaload, 1) := (xco_67 15).trans rfl
theorem xc_67_16 : p_code 67 16 = some (.iadd, 1) := (xco_67 16).trans rfl
theorem xc_67_17 : p_code 67 17 = some (.istore 5, 2) := (xco_67 17).trans rfl
theorem xc_67_19 : p_code 67 19 = some (.aload_n 0, 1) := (xco_67 19).trans rfl
theorem xc_67_20 : p_code 67 20 = some (.getfield 29, 3) := (xco_67 20).trans rfl
theorem xf_67_29 : p_fld (p_own 67) 29 = some (2, 1) := by rw [xow_67]; rfl
theorem xc_67_23 : p_code 67 23 = some (.iload_n 1, 1) := (xco_67 23).trans rfl
theorem xc_67_24 : p_code 67 24 = some (.iaload, 1) := (xco_67 24).trans rfl
theorem xc_67_25 : p_code 67 25 = some (.i2l, 1) := (xco_67 25).trans rfl
theorem xc_67_26 : p_code 67 26 = some (.lstore 6, 2) := (xco_67 26).trans rfl
theorem xc_67_28 : p_code 67 28 = some (.lconst 0, 1) := (xco_67 28).trans rfl
theorem xc_67_29 : p_code 67 29 = some (.lstore 8, 2) := (xco_67 29).trans rfl
theorem xc_67_31 : p_code 67 31 = some (.iload 4, 2) := (xco_67 31).trans rfl
theorem xc_67_33 : p_code 67 33 = some (.istore 10, 2) := (xco_67 33).trans rfl
theorem xc_67_35 : p_code 67 35 = some (.iload 10, 2) := (xco_67 35).trans rfl
theorem xc_67_37 : p_code 67 37 = some (.iload 5, 2) := (xco_67 37).trans rfl
theorem xc_67_39 : p_code 67 39 = some (.if_icmp .ge 53, 3) := (xco_67 39).trans rfl
theorem xj_67_39 : p_tgt 39 (53) = 92 ∧ 0 ≤ ((39 : Nat) : Int) + (53) := ⟨by decide, by decide⟩
theorem xc_67_42 : p_code 67 42 = some (.iload 10, 2) := (xco_67 42).trans rfl
theorem xc_67_44 : p_code 67 44 = some (.sipush 300, 3) := (xco_67 44).trans rfl
theorem xc_67_47 : p_code 67 47 = some (.if_icmp .ge 45, 3) := (xco_67 47).trans rfl
theorem xj_67_47 : p_tgt 47 (45) = 92 ∧ 0 ≤ ((47 : Nat) : Int) + (45) := ⟨by decide, by decide⟩
theorem xc_67_50 : p_code 67 50 = some (.lload_n 2, 1) := (xco_67 50).trans rfl
theorem xc_67_51 : p_code 67 51 = some (.lconst 0, 1) := (xco_67 51).trans rfl
theorem xc_67_52 : p_code 67 52 = some (.lcmp, 1) := (xco_67 52).trans rfl
theorem xc_67_53 : p_code 67 53 = some (.ifCond .eq 23, 3) := (xco_67 53).trans rfl
theorem xj_67_53 : p_tgt 53 (23) = 76 ∧ 0 ≤ ((53 : Nat) : Int) + (23) := ⟨by decide, by decide⟩
theorem xc_67_56 : p_code 67 56 = some (.aload_n 0, 1) := (xco_67 56).trans rfl
theorem xc_67_57 : p_code 67 57 = some (.getfield 80, 3) := (xco_67 57).trans rfl
theorem xf_67_80 : p_fld (p_own 67) 80 = some (2, 7) := by rw [xow_67]; rfl
theorem xc_67_60 : p_code 67 60 = some (.iload 10, 2) := (xco_67 60).trans rfl
theorem xc_67_62 : p_code 67 62 = some (.iaload, 1) := (xco_67 62).trans rfl
theorem xc_67_63 : p_code 67 63 = some (.i2l, 1) := (xco_67 63).trans rfl
theorem xc_67_64 : p_code 67 64 = some (.lload 6, 2) := (xco_67 64).trans rfl
theorem xc_67_66 : p_code 67 66 = some (.ldc2_w 83, 3) := (xco_67 66).trans rfl
theorem xl_67_83 : p_lng (p_own 67) 83 = some (100) := by rw [xow_67]; rfl
theorem xc_67_69 : p_code 67 69 = some (.lmul, 1) := (xco_67 69).trans rfl
theorem xc_67_70 : p_code 67 70 = some (.lload_n 2, 1) := (xco_67 70).trans rfl
theorem xc_67_71 : p_code 67 71 = some (.ldiv, 1) := (xco_67 71).trans rfl
theorem xc_67_72 : p_code 67 72 = some (.lcmp, 1) := (xco_67 72).trans rfl
theorem xc_67_73 : p_code 67 73 = some (.ifCond .gt 13, 3) := (xco_67 73).trans rfl
theorem xj_67_73 : p_tgt 73 (13) = 86 ∧ 0 ≤ ((73 : Nat) : Int) + (13) := ⟨by decide, by decide⟩
theorem xc_67_76 : p_code 67 76 = some (.aload_n 0, 1) := (xco_67 76).trans rfl
theorem xc_67_77 : p_code 67 77 = some (.getfield 85, 3) := (xco_67 77).trans rfl
theorem xf_67_85 : p_fld (p_own 67) 85 = some (2, 8) := by rw [xow_67]; rfl
theorem xc_67_80 : p_code 67 80 = some (.iload 10, 2) := (xco_67 80).trans rfl
theorem xc_67_82 : p_code 67 82 = some (.iaload, 1) := (xco_67 82).trans rfl
theorem xc_67_83 : p_code 67 83 = some (.i2l, 1) := (xco_67 83).trans rfl
theorem xc_67_84 : p_code 67 84 = some (.lstore 8, 2) := (xco_67 84).trans rfl
theorem xc_67_86 : p_code 67 86 = some (.iinc 10 1, 3) := (xco_67 86).trans rfl
theorem xc_67_89 : p_code 67 89 = some (.goto (-54), 3) := (xco_67 89).trans rfl
theorem xj_67_89 : p_tgt 89 (-54) = 35 ∧ 0 ≤ ((89 : Nat) : Int) + (-54) := ⟨by decide, by decide⟩
theorem xc_67_92 : p_code 67 92 = some (.lload 8, 2) := (xco_67 92).trans rfl
theorem xc_67_94 : p_code 67 94 = some (.lreturn, 1) := (xco_67 94).trans rfl
theorem xrt_67 : p_rty 67 = some .long := rfl
theorem xhh_67 : p_hh 67 = [] := rfl
theorem xin_67 {x1 : Int32} {x2 : Int64} : p_in0 67 [.ref 1, .int x1, .long x2] = [some (.ref 1), some (.int x1), some (.long x2), none, none, none, none, none, none, none, none] := rfl
theorem xrc_67 {z : Nat → Int32} {a : Nat → Nat → Int32} {w : Nat → Nat → Int64} {y : Nat → Int64} {g : List pE} {x1 : Int32} {x2 : Int64} : p_recv 67 [.ref 1, .int x1, .long x2] (hp z a w y g) = true := rfl
theorem xco_68 (pc : Nat) : p_code 68 pc = p_find pc pc_68 := rfl
theorem xow_68 : p_own 68 = 4 := rfl
theorem xc_68_0 : p_code 68 0 = some (.iload_n 3, 1) := (xco_68 0).trans rfl
theorem xc_68_1 : p_code 68 1 = some (.iload_n 1, 1) := (xco_68 1).trans rfl
theorem xc_68_2 : p_code 68 2 = some (.if_icmp .le 22, 3) := (xco_68 2).trans rfl
theorem xj_68_2 : p_tgt 2 (22) = 24 ∧ 0 ≤ ((2 : Nat) : Int) + (22) := ⟨by decide, by decide⟩
theorem xc_68_5 : p_code 68 5 = some (.iload_n 3, 1) := (xco_68 5).trans rfl
theorem xc_68_6 : p_code 68 6 = some (.bipush 60, 2) := (xco_68 6).trans rfl
theorem xc_68_8 : p_code 68 8 = some (.if_icmp .ge 16, 3) := (xco_68 8).trans rfl
theorem xj_68_8 : p_tgt 8 (16) = 24 ∧ 0 ≤ ((8 : Nat) : Int) + (16) := ⟨by decide, by decide⟩
theorem xc_68_11 : p_code 68 11 = some (.iload 4, 2) := (xco_68 11).trans rfl
theorem xc_68_13 : p_code 68 13 = some (.iload_n 1, 1) := (xco_68 13).trans rfl
theorem xc_68_14 : p_code 68 14 = some (.if_icmp .le 10, 3) := (xco_68 14).trans rfl
theorem xj_68_14 : p_tgt 14 (10) = 24 ∧ 0 ≤ ((14 : Nat) : Int) + (10) := ⟨by decide, by decide⟩
theorem xc_68_17 : p_code 68 17 = some (.iload 4, 2) := (xco_68 17).trans rfl
theorem xc_68_19 : p_code 68 19 = some (.bipush 60, 2) := (xco_68 19).trans rfl
theorem xc_68_21 : p_code 68 21 = some (.if_icmp .lt 11, 3) := (xco_68 21).trans rfl
theorem xj_68_21 : p_tgt 21 (11) = 32 ∧ 0 ≤ ((21 : Nat) : Int) + (11) := ⟨by decide, by decide⟩
theorem xc_68_24 : p_code 68 24 = some (.aload_n 0, 1) := (xco_68 24).trans rfl
theorem xc_68_25 : p_code 68 25 = some (.getfield 15, 3) := (xco_68 25).trans rfl
theorem xf_68_15 : p_fld (p_own 68) 15 = some (4, 1) := by rw [xow_68]; rfl
theorem xc_68_28 : p_code 68 28 = some (.iload_n 1, 1) := (xco_68 28).trans rfl
theorem xc_68_29 : p_code 68 29 = some (.iconst 0, 1) := (xco_68 29).trans rfl
theorem xc_68_30 : p_code 68 30 = some (.bastore, 1) := (xco_68 30).trans rfl
theorem xc_68_31 : p_code 68 31 = some (.return_, 1) := (xco_68 31).trans rfl
theorem xc_68_32 : p_code 68 32 = some (.aload_n 0, 1) := (xco_68 32).trans rfl
theorem xc_68_33 : p_code 68 33 = some (.getfield 9, 3) := (xco_68 33).trans rfl
theorem xf_68_9 : p_fld (p_own 68) 9 = some (4, 0) := by rw [xow_68]; rfl
theorem xc_68_36 : p_code 68 36 = some (.iload_n 3, 1) := (xco_68 36).trans rfl
theorem xc_68_37 : p_code 68 37 = some (.laload, 1) := (xco_68 37).trans rfl
theorem xc_68_38 : p_code 68 38 = some (.lstore 5, 2) := (xco_68 38).trans rfl
theorem xc_68_40 : p_code 68 40 = some (.aload_n 0, 1) := (xco_68 40).trans rfl
theorem xc_68_41 : p_code 68 41 = some (.getfield 9, 3) := (xco_68 41).trans rfl
theorem xc_68_44 : p_code 68 44 = some (.iload 4, 2) := (xco_68 44).trans rfl
theorem xc_68_46 : p_code 68 46 = some (.laload, 1) := (xco_68 46).trans rfl
theorem xc_68_47 : p_code 68 47 = some (.lstore 7, 2) := (xco_68 47).trans rfl
theorem xc_68_49 : p_code 68 49 = some (.aload_n 0, 1) := (xco_68 49).trans rfl
theorem xc_68_50 : p_code 68 50 = some (.getfield 15, 3) := (xco_68 50).trans rfl
theorem xc_68_53 : p_code 68 53 = some (.iload_n 1, 1) := (xco_68 53).trans rfl
theorem xc_68_54 : p_code 68 54 = some (.aload_n 0, 1) := (xco_68 54).trans rfl
theorem xc_68_55 : p_code 68 55 = some (.getfield 15, 3) := (xco_68 55).trans rfl
theorem xc_68_58 : p_code 68 58 = some (.iload_n 3, 1) := (xco_68 58).trans rfl
theorem xc_68_59 : p_code 68 59 = some (.baload, 1) := (xco_68 59).trans rfl
theorem xc_68_60 : p_code 68 60 = some (.ifCond .eq 17, 3) := (xco_68 60).trans rfl
theorem xj_68_60 : p_tgt 60 (17) = 77 ∧ 0 ≤ ((60 : Nat) : Int) + (17) := ⟨by decide, by decide⟩
theorem xc_68_63 : p_code 68 63 = some (.aload_n 0, 1) := (xco_68 63).trans rfl
theorem xc_68_64 : p_code 68 64 = some (.getfield 15, 3) := (xco_68 64).trans rfl
theorem xc_68_67 : p_code 68 67 = some (.iload 4, 2) := (xco_68 67).trans rfl
theorem xc_68_69 : p_code 68 69 = some (.baload, 1) := (xco_68 69).trans rfl
theorem xc_68_70 : p_code 68 70 = some (.ifCond .eq 7, 3) := (xco_68 70).trans rfl
theorem xj_68_70 : p_tgt 70 (7) = 77 ∧ 0 ≤ ((70 : Nat) : Int) + (7) := ⟨by decide, by decide⟩
theorem xc_68_73 : p_code 68 73 = some (.iconst 1, 1) := (xco_68 73).trans rfl
theorem xc_68_74 : p_code 68 74 = some (.goto 4, 3) := (xco_68 74).trans rfl
theorem xj_68_74 : p_tgt 74 (4) = 78 ∧ 0 ≤ ((74 : Nat) : Int) + (4) := ⟨by decide, by decide⟩
theorem xc_68_77 : p_code 68 77 = some (.iconst 0, 1) := (xco_68 77).trans rfl
theorem xc_68_78 : p_code 68 78 = some (.bastore, 1) := (xco_68 78).trans rfl
theorem xc_68_79 : p_code 68 79 = some (.iload_n 2, 1) := (xco_68 79).trans rfl
theorem xc_68_80 : p_code 68 80 = some (.tableswitch 72 3 5 #[28, 42, 56], 28) := (xco_68 80).trans rfl
theorem xc_68_108 : p_code 68 108 = some (.aload_n 0, 1) := (xco_68 108).trans rfl
theorem xc_68_109 : p_code 68 109 = some (.getfield 9, 3) := (xco_68 109).trans rfl
theorem xc_68_112 : p_code 68 112 = some (.iload_n 1, 1) := (xco_68 112).trans rfl
theorem xc_68_113 : p_code 68 113 = some (.lload 5, 2) := (xco_68 113).trans rfl
theorem xc_68_115 : p_code 68 115 = some (.lload 7, 2) := (xco_68 115).trans rfl
theorem xc_68_117 : p_code 68 117 = some (.ladd, 1) := (xco_68 117).trans rfl
theorem xc_68_118 : p_code 68 118 = some (.lastore, 1) := (xco_68 118).trans rfl
theorem xc_68_119 : p_code 68 119 = some (.goto 46, 3) := (xco_68 119).trans rfl
theorem xj_68_119 : p_tgt 119 (46) = 165 ∧ 0 ≤ ((119 : Nat) : Int) + (46) := ⟨by decide, by decide⟩
theorem xc_68_122 : p_code 68 122 = some (.aload_n 0, 1) := (xco_68 122).trans rfl
theorem xc_68_123 : p_code 68 123 = some (.getfield 9, 3) := (xco_68 123).trans rfl
theorem xc_68_126 : p_code 68 126 = some (.iload_n 1, 1) := (xco_68 126).trans rfl
theorem xc_68_127 : p_code 68 127 = some (.lload 5, 2) := (xco_68 127).trans rfl
theorem xc_68_129 : p_code 68 129 = some (.lload 7, 2) := (xco_68 129).trans rfl
theorem xc_68_131 : p_code 68 131 = some (.lsub, 1) := (xco_68 131).trans rfl
theorem xc_68_132 : p_code 68 132 = some (.lastore, 1) := (xco_68 132).trans rfl
theorem xc_68_133 : p_code 68 133 = some (.goto 32, 3) := (xco_68 133).trans rfl
theorem xj_68_133 : p_tgt 133 (32) = 165 ∧ 0 ≤ ((133 : Nat) : Int) + (32) := ⟨by decide, by decide⟩
theorem xc_68_136 : p_code 68 136 = some (.aload_n 0, 1) := (xco_68 136).trans rfl
theorem xc_68_137 : p_code 68 137 = some (.getfield 9, 3) := (xco_68 137).trans rfl
theorem xc_68_140 : p_code 68 140 = some (.iload_n 1, 1) := (xco_68 140).trans rfl
theorem xc_68_141 : p_code 68 141 = some (.lload 5, 2) := (xco_68 141).trans rfl
theorem xc_68_143 : p_code 68 143 = some (.lload 7, 2) := (xco_68 143).trans rfl
theorem xc_68_145 : p_code 68 145 = some (.invokestatic 65, 3) := (xco_68 145).trans rfl
theorem xm_68_145 : p_calls 68 (.invokestatic 65) = some (59, 2) := by dsimp only [p_calls]; rw [xow_68]; rfl
theorem xc_68_148 : p_code 68 148 = some (.lastore, 1) := (xco_68 148).trans rfl
theorem xc_68_149 : p_code 68 149 = some (.goto 16, 3) := (xco_68 149).trans rfl
theorem xj_68_149 : p_tgt 149 (16) = 165 ∧ 0 ≤ ((149 : Nat) : Int) + (16) := ⟨by decide, by decide⟩
theorem xc_68_152 : p_code 68 152 = some (.aload_n 0, 1) := (xco_68 152).trans rfl
theorem xc_68_153 : p_code 68 153 = some (.getfield 9, 3) := (xco_68 153).trans rfl
theorem xc_68_156 : p_code 68 156 = some (.iload_n 1, 1) := (xco_68 156).trans rfl
theorem xc_68_157 : p_code 68 157 = some (.lload 5, 2) := (xco_68 157).trans rfl
theorem xc_68_159 : p_code 68 159 = some (.lload 7, 2) := (xco_68 159).trans rfl
theorem xc_68_161 : p_code 68 161 = some (.invokestatic 71, 3) := (xco_68 161).trans rfl
theorem xm_68_161 : p_calls 68 (.invokestatic 71) = some (69, 2) := by dsimp only [p_calls]; rw [xow_68]; rfl
theorem xc_68_164 : p_code 68 164 = some (.lastore, 1) := (xco_68 164).trans rfl
theorem xc_68_165 : p_code 68 165 = some (.return_, 1) := (xco_68 165).trans rfl
theorem xrt_68 : p_rty 68 = none := rfl
theorem xhh_68 : p_hh 68 = [] := rfl
theorem xin_68 {x1 : Int32} {x2 : Int32} {x3 : Int32} {x4 : Int32} : p_in0 68 [.ref 17, .int x1, .int x2, .int x3, .int x4] = [some (.ref 17), some (.int x1), some (.int x2), some (.int x3), some (.int x4), none, none, none, none] := rfl
theorem xrc_68 {z : Nat → Int32} {a : Nat → Nat → Int32} {w : Nat → Nat → Int64} {y : Nat → Int64} {g : List pE} {x1 : Int32} {x2 : Int32} {x3 : Int32} {x4 : Int32} : p_recv 68 [.ref 17, .int x1, .int x2, .int x3, .int x4] (hp z a w y g) = true := rfl
theorem xco_69 (pc : Nat) : p_code 69 pc = p_find pc pc_69 := rfl
theorem xow_69 : p_own 69 = 14 := rfl
theorem xc_69_0 : p_code 69 0 = some (.lload_n 0, 1) := (xco_69 0).trans rfl
theorem xc_69_1 : p_code 69 1 = some (.lload_n 2, 1) := (xco_69 1).trans rfl
theorem xc_69_2 : p_code 69 2 = some (.lcmp, 1) := (xco_69 2).trans rfl
theorem xc_69_3 : p_code 69 3 = some (.ifCond .lt 7, 3) := (xco_69 3).trans rfl
theorem xj_69_3 : p_tgt 3 (7) = 10 ∧ 0 ≤ ((3 : Nat) : Int) + (7) := ⟨by decide, by decide⟩
theorem xc_69_6 : p_code 69 6 = some (.lload_n 0, 1) := (xco_69 6).trans rfl
theorem xc_69_7 : p_code 69 7 = some (.goto 4, 3) := (xco_69 7).trans rfl
theorem xj_69_7 : p_tgt 7 (4) = 11 ∧ 0 ≤ ((7 : Nat) : Int) + (4) := ⟨by decide, by decide⟩
theorem xc_69_10 : p_code 69 10 = some (.lload_n 2, 1) := (xco_69 10).trans rfl
theorem xc_69_11 : p_code 69 11 = some (.lreturn, 1) := (xco_69 11).trans rfl
theorem xrt_69 : p_rty 69 = some .long := rfl
theorem xhh_69 : p_hh 69 = [] := rfl
theorem xin_69 {x0 : Int64} {x1 : Int64} : p_in0 69 [.long x0, .long x1] = [some (.long x0), none, some (.long x1), none] := rfl
theorem xrc_69 {z : Nat → Int32} {a : Nat → Nat → Int32} {w : Nat → Nat → Int64} {y : Nat → Int64} {g : List pE} {x0 : Int64} {x1 : Int64} : p_recv 69 [.long x0, .long x1] (hp z a w y g) = true := rfl
theorem xco_70 (pc : Nat) : p_code 70 pc = p_find pc pc_70 := rfl
theorem xow_70 : p_own 70 = 5 := rfl
theorem xc_70_0 : p_code 70 0 = some (.lload_n 0, 1) := (xco_70 0).trans rfl
theorem xc_70_1 : p_code 70 1 = some (.lstore 4, 2) := (xco_70 1).trans rfl
theorem xc_70_3 : p_code 70 3 = some (.lload_n 2, 1) := (xco_70 3).trans rfl
theorem xc_70_4 : p_code 70 4 = some (.lstore 6, 2) := (xco_70 4).trans rfl
theorem xc_70_6 : p_code 70 6 = some (.iconst 0, 1) := (xco_70 6).trans rfl
theorem xc_70_7 : p_code 70 7 = some (.istore 8, 2) := (xco_70 7).trans rfl
theorem xc_70_9 : p_code 70 9 = some (.iload 8, 2) := (xco_70 9).trans rfl
theorem xc_70_11 : p_code 70 11 = some (.bipush 100, 2) := (xco_70 11).trans rfl
theorem xc_70_13 : p_code 70 13 = some (.if_icmp .ge 31, 3) := (xco_70 13).trans rfl
theorem xj_70_13 : p_tgt 13 (31) = 44 ∧ 0 ≤ ((13 : Nat) : Int) + (31) := ⟨by decide, by decide⟩
theorem xc_70_16 : p_code 70 16 = some (.lload 6, 2) := (xco_70 16).trans rfl
theorem xc_70_18 : p_code 70 18 = some (.lconst 0, 1) := (xco_70 18).trans rfl
theorem xc_70_19 : p_code 70 19 = some (.lcmp, 1) := (xco_70 19).trans rfl
theorem xc_70_20 : p_code 70 20 = some (.ifCond .eq 24, 3) := (xco_70 20).trans rfl
theorem xj_70_20 : p_tgt 20 (24) = 44 ∧ 0 ≤ ((20 : Nat) : Int) + (24) := ⟨by decide, by decide⟩
theorem xc_70_23 : p_code 70 23 = some (.lload 4, 2) := (xco_70 23).trans rfl
theorem xc_70_25 : p_code 70 25 = some (.lload 6, 2) := (xco_70 25).trans rfl
theorem xc_70_27 : p_code 70 27 = some (.lrem, 1) := (xco_70 27).trans rfl
theorem xc_70_28 : p_code 70 28 = some (.lstore 9, 2) := (xco_70 28).trans rfl
theorem xc_70_30 : p_code 70 30 = some (.lload 6, 2) := (xco_70 30).trans rfl
theorem xc_70_32 : p_code 70 32 = some (.lstore 4, 2) := (xco_70 32).trans rfl
theorem xc_70_34 : p_code 70 34 = some (.lload 9, 2) := (xco_70 34).trans rfl
theorem xc_70_36 : p_code 70 36 = some (.lstore 6, 2) := (xco_70 36).trans rfl
theorem xc_70_38 : p_code 70 38 = some (.iinc 8 1, 3) := (xco_70 38).trans rfl
theorem xc_70_41 : p_code 70 41 = some (.goto (-32), 3) := (xco_70 41).trans rfl
theorem xj_70_41 : p_tgt 41 (-32) = 9 ∧ 0 ≤ ((41 : Nat) : Int) + (-32) := ⟨by decide, by decide⟩
theorem xc_70_44 : p_code 70 44 = some (.lload 4, 2) := (xco_70 44).trans rfl
theorem xc_70_46 : p_code 70 46 = some (.lconst 0, 1) := (xco_70 46).trans rfl
theorem xc_70_47 : p_code 70 47 = some (.lcmp, 1) := (xco_70 47).trans rfl
theorem xc_70_48 : p_code 70 48 = some (.ifCond .le 8, 3) := (xco_70 48).trans rfl
theorem xj_70_48 : p_tgt 48 (8) = 56 ∧ 0 ≤ ((48 : Nat) : Int) + (8) := ⟨by decide, by decide⟩
theorem xc_70_51 : p_code 70 51 = some (.lload 4, 2) := (xco_70 51).trans rfl
theorem xc_70_53 : p_code 70 53 = some (.goto 4, 3) := (xco_70 53).trans rfl
theorem xj_70_53 : p_tgt 53 (4) = 57 ∧ 0 ≤ ((53 : Nat) : Int) + (4) := ⟨by decide, by decide⟩
theorem xc_70_56 : p_code 70 56 = some (.lconst 1, 1) := (xco_70 56).trans rfl
theorem xc_70_57 : p_code 70 57 = some (.lreturn, 1) := (xco_70 57).trans rfl
theorem xrt_70 : p_rty 70 = some .long := rfl
theorem xhh_70 : p_hh 70 = [] := rfl
theorem xin_70 {x0 : Int64} {x1 : Int64} : p_in0 70 [.long x0, .long x1] = [some (.long x0), none, some (.long x1), none, none, none, none, none, none, none, none] := rfl
theorem xrc_70 {z : Nat → Int32} {a : Nat → Nat → Int32} {w : Nat → Nat → Int64} {y : Nat → Int64} {g : List pE} {x0 : Int64} {x1 : Int64} : p_recv 70 [.long x0, .long x1] (hp z a w y g) = true := rfl
theorem xco_71 (pc : Nat) : p_code 71 pc = p_find pc pc_71 := rfl
theorem xow_71 : p_own 71 = 12 := rfl
theorem xc_71_0 : p_code 71 0 = some (.aload_n 2, 1) := (xco_71 0).trans rfl
theorem xc_71_1 : p_code 71 1 = some (.iconst 0, 1) := (xco_71 1).trans rfl
theorem xc_71_2 : p_code 71 2 = some (.aload_n 0, 1) := (xco_71 2).trans rfl
theorem xc_71_3 : p_code 71 3 = some (.iload_n 1, 1) := (xco_71 3).trans rfl
theorem xc_71_4 : p_code 71 4 = some (.invokevirtual 19, 3) := (xco_71 4).trans rfl
theorem xm_71_4 : p_calls 71 (.invokevirtual 19) = some (72, 2) := by dsimp only [p_calls]; rw [xow_71]; rfl
theorem xc_71_7 : p_code 71 7 = some (.lastore, 1) := (xco_71 7).trans rfl
theorem xc_71_8 : p_code 71 8 = some (.goto 12, 3) := (xco_71 8).trans rfl
theorem xj_71_8 : p_tgt 8 (12) = 20 ∧ 0 ≤ ((8 : Nat) : Int) + (12) := ⟨by decide, by decide⟩
theorem xc_71_11 : p_code 71 11 = some (.astore_n 3, 1) := (xco_71 11).trans rfl
theorem xc_71_12 : p_code 71 12 = some (.iconst 1, 1) := (xco_71 12).trans rfl
theorem xc_71_13 : p_code 71 13 = some (.ireturn, 1) := (xco_71 13).trans rfl
theorem xc_71_14 : p_code 71 14 = some (.astore_n 3, 1) := (xco_71 14).trans rfl
theorem xc_71_15 : p_code 71 15 = some (.iconst 2, 1) := (xco_71 15).trans rfl
theorem xc_71_16 : p_code 71 16 = some (.ireturn, 1) := (xco_71 16).trans rfl
theorem xc_71_17 : p_code 71 17 = some (.astore_n 3, 1) := (xco_71 17).trans rfl
theorem xc_71_18 : p_code 71 18 = some (.iconst 3, 1) := (xco_71 18).trans rfl
theorem xc_71_19 : p_code 71 19 = some (.ireturn, 1) := (xco_71 19).trans rfl
theorem xc_71_20 : p_code 71 20 = some (.iconst 0, 1) := (xco_71 20).trans rfl
theorem xc_71_21 : p_code 71 21 = some (.ireturn, 1) := (xco_71 21).trans rfl
theorem xrt_71 : p_rty 71 = some .int := rfl
theorem xhh_71 : p_hh 71 = [(0, 8, 11, 7), (0, 8, 14, 8), (0, 8, 17, 9)] := rfl
theorem xin_71 {x1 : Int32} : p_in0 71 [.ref 0, .int x1, .ref 43] = [some (.ref 0), some (.int x1), some (.ref 43), none] := rfl
theorem xrc_71 {z : Nat → Int32} {a : Nat → Nat → Int32} {w : Nat → Nat → Int64} {y : Nat → Int64} {g : List pE} {x1 : Int32} : p_recv 71 [.ref 0, .int x1, .ref 43] (hp z a w y g) = true := rfl
theorem xco_72 (pc : Nat) : p_code 72 pc = p_find pc pc_72 := rfl
theorem xow_72 : p_own 72 = 5 := rfl
theorem xc_72_0 : p_code 72 0 = some (.iload_n 1, 1) := (xco_72 0).trans rfl
theorem xc_72_1 : p_code 72 1 = some (.ifCond .lt 8, 3) := (xco_72 1).trans rfl
theorem xj_72_1 : p_tgt 1 (8) = 9 ∧ 0 ≤ ((1 : Nat) : Int) + (8) := ⟨by decide, by decide⟩
theorem xc_72_4 : p_code 72 4 = some (.iload_n 1, 1) := (xco_72 4).trans rfl
theorem xc_72_5 : p_code 72 5 = some (.iconst 3, 1) := (xco_72 5).trans rfl
theorem xc_72_6 : p_code 72 6 = some (.if_icmp .le 13, 3) := (xco_72 6).trans rfl
theorem xj_72_6 : p_tgt 6 (13) = 19 ∧ 0 ≤ ((6 : Nat) : Int) + (13) := ⟨by decide, by decide⟩
theorem xc_72_9 : p_code 72 9 = some (.new 68, 3) := (xco_72 9).trans rfl
theorem xth_72_9 : p_thr 72 9 (.new 68) = some 7 := rfl
theorem xc_72_12 : p_code 72 12 = some (.dup, 1) := (xco_72 12).trans rfl
theorem xc_72_13 : p_code 72 13 = some (.ldc 85, 2) := (xco_72 13).trans rfl
theorem xln_72_85 : p_int (p_own 72) 85 = none := by rw [xow_72]; rfl
theorem xls_72_85 : p_str (p_own 72) 85 = some 7 := by rw [xow_72]; rfl
theorem xc_72_15 : p_code 72 15 = some (.invokespecial 72, 3) := (xco_72 15).trans rfl
theorem xc_72_18 : p_code 72 18 = some (.athrow, 1) := (xco_72 18).trans rfl
theorem xc_72_19 : p_code 72 19 = some (.aload_n 0, 1) := (xco_72 19).trans rfl
theorem xc_72_20 : p_code 72 20 = some (.invokevirtual 75, 3) := (xco_72 20).trans rfl
theorem xm_72_20 : p_calls 72 (.invokevirtual 75) = some (63, 1) := by dsimp only [p_calls]; rw [xow_72]; rfl
theorem xc_72_23 : p_code 72 23 = some (.lstore_n 2, 1) := (xco_72 23).trans rfl
theorem xc_72_24 : p_code 72 24 = some (.iload_n 1, 1) := (xco_72 24).trans rfl
theorem xc_72_25 : p_code 72 25 = some (.tableswitch 55 0 2 #[27, 33, 43], 27) := (xco_72 25).trans rfl
theorem xc_72_52 : p_code 72 52 = some (.lload_n 2, 1) := (xco_72 52).trans rfl
theorem xc_72_53 : p_code 72 53 = some (.ldc2_w 79, 3) := (xco_72 53).trans rfl
theorem xl_72_79 : p_lng (p_own 72) 79 = some (1000000) := by rw [xow_72]; rfl
theorem xc_72_56 : p_code 72 56 = some (.ldiv, 1) := (xco_72 56).trans rfl
theorem xc_72_57 : p_code 72 57 = some (.lreturn, 1) := (xco_72 57).trans rfl
theorem xc_72_58 : p_code 72 58 = some (.lload_n 2, 1) := (xco_72 58).trans rfl
theorem xc_72_59 : p_code 72 59 = some (.ldc2_w 87, 3) := (xco_72 59).trans rfl
theorem xl_72_87 : p_lng (p_own 72) 87 = some (500000) := by rw [xow_72]; rfl
theorem xc_72_62 : p_code 72 62 = some (.ladd, 1) := (xco_72 62).trans rfl
theorem xc_72_63 : p_code 72 63 = some (.ldc2_w 79, 3) := (xco_72 63).trans rfl
theorem xc_72_66 : p_code 72 66 = some (.ldiv, 1) := (xco_72 66).trans rfl
theorem xc_72_67 : p_code 72 67 = some (.lreturn, 1) := (xco_72 67).trans rfl
theorem xc_72_68 : p_code 72 68 = some (.lload_n 2, 1) := (xco_72 68).trans rfl
theorem xc_72_69 : p_code 72 69 = some (.ldc2_w 79, 3) := (xco_72 69).trans rfl
theorem xc_72_72 : p_code 72 72 = some (.ladd, 1) := (xco_72 72).trans rfl
theorem xc_72_73 : p_code 72 73 = some (.lconst 1, 1) := (xco_72 73).trans rfl
theorem xc_72_74 : p_code 72 74 = some (.lsub, 1) := (xco_72 74).trans rfl
theorem xc_72_75 : p_code 72 75 = some (.ldc2_w 79, 3) := (xco_72 75).trans rfl
theorem xc_72_78 : p_code 72 78 = some (.ldiv, 1) := (xco_72 78).trans rfl
theorem xc_72_79 : p_code 72 79 = some (.lreturn, 1) := (xco_72 79).trans rfl
theorem xc_72_80 : p_code 72 80 = some (.lload_n 2, 1) := (xco_72 80).trans rfl
theorem xc_72_81 : p_code 72 81 = some (.ldc2_w 89, 3) := (xco_72 81).trans rfl
theorem xl_72_89 : p_lng (p_own 72) 89 = some (10000000) := by rw [xow_72]; rfl
theorem xc_72_84 : p_code 72 84 = some (.ldiv, 1) := (xco_72 84).trans rfl
theorem xc_72_85 : p_code 72 85 = some (.ldc2_w 91, 3) := (xco_72 85).trans rfl
theorem xl_72_91 : p_lng (p_own 72) 91 = some (10) := by rw [xow_72]; rfl
theorem xc_72_88 : p_code 72 88 = some (.lmul, 1) := (xco_72 88).trans rfl
theorem xc_72_89 : p_code 72 89 = some (.lreturn, 1) := (xco_72 89).trans rfl
theorem xrt_72 : p_rty 72 = some .long := rfl
theorem xhh_72 : p_hh 72 = [] := rfl
theorem xin_72 {x1 : Int32} : p_in0 72 [.ref 0, .int x1] = [some (.ref 0), some (.int x1), none, none] := rfl
theorem xrc_72 {z : Nat → Int32} {a : Nat → Nat → Int32} {w : Nat → Nat → Int64} {y : Nat → Int64} {g : List pE} {x1 : Int32} : p_recv 72 [.ref 0, .int x1] (hp z a w y g) = true := rfl
theorem xco_73 (pc : Nat) : p_code 73 pc = p_find pc pc_73 := rfl
theorem xow_73 : p_own 73 = 12 := rfl
theorem xc_73_0 : p_code 73 0 = some (.aload_n 3, 1) := (xco_73 0).trans rfl
theorem xc_73_1 : p_code 73 1 = some (.iconst 0, 1) := (xco_73 1).trans rfl
theorem xc_73_2 : p_code 73 2 = some (.aload_n 0, 1) := (xco_73 2).trans rfl
theorem xc_73_3 : p_code 73 3 = some (.iload_n 1, 1) := (xco_73 3).trans rfl
theorem xc_73_4 : p_code 73 4 = some (.iload_n 2, 1) := (xco_73 4).trans rfl
theorem xc_73_5 : p_code 73 5 = some (.invokevirtual 22, 3) := (xco_73 5).trans rfl
theorem xm_73_5 : p_calls 73 (.invokevirtual 22) = some (74, 3) := by dsimp only [p_calls]; rw [xow_73]; rfl
theorem xc_73_8 : p_code 73 8 = some (.i2l, 1) := (xco_73 8).trans rfl
theorem xc_73_9 : p_code 73 9 = some (.lastore, 1) := (xco_73 9).trans rfl
theorem xc_73_10 : p_code 73 10 = some (.goto 7, 3) := (xco_73 10).trans rfl
theorem xj_73_10 : p_tgt 10 (7) = 17 ∧ 0 ≤ ((10 : Nat) : Int) + (7) := ⟨by decide, by decide⟩
theorem xc_73_13 : p_code 73 13 = some (.astore 4, 2) := (xco_73 13).trans rfl
theorem xc_73_15 : p_code 73 15 = some (.iconst 1, 1) := (xco_73 15).trans rfl
theorem xc_73_16 : p_code 73 16 = some (.ireturn, 1) := (xco_73 16).trans rfl
theorem xc_73_17 : p_code 73 17 = some (.iconst 0, 1) := (xco_73 17).trans rfl
theorem xc_73_18 : p_code 73 18 = some (.ireturn, 1) := (xco_73 18).trans rfl
theorem xrt_73 : p_rty 73 = some .int := rfl
theorem xhh_73 : p_hh 73 = [(0, 10, 13, 10)] := rfl
theorem xin_73 {x1 : Int32} {x2 : Int32} : p_in0 73 [.ref 0, .int x1, .int x2, .ref 43] = [some (.ref 0), some (.int x1), some (.int x2), some (.ref 43), none] := rfl
theorem xrc_73 {z : Nat → Int32} {a : Nat → Nat → Int32} {w : Nat → Nat → Int64} {y : Nat → Int64} {g : List pE} {x1 : Int32} {x2 : Int32} : p_recv 73 [.ref 0, .int x1, .int x2, .ref 43] (hp z a w y g) = true := rfl
